def kX3_hitsOf_20 : List mIn := (20, 33, 0, 1, 0, 0, []) :: []
def kX3_hitsOf_19 : List mIn := (19, 0, 0, 0, 0, 0, []) :: kX3_hitsOf_20
def kX3_hitsOf_0 : List mIn := (0, 2, 0, 1, 1, 0, []) :: (1, 20, 0, 2, 19, 0, []) :: (4, 2, 0, 1, 1, 0, []) :: (5, 0, 6, 1, 0, 0, []) :: (7, 19, 0, 3, 19, 0, []) :: (10, 4, 0, 0, 1, 0, []) :: (11, 24, 0, 3, 7, 15, [186]) :: (14, 2, 0, 1, 1, 0, []) :: (15, 26, 0, 20, 0, 0, []) :: (16, 22, 0, 0, 20, 0, []) :: kX3_hitsOf_19
def kX3_hitsOf : List mIn := kX3_hitsOf_0
def TX3_hitsOf : Nat → mCal := fun a => match a with
  | _ => (yX3_hitsOf, cX3_hitsOf, 2, (some .int), (0, 0, 0, 0))
def calX3_hitsOf : mCal := (yX3_hitsOf, cX3_hitsOf, 2, (some .int), (0, 0, 0, 0))
def cutX3_hitsOf : Nat → Option (List Bool) := fun t => mLk t []
theorem okX3_hitsOf : mOK (yX3_hitsOf.cls, cX3_hitsOf, TX3_hitsOf, (some .int), (0, 0, 0, 0), 2, mAcf [], mAcf []) kX3_hitsOf = true := by decide +kernel
set_option maxRecDepth 100000 in
theorem sfxX3_hitsOf_19 : mSfx 19 kX3_hitsOf = kX3_hitsOf_19 := rfl
theorem cutX3_hitsOf_19 : cutX3_hitsOf 19 = none := by decide
set_option maxRecDepth 100000 in
theorem sfxX3_hitsOf_20 : mSfx 20 kX3_hitsOf = kX3_hitsOf_20 := rfl
theorem cutX3_hitsOf_20 : cutX3_hitsOf 20 = none := by decide
def kX0_wayBy_13 : List mIn := (13, 0, 15, 1, 0, 0, []) :: (15, 9, 0, 3, 0, 0, []) :: (16, 33, 0, 1, 0, 0, []) :: []
def kX0_wayBy_12 : List mIn := (12, 2, 0, 1, 1, 0, []) :: kX0_wayBy_13
def kX0_wayBy_0 : List mIn := (0, 2, 0, 0, 1, 0, []) :: (1, 0, 4, 0, 0, 0, []) :: (2, 19, 0, 1, 12, 0, []) :: (5, 0, 16, 1, 0, 0, []) :: (7, 2, 0, 1, 1, 0, []) :: (8, 9, 0, 1, 0, 0, []) :: (9, 22, 0, 0, 13, 0, []) :: kX0_wayBy_12
def kX0_wayBy : List mIn := kX0_wayBy_0
def TX0_wayBy : Nat → mCal := fun a => match a with
  | _ => (yX0_wayBy, cX0_wayBy, 2, (some .int), (0, 0, 0, 0))
def calX0_wayBy : mCal := (yX0_wayBy, cX0_wayBy, 2, (some .int), (0, 0, 0, 0))
def cutX0_wayBy : Nat → Option (List Bool) := fun t => mLk t []
theorem okX0_wayBy : mOK (yX0_wayBy.cls, cX0_wayBy, TX0_wayBy, (some .int), (0, 0, 0, 0), 2, mAcf [], mAcf []) kX0_wayBy = true := by decide +kernel
set_option maxRecDepth 100000 in
theorem sfxX0_wayBy_12 : mSfx 12 kX0_wayBy = kX0_wayBy_12 := rfl
theorem cutX0_wayBy_12 : cutX0_wayBy 12 = none := by decide
set_option maxRecDepth 100000 in
theorem sfxX0_wayBy_13 : mSfx 13 kX0_wayBy = kX0_wayBy_13 := rfl
theorem cutX0_wayBy_13 : cutX0_wayBy 13 = none := by decide
def kX0_airBy_21 : List mIn := (21, 33, 0, 1, 0, 0, []) :: []
def kX0_airBy_20 : List mIn := (20, 2, 0, 1, 1, 0, []) :: kX0_airBy_21
def kX0_airBy_7 : List mIn := (7, 2, 0, 0, 1, 0, []) :: (8, 0, 3, 0, 0, 0, []) :: (9, 19, 0, 1, 20, 0, []) :: (12, 0, 3, 0, 0, 0, []) :: (13, 2, 0, 1, 1, 0, []) :: (14, 40, 0, 0, 0, 64, [655, 656, 121, 657]) :: (17, 22, 0, 0, 21, 0, []) :: kX0_airBy_20
def kX0_airBy_0 : List mIn := (0, 2, 0, 0, 1, 0, []) :: (1, 0, 2, 0, 0, 0, []) :: (2, 19, 0, 1, 7, 0, []) :: (5, 0, 0, 0, 0, 0, []) :: (6, 33, 0, 1, 0, 0, []) :: kX0_airBy_7
def kX0_airBy : List mIn := kX0_airBy_0
def TX0_airBy : Nat → mCal := fun a => match a with
  | _ => (yX0_airBy, cX0_airBy, 2, (some .int), (0, 0, 0, 0))
def calX0_airBy : mCal := (yX0_airBy, cX0_airBy, 2, (some .int), (1, 23, 0, 0))
def cutX0_airBy : Nat → Option (List Bool) := fun t => mLk t []
theorem okX0_airBy : mOK (yX0_airBy.cls, cX0_airBy, TX0_airBy, (some .int), (1, 23, 0, 0), 2, mAcf [], mAcf []) kX0_airBy = true := by decide +kernel
set_option maxRecDepth 100000 in
theorem sfxX0_airBy_7 : mSfx 7 kX0_airBy = kX0_airBy_7 := rfl
theorem cutX0_airBy_7 : cutX0_airBy 7 = none := by decide
set_option maxRecDepth 100000 in
theorem sfxX0_airBy_20 : mSfx 20 kX0_airBy = kX0_airBy_20 := rfl
theorem cutX0_airBy_20 : cutX0_airBy 20 = none := by decide
set_option maxRecDepth 100000 in
theorem sfxX0_airBy_21 : mSfx 21 kX0_airBy = kX0_airBy_21 := rfl
theorem cutX0_airBy_21 : cutX0_airBy 21 = none := by decide
def kX3_liesIn_57 : List mIn := (57, 33, 0, 4, 0, 0, []) :: []
def kX3_liesIn_56 : List mIn := (56, 0, 0, 0, 0, 0, []) :: kX3_liesIn_57
def kX3_liesIn_0 : List mIn := (0, 2, 0, 1, 1, 0, []) :: (1, 0, 8, 1, 0, 0, []) :: (3, 9, 0, 1, 0, 0, []) :: (4, 5, 0, 3, 1, 0, []) :: (5, 2, 0, 2, 1, 0, []) :: (6, 0, 8, 1, 0, 0, []) :: (8, 9, 0, 1, 0, 0, []) :: (9, 5, 0, 4, 2, 0, []) :: (11, 2, 0, 1, 1, 0, []) :: (12, 20, 0, 2, 56, 0, []) :: (15, 2, 0, 1, 1, 0, []) :: (16, 0, 17, 1, 0, 0, []) :: (18, 19, 0, 3, 56, 0, []) :: (21, 2, 0, 2, 1, 0, []) :: (22, 20, 0, 2, 56, 0, []) :: (25, 2, 0, 2, 1, 0, []) :: (26, 0, 17, 1, 0, 0, []) :: (28, 19, 0, 3, 56, 0, []) :: (31, 2, 0, 3, 1, 0, []) :: (32, 2, 0, 3, 1, 0, []) :: (33, 9, 0, 2, 0, 0, []) :: (34, 2, 0, 4, 2, 0, []) :: (36, 2, 0, 4, 2, 0, []) :: (38, 9, 0, 2, 0, 0, []) :: (39, 9, 0, 0, 0, 0, []) :: (40, 4, 0, 0, 1, 0, []) :: (41, 24, 0, 3, 1, 37, [162]) :: (44, 4, 0, 0, 1, 0, []) :: (45, 24, 0, 3, 1, 37, [162]) :: (48, 9, 0, 2, 0, 0, []) :: (49, 19, 0, 4, 56, 0, []) :: (52, 0, 1, 0, 0, 0, []) :: (53, 22, 0, 0, 57, 0, []) :: kX3_liesIn_56
def kX3_liesIn : List mIn := kX3_liesIn_0
def TX3_liesIn : Nat → mCal := fun a => match a with
  | _ => (yX3_liesIn, cX3_liesIn, 5, (some .boolean), (0, 0, 0, 0))
def calX3_liesIn : mCal := (yX3_liesIn, cX3_liesIn, 5, (some .boolean), (0, 0, 0, 0))
def cutX3_liesIn : Nat → Option (List Bool) := fun t => mLk t []
theorem okX3_liesIn : mOK (yX3_liesIn.cls, cX3_liesIn, TX3_liesIn, (some .boolean), (0, 0, 0, 0), 5, mAcf [], mAcf []) kX3_liesIn = true := by decide +kernel
set_option maxRecDepth 100000 in
theorem sfxX3_liesIn_56 : mSfx 56 kX3_liesIn = kX3_liesIn_56 := rfl
theorem cutX3_liesIn_56 : cutX3_liesIn 56 = none := by decide
set_option maxRecDepth 100000 in
theorem sfxX3_liesIn_57 : mSfx 57 kX3_liesIn = kX3_liesIn_57 := rfl
theorem cutX3_liesIn_57 : cutX3_liesIn 57 = none := by decide
def kX0_run_162 : List mIn := (162, 33, 0, 0, 0, 0, []) :: []
def kX0_run_112 : List mIn := (112, 9, 0, 0, 0, 0, []) :: (113, 9, 0, 0, 0, 0, []) :: (114, 5, 0, 6, 2, 0, []) :: (116, 4, 0, 0, 1, 0, []) :: (117, 24, 0, 0, 8, 27, [337]) :: (120, 2, 0, 2, 1, 0, []) :: (121, 0, 8, 1, 0, 0, []) :: (123, 9, 0, 2, 0, 0, []) :: (124, 2, 0, 7, 2, 0, []) :: (126, 9, 0, 0, 0, 0, []) :: (127, 0, 1, 0, 0, 0, []) :: (128, 9, 0, 1, 0, 0, []) :: (129, 2, 0, 8, 2, 0, []) :: (131, 27, 0, 20, 0, 0, []) :: (132, 4, 0, 0, 1, 0, []) :: (133, 24, 0, 0, 9, 30, [338]) :: (136, 2, 0, 2, 1, 0, []) :: (137, 0, 8, 1, 0, 0, []) :: (139, 9, 0, 2, 0, 0, []) :: (140, 2, 0, 7, 2, 0, []) :: (142, 9, 0, 0, 0, 0, []) :: (143, 0, 1, 0, 0, 0, []) :: (144, 9, 0, 1, 0, 0, []) :: (145, 2, 0, 6, 2, 0, []) :: (147, 27, 0, 20, 0, 0, []) :: (148, 4, 0, 0, 1, 0, []) :: (149, 24, 0, 0, 7, 24, [333]) :: (152, 2, 0, 2, 1, 0, []) :: (153, 2, 0, 7, 2, 0, []) :: (155, 27, 0, 20, 0, 0, []) :: (156, 8, 1, 7, 0, 0, []) :: (159, 22, 0, 0, 31, 0, []) :: kX0_run_162
def kX0_run_111 : List mIn := (111, 0, 0, 0, 0, 0, []) :: kX0_run_112
def kX0_run_72 : List mIn := (72, 2, 0, 5, 2, 0, []) :: (74, 0, 17, 1, 0, 0, []) :: (76, 9, 0, 2, 0, 0, []) :: (77, 2, 0, 4, 2, 0, []) :: (79, 9, 0, 0, 0, 0, []) :: (80, 5, 0, 8, 2, 0, []) :: (82, 2, 0, 6, 2, 0, []) :: (84, 4, 0, 0, 1, 0, []) :: (85, 24, 0, 0, 4, 15, [323]) :: (88, 2, 0, 2, 1, 0, []) :: (89, 26, 0, 20, 0, 0, []) :: (90, 2, 0, 7, 2, 0, []) :: (92, 4, 0, 0, 1, 0, []) :: (93, 24, 0, 0, 5, 18, [325]) :: (96, 2, 0, 2, 1, 0, []) :: (97, 26, 0, 20, 0, 0, []) :: (98, 19, 0, 2, 111, 0, []) :: (101, 4, 0, 1, 1, 0, []) :: (102, 24, 0, 3, 6, 79, [183]) :: (105, 2, 0, 8, 2, 0, []) :: (107, 26, 0, 20, 0, 0, []) :: (108, 22, 0, 0, 112, 0, []) :: kX0_run_111
def kX0_run_31 : List mIn := (31, 2, 0, 7, 2, 0, []) :: (33, 0, 8, 1, 0, 0, []) :: (35, 19, 0, 4, 162, 0, []) :: (38, 2, 0, 4, 2, 0, []) :: (40, 36, 0, 0, 0, 69, []) :: (43, 2, 0, 3, 1, 0, []) :: (44, 26, 0, 20, 0, 0, []) :: (45, 9, 0, 0, 0, 0, []) :: (46, 5, 0, 4, 2, 0, []) :: (48, 2, 0, 5, 2, 0, []) :: (50, 36, 0, 1, 0, 72, []) :: (53, 2, 0, 3, 1, 0, []) :: (54, 26, 0, 20, 0, 0, []) :: (55, 9, 0, 0, 0, 0, []) :: (56, 5, 0, 5, 2, 0, []) :: (58, 4, 0, 1, 1, 0, []) :: (59, 2, 0, 4, 2, 0, []) :: (61, 2, 0, 5, 2, 0, []) :: (63, 32, 0, 0, 3, 75, [3, 666, 619, 620, 107, 621]) :: (66, 20, 0, 1, 72, 0, []) :: (69, 22, 0, 0, 162, 0, []) :: kX0_run_72
def kX0_run_0 : List mIn := (0, 4, 0, 0, 1, 0, []) :: (1, 24, 0, 0, 3, 9, [321]) :: (4, 2, 0, 2, 1, 0, []) :: (5, 26, 0, 20, 0, 0, []) :: (6, 0, 15, 1, 0, 0, []) :: (8, 9, 0, 3, 0, 0, []) :: (9, 5, 0, 3, 1, 0, []) :: (10, 0, 8, 1, 0, 0, []) :: (12, 5, 0, 4, 2, 0, []) :: (14, 0, 8, 1, 0, 0, []) :: (16, 5, 0, 5, 2, 0, []) :: (18, 0, 0, 0, 0, 0, []) :: (19, 5, 0, 6, 2, 0, []) :: (21, 4, 0, 0, 1, 0, []) :: (22, 24, 0, 0, 7, 24, [333]) :: (25, 2, 0, 2, 1, 0, []) :: (26, 0, 0, 0, 0, 0, []) :: (27, 27, 0, 20, 0, 0, []) :: (28, 0, 1, 0, 0, 0, []) :: (29, 5, 0, 7, 2, 0, []) :: (31, 43, 0, 0, 31, 0, []) :: kX0_run_31
def kX0_run : List mIn := kX0_run_0
def TX0_run : Nat → mCal := fun a => match a with
  | 0 => calX3_liesIn
  | _ => (yX0_run, cX0_run, 9, none, (0, 0, 0, 0))
def calX0_run : mCal := (yX0_run, cX0_run, 9, none, (1, 24, 0, 0))
def cutX0_run : Nat → Option (List Bool) := fun t => mLk t [(31, [true, true, true, true, true, true, true, true, false])]
theorem okX0_run : mOK (yX0_run.cls, cX0_run, TX0_run, none, (1, 24, 0, 0), 9, mAcf [], mAcf []) kX0_run = true := by decide +kernel
set_option maxRecDepth 100000 in
theorem sfxX0_run_31 : mSfx 31 kX0_run = kX0_run_31 := rfl
theorem cutX0_run_31 : cutX0_run 31 = some [true, true, true, true, true, true, true, true, false] := by decide
set_option maxRecDepth 100000 in
theorem sfxX0_run_72 : mSfx 72 kX0_run = kX0_run_72 := rfl
theorem cutX0_run_72 : cutX0_run 72 = none := by decide
set_option maxRecDepth 100000 in
theorem sfxX0_run_111 : mSfx 111 kX0_run = kX0_run_111 := rfl
theorem cutX0_run_111 : cutX0_run 111 = none := by decide
set_option maxRecDepth 100000 in
theorem sfxX0_run_112 : mSfx 112 kX0_run = kX0_run_112 := rfl
theorem cutX0_run_112 : cutX0_run 112 = none := by decide
set_option maxRecDepth 100000 in
theorem sfxX0_run_162 : mSfx 162 kX0_run = kX0_run_162 := rfl
theorem cutX0_run_162 : cutX0_run 162 = none := by decide
def kX0_lay_143 : List mIn := (143, 33, 0, 0, 0, 0, []) :: []
def kX0_lay_32 : List mIn := (32, 2, 0, 5, 2, 0, []) :: (34, 4, 0, 0, 1, 0, []) :: (35, 24, 0, 0, 0, 39, [314]) :: (38, 19, 0, 3, 143, 0, []) :: (41, 2, 0, 2, 1, 0, []) :: (42, 0, 8, 1, 0, 0, []) :: (44, 9, 0, 2, 0, 0, []) :: (45, 2, 0, 5, 2, 0, []) :: (47, 9, 0, 0, 0, 0, []) :: (48, 5, 0, 6, 2, 0, []) :: (50, 4, 0, 0, 1, 0, []) :: (51, 24, 0, 0, 3, 9, [321]) :: (54, 2, 0, 5, 2, 0, []) :: (56, 2, 0, 3, 1, 0, []) :: (57, 4, 0, 1, 1, 0, []) :: (58, 24, 0, 3, 8, 49, [189]) :: (61, 2, 0, 6, 2, 0, []) :: (63, 26, 0, 20, 0, 0, []) :: (64, 32, 1, 1, 2, 50, [649, 650, 111, 651]) :: (67, 27, 0, 20, 0, 0, []) :: (68, 4, 0, 0, 1, 0, []) :: (69, 24, 0, 0, 4, 15, [323]) :: (72, 2, 0, 5, 2, 0, []) :: (74, 4, 0, 1, 1, 0, []) :: (75, 24, 0, 3, 9, 54, [192]) :: (78, 2, 0, 6, 2, 0, []) :: (80, 26, 0, 20, 0, 0, []) :: (81, 27, 0, 20, 0, 0, []) :: (82, 4, 0, 0, 1, 0, []) :: (83, 24, 0, 0, 5, 18, [325]) :: (86, 2, 0, 5, 2, 0, []) :: (88, 2, 0, 3, 1, 0, []) :: (89, 4, 0, 1, 1, 0, []) :: (90, 24, 0, 3, 10, 55, [195]) :: (93, 2, 0, 6, 2, 0, []) :: (95, 26, 0, 20, 0, 0, []) :: (96, 32, 1, 2, 2, 56, [652, 653, 111, 654]) :: (99, 27, 0, 20, 0, 0, []) :: (100, 4, 0, 0, 1, 0, []) :: (101, 24, 0, 0, 6, 21, [329]) :: (104, 2, 0, 5, 2, 0, []) :: (106, 4, 0, 1, 1, 0, []) :: (107, 24, 0, 3, 11, 59, [198]) :: (110, 2, 0, 6, 2, 0, []) :: (112, 26, 0, 20, 0, 0, []) :: (113, 27, 0, 20, 0, 0, []) :: (114, 4, 0, 0, 1, 0, []) :: (115, 29, 0, 0, 0, 0, []) :: (116, 24, 0, 0, 1, 43, [318]) :: (119, 4, 0, 0, 1, 0, []) :: (120, 24, 0, 0, 6, 21, [329]) :: (123, 2, 0, 5, 2, 0, []) :: (125, 26, 0, 20, 0, 0, []) :: (126, 9, 0, 0, 0, 0, []) :: (127, 25, 0, 0, 1, 43, [318]) :: (130, 4, 0, 0, 1, 0, []) :: (131, 4, 0, 1, 1, 0, []) :: (132, 2, 0, 5, 2, 0, []) :: (134, 32, 0, 3, 3, 60, [0, 658, 660, 2, 111, 661]) :: (137, 8, 1, 5, 0, 0, []) :: (140, 22, 0, 0, 32, 0, []) :: kX0_lay_143
def kX0_lay_26 : List mIn := (26, 25, 0, 0, 2, 46, [320]) :: (29, 0, 0, 0, 0, 0, []) :: (30, 5, 0, 5, 2, 0, []) :: (32, 43, 0, 0, 32, 0, []) :: kX0_lay_32
def kX0_lay_25 : List mIn := (25, 0, 0, 0, 0, 0, []) :: kX0_lay_26
def kX0_lay_0 : List mIn := (0, 4, 0, 0, 1, 0, []) :: (1, 4, 0, 1, 1, 0, []) :: (2, 2, 0, 2, 1, 0, []) :: (3, 32, 0, 0, 2, 33, [3, 645, 646, 647, 107, 648]) :: (6, 25, 0, 0, 0, 39, [314]) :: (9, 4, 0, 0, 1, 0, []) :: (10, 0, 0, 0, 0, 0, []) :: (11, 25, 0, 0, 1, 43, [318]) :: (14, 4, 0, 0, 1, 0, []) :: (15, 2, 0, 3, 1, 0, []) :: (16, 0, 1, 0, 0, 0, []) :: (17, 19, 0, 1, 25, 0, []) :: (20, 2, 0, 4, 2, 0, []) :: (22, 22, 0, 0, 26, 0, []) :: kX0_lay_25
def kX0_lay : List mIn := kX0_lay_0
def TX0_lay : Nat → mCal := fun a => match a with
  | 0 => calX3_hitsOf
  | 1 => calX0_wayBy
  | 2 => calX0_airBy
  | 3 => calX0_run
  | _ => (yX0_lay, cX0_lay, 7, none, (0, 0, 0, 0))
def calX0_lay : mCal := (yX0_lay, cX0_lay, 7, none, (2, 52, 0, 0))
def cutX0_lay : Nat → Option (List Bool) := fun t => mLk t [(32, [true, true, true, true, false, true, false])]
theorem okX0_lay : mOK (yX0_lay.cls, cX0_lay, TX0_lay, none, (2, 52, 0, 0), 7, mAcf [], mAcf []) kX0_lay = true := by decide +kernel
set_option maxRecDepth 100000 in
theorem sfxX0_lay_25 : mSfx 25 kX0_lay = kX0_lay_25 := rfl
theorem cutX0_lay_25 : cutX0_lay 25 = none := by decide
set_option maxRecDepth 100000 in
theorem sfxX0_lay_26 : mSfx 26 kX0_lay = kX0_lay_26 := rfl
theorem cutX0_lay_26 : cutX0_lay 26 = none := by decide
set_option maxRecDepth 100000 in
theorem sfxX0_lay_32 : mSfx 32 kX0_lay = kX0_lay_32 := rfl
theorem cutX0_lay_32 : cutX0_lay 32 = some [true, true, true, true, false, true, false] := by decide
set_option maxRecDepth 100000 in
theorem sfxX0_lay_143 : mSfx 143 kX0_lay = kX0_lay_143 := rfl
theorem cutX0_lay_143 : cutX0_lay 143 = none := by decide
def kX0_cellAt_30 : List mIn := (30, 33, 0, 1, 0, 0, []) :: []
def kX0_cellAt_27 : List mIn := (27, 0, 144, 2, 0, 0, []) :: kX0_cellAt_30
def kX0_cellAt_0 : List mIn := (0, 2, 0, 2, 1, 0, []) :: (1, 0, 1, 0, 0, 0, []) :: (2, 19, 0, 2, 27, 0, []) :: (5, 2, 0, 2, 1, 0, []) :: (6, 0, 8, 1, 0, 0, []) :: (8, 19, 0, 4, 27, 0, []) :: (11, 4, 0, 0, 1, 0, []) :: (12, 24, 0, 0, 8, 27, [337]) :: (15, 2, 0, 1, 1, 0, []) :: (16, 0, 8, 1, 0, 0, []) :: (18, 9, 0, 2, 0, 0, []) :: (19, 2, 0, 2, 1, 0, []) :: (20, 9, 0, 0, 0, 0, []) :: (21, 0, 1, 0, 0, 0, []) :: (22, 9, 0, 1, 0, 0, []) :: (23, 26, 0, 20, 0, 0, []) :: (24, 22, 0, 0, 30, 0, []) :: kX0_cellAt_27
def kX0_cellAt : List mIn := kX0_cellAt_0
def TX0_cellAt : Nat → mCal := fun a => match a with
  | _ => (yX0_cellAt, cX0_cellAt, 3, (some .int), (0, 0, 0, 0))
def calX0_cellAt : mCal := (yX0_cellAt, cX0_cellAt, 3, (some .int), (0, 0, 0, 0))
def cutX0_cellAt : Nat → Option (List Bool) := fun t => mLk t []
theorem okX0_cellAt : mOK (yX0_cellAt.cls, cX0_cellAt, TX0_cellAt, (some .int), (0, 0, 0, 0), 3, mAcf [], mAcf []) kX0_cellAt = true := by decide +kernel
set_option maxRecDepth 100000 in
theorem sfxX0_cellAt_27 : mSfx 27 kX0_cellAt = kX0_cellAt_27 := rfl
theorem cutX0_cellAt_27 : cutX0_cellAt 27 = none := by decide
set_option maxRecDepth 100000 in
theorem sfxX0_cellAt_30 : mSfx 30 kX0_cellAt = kX0_cellAt_30 := rfl
theorem cutX0_cellAt_30 : cutX0_cellAt 30 = none := by decide
def kX0_tickAt_28 : List mIn := (28, 33, 0, 1, 0, 0, []) :: []
def kX0_tickAt_27 : List mIn := (27, 0, 0, 0, 0, 0, []) :: kX0_tickAt_28
def kX0_tickAt_0 : List mIn := (0, 2, 0, 2, 1, 0, []) :: (1, 0, 1, 0, 0, 0, []) :: (2, 19, 0, 2, 27, 0, []) :: (5, 2, 0, 2, 1, 0, []) :: (6, 0, 8, 1, 0, 0, []) :: (8, 19, 0, 4, 27, 0, []) :: (11, 4, 0, 0, 1, 0, []) :: (12, 24, 0, 0, 9, 30, [338]) :: (15, 2, 0, 1, 1, 0, []) :: (16, 0, 8, 1, 0, 0, []) :: (18, 9, 0, 2, 0, 0, []) :: (19, 2, 0, 2, 1, 0, []) :: (20, 9, 0, 0, 0, 0, []) :: (21, 0, 1, 0, 0, 0, []) :: (22, 9, 0, 1, 0, 0, []) :: (23, 26, 0, 20, 0, 0, []) :: (24, 22, 0, 0, 28, 0, []) :: kX0_tickAt_27
def kX0_tickAt : List mIn := kX0_tickAt_0
def TX0_tickAt : Nat → mCal := fun a => match a with
  | _ => (yX0_tickAt, cX0_tickAt, 3, (some .int), (0, 0, 0, 0))
def calX0_tickAt : mCal := (yX0_tickAt, cX0_tickAt, 3, (some .int), (0, 0, 0, 0))
def cutX0_tickAt : Nat → Option (List Bool) := fun t => mLk t []
theorem okX0_tickAt : mOK (yX0_tickAt.cls, cX0_tickAt, TX0_tickAt, (some .int), (0, 0, 0, 0), 3, mAcf [], mAcf []) kX0_tickAt = true := by decide +kernel
set_option maxRecDepth 100000 in
theorem sfxX0_tickAt_27 : mSfx 27 kX0_tickAt = kX0_tickAt_27 := rfl
theorem cutX0_tickAt_27 : cutX0_tickAt 27 = none := by decide
set_option maxRecDepth 100000 in
theorem sfxX0_tickAt_28 : mSfx 28 kX0_tickAt = kX0_tickAt_28 := rfl
theorem cutX0_tickAt_28 : cutX0_tickAt 28 = none := by decide
def kX0_isHigh_30 : List mIn := (30, 33, 0, 4, 0, 0, []) :: []
def kX0_isHigh_29 : List mIn := (29, 0, 0, 0, 0, 0, []) :: kX0_isHigh_30
def kX0_isHigh_0 : List mIn := (0, 4, 0, 0, 1, 0, []) :: (1, 24, 0, 0, 5, 18, [325]) :: (4, 2, 0, 1, 1, 0, []) :: (5, 26, 0, 20, 0, 0, []) :: (6, 0, 1, 0, 0, 0, []) :: (7, 19, 0, 2, 29, 0, []) :: (10, 4, 0, 0, 1, 0, []) :: (11, 24, 0, 0, 5, 18, [325]) :: (14, 2, 0, 1, 1, 0, []) :: (15, 26, 0, 20, 0, 0, []) :: (16, 4, 0, 0, 1, 0, []) :: (17, 24, 0, 0, 7, 24, [333]) :: (20, 2, 0, 1, 1, 0, []) :: (21, 26, 0, 20, 0, 0, []) :: (22, 19, 0, 4, 29, 0, []) :: (25, 0, 1, 0, 0, 0, []) :: (26, 22, 0, 0, 30, 0, []) :: kX0_isHigh_29
def kX0_isHigh : List mIn := kX0_isHigh_0
def TX0_isHigh : Nat → mCal := fun a => match a with
  | _ => (yX0_isHigh, cX0_isHigh, 2, (some .boolean), (0, 0, 0, 0))
def calX0_isHigh : mCal := (yX0_isHigh, cX0_isHigh, 2, (some .boolean), (0, 0, 0, 0))
def cutX0_isHigh : Nat → Option (List Bool) := fun t => mLk t []
theorem okX0_isHigh : mOK (yX0_isHigh.cls, cX0_isHigh, TX0_isHigh, (some .boolean), (0, 0, 0, 0), 2, mAcf [], mAcf []) kX0_isHigh = true := by decide +kernel
set_option maxRecDepth 100000 in
theorem sfxX0_isHigh_29 : mSfx 29 kX0_isHigh = kX0_isHigh_29 := rfl
theorem cutX0_isHigh_29 : cutX0_isHigh 29 = none := by decide
set_option maxRecDepth 100000 in
theorem sfxX0_isHigh_30 : mSfx 30 kX0_isHigh = kX0_isHigh_30 := rfl
theorem cutX0_isHigh_30 : cutX0_isHigh 30 = none := by decide
def kX0_runsUnstopped_21 : List mIn := (21, 33, 0, 1, 0, 0, []) :: []
def kX0_runsUnstopped_20 : List mIn := (20, 0, 4, 0, 0, 0, []) :: kX0_runsUnstopped_21
def kX0_runsUnstopped_0 : List mIn := (0, 4, 0, 0, 1, 0, []) :: (1, 24, 0, 0, 5, 18, [325]) :: (4, 2, 0, 1, 1, 0, []) :: (5, 26, 0, 20, 0, 0, []) :: (6, 4, 0, 0, 1, 0, []) :: (7, 24, 0, 0, 7, 24, [333]) :: (10, 2, 0, 1, 1, 0, []) :: (11, 26, 0, 20, 0, 0, []) :: (12, 19, 0, 5, 20, 0, []) :: (15, 0, 6, 1, 0, 0, []) :: (17, 22, 0, 0, 21, 0, []) :: kX0_runsUnstopped_20
def kX0_runsUnstopped : List mIn := kX0_runsUnstopped_0
def TX0_runsUnstopped : Nat → mCal := fun a => match a with
  | _ => (yX0_runsUnstopped, cX0_runsUnstopped, 2, (some .int), (0, 0, 0, 0))
def calX0_runsUnstopped : mCal := (yX0_runsUnstopped, cX0_runsUnstopped, 2, (some .int), (0, 0, 0, 0))
def cutX0_runsUnstopped : Nat → Option (List Bool) := fun t => mLk t []
theorem okX0_runsUnstopped : mOK (yX0_runsUnstopped.cls, cX0_runsUnstopped, TX0_runsUnstopped, (some .int), (0, 0, 0, 0), 2, mAcf [], mAcf []) kX0_runsUnstopped = true := by decide +kernel
set_option maxRecDepth 100000 in
theorem sfxX0_runsUnstopped_20 : mSfx 20 kX0_runsUnstopped = kX0_runsUnstopped_20 := rfl
theorem cutX0_runsUnstopped_20 : cutX0_runsUnstopped 20 = none := by decide
set_option maxRecDepth 100000 in
theorem sfxX0_runsUnstopped_21 : mSfx 21 kX0_runsUnstopped = kX0_runsUnstopped_21 := rfl
theorem cutX0_runsUnstopped_21 : cutX0_runsUnstopped 21 = none := by decide
def kX0_hitAt_33 : List mIn := (33, 0, 0, 0, 0, 0, []) :: (34, 33, 0, 1, 0, 0, []) :: []
def kX0_hitAt_27 : List mIn := (27, 8, 1, 3, 0, 0, []) :: (30, 22, 0, 0, 4, 0, []) :: kX0_hitAt_33
def kX0_hitAt_4 : List mIn := (4, 2, 0, 3, 1, 0, []) :: (5, 4, 0, 0, 1, 0, []) :: (6, 24, 0, 0, 0, 39, [314]) :: (9, 19, 0, 3, 33, 0, []) :: (12, 2, 0, 2, 1, 0, []) :: (13, 4, 0, 0, 1, 0, []) :: (14, 24, 0, 0, 6, 21, [329]) :: (17, 2, 0, 3, 1, 0, []) :: (18, 26, 0, 20, 0, 0, []) :: (19, 9, 0, 1, 0, 0, []) :: (20, 5, 0, 2, 1, 0, []) :: (21, 2, 0, 2, 1, 0, []) :: (22, 20, 0, 3, 27, 0, []) :: (25, 2, 0, 3, 1, 0, []) :: (26, 33, 0, 1, 0, 0, []) :: kX0_hitAt_27
def kX0_hitAt_0 : List mIn := (0, 2, 0, 1, 1, 0, []) :: (1, 5, 0, 2, 1, 0, []) :: (2, 0, 0, 0, 0, 0, []) :: (3, 5, 0, 3, 1, 0, []) :: (4, 43, 0, 0, 4, 0, []) :: kX0_hitAt_4
def kX0_hitAt : List mIn := kX0_hitAt_0
def TX0_hitAt : Nat → mCal := fun a => match a with
  | _ => (yX0_hitAt, cX0_hitAt, 4, (some .int), (0, 0, 0, 0))
def calX0_hitAt : mCal := (yX0_hitAt, cX0_hitAt, 4, (some .int), (0, 0, 0, 0))
def cutX0_hitAt : Nat → Option (List Bool) := fun t => mLk t [(4, [true, false, true, true])]
theorem okX0_hitAt : mOK (yX0_hitAt.cls, cX0_hitAt, TX0_hitAt, (some .int), (0, 0, 0, 0), 4, mAcf [], mAcf []) kX0_hitAt = true := by decide +kernel
set_option maxRecDepth 100000 in
theorem sfxX0_hitAt_4 : mSfx 4 kX0_hitAt = kX0_hitAt_4 := rfl
theorem cutX0_hitAt_4 : cutX0_hitAt 4 = some [true, false, true, true] := by decide
set_option maxRecDepth 100000 in
theorem sfxX0_hitAt_27 : mSfx 27 kX0_hitAt = kX0_hitAt_27 := rfl
theorem cutX0_hitAt_27 : cutX0_hitAt 27 = none := by decide
set_option maxRecDepth 100000 in
theorem sfxX0_hitAt_33 : mSfx 33 kX0_hitAt = kX0_hitAt_33 := rfl
theorem cutX0_hitAt_33 : cutX0_hitAt 33 = none := by decide
def kX0_blend_0 : List mIn := (0, 0, 100, 1, 0, 0, []) :: (2, 4, 0, 0, 1, 0, []) :: (3, 24, 0, 0, 2, 46, [320]) :: (6, 9, 0, 1, 0, 0, []) :: (7, 13, 0, 0, 0, 0, []) :: (8, 3, 0, 1, 1, 0, []) :: (9, 11, 0, 2, 0, 0, []) :: (10, 4, 0, 0, 1, 0, []) :: (11, 24, 0, 0, 2, 46, [320]) :: (14, 13, 0, 0, 0, 0, []) :: (15, 3, 0, 3, 1, 0, []) :: (16, 11, 0, 2, 0, 0, []) :: (17, 4, 0, 0, 1, 0, []) :: (18, 24, 0, 0, 1, 43, [318]) :: (21, 13, 0, 0, 0, 0, []) :: (22, 11, 0, 2, 0, 0, []) :: (23, 11, 0, 0, 0, 0, []) :: (24, 33, 0, 2, 0, 0, []) :: []
def kX0_blend : List mIn := kX0_blend_0
def TX0_blend : Nat → mCal := fun a => match a with
  | _ => (yX0_blend, cX0_blend, 5, (some .long), (0, 0, 0, 0))
def calX0_blend : mCal := (yX0_blend, cX0_blend, 5, (some .long), (0, 0, 0, 0))
def cutX0_blend : Nat → Option (List Bool) := fun t => mLk t []
theorem okX0_blend : mOK (yX0_blend.cls, cX0_blend, TX0_blend, (some .long), (0, 0, 0, 0), 5, mAcf [], mAcf []) kX0_blend = true := by decide +kernel
def kX0_meanBase_0 : List mIn := (0, 1, 10000, 1, 82, 1100, []) :: (3, 4, 0, 0, 1, 0, []) :: (4, 24, 0, 0, 1, 43, [318]) :: (7, 13, 0, 0, 0, 0, []) :: (8, 11, 0, 2, 0, 0, []) :: (9, 33, 0, 2, 0, 0, []) :: []
def kX0_meanBase : List mIn := kX0_meanBase_0
def TX0_meanBase : Nat → mCal := fun a => match a with
  | _ => (yX0_meanBase, cX0_meanBase, 1, (some .long), (0, 0, 0, 0))
def calX0_meanBase : mCal := (yX0_meanBase, cX0_meanBase, 1, (some .long), (0, 0, 0, 0))
def cutX0_meanBase : Nat → Option (List Bool) := fun t => mLk t []
theorem okX0_meanBase : mOK (yX0_meanBase.cls, cX0_meanBase, TX0_meanBase, (some .long), (0, 0, 0, 0), 1, mAcf [], mAcf []) kX0_meanBase = true := by decide +kernel
def kX10_copyRow_0 : List mIn := (0, 4, 0, 0, 1, 0, []) :: (1, 0, 0, 0, 0, 0, []) :: (2, 4, 0, 1, 1, 0, []) :: (3, 0, 0, 0, 0, 0, []) :: (4, 4, 0, 0, 1, 0, []) :: (5, 28, 0, 0, 0, 0, []) :: (6, 4, 0, 1, 1, 0, []) :: (7, 28, 0, 0, 0, 0, []) :: (8, 40, 0, 1, 0, 343, [943, 709, 121, 710]) :: (11, 41, 0, 0, 0, 447, [944, 946, 945, 126]) :: (14, 33, 0, 0, 0, 0, []) :: []
def kX10_copyRow : List mIn := kX10_copyRow_0
def TX10_copyRow : Nat → mCal := fun a => match a with
  | _ => (yX10_copyRow, cX10_copyRow, 2, none, (0, 0, 0, 0))
def calX10_copyRow : mCal := (yX10_copyRow, cX10_copyRow, 2, none, (1, 60, 0, 0))
def cutX10_copyRow : Nat → Option (List Bool) := fun t => mLk t []
theorem okX10_copyRow : mOK (yX10_copyRow.cls, cX10_copyRow, TX10_copyRow, none, (1, 60, 0, 0), 2, mAcf [], mAcf []) kX10_copyRow = true := by decide +kernel
def kX1_copyFrom_0 : List mIn := (0, 4, 0, 0, 1, 0, []) :: (1, 4, 0, 1, 1, 0, []) :: (2, 24, 0, 1, 0, 18, [274]) :: (5, 25, 0, 1, 0, 18, [274]) :: (8, 4, 0, 0, 1, 0, []) :: (9, 4, 0, 1, 1, 0, []) :: (10, 24, 0, 1, 1, 22, [276]) :: (13, 25, 0, 1, 1, 22, [276]) :: (16, 4, 0, 0, 1, 0, []) :: (17, 4, 0, 1, 1, 0, []) :: (18, 24, 0, 1, 2, 25, [278]) :: (21, 25, 0, 1, 2, 25, [278]) :: (24, 4, 0, 1, 1, 0, []) :: (25, 24, 0, 1, 3, 9, [280]) :: (28, 4, 0, 0, 1, 0, []) :: (29, 24, 0, 1, 3, 9, [280]) :: (32, 32, 3, 0, 2, 29, [25, 941, 105, 942]) :: (35, 4, 0, 1, 1, 0, []) :: (36, 24, 0, 1, 4, 15, [282]) :: (39, 4, 0, 0, 1, 0, []) :: (40, 24, 0, 1, 4, 15, [282]) :: (43, 32, 3, 0, 2, 29, [25, 941, 105, 942]) :: (46, 33, 0, 0, 0, 0, []) :: []
def kX1_copyFrom : List mIn := kX1_copyFrom_0
def TX1_copyFrom : Nat → mCal := fun a => match a with
  | 0 => calX10_copyRow
  | _ => (yX1_copyFrom, cX1_copyFrom, 2, none, (0, 0, 0, 0))
def calX1_copyFrom : mCal := (yX1_copyFrom, cX1_copyFrom, 2, none, (2, 81, 0, 0))
def cutX1_copyFrom : Nat → Option (List Bool) := fun t => mLk t []
theorem okX1_copyFrom : mOK (yX1_copyFrom.cls, cX1_copyFrom, TX1_copyFrom, none, (2, 81, 0, 0), 2, mAcf [], mAcf []) kX1_copyFrom = true := by decide +kernel
def kJ7_fill_53178_20 : List mIn := (20, 33, 0, 0, 0, 0, []) :: []
def kJ7_fill_53178_5 : List mIn := (5, 2, 0, 2, 1, 0, []) :: (6, 2, 0, 3, 1, 0, []) :: (7, 19, 0, 3, 20, 0, []) :: (10, 4, 0, 0, 1, 0, []) :: (11, 2, 0, 2, 1, 0, []) :: (12, 2, 0, 1, 1, 0, []) :: (13, 27, 0, 20, 0, 0, []) :: (14, 8, 1, 2, 0, 0, []) :: (17, 22, 0, 0, 5, 0, []) :: kJ7_fill_53178_20
def kJ7_fill_53178_0 : List mIn := (0, 0, 0, 0, 0, 0, []) :: (1, 5, 0, 2, 1, 0, []) :: (2, 4, 0, 0, 1, 0, []) :: (3, 28, 0, 0, 0, 0, []) :: (4, 5, 0, 3, 1, 0, []) :: (5, 43, 0, 0, 5, 0, []) :: kJ7_fill_53178_5
def kJ7_fill_53178 : List mIn := kJ7_fill_53178_0
def TJ7_fill_53178 : Nat → mCal := fun a => match a with
  | _ => (yJ7_fill_53178, cJ7_fill_53178, 4, none, (0, 0, 0, 0))
def calJ7_fill_53178 : mCal := (yJ7_fill_53178, cJ7_fill_53178, 4, none, (0, 0, 0, 0))
def cutJ7_fill_53178 : Nat → Option (List Bool) := fun t => mLk t [(5, [true, true, true, true])]
theorem okJ7_fill_53178 : mOK (yJ7_fill_53178.cls, cJ7_fill_53178, TJ7_fill_53178, none, (0, 0, 0, 0), 4, mAcf [], mAcf []) kJ7_fill_53178 = true := by decide +kernel
set_option maxRecDepth 100000 in
theorem sfxJ7_fill_53178_5 : mSfx 5 kJ7_fill_53178 = kJ7_fill_53178_5 := rfl
theorem cutJ7_fill_53178_5 : cutJ7_fill_53178 5 = some [true, true, true, true] := by decide
set_option maxRecDepth 100000 in
theorem sfxJ7_fill_53178_20 : mSfx 20 kJ7_fill_53178 = kJ7_fill_53178_20 := rfl
theorem cutJ7_fill_53178_20 : cutJ7_fill_53178 20 = none := by decide
def kX1_forget_0 : List mIn := (0, 4, 0, 0, 1, 0, []) :: (1, 24, 0, 1, 3, 9, [280]) :: (4, 0, 0, 0, 0, 0, []) :: (5, 32, 1, 0, 2, 33, [955, 157, 108, 158]) :: (8, 4, 0, 0, 1, 0, []) :: (9, 24, 0, 1, 4, 15, [282]) :: (12, 0, 0, 0, 0, 0, []) :: (13, 32, 1, 0, 2, 33, [955, 157, 108, 158]) :: (16, 33, 0, 0, 0, 0, []) :: []
def kX1_forget : List mIn := kX1_forget_0
def TX1_forget : Nat → mCal := fun a => match a with
  | 0 => calJ7_fill_53178
  | _ => (yX1_forget, cX1_forget, 1, none, (0, 0, 0, 0))
def calX1_forget : mCal := (yX1_forget, cX1_forget, 1, none, (1, 23, 0, 0))
def cutX1_forget : Nat → Option (List Bool) := fun t => mLk t []
theorem okX1_forget : mOK (yX1_forget.cls, cX1_forget, TX1_forget, none, (1, 23, 0, 0), 1, mAcf [], mAcf []) kX1_forget = true := by decide +kernel
def kX1_note_45 : List mIn := (45, 9, 0, 0, 0, 0, []) :: (46, 27, 0, 20, 0, 0, []) :: (47, 4, 0, 0, 1, 0, []) :: (48, 24, 0, 1, 4, 15, [282]) :: (51, 0, 3, 0, 0, 0, []) :: (52, 30, 0, 0, 0, 0, []) :: (53, 26, 0, 20, 0, 0, []) :: (54, 0, 1, 0, 0, 0, []) :: (55, 9, 0, 0, 0, 0, []) :: (56, 27, 0, 20, 0, 0, []) :: (57, 33, 0, 0, 0, 0, []) :: []
def kX1_note_44 : List mIn := (44, 0, 0, 0, 0, 0, []) :: kX1_note_45
def kX1_note_26 : List mIn := (26, 9, 0, 0, 0, 0, []) :: (27, 27, 0, 20, 0, 0, []) :: (28, 4, 0, 0, 1, 0, []) :: (29, 24, 0, 1, 4, 15, [282]) :: (32, 0, 2, 0, 0, 0, []) :: (33, 30, 0, 0, 0, 0, []) :: (34, 26, 0, 20, 0, 0, []) :: (35, 2, 0, 1, 1, 0, []) :: (36, 0, 4, 0, 0, 0, []) :: (37, 19, 0, 2, 44, 0, []) :: (40, 0, 1, 0, 0, 0, []) :: (41, 22, 0, 0, 45, 0, []) :: kX1_note_44
def kX1_note_25 : List mIn := (25, 0, 0, 0, 0, 0, []) :: kX1_note_26
def kX1_note_0 : List mIn := (0, 4, 0, 0, 1, 0, []) :: (1, 24, 0, 1, 4, 15, [282]) :: (4, 0, 0, 0, 0, 0, []) :: (5, 30, 0, 0, 0, 0, []) :: (6, 26, 0, 20, 0, 0, []) :: (7, 2, 0, 1, 1, 0, []) :: (8, 9, 0, 0, 0, 0, []) :: (9, 27, 0, 20, 0, 0, []) :: (10, 4, 0, 0, 1, 0, []) :: (11, 24, 0, 1, 4, 15, [282]) :: (14, 0, 1, 0, 0, 0, []) :: (15, 30, 0, 0, 0, 0, []) :: (16, 26, 0, 20, 0, 0, []) :: (17, 2, 0, 2, 1, 0, []) :: (18, 20, 0, 0, 25, 0, []) :: (21, 0, 1, 0, 0, 0, []) :: (22, 22, 0, 0, 26, 0, []) :: kX1_note_25
def kX1_note : List mIn := kX1_note_0
def TX1_note : Nat → mCal := fun a => match a with
  | _ => (yX1_note, cX1_note, 3, none, (0, 0, 0, 0))
def calX1_note : mCal := (yX1_note, cX1_note, 3, none, (0, 0, 0, 0))
def cutX1_note : Nat → Option (List Bool) := fun t => mLk t []
theorem okX1_note : mOK (yX1_note.cls, cX1_note, TX1_note, none, (0, 0, 0, 0), 3, mAcf [], mAcf []) kX1_note = true := by decide +kernel
set_option maxRecDepth 100000 in
theorem sfxX1_note_25 : mSfx 25 kX1_note = kX1_note_25 := rfl
theorem cutX1_note_25 : cutX1_note 25 = none := by decide
set_option maxRecDepth 100000 in
theorem sfxX1_note_26 : mSfx 26 kX1_note = kX1_note_26 := rfl
theorem cutX1_note_26 : cutX1_note 26 = none := by decide
set_option maxRecDepth 100000 in
theorem sfxX1_note_44 : mSfx 44 kX1_note = kX1_note_44 := rfl
theorem cutX1_note_44 : cutX1_note 44 = none := by decide
set_option maxRecDepth 100000 in
theorem sfxX1_note_45 : mSfx 45 kX1_note = kX1_note_45 := rfl
theorem cutX1_note_45 : cutX1_note 45 = none := by decide
def kX3_liesIn__0 : List mIn := (0, 4, 0, 0, 1, 0, []) :: (1, 2, 0, 1, 1, 0, []) :: (2, 0, 17, 1, 0, 0, []) :: (4, 16, 0, 1, 0, 0, []) :: (5, 2, 0, 1, 1, 0, []) :: (6, 0, 17, 1, 0, 0, []) :: (8, 16, 0, 0, 0, 0, []) :: (9, 32, 0, 0, 3, 62, [3, 618, 619, 620, 107, 621]) :: (12, 33, 0, 4, 0, 0, []) :: []
def kX3_liesIn_ : List mIn := kX3_liesIn__0
def TX3_liesIn_ : Nat → mCal := fun a => match a with
  | 0 => calX3_liesIn
  | _ => (yX3_liesIn_, cX3_liesIn_, 2, (some .boolean), (0, 0, 0, 0))
def calX3_liesIn_ : mCal := (yX3_liesIn_, cX3_liesIn_, 2, (some .boolean), (1, 24, 0, 0))
def cutX3_liesIn_ : Nat → Option (List Bool) := fun t => mLk t []
theorem okX3_liesIn_ : mOK (yX3_liesIn_.cls, cX3_liesIn_, TX3_liesIn_, (some .boolean), (1, 24, 0, 0), 2, mAcf [], mAcf []) kX3_liesIn_ = true := by decide +kernel
def kX10_apart_58 : List mIn := (58, 33, 0, 1, 0, 0, []) :: []
def kX10_apart_56 : List mIn := (56, 2, 0, 5, 2, 0, []) :: kX10_apart_58
def kX10_apart_42 : List mIn := (42, 5, 0, 5, 2, 0, []) :: (44, 2, 0, 4, 2, 0, []) :: (46, 2, 0, 5, 2, 0, []) :: (48, 19, 0, 5, 56, 0, []) :: (51, 2, 0, 4, 2, 0, []) :: (53, 22, 0, 0, 58, 0, []) :: kX10_apart_56
def kX10_apart_41 : List mIn := (41, 2, 0, 3, 1, 0, []) :: kX10_apart_42
def kX10_apart_30 : List mIn := (30, 5, 0, 4, 2, 0, []) :: (32, 2, 0, 3, 1, 0, []) :: (33, 20, 0, 3, 41, 0, []) :: (36, 2, 0, 3, 1, 0, []) :: (37, 10, 0, 0, 0, 0, []) :: (38, 22, 0, 0, 42, 0, []) :: kX10_apart_41
def kX10_apart_29 : List mIn := (29, 2, 0, 2, 1, 0, []) :: kX10_apart_30
def kX10_apart_0 : List mIn := (0, 2, 0, 0, 1, 0, []) :: (1, 0, 17, 1, 0, 0, []) :: (3, 16, 0, 1, 0, 0, []) :: (4, 2, 0, 1, 1, 0, []) :: (5, 0, 17, 1, 0, 0, []) :: (7, 16, 0, 1, 0, 0, []) :: (8, 9, 0, 1, 0, 0, []) :: (9, 5, 0, 2, 1, 0, []) :: (10, 2, 0, 0, 1, 0, []) :: (11, 0, 17, 1, 0, 0, []) :: (13, 16, 0, 0, 0, 0, []) :: (14, 2, 0, 1, 1, 0, []) :: (15, 0, 17, 1, 0, 0, []) :: (17, 16, 0, 0, 0, 0, []) :: (18, 9, 0, 1, 0, 0, []) :: (19, 5, 0, 3, 1, 0, []) :: (20, 2, 0, 2, 1, 0, []) :: (21, 20, 0, 3, 29, 0, []) :: (24, 2, 0, 2, 1, 0, []) :: (25, 10, 0, 0, 0, 0, []) :: (26, 22, 0, 0, 30, 0, []) :: kX10_apart_29
def kX10_apart : List mIn := kX10_apart_0
def TX10_apart : Nat → mCal := fun a => match a with
  | _ => (yX10_apart, cX10_apart, 6, (some .int), (0, 0, 0, 0))
def calX10_apart : mCal := (yX10_apart, cX10_apart, 6, (some .int), (0, 0, 0, 0))
def cutX10_apart : Nat → Option (List Bool) := fun t => mLk t []
theorem okX10_apart : mOK (yX10_apart.cls, cX10_apart, TX10_apart, (some .int), (0, 0, 0, 0), 6, mAcf [], mAcf []) kX10_apart = true := by decide +kernel
set_option maxRecDepth 100000 in
theorem sfxX10_apart_29 : mSfx 29 kX10_apart = kX10_apart_29 := rfl
theorem cutX10_apart_29 : cutX10_apart 29 = none := by decide
set_option maxRecDepth 100000 in
theorem sfxX10_apart_30 : mSfx 30 kX10_apart = kX10_apart_30 := rfl
theorem cutX10_apart_30 : cutX10_apart 30 = none := by decide
set_option maxRecDepth 100000 in
theorem sfxX10_apart_41 : mSfx 41 kX10_apart = kX10_apart_41 := rfl
theorem cutX10_apart_41 : cutX10_apart 41 = none := by decide
set_option maxRecDepth 100000 in
theorem sfxX10_apart_42 : mSfx 42 kX10_apart = kX10_apart_42 := rfl
theorem cutX10_apart_42 : cutX10_apart 42 = none := by decide
set_option maxRecDepth 100000 in
theorem sfxX10_apart_56 : mSfx 56 kX10_apart = kX10_apart_56 := rfl
theorem cutX10_apart_56 : cutX10_apart 56 = none := by decide
set_option maxRecDepth 100000 in
theorem sfxX10_apart_58 : mSfx 58 kX10_apart = kX10_apart_58 := rfl
theorem cutX10_apart_58 : cutX10_apart 58 = none := by decide
def kX9_reasonAgainst_79 : List mIn := (79, 33, 0, 1, 0, 0, []) :: []
def kX9_reasonAgainst_78 : List mIn := (78, 0, 0, 0, 0, 0, []) :: kX9_reasonAgainst_79
def kX9_reasonAgainst_63 : List mIn := (63, 2, 0, 3, 1, 0, []) :: (64, 4, 0, 0, 1, 0, []) :: (65, 24, 0, 9, 0, 9, [366]) :: (68, 24, 0, 3, 4, 41, [174]) :: (71, 19, 0, 5, 78, 0, []) :: (74, 0, 4, 0, 0, 0, []) :: (75, 22, 0, 0, 79, 0, []) :: kX9_reasonAgainst_78
def kX9_reasonAgainst_57 : List mIn := (57, 8, 1, 4, 0, 0, []) :: (60, 22, 0, 0, 39, 0, []) :: kX9_reasonAgainst_63
def kX9_reasonAgainst_39 : List mIn := (39, 2, 0, 4, 2, 0, []) :: (41, 2, 0, 2, 1, 0, []) :: (42, 19, 0, 3, 63, 0, []) :: (45, 4, 0, 1, 1, 0, []) :: (46, 2, 0, 4, 2, 0, []) :: (48, 26, 0, 20, 0, 0, []) :: (49, 4, 0, 1, 1, 0, []) :: (50, 2, 0, 2, 1, 0, []) :: (51, 26, 0, 20, 0, 0, []) :: (52, 19, 0, 1, 57, 0, []) :: (55, 0, 3, 0, 0, 0, []) :: (56, 33, 0, 1, 0, 0, []) :: kX9_reasonAgainst_57
def kX9_reasonAgainst_36 : List mIn := (36, 0, 0, 0, 0, 0, []) :: (37, 5, 0, 4, 2, 0, []) :: (39, 43, 0, 0, 39, 0, []) :: kX9_reasonAgainst_39
def kX9_reasonAgainst_15 : List mIn := (15, 4, 0, 1, 1, 0, []) :: (16, 2, 0, 2, 1, 0, []) :: (17, 26, 0, 20, 0, 0, []) :: (18, 0, 144, 2, 0, 0, []) :: (21, 32, 3, 1, 2, 33, [5, 623, 105, 624]) :: (24, 4, 0, 0, 1, 0, []) :: (25, 24, 0, 9, 0, 9, [366]) :: (28, 24, 0, 3, 5, 37, [179]) :: (31, 19, 0, 3, 36, 0, []) :: (34, 0, 2, 0, 0, 0, []) :: (35, 33, 0, 1, 0, 0, []) :: kX9_reasonAgainst_36
def kX9_reasonAgainst_0 : List mIn := (0, 4, 0, 0, 1, 0, []) :: (1, 24, 0, 9, 0, 9, [366]) :: (4, 4, 0, 1, 1, 0, []) :: (5, 2, 0, 2, 1, 0, []) :: (6, 26, 0, 20, 0, 0, []) :: (7, 32, 0, 0, 2, 27, [3, 614, 615, 616, 107, 617]) :: (10, 20, 0, 1, 15, 0, []) :: (13, 0, 1, 0, 0, 0, []) :: (14, 33, 0, 1, 0, 0, []) :: kX9_reasonAgainst_15
def kX9_reasonAgainst : List mIn := kX9_reasonAgainst_0
def TX9_reasonAgainst : Nat → mCal := fun a => match a with
  | 0 => calX3_liesIn_
  | 1 => calX10_apart
  | _ => (yX9_reasonAgainst, cX9_reasonAgainst, 5, (some .int), (0, 0, 0, 0))
def calX9_reasonAgainst : mCal := (yX9_reasonAgainst, cX9_reasonAgainst, 5, (some .int), (2, 45, 0, 0))
def cutX9_reasonAgainst : Nat → Option (List Bool) := fun t => mLk t [(39, [true, true, true, true, true])]
theorem okX9_reasonAgainst : mOK (yX9_reasonAgainst.cls, cX9_reasonAgainst, TX9_reasonAgainst, (some .int), (2, 45, 0, 0), 5, mAcf [], mAcf []) kX9_reasonAgainst = true := by decide +kernel
set_option maxRecDepth 100000 in
theorem sfxX9_reasonAgainst_15 : mSfx 15 kX9_reasonAgainst = kX9_reasonAgainst_15 := rfl
theorem cutX9_reasonAgainst_15 : cutX9_reasonAgainst 15 = none := by decide
set_option maxRecDepth 100000 in
theorem sfxX9_reasonAgainst_36 : mSfx 36 kX9_reasonAgainst = kX9_reasonAgainst_36 := rfl
theorem cutX9_reasonAgainst_36 : cutX9_reasonAgainst 36 = none := by decide
set_option maxRecDepth 100000 in
theorem sfxX9_reasonAgainst_39 : mSfx 39 kX9_reasonAgainst = kX9_reasonAgainst_39 := rfl
theorem cutX9_reasonAgainst_39 : cutX9_reasonAgainst 39 = some [true, true, true, true, true] := by decide
set_option maxRecDepth 100000 in
theorem sfxX9_reasonAgainst_57 : mSfx 57 kX9_reasonAgainst = kX9_reasonAgainst_57 := rfl
theorem cutX9_reasonAgainst_57 : cutX9_reasonAgainst 57 = none := by decide
set_option maxRecDepth 100000 in
theorem sfxX9_reasonAgainst_63 : mSfx 63 kX9_reasonAgainst = kX9_reasonAgainst_63 := rfl
theorem cutX9_reasonAgainst_63 : cutX9_reasonAgainst 63 = none := by decide
set_option maxRecDepth 100000 in
theorem sfxX9_reasonAgainst_78 : mSfx 78 kX9_reasonAgainst = kX9_reasonAgainst_78 := rfl
theorem cutX9_reasonAgainst_78 : cutX9_reasonAgainst 78 = none := by decide
set_option maxRecDepth 100000 in
theorem sfxX9_reasonAgainst_79 : mSfx 79 kX9_reasonAgainst = kX9_reasonAgainst_79 := rfl
theorem cutX9_reasonAgainst_79 : cutX9_reasonAgainst 79 = none := by decide
def kX9_verdict_67 : List mIn := (67, 0, (-1), 0, 0, 0, []) :: (68, 33, 0, 1, 0, 0, []) :: []
def kX9_verdict_61 : List mIn := (61, 8, 1, 3, 0, 0, []) :: (64, 22, 0, 0, 4, 0, []) :: kX9_verdict_67
def kX9_verdict_37 : List mIn := (37, 9, 0, 0, 0, 0, []) :: (38, 5, 0, 2, 1, 0, []) :: (39, 4, 0, 0, 1, 0, []) :: (40, 4, 0, 1, 1, 0, []) :: (41, 2, 0, 3, 1, 0, []) :: (42, 2, 0, 2, 1, 0, []) :: (43, 32, 0, 0, 4, 23, [9, 610, 612, 0, 112, 613]) :: (46, 5, 0, 4, 2, 0, []) :: (48, 2, 0, 4, 2, 0, []) :: (50, 20, 0, 0, 61, 0, []) :: (53, 0, 10, 1, 0, 0, []) :: (55, 2, 0, 3, 1, 0, []) :: (56, 9, 0, 2, 0, 0, []) :: (57, 2, 0, 4, 2, 0, []) :: (59, 9, 0, 0, 0, 0, []) :: (60, 33, 0, 1, 0, 0, []) :: kX9_verdict_61
def kX9_verdict_36 : List mIn := (36, 0, 0, 0, 0, 0, []) :: kX9_verdict_37
def kX9_verdict_20 : List mIn := (20, 2, 0, 2, 1, 0, []) :: (21, 4, 0, 1, 1, 0, []) :: (22, 2, 0, 3, 1, 0, []) :: (23, 26, 0, 20, 0, 0, []) :: (24, 0, 17, 1, 0, 0, []) :: (26, 16, 0, 1, 0, 0, []) :: (27, 0, 8, 1, 0, 0, []) :: (29, 19, 0, 3, 36, 0, []) :: (32, 0, 1, 0, 0, 0, []) :: (33, 22, 0, 0, 37, 0, []) :: kX9_verdict_36
def kX9_verdict_4 : List mIn := (4, 2, 0, 3, 1, 0, []) :: (5, 0, 9, 1, 0, 0, []) :: (7, 19, 0, 3, 67, 0, []) :: (10, 4, 0, 1, 1, 0, []) :: (11, 2, 0, 3, 1, 0, []) :: (12, 26, 0, 20, 0, 0, []) :: (13, 0, (-1), 0, 0, 0, []) :: (14, 19, 0, 1, 20, 0, []) :: (17, 22, 0, 0, 61, 0, []) :: kX9_verdict_20
def kX9_verdict_0 : List mIn := (0, 0, 0, 0, 0, 0, []) :: (1, 5, 0, 2, 1, 0, []) :: (2, 0, 0, 0, 0, 0, []) :: (3, 5, 0, 3, 1, 0, []) :: (4, 43, 0, 0, 4, 0, []) :: kX9_verdict_4
def kX9_verdict : List mIn := kX9_verdict_0
def TX9_verdict : Nat → mCal := fun a => match a with
  | 0 => calX9_reasonAgainst
  | _ => (yX9_verdict, cX9_verdict, 5, (some .int), (0, 0, 0, 0))
def calX9_verdict : mCal := (yX9_verdict, cX9_verdict, 5, (some .int), (3, 69, 0, 0))
def cutX9_verdict : Nat → Option (List Bool) := fun t => mLk t [(4, [true, true, true, true, false])]
theorem okX9_verdict : mOK (yX9_verdict.cls, cX9_verdict, TX9_verdict, (some .int), (3, 69, 0, 0), 5, mAcf [], mAcf []) kX9_verdict = true := by decide +kernel
set_option maxRecDepth 100000 in
theorem sfxX9_verdict_4 : mSfx 4 kX9_verdict = kX9_verdict_4 := rfl
theorem cutX9_verdict_4 : cutX9_verdict 4 = some [true, true, true, true, false] := by decide
set_option maxRecDepth 100000 in
theorem sfxX9_verdict_20 : mSfx 20 kX9_verdict = kX9_verdict_20 := rfl
theorem cutX9_verdict_20 : cutX9_verdict 20 = none := by decide
set_option maxRecDepth 100000 in
theorem sfxX9_verdict_36 : mSfx 36 kX9_verdict = kX9_verdict_36 := rfl
theorem cutX9_verdict_36 : cutX9_verdict 36 = none := by decide
set_option maxRecDepth 100000 in
theorem sfxX9_verdict_37 : mSfx 37 kX9_verdict = kX9_verdict_37 := rfl
theorem cutX9_verdict_37 : cutX9_verdict 37 = none := by decide
set_option maxRecDepth 100000 in
theorem sfxX9_verdict_61 : mSfx 61 kX9_verdict = kX9_verdict_61 := rfl
theorem cutX9_verdict_61 : cutX9_verdict 61 = none := by decide
set_option maxRecDepth 100000 in
theorem sfxX9_verdict_67 : mSfx 67 kX9_verdict = kX9_verdict_67 := rfl
theorem cutX9_verdict_67 : cutX9_verdict 67 = none := by decide
def kX9_firstAt_112 : List mIn := (112, 2, 0, 7, 2, 0, []) :: (114, 33, 0, 1, 0, 0, []) :: []
def kX9_firstAt_106 : List mIn := (106, 8, 1, 9, 0, 0, []) :: (109, 22, 0, 0, 31, 0, []) :: kX9_firstAt_112
def kX9_firstAt_98 : List mIn := (98, 2, 0, 9, 2, 0, []) :: (100, 5, 0, 7, 2, 0, []) :: (102, 2, 0, 10, 2, 0, []) :: (104, 5, 0, 8, 2, 0, []) :: kX9_firstAt_106
def kX9_firstAt_56 : List mIn := (56, 4, 0, 3, 1, 0, []) :: (57, 2, 0, 9, 2, 0, []) :: (59, 26, 0, 20, 0, 0, []) :: (60, 2, 0, 5, 2, 0, []) :: (62, 32, 3, 2, 2, 33, [5, 623, 105, 624]) :: (65, 4, 0, 0, 1, 0, []) :: (66, 24, 0, 9, 1, 15, [367]) :: (69, 24, 0, 6, 1, 98, [238]) :: (72, 2, 0, 9, 2, 0, []) :: (74, 26, 0, 20, 0, 0, []) :: (75, 9, 0, 2, 0, 0, []) :: (76, 5, 0, 10, 2, 0, []) :: (78, 2, 0, 10, 2, 0, []) :: (80, 2, 0, 6, 2, 0, []) :: (82, 19, 0, 4, 106, 0, []) :: (85, 2, 0, 7, 2, 0, []) :: (87, 0, (-1), 0, 0, 0, []) :: (88, 19, 0, 0, 98, 0, []) :: (91, 2, 0, 10, 2, 0, []) :: (93, 2, 0, 8, 2, 0, []) :: (95, 19, 0, 3, 106, 0, []) :: kX9_firstAt_98
def kX9_firstAt_31 : List mIn := (31, 2, 0, 9, 2, 0, []) :: (33, 0, 9, 1, 0, 0, []) :: (35, 19, 0, 3, 112, 0, []) :: (38, 4, 0, 3, 1, 0, []) :: (39, 2, 0, 9, 2, 0, []) :: (41, 26, 0, 20, 0, 0, []) :: (42, 0, (-1), 0, 0, 0, []) :: (43, 19, 0, 0, 106, 0, []) :: (46, 2, 0, 9, 2, 0, []) :: (48, 2, 0, 4, 2, 0, []) :: (50, 19, 0, 1, 56, 0, []) :: (53, 22, 0, 0, 106, 0, []) :: kX9_firstAt_56
def kX9_firstAt_0 : List mIn := (0, 4, 0, 0, 1, 0, []) :: (1, 24, 0, 9, 2, 19, [368]) :: (4, 2, 0, 1, 1, 0, []) :: (5, 2, 0, 2, 1, 0, []) :: (6, 32, 0, 0, 3, 50, [0, 675, 676, 677, 111, 678]) :: (9, 5, 0, 5, 2, 0, []) :: (11, 4, 0, 0, 1, 0, []) :: (12, 24, 0, 9, 2, 19, [368]) :: (15, 2, 0, 1, 1, 0, []) :: (16, 2, 0, 2, 1, 0, []) :: (17, 32, 0, 1, 3, 95, [0, 687, 688, 689, 111, 690]) :: (20, 5, 0, 6, 2, 0, []) :: (22, 0, (-1), 0, 0, 0, []) :: (23, 5, 0, 7, 2, 0, []) :: (25, 0, 0, 0, 0, 0, []) :: (26, 5, 0, 8, 2, 0, []) :: (28, 0, 0, 0, 0, 0, []) :: (29, 5, 0, 9, 2, 0, []) :: (31, 43, 0, 0, 31, 0, []) :: kX9_firstAt_31
def kX9_firstAt : List mIn := kX9_firstAt_0
def TX9_firstAt : Nat → mCal := fun a => match a with
  | 0 => calX0_cellAt
  | 1 => calX0_tickAt
  | 2 => calX10_apart
  | _ => (yX9_firstAt, cX9_firstAt, 11, (some .int), (0, 0, 0, 0))
def calX9_firstAt : mCal := (yX9_firstAt, cX9_firstAt, 11, (some .int), (1, 25, 0, 0))
def cutX9_firstAt : Nat → Option (List Bool) := fun t => mLk t [(31, [true, false, false, true, true, true, true, true, true, true, false])]
theorem okX9_firstAt : mOK (yX9_firstAt.cls, cX9_firstAt, TX9_firstAt, (some .int), (1, 25, 0, 0), 11, mAcf [], mAcf []) kX9_firstAt = true := by decide +kernel
set_option maxRecDepth 100000 in
theorem sfxX9_firstAt_31 : mSfx 31 kX9_firstAt = kX9_firstAt_31 := rfl
theorem cutX9_firstAt_31 : cutX9_firstAt 31 = some [true, false, false, true, true, true, true, true, true, true, false] := by decide
set_option maxRecDepth 100000 in
theorem sfxX9_firstAt_56 : mSfx 56 kX9_firstAt = kX9_firstAt_56 := rfl
theorem cutX9_firstAt_56 : cutX9_firstAt 56 = none := by decide
set_option maxRecDepth 100000 in
theorem sfxX9_firstAt_98 : mSfx 98 kX9_firstAt = kX9_firstAt_98 := rfl
theorem cutX9_firstAt_98 : cutX9_firstAt 98 = none := by decide
set_option maxRecDepth 100000 in
theorem sfxX9_firstAt_106 : mSfx 106 kX9_firstAt = kX9_firstAt_106 := rfl
theorem cutX9_firstAt_106 : cutX9_firstAt 106 = none := by decide
set_option maxRecDepth 100000 in
theorem sfxX9_firstAt_112 : mSfx 112 kX9_firstAt = kX9_firstAt_112 := rfl
theorem cutX9_firstAt_112 : cutX9_firstAt 112 = none := by decide
def kX9_findStop_78 : List mIn := (78, 33, 0, 0, 0, 0, []) :: []
def kX9_findStop_72 : List mIn := (72, 8, 1, 4, 0, 0, []) :: (75, 22, 0, 0, 23, 0, []) :: kX9_findStop_78
def kX9_findStop_23 : List mIn := (23, 2, 0, 4, 2, 0, []) :: (25, 4, 0, 0, 1, 0, []) :: (26, 24, 0, 9, 2, 19, [368]) :: (29, 24, 0, 0, 7, 92, [334]) :: (32, 2, 0, 1, 1, 0, []) :: (33, 26, 0, 20, 0, 0, []) :: (34, 19, 0, 4, 78, 0, []) :: (37, 4, 0, 0, 1, 0, []) :: (38, 24, 0, 9, 5, 73, [376]) :: (41, 0, (-1), 0, 0, 0, []) :: (42, 19, 0, 1, 78, 0, []) :: (45, 4, 0, 0, 1, 0, []) :: (46, 4, 0, 0, 1, 0, []) :: (47, 2, 0, 1, 1, 0, []) :: (48, 2, 0, 4, 2, 0, []) :: (50, 4, 0, 2, 1, 0, []) :: (51, 2, 0, 3, 1, 0, []) :: (52, 32, 0, 0, 5, 56, [9, 683, 685, 3, 112, 686]) :: (55, 25, 0, 9, 5, 73, [376]) :: (58, 4, 0, 0, 1, 0, []) :: (59, 24, 0, 9, 5, 73, [376]) :: (62, 0, (-1), 0, 0, 0, []) :: (63, 19, 0, 0, 72, 0, []) :: (66, 4, 0, 0, 1, 0, []) :: (67, 2, 0, 4, 2, 0, []) :: (69, 25, 0, 9, 6, 76, [379]) :: kX9_findStop_72
def kX9_findStop_0 : List mIn := (0, 4, 0, 0, 1, 0, []) :: (1, 0, (-1), 0, 0, 0, []) :: (2, 25, 0, 9, 5, 73, [376]) :: (5, 4, 0, 0, 1, 0, []) :: (6, 0, (-1), 0, 0, 0, []) :: (7, 25, 0, 9, 6, 76, [379]) :: (10, 4, 0, 0, 1, 0, []) :: (11, 24, 0, 9, 2, 19, [368]) :: (14, 24, 0, 0, 5, 44, [327]) :: (17, 2, 0, 1, 1, 0, []) :: (18, 26, 0, 20, 0, 0, []) :: (19, 0, 1, 0, 0, 0, []) :: (20, 9, 0, 0, 0, 0, []) :: (21, 5, 0, 4, 2, 0, []) :: (23, 43, 0, 0, 23, 0, []) :: kX9_findStop_23
def kX9_findStop : List mIn := kX9_findStop_0
def TX9_findStop : Nat → mCal := fun a => match a with
  | 0 => calX9_firstAt
  | _ => (yX9_findStop, cX9_findStop, 5, none, (0, 0, 0, 0))
def calX9_findStop : mCal := (yX9_findStop, cX9_findStop, 5, none, (2, 55, 0, 0))
def cutX9_findStop : Nat → Option (List Bool) := fun t => mLk t [(23, [true, true, true, true, true])]
theorem okX9_findStop : mOK (yX9_findStop.cls, cX9_findStop, TX9_findStop, none, (2, 55, 0, 0), 5, mAcf [], mAcf []) kX9_findStop = true := by decide +kernel
set_option maxRecDepth 100000 in
theorem sfxX9_findStop_23 : mSfx 23 kX9_findStop = kX9_findStop_23 := rfl
theorem cutX9_findStop_23 : cutX9_findStop 23 = some [true, true, true, true, true] := by decide
set_option maxRecDepth 100000 in
theorem sfxX9_findStop_72 : mSfx 72 kX9_findStop = kX9_findStop_72 := rfl
theorem cutX9_findStop_72 : cutX9_findStop 72 = none := by decide
set_option maxRecDepth 100000 in
theorem sfxX9_findStop_78 : mSfx 78 kX9_findStop = kX9_findStop_78 := rfl
theorem cutX9_findStop_78 : cutX9_findStop 78 = none := by decide
def kX9_runsBy_79 : List mIn := (79, 33, 0, 1, 0, 0, []) :: []
def kX9_runsBy_78 : List mIn := (78, 0, 3, 0, 0, 0, []) :: kX9_runsBy_79
def kX9_runsBy_14 : List mIn := (14, 4, 0, 0, 1, 0, []) :: (15, 24, 0, 9, 2, 19, [368]) :: (18, 2, 0, 1, 1, 0, []) :: (19, 2, 0, 3, 1, 0, []) :: (20, 32, 0, 1, 3, 95, [0, 687, 688, 689, 111, 690]) :: (23, 4, 0, 0, 1, 0, []) :: (24, 24, 0, 9, 1, 15, [367]) :: (27, 24, 0, 6, 4, 118, [249]) :: (30, 2, 0, 2, 1, 0, []) :: (31, 26, 0, 20, 0, 0, []) :: (32, 4, 0, 0, 1, 0, []) :: (33, 24, 0, 9, 2, 19, [368]) :: (36, 2, 0, 1, 1, 0, []) :: (37, 2, 0, 3, 1, 0, []) :: (38, 32, 0, 2, 3, 50, [0, 675, 676, 677, 111, 678]) :: (41, 0, 144, 2, 0, 0, []) :: (44, 32, 3, 3, 2, 33, [5, 623, 105, 624]) :: (47, 9, 0, 2, 0, 0, []) :: (48, 9, 0, 0, 0, 0, []) :: (49, 5, 0, 4, 2, 0, []) :: (51, 4, 0, 0, 1, 0, []) :: (52, 24, 0, 9, 0, 9, [366]) :: (55, 24, 0, 3, 2, 121, [167]) :: (58, 20, 0, 5, 78, 0, []) :: (61, 0, 3, 0, 0, 0, []) :: (62, 2, 0, 4, 2, 0, []) :: (64, 4, 0, 0, 1, 0, []) :: (65, 24, 0, 9, 0, 9, [366]) :: (68, 24, 0, 3, 2, 121, [167]) :: (71, 16, 0, 0, 0, 0, []) :: (72, 40, 0, 1, 0, 124, [708, 709, 121, 710]) :: (75, 22, 0, 0, 79, 0, []) :: kX9_runsBy_78
def kX9_runsBy_0 : List mIn := (0, 2, 0, 2, 1, 0, []) :: (1, 0, (-1), 0, 0, 0, []) :: (2, 19, 0, 1, 14, 0, []) :: (5, 4, 0, 0, 1, 0, []) :: (6, 24, 0, 9, 2, 19, [368]) :: (9, 2, 0, 1, 1, 0, []) :: (10, 32, 0, 0, 2, 114, [0, 704, 705, 706, 111, 707]) :: (13, 33, 0, 1, 0, 0, []) :: kX9_runsBy_14
def kX9_runsBy : List mIn := kX9_runsBy_0
def TX9_runsBy : Nat → mCal := fun a => match a with
  | 0 => calX0_runsUnstopped
  | 1 => calX0_tickAt
  | 2 => calX0_cellAt
  | 3 => calX10_apart
  | _ => (yX9_runsBy, cX9_runsBy, 5, (some .int), (0, 0, 0, 0))
def calX9_runsBy : mCal := (yX9_runsBy, cX9_runsBy, 5, (some .int), (1, 25, 0, 0))
def cutX9_runsBy : Nat → Option (List Bool) := fun t => mLk t []
theorem okX9_runsBy : mOK (yX9_runsBy.cls, cX9_runsBy, TX9_runsBy, (some .int), (1, 25, 0, 0), 5, mAcf [], mAcf []) kX9_runsBy = true := by decide +kernel
set_option maxRecDepth 100000 in
theorem sfxX9_runsBy_14 : mSfx 14 kX9_runsBy = kX9_runsBy_14 := rfl
theorem cutX9_runsBy_14 : cutX9_runsBy 14 = none := by decide
set_option maxRecDepth 100000 in
theorem sfxX9_runsBy_78 : mSfx 78 kX9_runsBy = kX9_runsBy_78 := rfl
theorem cutX9_runsBy_78 : cutX9_runsBy 78 = none := by decide
set_option maxRecDepth 100000 in
theorem sfxX9_runsBy_79 : mSfx 79 kX9_runsBy = kX9_runsBy_79 := rfl
theorem cutX9_runsBy_79 : cutX9_runsBy 79 = none := by decide
def kX9_chanceAt_0 : List mIn := (0, 0, 0, 0, 0, 0, []) :: (1, 4, 0, 0, 1, 0, []) :: (2, 24, 0, 9, 1, 15, [367]) :: (5, 24, 0, 6, 2, 103, [242]) :: (8, 2, 0, 1, 1, 0, []) :: (9, 26, 0, 20, 0, 0, []) :: (10, 4, 0, 0, 1, 0, []) :: (11, 24, 0, 9, 1, 15, [367]) :: (14, 24, 0, 6, 3, 106, [245]) :: (17, 2, 0, 1, 1, 0, []) :: (18, 26, 0, 20, 0, 0, []) :: (19, 2, 0, 2, 1, 0, []) :: (20, 9, 0, 2, 0, 0, []) :: (21, 9, 0, 1, 0, 0, []) :: (22, 40, 0, 0, 0, 109, [695, 656, 121, 657]) :: (25, 33, 0, 1, 0, 0, []) :: []
def kX9_chanceAt : List mIn := kX9_chanceAt_0
def TX9_chanceAt : Nat → mCal := fun a => match a with
  | _ => (yX9_chanceAt, cX9_chanceAt, 3, (some .int), (0, 0, 0, 0))
def calX9_chanceAt : mCal := (yX9_chanceAt, cX9_chanceAt, 3, (some .int), (1, 23, 0, 0))
def cutX9_chanceAt : Nat → Option (List Bool) := fun t => mLk t []
theorem okX9_chanceAt : mOK (yX9_chanceAt.cls, cX9_chanceAt, TX9_chanceAt, (some .int), (1, 23, 0, 0), 3, mAcf [], mAcf []) kX9_chanceAt = true := by decide +kernel
def kX9_price_0 : List mIn := (0, 0, 100, 1, 0, 0, []) :: (2, 2, 0, 1, 1, 0, []) :: (3, 9, 0, 1, 0, 0, []) :: (4, 2, 0, 2, 1, 0, []) :: (5, 9, 0, 2, 0, 0, []) :: (6, 4, 0, 0, 1, 0, []) :: (7, 24, 0, 9, 0, 9, [366]) :: (10, 24, 0, 3, 3, 127, [171]) :: (13, 2, 0, 1, 1, 0, []) :: (14, 9, 0, 2, 0, 0, []) :: (15, 9, 0, 1, 0, 0, []) :: (16, 33, 0, 1, 0, 0, []) :: []
def kX9_price : List mIn := kX9_price_0
def TX9_price : Nat → mCal := fun a => match a with
  | _ => (yX9_price, cX9_price, 3, (some .int), (0, 0, 0, 0))
def calX9_price : mCal := (yX9_price, cX9_price, 3, (some .int), (0, 0, 0, 0))
def cutX9_price : Nat → Option (List Bool) := fun t => mLk t []
theorem okX9_price : mOK (yX9_price.cls, cX9_price, TX9_price, (some .int), (0, 0, 0, 0), 3, mAcf [], mAcf []) kX9_price = true := by decide +kernel
def kX9_weigh_84 : List mIn := (84, 25, 0, 9, 4, 66, [373]) :: (87, 4, 0, 0, 1, 0, []) :: (88, 2, 0, 1, 1, 0, []) :: (89, 4, 0, 2, 1, 0, []) :: (90, 4, 0, 0, 1, 0, []) :: (91, 24, 0, 9, 3, 60, [370]) :: (94, 32, 0, 5, 4, 69, [9, 696, 697, 698, 112, 699]) :: (97, 4, 0, 0, 1, 0, []) :: (98, 4, 0, 0, 1, 0, []) :: (99, 2, 0, 1, 1, 0, []) :: (100, 4, 0, 0, 1, 0, []) :: (101, 24, 0, 9, 5, 73, [376]) :: (104, 4, 0, 0, 1, 0, []) :: (105, 24, 0, 9, 6, 76, [379]) :: (108, 32, 0, 6, 4, 79, [9, 700, 701, 702, 112, 703]) :: (111, 25, 0, 9, 7, 83, [382]) :: (114, 4, 0, 0, 1, 0, []) :: (115, 4, 0, 0, 1, 0, []) :: (116, 4, 0, 0, 1, 0, []) :: (117, 24, 0, 9, 4, 66, [373]) :: (120, 4, 0, 0, 1, 0, []) :: (121, 24, 0, 9, 7, 83, [382]) :: (124, 32, 0, 7, 3, 86, [9, 711, 712, 713, 112, 714]) :: (127, 25, 0, 9, 8, 89, [384]) :: (130, 33, 0, 0, 0, 0, []) :: []
def kX9_weigh_66 : List mIn := (66, 4, 0, 0, 1, 0, []) :: (67, 4, 0, 0, 1, 0, []) :: (68, 24, 0, 9, 3, 60, [370]) :: (71, 4, 0, 2, 1, 0, []) :: (72, 4, 0, 0, 1, 0, []) :: (73, 24, 0, 9, 3, 60, [370]) :: (76, 26, 0, 20, 0, 0, []) :: (77, 2, 0, 3, 1, 0, []) :: (78, 32, 3, 3, 2, 33, [5, 623, 105, 624]) :: (81, 32, 0, 4, 3, 63, [9, 691, 692, 693, 112, 694]) :: kX9_weigh_84
def kX9_weigh_50 : List mIn := (50, 25, 0, 9, 3, 60, [370]) :: (53, 4, 0, 0, 1, 0, []) :: (54, 4, 0, 0, 1, 0, []) :: (55, 24, 0, 9, 3, 60, [370]) :: (58, 0, (-1), 0, 0, 0, []) :: (59, 19, 0, 1, 66, 0, []) :: (62, 0, 0, 0, 0, 0, []) :: (63, 22, 0, 0, 84, 0, []) :: kX9_weigh_66
def kX9_weigh_49 : List mIn := (49, 0, (-1), 0, 0, 0, []) :: kX9_weigh_50
def kX9_weigh_0 : List mIn := (0, 4, 0, 0, 1, 0, []) :: (1, 24, 0, 9, 2, 19, [368]) :: (4, 2, 0, 1, 1, 0, []) :: (5, 4, 0, 0, 1, 0, []) :: (6, 24, 0, 9, 2, 19, [368]) :: (9, 24, 0, 0, 5, 44, [327]) :: (12, 2, 0, 1, 1, 0, []) :: (13, 26, 0, 20, 0, 0, []) :: (14, 32, 0, 0, 3, 50, [0, 675, 676, 677, 111, 678]) :: (17, 5, 0, 3, 1, 0, []) :: (18, 4, 0, 0, 1, 0, []) :: (19, 4, 0, 0, 1, 0, []) :: (20, 24, 0, 9, 2, 19, [368]) :: (23, 2, 0, 1, 1, 0, []) :: (24, 32, 0, 1, 2, 53, [0, 679, 680, 681, 111, 682]) :: (27, 20, 0, 0, 49, 0, []) :: (30, 4, 0, 0, 1, 0, []) :: (31, 2, 0, 1, 1, 0, []) :: (32, 4, 0, 0, 1, 0, []) :: (33, 24, 0, 9, 2, 19, [368]) :: (36, 24, 0, 0, 5, 44, [327]) :: (39, 2, 0, 1, 1, 0, []) :: (40, 26, 0, 20, 0, 0, []) :: (41, 4, 0, 2, 1, 0, []) :: (42, 0, (-1), 0, 0, 0, []) :: (43, 32, 0, 2, 5, 56, [9, 683, 685, 3, 112, 686]) :: (46, 22, 0, 0, 50, 0, []) :: kX9_weigh_49
def kX9_weigh : List mIn := kX9_weigh_0
def TX9_weigh : Nat → mCal := fun a => match a with
  | 0 => calX0_cellAt
  | 1 => calX0_isHigh
  | 2 => calX9_firstAt
  | 3 => calX10_apart
  | 4 => calX9_chanceAt
  | 5 => calX9_findStop
  | 6 => calX9_runsBy
  | 7 => calX9_price
  | _ => (yX9_weigh, cX9_weigh, 4, none, (0, 0, 0, 0))
def calX9_weigh : mCal := (yX9_weigh, cX9_weigh, 4, none, (3, 79, 0, 0))
def cutX9_weigh : Nat → Option (List Bool) := fun t => mLk t []
theorem okX9_weigh : mOK (yX9_weigh.cls, cX9_weigh, TX9_weigh, none, (3, 79, 0, 0), 4, mAcf [], mAcf []) kX9_weigh = true := by decide +kernel
set_option maxRecDepth 100000 in
theorem sfxX9_weigh_49 : mSfx 49 kX9_weigh = kX9_weigh_49 := rfl
theorem cutX9_weigh_49 : cutX9_weigh 49 = none := by decide
set_option maxRecDepth 100000 in
theorem sfxX9_weigh_50 : mSfx 50 kX9_weigh = kX9_weigh_50 := rfl
theorem cutX9_weigh_50 : cutX9_weigh 50 = none := by decide
set_option maxRecDepth 100000 in
theorem sfxX9_weigh_66 : mSfx 66 kX9_weigh = kX9_weigh_66 := rfl
theorem cutX9_weigh_66 : cutX9_weigh 66 = none := by decide
set_option maxRecDepth 100000 in
theorem sfxX9_weigh_84 : mSfx 84 kX9_weigh = kX9_weigh_84 := rfl
theorem cutX9_weigh_84 : cutX9_weigh 84 = none := by decide
def kX9_timeTo_0 : List mIn := (0, 2, 0, 2, 1, 0, []) :: (1, 2, 0, 3, 1, 0, []) :: (2, 32, 3, 0, 2, 33, [5, 623, 105, 624]) :: (5, 4, 0, 0, 1, 0, []) :: (6, 24, 0, 9, 1, 15, [367]) :: (9, 24, 0, 6, 1, 98, [238]) :: (12, 2, 0, 1, 1, 0, []) :: (13, 26, 0, 20, 0, 0, []) :: (14, 9, 0, 2, 0, 0, []) :: (15, 33, 0, 1, 0, 0, []) :: []
def kX9_timeTo : List mIn := kX9_timeTo_0
def TX9_timeTo : Nat → mCal := fun a => match a with
  | 0 => calX10_apart
  | _ => (yX9_timeTo, cX9_timeTo, 4, (some .int), (0, 0, 0, 0))
def calX9_timeTo : mCal := (yX9_timeTo, cX9_timeTo, 4, (some .int), (1, 25, 0, 0))
def cutX9_timeTo : Nat → Option (List Bool) := fun t => mLk t []
theorem okX9_timeTo : mOK (yX9_timeTo.cls, cX9_timeTo, TX9_timeTo, (some .int), (1, 25, 0, 0), 4, mAcf [], mAcf []) kX9_timeTo = true := by decide +kernel
def kX2_timeOf_32 : List mIn := (32, 33, 0, 1, 0, 0, []) :: []
def kX2_timeOf_9 : List mIn := (9, 4, 0, 0, 1, 0, []) :: (10, 24, 0, 2, 3, 54, [414]) :: (13, 2, 0, 1, 1, 0, []) :: (14, 4, 0, 0, 1, 0, []) :: (15, 24, 0, 2, 4, 9, [415]) :: (18, 2, 0, 1, 1, 0, []) :: (19, 26, 0, 20, 0, 0, []) :: (20, 4, 0, 0, 1, 0, []) :: (21, 24, 0, 2, 2, 50, [413]) :: (24, 2, 0, 2, 1, 0, []) :: (25, 2, 0, 3, 1, 0, []) :: (26, 32, 0, 0, 3, 130, [0, 1153, 676, 677, 111, 678]) :: (29, 32, 0, 1, 4, 134, [9, 1154, 1155, 1156, 112, 1157]) :: kX2_timeOf_32
def kX2_timeOf_0 : List mIn := (0, 2, 0, 1, 1, 0, []) :: (1, 0, (-1), 0, 0, 0, []) :: (2, 19, 0, 1, 9, 0, []) :: (5, 0, 0, 0, 0, 0, []) :: (6, 22, 0, 0, 32, 0, []) :: kX2_timeOf_9
def kX2_timeOf : List mIn := kX2_timeOf_0
def TX2_timeOf : Nat → mCal := fun a => match a with
  | 0 => calX0_cellAt
  | 1 => calX9_timeTo
  | _ => (yX2_timeOf, cX2_timeOf, 4, (some .int), (0, 0, 0, 0))
def calX2_timeOf : mCal := (yX2_timeOf, cX2_timeOf, 4, (some .int), (2, 48, 0, 0))
def cutX2_timeOf : Nat → Option (List Bool) := fun t => mLk t []
theorem okX2_timeOf : mOK (yX2_timeOf.cls, cX2_timeOf, TX2_timeOf, (some .int), (2, 48, 0, 0), 4, mAcf [], mAcf []) kX2_timeOf = true := by decide +kernel
set_option maxRecDepth 100000 in
theorem sfxX2_timeOf_9 : mSfx 9 kX2_timeOf = kX2_timeOf_9 := rfl
theorem cutX2_timeOf_9 : cutX2_timeOf 9 = none := by decide
set_option maxRecDepth 100000 in
theorem sfxX2_timeOf_32 : mSfx 32 kX2_timeOf = kX2_timeOf_32 := rfl
theorem cutX2_timeOf_32 : cutX2_timeOf 32 = none := by decide
def kX2_weighOthers_246 : List mIn := (246, 33, 0, 0, 0, 0, []) :: []
def kX2_weighOthers_59 : List mIn := (59, 2, 0, 1, 1, 0, []) :: (60, 4, 0, 0, 1, 0, []) :: (61, 24, 0, 2, 2, 50, [413]) :: (64, 24, 0, 0, 0, 67, [315]) :: (67, 19, 0, 3, 246, 0, []) :: (70, 4, 0, 0, 1, 0, []) :: (71, 24, 0, 2, 3, 54, [414]) :: (74, 2, 0, 1, 1, 0, []) :: (75, 4, 0, 0, 1, 0, []) :: (76, 24, 0, 2, 4, 9, [415]) :: (79, 0, (-1), 0, 0, 0, []) :: (80, 32, 0, 0, 4, 97, [9, 1146, 697, 698, 112, 699]) :: (83, 4, 0, 0, 1, 0, []) :: (84, 24, 0, 2, 8, 24, [419]) :: (87, 2, 0, 1, 1, 0, []) :: (88, 4, 0, 0, 1, 0, []) :: (89, 24, 0, 2, 3, 54, [414]) :: (92, 2, 0, 1, 1, 0, []) :: (93, 4, 0, 0, 1, 0, []) :: (94, 24, 0, 2, 3, 54, [414]) :: (97, 24, 0, 9, 5, 101, [375]) :: (100, 4, 0, 0, 1, 0, []) :: (101, 24, 0, 2, 3, 54, [414]) :: (104, 24, 0, 9, 6, 104, [378]) :: (107, 32, 0, 1, 4, 107, [9, 1147, 701, 702, 112, 703]) :: (110, 27, 0, 20, 0, 0, []) :: (111, 4, 0, 0, 1, 0, []) :: (112, 24, 0, 2, 3, 54, [414]) :: (115, 2, 0, 1, 1, 0, []) :: (116, 4, 0, 0, 1, 0, []) :: (117, 24, 0, 2, 4, 9, [415]) :: (120, 32, 0, 2, 3, 111, [9, 1148, 672, 673, 112, 674]) :: (123, 4, 0, 0, 1, 0, []) :: (124, 24, 0, 2, 5, 15, [416]) :: (127, 2, 0, 1, 1, 0, []) :: (128, 4, 0, 0, 1, 0, []) :: (129, 24, 0, 2, 3, 54, [414]) :: (132, 24, 0, 9, 3, 115, [369]) :: (135, 27, 0, 20, 0, 0, []) :: (136, 4, 0, 0, 1, 0, []) :: (137, 24, 0, 2, 7, 21, [418]) :: (140, 2, 0, 1, 1, 0, []) :: (141, 4, 0, 0, 1, 0, []) :: (142, 24, 0, 2, 3, 54, [414]) :: (145, 24, 0, 9, 4, 118, [372]) :: (148, 27, 0, 20, 0, 0, []) :: (149, 4, 0, 0, 1, 0, []) :: (150, 24, 0, 2, 6, 18, [417]) :: (153, 2, 0, 1, 1, 0, []) :: (154, 4, 0, 0, 1, 0, []) :: (155, 4, 0, 0, 1, 0, []) :: (156, 24, 0, 2, 3, 54, [414]) :: (159, 24, 0, 9, 3, 115, [369]) :: (162, 2, 0, 1, 1, 0, []) :: (163, 4, 0, 0, 1, 0, []) :: (164, 24, 0, 2, 2, 50, [413]) :: (167, 24, 0, 0, 5, 121, [326]) :: (170, 2, 0, 1, 1, 0, []) :: (171, 26, 0, 20, 0, 0, []) :: (172, 32, 0, 3, 4, 124, [2, 1149, 1151, 22, 113, 1152]) :: (175, 27, 0, 20, 0, 0, []) :: (176, 4, 0, 0, 1, 0, []) :: (177, 24, 0, 2, 9, 27, [420]) :: (180, 2, 0, 1, 1, 0, []) :: (181, 4, 0, 0, 1, 0, []) :: (182, 24, 0, 2, 3, 54, [414]) :: (185, 24, 0, 9, 5, 101, [375]) :: (188, 27, 0, 20, 0, 0, []) :: (189, 4, 0, 0, 1, 0, []) :: (190, 24, 0, 2, 10, 30, [421]) :: (193, 2, 0, 1, 1, 0, []) :: (194, 4, 0, 0, 1, 0, []) :: (195, 24, 0, 2, 3, 54, [414]) :: (198, 24, 0, 9, 6, 104, [378]) :: (201, 27, 0, 20, 0, 0, []) :: (202, 4, 0, 0, 1, 0, []) :: (203, 24, 0, 2, 11, 33, [422]) :: (206, 2, 0, 1, 1, 0, []) :: (207, 4, 0, 0, 1, 0, []) :: (208, 4, 0, 0, 1, 0, []) :: (209, 24, 0, 2, 3, 54, [414]) :: (212, 24, 0, 9, 5, 101, [375]) :: (215, 2, 0, 1, 1, 0, []) :: (216, 4, 0, 0, 1, 0, []) :: (217, 24, 0, 2, 3, 54, [414]) :: (220, 24, 0, 9, 6, 104, [378]) :: (223, 32, 0, 3, 4, 124, [2, 1149, 1151, 22, 113, 1152]) :: (226, 27, 0, 20, 0, 0, []) :: (227, 4, 0, 0, 1, 0, []) :: (228, 24, 0, 2, 12, 36, [423]) :: (231, 2, 0, 1, 1, 0, []) :: (232, 4, 0, 0, 1, 0, []) :: (233, 24, 0, 2, 3, 54, [414]) :: (236, 24, 0, 9, 7, 127, [381]) :: (239, 27, 0, 20, 0, 0, []) :: (240, 8, 1, 1, 0, 0, []) :: (243, 22, 0, 0, 59, 0, []) :: kX2_weighOthers_246
def kX2_weighOthers_57 : List mIn := (57, 0, 0, 0, 0, 0, []) :: (58, 5, 0, 1, 1, 0, []) :: (59, 43, 0, 0, 59, 0, []) :: kX2_weighOthers_59
def kX2_weighOthers_47 : List mIn := (47, 9, 0, 0, 0, 0, []) :: (48, 25, 0, 2, 14, 94, [425]) :: (51, 8, 1, 1, 0, 0, []) :: (54, 22, 0, 0, 7, 0, []) :: kX2_weighOthers_57
def kX2_weighOthers_46 : List mIn := (46, 0, 0, 0, 0, 0, []) :: kX2_weighOthers_47
def kX2_weighOthers_7 : List mIn := (7, 2, 0, 1, 1, 0, []) :: (8, 0, 9, 1, 0, 0, []) :: (10, 19, 0, 3, 57, 0, []) :: (13, 4, 0, 0, 1, 0, []) :: (14, 29, 0, 0, 0, 0, []) :: (15, 24, 0, 2, 14, 94, [425]) :: (18, 4, 0, 0, 1, 0, []) :: (19, 24, 0, 2, 4, 9, [415]) :: (22, 2, 0, 1, 1, 0, []) :: (23, 26, 0, 20, 0, 0, []) :: (24, 0, (-1), 0, 0, 0, []) :: (25, 19, 0, 0, 46, 0, []) :: (28, 4, 0, 0, 1, 0, []) :: (29, 24, 0, 2, 4, 9, [415]) :: (32, 2, 0, 1, 1, 0, []) :: (33, 26, 0, 20, 0, 0, []) :: (34, 0, 17, 1, 0, 0, []) :: (36, 16, 0, 1, 0, 0, []) :: (37, 0, 8, 1, 0, 0, []) :: (39, 19, 0, 3, 46, 0, []) :: (42, 0, 1, 0, 0, 0, []) :: (43, 22, 0, 0, 47, 0, []) :: kX2_weighOthers_46
def kX2_weighOthers_0 : List mIn := (0, 4, 0, 0, 1, 0, []) :: (1, 0, 0, 0, 0, 0, []) :: (2, 25, 0, 2, 14, 94, [425]) :: (5, 0, 0, 0, 0, 0, []) :: (6, 5, 0, 1, 1, 0, []) :: (7, 43, 0, 0, 7, 0, []) :: kX2_weighOthers_7
def kX2_weighOthers : List mIn := kX2_weighOthers_0
def TX2_weighOthers : Nat → mCal := fun a => match a with
  | 0 => calX9_findStop
  | 1 => calX9_runsBy
  | 2 => calX9_weigh
  | 3 => calX2_timeOf
  | _ => (yX2_weighOthers, cX2_weighOthers, 2, none, (0, 0, 0, 0))
def calX2_weighOthers : mCal := (yX2_weighOthers, cX2_weighOthers, 2, none, (4, 102, 0, 0))
def cutX2_weighOthers : Nat → Option (List Bool) := fun t => mLk t [(7, [true, true]), (59, [true, true])]
theorem okX2_weighOthers : mOK (yX2_weighOthers.cls, cX2_weighOthers, TX2_weighOthers, none, (4, 102, 0, 0), 2, mAcf [], mAcf []) kX2_weighOthers = true := by decide +kernel
set_option maxRecDepth 100000 in
theorem sfxX2_weighOthers_7 : mSfx 7 kX2_weighOthers = kX2_weighOthers_7 := rfl
theorem cutX2_weighOthers_7 : cutX2_weighOthers 7 = some [true, true] := by decide
set_option maxRecDepth 100000 in
theorem sfxX2_weighOthers_46 : mSfx 46 kX2_weighOthers = kX2_weighOthers_46 := rfl
theorem cutX2_weighOthers_46 : cutX2_weighOthers 46 = none := by decide
set_option maxRecDepth 100000 in
theorem sfxX2_weighOthers_47 : mSfx 47 kX2_weighOthers = kX2_weighOthers_47 := rfl
theorem cutX2_weighOthers_47 : cutX2_weighOthers 47 = none := by decide
set_option maxRecDepth 100000 in
theorem sfxX2_weighOthers_57 : mSfx 57 kX2_weighOthers = kX2_weighOthers_57 := rfl
theorem cutX2_weighOthers_57 : cutX2_weighOthers 57 = none := by decide
set_option maxRecDepth 100000 in
theorem sfxX2_weighOthers_59 : mSfx 59 kX2_weighOthers = kX2_weighOthers_59 := rfl
theorem cutX2_weighOthers_59 : cutX2_weighOthers 59 = some [true, true] := by decide
set_option maxRecDepth 100000 in
theorem sfxX2_weighOthers_246 : mSfx 246 kX2_weighOthers = kX2_weighOthers_246 := rfl
theorem cutX2_weighOthers_246 : cutX2_weighOthers 246 = none := by decide
def kX3_mayHold_27 : List mIn := (27, 33, 0, 4, 0, 0, []) :: []
def kX3_mayHold_26 : List mIn := (26, 0, 0, 0, 0, 0, []) :: kX3_mayHold_27
def kX3_mayHold_0 : List mIn := (0, 4, 0, 0, 1, 0, []) :: (1, 2, 0, 1, 1, 0, []) :: (2, 32, 0, 0, 2, 66, [3, 1166, 615, 616, 107, 617]) :: (5, 20, 0, 0, 26, 0, []) :: (8, 2, 0, 1, 1, 0, []) :: (9, 0, 144, 2, 0, 0, []) :: (12, 32, 3, 1, 2, 69, [19, 623, 105, 624]) :: (15, 4, 0, 0, 1, 0, []) :: (16, 24, 0, 3, 5, 49, [178]) :: (19, 19, 0, 2, 26, 0, []) :: (22, 0, 1, 0, 0, 0, []) :: (23, 22, 0, 0, 27, 0, []) :: kX3_mayHold_26
def kX3_mayHold : List mIn := kX3_mayHold_0
def TX3_mayHold : Nat → mCal := fun a => match a with
  | 0 => calX3_liesIn_
  | 1 => calX10_apart
  | _ => (yX3_mayHold, cX3_mayHold, 2, (some .boolean), (0, 0, 0, 0))
def calX3_mayHold : mCal := (yX3_mayHold, cX3_mayHold, 2, (some .boolean), (2, 45, 0, 0))
def cutX3_mayHold : Nat → Option (List Bool) := fun t => mLk t []
theorem okX3_mayHold : mOK (yX3_mayHold.cls, cX3_mayHold, TX3_mayHold, (some .boolean), (2, 45, 0, 0), 2, mAcf [], mAcf []) kX3_mayHold = true := by decide +kernel
set_option maxRecDepth 100000 in
theorem sfxX3_mayHold_26 : mSfx 26 kX3_mayHold = kX3_mayHold_26 := rfl
theorem cutX3_mayHold_26 : cutX3_mayHold 26 = none := by decide
set_option maxRecDepth 100000 in
theorem sfxX3_mayHold_27 : mSfx 27 kX3_mayHold = kX3_mayHold_27 := rfl
theorem cutX3_mayHold_27 : cutX3_mayHold 27 = none := by decide
def kX2_mayGo_62 : List mIn := (62, 0, 1, 0, 0, 0, []) :: (63, 33, 0, 4, 0, 0, []) :: []
def kX2_mayGo_56 : List mIn := (56, 8, 1, 2, 0, 0, []) :: (59, 22, 0, 0, 38, 0, []) :: kX2_mayGo_62
def kX2_mayGo_38 : List mIn := (38, 2, 0, 2, 1, 0, []) :: (39, 0, 9, 1, 0, 0, []) :: (41, 19, 0, 3, 62, 0, []) :: (44, 4, 0, 0, 1, 0, []) :: (45, 24, 0, 2, 4, 9, [415]) :: (48, 2, 0, 2, 1, 0, []) :: (49, 26, 0, 20, 0, 0, []) :: (50, 2, 0, 1, 1, 0, []) :: (51, 19, 0, 1, 56, 0, []) :: (54, 0, 0, 0, 0, 0, []) :: (55, 33, 0, 4, 0, 0, []) :: kX2_mayGo_56
def kX2_mayGo_36 : List mIn := (36, 0, 0, 0, 0, 0, []) :: (37, 5, 0, 2, 1, 0, []) :: (38, 43, 0, 0, 38, 0, []) :: kX2_mayGo_38
def kX2_mayGo_34 : List mIn := (34, 0, 0, 0, 0, 0, []) :: (35, 33, 0, 4, 0, 0, []) :: kX2_mayGo_36
def kX2_mayGo_0 : List mIn := (0, 4, 0, 0, 1, 0, []) :: (1, 24, 0, 2, 0, 42, [411]) :: (4, 2, 0, 1, 1, 0, []) :: (5, 32, 0, 0, 2, 137, [3, 1162, 1163, 1164, 107, 1165]) :: (8, 20, 0, 0, 34, 0, []) :: (11, 2, 0, 1, 1, 0, []) :: (12, 0, 17, 1, 0, 0, []) :: (14, 16, 0, 1, 0, 0, []) :: (15, 0, 8, 1, 0, 0, []) :: (17, 19, 0, 3, 36, 0, []) :: (20, 4, 0, 0, 1, 0, []) :: (21, 24, 0, 2, 14, 94, [425]) :: (24, 4, 0, 0, 1, 0, []) :: (25, 24, 0, 2, 0, 42, [411]) :: (28, 24, 0, 3, 4, 142, [175]) :: (31, 19, 0, 2, 36, 0, []) :: kX2_mayGo_34
def kX2_mayGo : List mIn := kX2_mayGo_0
def TX2_mayGo : Nat → mCal := fun a => match a with
  | 0 => calX3_mayHold
  | _ => (yX2_mayGo, cX2_mayGo, 3, (some .boolean), (0, 0, 0, 0))
def calX2_mayGo : mCal := (yX2_mayGo, cX2_mayGo, 3, (some .boolean), (3, 66, 0, 0))
def cutX2_mayGo : Nat → Option (List Bool) := fun t => mLk t [(38, [true, true, true])]
theorem okX2_mayGo : mOK (yX2_mayGo.cls, cX2_mayGo, TX2_mayGo, (some .boolean), (3, 66, 0, 0), 3, mAcf [], mAcf []) kX2_mayGo = true := by decide +kernel
set_option maxRecDepth 100000 in
theorem sfxX2_mayGo_34 : mSfx 34 kX2_mayGo = kX2_mayGo_34 := rfl
theorem cutX2_mayGo_34 : cutX2_mayGo 34 = none := by decide
set_option maxRecDepth 100000 in
theorem sfxX2_mayGo_36 : mSfx 36 kX2_mayGo = kX2_mayGo_36 := rfl
theorem cutX2_mayGo_36 : cutX2_mayGo 36 = none := by decide
set_option maxRecDepth 100000 in
theorem sfxX2_mayGo_38 : mSfx 38 kX2_mayGo = kX2_mayGo_38 := rfl
theorem cutX2_mayGo_38 : cutX2_mayGo 38 = some [true, true, true] := by decide
set_option maxRecDepth 100000 in
theorem sfxX2_mayGo_56 : mSfx 56 kX2_mayGo = kX2_mayGo_56 := rfl
theorem cutX2_mayGo_56 : cutX2_mayGo 56 = none := by decide
set_option maxRecDepth 100000 in
theorem sfxX2_mayGo_62 : mSfx 62 kX2_mayGo = kX2_mayGo_62 := rfl
theorem cutX2_mayGo_62 : cutX2_mayGo 62 = none := by decide
def kX2_goesFirst_25 : List mIn := (25, 33, 0, 4, 0, 0, []) :: []
def kX2_goesFirst_24 : List mIn := (24, 0, 0, 0, 0, 0, []) :: kX2_goesFirst_25
def kX2_goesFirst_20 : List mIn := (20, 0, 1, 0, 0, 0, []) :: (21, 22, 0, 0, 25, 0, []) :: kX2_goesFirst_24
def kX2_goesFirst_0 : List mIn := (0, 2, 0, 2, 1, 0, []) :: (1, 0, (-1), 0, 0, 0, []) :: (2, 19, 0, 0, 20, 0, []) :: (5, 2, 0, 1, 1, 0, []) :: (6, 2, 0, 3, 1, 0, []) :: (7, 19, 0, 2, 20, 0, []) :: (10, 2, 0, 1, 1, 0, []) :: (11, 2, 0, 3, 1, 0, []) :: (12, 19, 0, 1, 24, 0, []) :: (15, 2, 0, 0, 1, 0, []) :: (16, 2, 0, 2, 1, 0, []) :: (17, 19, 0, 3, 24, 0, []) :: kX2_goesFirst_20
def kX2_goesFirst : List mIn := kX2_goesFirst_0
def TX2_goesFirst : Nat → mCal := fun a => match a with
  | _ => (yX2_goesFirst, cX2_goesFirst, 4, (some .boolean), (0, 0, 0, 0))
def calX2_goesFirst : mCal := (yX2_goesFirst, cX2_goesFirst, 4, (some .boolean), (0, 0, 0, 0))
def cutX2_goesFirst : Nat → Option (List Bool) := fun t => mLk t []
theorem okX2_goesFirst : mOK (yX2_goesFirst.cls, cX2_goesFirst, TX2_goesFirst, (some .boolean), (0, 0, 0, 0), 4, mAcf [], mAcf []) kX2_goesFirst = true := by decide +kernel
set_option maxRecDepth 100000 in
theorem sfxX2_goesFirst_20 : mSfx 20 kX2_goesFirst = kX2_goesFirst_20 := rfl
theorem cutX2_goesFirst_20 : cutX2_goesFirst 20 = none := by decide
set_option maxRecDepth 100000 in
theorem sfxX2_goesFirst_24 : mSfx 24 kX2_goesFirst = kX2_goesFirst_24 := rfl
theorem cutX2_goesFirst_24 : cutX2_goesFirst 24 = none := by decide
set_option maxRecDepth 100000 in
theorem sfxX2_goesFirst_25 : mSfx 25 kX2_goesFirst = kX2_goesFirst_25 := rfl
theorem cutX2_goesFirst_25 : cutX2_goesFirst 25 = none := by decide
def kX2_runsWith_148 : List mIn := (148, 4, 0, 0, 1, 0, []) :: (149, 24, 0, 2, 12, 36, [423]) :: (152, 2, 0, 1, 1, 0, []) :: (153, 26, 0, 20, 0, 0, []) :: (154, 33, 0, 1, 0, 0, []) :: []
def kX2_runsWith_142 : List mIn := (142, 8, 1, 5, 0, 0, []) :: (145, 22, 0, 0, 43, 0, []) :: kX2_runsWith_148
def kX2_runsWith_108 : List mIn := (108, 5, 0, 7, 2, 0, []) :: (110, 2, 0, 6, 2, 0, []) :: (112, 4, 0, 0, 1, 0, []) :: (113, 24, 0, 2, 2, 50, [413]) :: (116, 2, 0, 1, 1, 0, []) :: (117, 2, 0, 5, 2, 0, []) :: (119, 32, 0, 3, 3, 169, [0, 1178, 688, 689, 111, 690]) :: (122, 19, 0, 4, 142, 0, []) :: (125, 2, 0, 7, 2, 0, []) :: (127, 20, 0, 0, 142, 0, []) :: (130, 4, 0, 0, 1, 0, []) :: (131, 24, 0, 2, 3, 54, [414]) :: (134, 2, 0, 1, 1, 0, []) :: (135, 2, 0, 2, 1, 0, []) :: (136, 2, 0, 5, 2, 0, []) :: (138, 32, 0, 4, 4, 107, [9, 1147, 701, 702, 112, 703]) :: (141, 33, 0, 1, 0, 0, []) :: kX2_runsWith_142
def kX2_runsWith_107 : List mIn := (107, 0, 0, 0, 0, 0, []) :: kX2_runsWith_108
def kX2_runsWith_103 : List mIn := (103, 0, 1, 0, 0, 0, []) :: (104, 22, 0, 0, 108, 0, []) :: kX2_runsWith_107
def kX2_runsWith_43 : List mIn := (43, 2, 0, 5, 2, 0, []) :: (45, 2, 0, 4, 2, 0, []) :: (47, 19, 0, 4, 148, 0, []) :: (50, 4, 0, 0, 1, 0, []) :: (51, 24, 0, 2, 3, 54, [414]) :: (54, 2, 0, 2, 1, 0, []) :: (55, 2, 0, 3, 1, 0, []) :: (56, 4, 0, 0, 1, 0, []) :: (57, 24, 0, 2, 2, 50, [413]) :: (60, 2, 0, 1, 1, 0, []) :: (61, 2, 0, 5, 2, 0, []) :: (63, 32, 0, 0, 3, 130, [0, 1153, 676, 677, 111, 678]) :: (66, 32, 0, 1, 4, 134, [9, 1154, 1155, 1156, 112, 1157]) :: (69, 5, 0, 6, 2, 0, []) :: (71, 2, 0, 5, 2, 0, []) :: (73, 4, 0, 0, 1, 0, []) :: (74, 24, 0, 2, 10, 30, [421]) :: (77, 2, 0, 1, 1, 0, []) :: (78, 26, 0, 20, 0, 0, []) :: (79, 19, 0, 1, 103, 0, []) :: (82, 2, 0, 2, 1, 0, []) :: (83, 2, 0, 6, 2, 0, []) :: (85, 4, 0, 0, 1, 0, []) :: (86, 24, 0, 2, 9, 27, [420]) :: (89, 2, 0, 1, 1, 0, []) :: (90, 26, 0, 20, 0, 0, []) :: (91, 4, 0, 0, 1, 0, []) :: (92, 24, 0, 2, 11, 33, [422]) :: (95, 2, 0, 1, 1, 0, []) :: (96, 26, 0, 20, 0, 0, []) :: (97, 32, 1, 2, 4, 172, [1179, 1180, 113, 1181]) :: (100, 20, 0, 0, 107, 0, []) :: kX2_runsWith_103
def kX2_runsWith_28 : List mIn := (28, 5, 0, 4, 2, 0, []) :: (30, 4, 0, 0, 1, 0, []) :: (31, 24, 0, 2, 2, 50, [413]) :: (34, 24, 0, 0, 5, 121, [326]) :: (37, 2, 0, 1, 1, 0, []) :: (38, 26, 0, 20, 0, 0, []) :: (39, 0, 1, 0, 0, 0, []) :: (40, 9, 0, 0, 0, 0, []) :: (41, 5, 0, 5, 2, 0, []) :: (43, 43, 0, 0, 43, 0, []) :: kX2_runsWith_43
def kX2_runsWith_22 : List mIn := (22, 4, 0, 0, 1, 0, []) :: (23, 24, 0, 2, 10, 30, [421]) :: (26, 2, 0, 1, 1, 0, []) :: (27, 26, 0, 20, 0, 0, []) :: kX2_runsWith_28
def kX2_runsWith_0 : List mIn := (0, 4, 0, 0, 1, 0, []) :: (1, 24, 0, 2, 9, 27, [420]) :: (4, 2, 0, 1, 1, 0, []) :: (5, 26, 0, 20, 0, 0, []) :: (6, 0, (-1), 0, 0, 0, []) :: (7, 19, 0, 1, 22, 0, []) :: (10, 4, 0, 0, 1, 0, []) :: (11, 24, 0, 2, 2, 50, [413]) :: (14, 24, 0, 0, 7, 185, [336]) :: (17, 2, 0, 1, 1, 0, []) :: (18, 26, 0, 20, 0, 0, []) :: (19, 22, 0, 0, 28, 0, []) :: kX2_runsWith_22
def kX2_runsWith : List mIn := kX2_runsWith_0
def TX2_runsWith : Nat → mCal := fun a => match a with
  | 0 => calX0_cellAt
  | 1 => calX9_timeTo
  | 2 => calX2_goesFirst
  | 3 => calX0_tickAt
  | 4 => calX9_runsBy
  | _ => (yX2_runsWith, cX2_runsWith, 8, (some .int), (0, 0, 0, 0))
def calX2_runsWith : mCal := (yX2_runsWith, cX2_runsWith, 8, (some .int), (2, 49, 0, 0))
def cutX2_runsWith : Nat → Option (List Bool) := fun t => mLk t [(43, [true, true, true, true, true, true, false, false])]
theorem okX2_runsWith : mOK (yX2_runsWith.cls, cX2_runsWith, TX2_runsWith, (some .int), (2, 49, 0, 0), 8, mAcf [], mAcf []) kX2_runsWith = true := by decide +kernel
set_option maxRecDepth 100000 in
theorem sfxX2_runsWith_22 : mSfx 22 kX2_runsWith = kX2_runsWith_22 := rfl
theorem cutX2_runsWith_22 : cutX2_runsWith 22 = none := by decide
set_option maxRecDepth 100000 in
theorem sfxX2_runsWith_28 : mSfx 28 kX2_runsWith = kX2_runsWith_28 := rfl
theorem cutX2_runsWith_28 : cutX2_runsWith 28 = none := by decide
set_option maxRecDepth 100000 in
theorem sfxX2_runsWith_43 : mSfx 43 kX2_runsWith = kX2_runsWith_43 := rfl
theorem cutX2_runsWith_43 : cutX2_runsWith 43 = some [true, true, true, true, true, true, false, false] := by decide
set_option maxRecDepth 100000 in
theorem sfxX2_runsWith_103 : mSfx 103 kX2_runsWith = kX2_runsWith_103 := rfl
theorem cutX2_runsWith_103 : cutX2_runsWith 103 = none := by decide
set_option maxRecDepth 100000 in
theorem sfxX2_runsWith_107 : mSfx 107 kX2_runsWith = kX2_runsWith_107 := rfl
theorem cutX2_runsWith_107 : cutX2_runsWith 107 = none := by decide
set_option maxRecDepth 100000 in
theorem sfxX2_runsWith_108 : mSfx 108 kX2_runsWith = kX2_runsWith_108 := rfl
theorem cutX2_runsWith_108 : cutX2_runsWith 108 = none := by decide
set_option maxRecDepth 100000 in
theorem sfxX2_runsWith_142 : mSfx 142 kX2_runsWith = kX2_runsWith_142 := rfl
theorem cutX2_runsWith_142 : cutX2_runsWith 142 = none := by decide
set_option maxRecDepth 100000 in
theorem sfxX2_runsWith_148 : mSfx 148 kX2_runsWith = kX2_runsWith_148 := rfl
theorem cutX2_runsWith_148 : cutX2_runsWith 148 = none := by decide
def kX2_costWith_112 : List mIn := (112, 4, 0, 0, 1, 0, []) :: (113, 24, 0, 2, 3, 54, [414]) :: (116, 4, 0, 0, 1, 0, []) :: (117, 24, 0, 2, 7, 21, [418]) :: (120, 2, 0, 1, 1, 0, []) :: (121, 26, 0, 20, 0, 0, []) :: (122, 4, 0, 0, 1, 0, []) :: (123, 2, 0, 1, 1, 0, []) :: (124, 2, 0, 2, 1, 0, []) :: (125, 2, 0, 3, 1, 0, []) :: (126, 32, 0, 7, 4, 182, [2, 1184, 1186, 26, 113, 1187]) :: (129, 32, 0, 6, 3, 179, [9, 1183, 712, 713, 112, 714]) :: (132, 33, 0, 1, 0, 0, []) :: []
def kX2_costWith_0 : List mIn := (0, 4, 0, 0, 1, 0, []) :: (1, 24, 0, 2, 2, 50, [413]) :: (4, 24, 0, 0, 5, 121, [326]) :: (7, 2, 0, 1, 1, 0, []) :: (8, 26, 0, 20, 0, 0, []) :: (9, 5, 0, 4, 2, 0, []) :: (11, 4, 0, 0, 1, 0, []) :: (12, 24, 0, 2, 2, 50, [413]) :: (15, 2, 0, 1, 1, 0, []) :: (16, 32, 0, 0, 2, 160, [0, 1176, 680, 681, 111, 682]) :: (19, 20, 0, 0, 112, 0, []) :: (22, 2, 0, 3, 1, 0, []) :: (23, 4, 0, 0, 1, 0, []) :: (24, 24, 0, 2, 2, 50, [413]) :: (27, 2, 0, 1, 1, 0, []) :: (28, 2, 0, 4, 2, 0, []) :: (30, 32, 0, 1, 3, 130, [0, 1153, 676, 677, 111, 678]) :: (33, 32, 3, 2, 2, 163, [20, 623, 105, 624]) :: (36, 5, 0, 5, 2, 0, []) :: (38, 2, 0, 5, 2, 0, []) :: (40, 4, 0, 0, 1, 0, []) :: (41, 24, 0, 2, 1, 46, [412]) :: (44, 24, 0, 6, 1, 166, [239]) :: (47, 2, 0, 2, 1, 0, []) :: (48, 26, 0, 20, 0, 0, []) :: (49, 9, 0, 2, 0, 0, []) :: (50, 5, 0, 6, 2, 0, []) :: (52, 2, 0, 6, 2, 0, []) :: (54, 4, 0, 0, 1, 0, []) :: (55, 24, 0, 2, 2, 50, [413]) :: (58, 2, 0, 1, 1, 0, []) :: (59, 2, 0, 4, 2, 0, []) :: (61, 32, 0, 3, 3, 169, [0, 1178, 688, 689, 111, 690]) :: (64, 19, 0, 4, 112, 0, []) :: (67, 2, 0, 2, 1, 0, []) :: (68, 2, 0, 6, 2, 0, []) :: (70, 4, 0, 0, 1, 0, []) :: (71, 24, 0, 2, 5, 15, [416]) :: (74, 2, 0, 1, 1, 0, []) :: (75, 26, 0, 20, 0, 0, []) :: (76, 4, 0, 0, 1, 0, []) :: (77, 24, 0, 2, 6, 18, [417]) :: (80, 2, 0, 1, 1, 0, []) :: (81, 26, 0, 20, 0, 0, []) :: (82, 32, 1, 4, 4, 172, [1179, 1180, 113, 1181]) :: (85, 20, 0, 0, 112, 0, []) :: (88, 4, 0, 0, 1, 0, []) :: (89, 24, 0, 2, 3, 54, [414]) :: (92, 4, 0, 0, 1, 0, []) :: (93, 24, 0, 2, 3, 54, [414]) :: (96, 2, 0, 2, 1, 0, []) :: (97, 2, 0, 5, 2, 0, []) :: (99, 32, 0, 5, 3, 176, [9, 1182, 692, 693, 112, 694]) :: (102, 4, 0, 0, 1, 0, []) :: (103, 24, 0, 2, 8, 24, [419]) :: (106, 2, 0, 1, 1, 0, []) :: (107, 26, 0, 20, 0, 0, []) :: (108, 32, 0, 6, 3, 179, [9, 1183, 712, 713, 112, 714]) :: (111, 33, 0, 1, 0, 0, []) :: kX2_costWith_112
def kX2_costWith : List mIn := kX2_costWith_0
def TX2_costWith : Nat → mCal := fun a => match a with
  | 0 => calX0_isHigh
  | 1 => calX0_cellAt
  | 2 => calX10_apart
  | 3 => calX0_tickAt
  | 4 => calX2_goesFirst
  | 5 => calX9_chanceAt
  | 6 => calX9_price
  | 7 => calX2_runsWith
  | _ => (yX2_costWith, cX2_costWith, 7, (some .int), (0, 0, 0, 0))
def calX2_costWith : mCal := (yX2_costWith, cX2_costWith, 7, (some .int), (3, 76, 0, 0))
def cutX2_costWith : Nat → Option (List Bool) := fun t => mLk t []
theorem okX2_costWith : mOK (yX2_costWith.cls, cX2_costWith, TX2_costWith, (some .int), (3, 76, 0, 0), 7, mAcf [], mAcf []) kX2_costWith = true := by decide +kernel
set_option maxRecDepth 100000 in
theorem sfxX2_costWith_112 : mSfx 112 kX2_costWith = kX2_costWith_112 := rfl
theorem cutX2_costWith_112 : cutX2_costWith 112 = none := by decide
def kX2_topWith_73 : List mIn := (73, 4, 0, 0, 1, 0, []) :: (74, 24, 0, 2, 2, 50, [413]) :: (77, 3, 0, 3, 1, 0, []) :: (78, 2, 0, 5, 2, 0, []) :: (80, 13, 0, 0, 0, 0, []) :: (81, 32, 0, 1, 3, 156, [0, 1189, 716, 717, 111, 718]) :: (84, 33, 0, 2, 0, 0, []) :: []
def kX2_topWith_65 : List mIn := (65, 5, 0, 5, 2, 0, []) :: (67, 8, 1, 6, 0, 0, []) :: (70, 22, 0, 0, 8, 0, []) :: kX2_topWith_73
def kX2_topWith_58 : List mIn := (58, 2, 0, 5, 2, 0, []) :: (60, 2, 0, 7, 2, 0, []) :: (62, 40, 0, 0, 0, 151, [1188, 656, 121, 657]) :: kX2_topWith_65
def kX2_topWith_8 : List mIn := (8, 2, 0, 6, 2, 0, []) :: (10, 4, 0, 0, 1, 0, []) :: (11, 24, 0, 2, 2, 50, [413]) :: (14, 24, 0, 0, 0, 67, [315]) :: (17, 19, 0, 3, 73, 0, []) :: (20, 4, 0, 0, 1, 0, []) :: (21, 2, 0, 6, 2, 0, []) :: (23, 2, 0, 1, 1, 0, []) :: (24, 2, 0, 2, 1, 0, []) :: (25, 32, 0, 0, 4, 145, [2, 1172, 1174, 25, 113, 1175]) :: (28, 5, 0, 7, 2, 0, []) :: (30, 3, 0, 3, 1, 0, []) :: (31, 4, 0, 0, 1, 0, []) :: (32, 24, 0, 2, 2, 50, [413]) :: (35, 24, 0, 0, 6, 148, [330]) :: (38, 2, 0, 6, 2, 0, []) :: (40, 26, 0, 20, 0, 0, []) :: (41, 13, 0, 0, 0, 0, []) :: (42, 2, 0, 7, 2, 0, []) :: (44, 13, 0, 0, 0, 0, []) :: (45, 11, 0, 2, 0, 0, []) :: (46, 11, 0, 0, 0, 0, []) :: (47, 6, 0, 3, 1, 0, []) :: (48, 2, 0, 6, 2, 0, []) :: (50, 20, 0, 1, 58, 0, []) :: (53, 2, 0, 7, 2, 0, []) :: (55, 22, 0, 0, 65, 0, []) :: kX2_topWith_58
def kX2_topWith_0 : List mIn := (0, 1, 0, 0, 0, 0, []) :: (1, 6, 0, 3, 1, 0, []) :: (2, 0, 0, 0, 0, 0, []) :: (3, 5, 0, 5, 2, 0, []) :: (5, 0, 0, 0, 0, 0, []) :: (6, 5, 0, 6, 2, 0, []) :: (8, 43, 0, 0, 8, 0, []) :: kX2_topWith_8
def kX2_topWith : List mIn := kX2_topWith_0
def TX2_topWith : Nat → mCal := fun a => match a with
  | 0 => calX2_costWith
  | 1 => calX0_blend
  | _ => (yX2_topWith, cX2_topWith, 8, (some .long), (0, 0, 0, 0))
def calX2_topWith : mCal := (yX2_topWith, cX2_topWith, 8, (some .long), (4, 102, 0, 0))
def cutX2_topWith : Nat → Option (List Bool) := fun t => mLk t [(8, [true, true, true, true, false, true, true, false])]
theorem okX2_topWith : mOK (yX2_topWith.cls, cX2_topWith, TX2_topWith, (some .long), (4, 102, 0, 0), 8, mAcf [], mAcf []) kX2_topWith = true := by decide +kernel
set_option maxRecDepth 100000 in
theorem sfxX2_topWith_8 : mSfx 8 kX2_topWith = kX2_topWith_8 := rfl
theorem cutX2_topWith_8 : cutX2_topWith 8 = some [true, true, true, true, false, true, true, false] := by decide
set_option maxRecDepth 100000 in
theorem sfxX2_topWith_58 : mSfx 58 kX2_topWith = kX2_topWith_58 := rfl
theorem cutX2_topWith_58 : cutX2_topWith 58 = none := by decide
set_option maxRecDepth 100000 in
theorem sfxX2_topWith_65 : mSfx 65 kX2_topWith = kX2_topWith_65 := rfl
theorem cutX2_topWith_65 : cutX2_topWith 65 = none := by decide
set_option maxRecDepth 100000 in
theorem sfxX2_topWith_73 : mSfx 73 kX2_topWith = kX2_topWith_73 := rfl
theorem cutX2_topWith_73 : cutX2_topWith 73 = none := by decide
def kX2_bestCell_111 : List mIn := (111, 2, 0, 2, 1, 0, []) :: (112, 33, 0, 1, 0, 0, []) :: []
def kX2_bestCell_105 : List mIn := (105, 8, 1, 3, 0, 0, []) :: (108, 22, 0, 0, 56, 0, []) :: kX2_bestCell_111
def kX2_bestCell_97 : List mIn := (97, 2, 0, 3, 1, 0, []) :: (98, 5, 0, 2, 1, 0, []) :: (99, 4, 0, 0, 1, 0, []) :: (100, 3, 0, 4, 2, 0, []) :: (102, 25, 0, 2, 15, 90, [426]) :: kX2_bestCell_105
def kX2_bestCell_74 : List mIn := (74, 4, 0, 0, 1, 0, []) :: (75, 2, 0, 1, 1, 0, []) :: (76, 2, 0, 3, 1, 0, []) :: (77, 32, 0, 4, 3, 86, [2, 1168, 1170, 24, 113, 1171]) :: (80, 6, 0, 4, 2, 0, []) :: (82, 2, 0, 2, 1, 0, []) :: (83, 0, (-1), 0, 0, 0, []) :: (84, 19, 0, 0, 97, 0, []) :: (87, 3, 0, 4, 2, 0, []) :: (89, 4, 0, 0, 1, 0, []) :: (90, 24, 0, 2, 15, 90, [426]) :: (93, 21, 0, 3, 105, 0, []) :: kX2_bestCell_97
def kX2_bestCell_56 : List mIn := (56, 2, 0, 3, 1, 0, []) :: (57, 0, 289, 2, 0, 0, []) :: (60, 19, 0, 3, 111, 0, []) :: (63, 4, 0, 0, 1, 0, []) :: (64, 2, 0, 3, 1, 0, []) :: (65, 32, 0, 3, 2, 82, [2, 1158, 1160, 23, 113, 1161]) :: (68, 20, 0, 1, 74, 0, []) :: (71, 22, 0, 0, 105, 0, []) :: kX2_bestCell_74
def kX2_bestCell_48 : List mIn := (48, 4, 0, 0, 1, 0, []) :: (49, 32, 0, 2, 1, 79, [2, 1142, 1144, 21, 113, 1145]) :: (52, 0, (-1), 0, 0, 0, []) :: (53, 5, 0, 2, 1, 0, []) :: (54, 0, 0, 0, 0, 0, []) :: (55, 5, 0, 3, 1, 0, []) :: (56, 43, 0, 0, 56, 0, []) :: kX2_bestCell_56
def kX2_bestCell_46 : List mIn := (46, 0, (-1), 0, 0, 0, []) :: (47, 33, 0, 1, 0, 0, []) :: kX2_bestCell_48
def kX2_bestCell_0 : List mIn := (0, 4, 0, 0, 1, 0, []) :: (1, 24, 0, 2, 1, 46, [412]) :: (4, 24, 0, 6, 0, 58, [235]) :: (7, 4, 0, 0, 1, 0, []) :: (8, 24, 0, 2, 4, 9, [415]) :: (11, 32, 3, 0, 2, 63, [18, 941, 105, 942]) :: (14, 4, 0, 0, 1, 0, []) :: (15, 24, 0, 2, 4, 9, [415]) :: (18, 2, 0, 1, 1, 0, []) :: (19, 0, (-1), 0, 0, 0, []) :: (20, 27, 0, 20, 0, 0, []) :: (21, 4, 0, 0, 1, 0, []) :: (22, 24, 0, 2, 2, 50, [413]) :: (25, 24, 0, 0, 0, 67, [315]) :: (28, 20, 0, 0, 46, 0, []) :: (31, 4, 0, 0, 1, 0, []) :: (32, 24, 0, 2, 3, 54, [414]) :: (35, 4, 0, 0, 1, 0, []) :: (36, 24, 0, 2, 4, 9, [415]) :: (39, 32, 0, 1, 2, 73, [9, 1141, 607, 608, 112, 609]) :: (42, 0, (-1), 0, 0, 0, []) :: (43, 19, 0, 0, 48, 0, []) :: kX2_bestCell_46
def kX2_bestCell : List mIn := kX2_bestCell_0
def TX2_bestCell : Nat → mCal := fun a => match a with
  | 0 => calX10_copyRow
  | 1 => calX9_verdict
  | 2 => calX2_weighOthers
  | 3 => calX2_mayGo
  | 4 => calX2_topWith
  | _ => (yX2_bestCell, cX2_bestCell, 6, (some .int), (0, 0, 0, 0))
def calX2_bestCell : mCal := (yX2_bestCell, cX2_bestCell, 6, (some .int), (5, 129, 0, 0))
def cutX2_bestCell : Nat → Option (List Bool) := fun t => mLk t [(56, [true, true, true, true, false, false])]
theorem okX2_bestCell : mOK (yX2_bestCell.cls, cX2_bestCell, TX2_bestCell, (some .int), (5, 129, 0, 0), 6, mAcf [], mAcf []) kX2_bestCell = true := by decide +kernel
set_option maxRecDepth 100000 in
theorem sfxX2_bestCell_46 : mSfx 46 kX2_bestCell = kX2_bestCell_46 := rfl
theorem cutX2_bestCell_46 : cutX2_bestCell 46 = none := by decide
set_option maxRecDepth 100000 in
theorem sfxX2_bestCell_48 : mSfx 48 kX2_bestCell = kX2_bestCell_48 := rfl
theorem cutX2_bestCell_48 : cutX2_bestCell 48 = none := by decide
set_option maxRecDepth 100000 in
theorem sfxX2_bestCell_56 : mSfx 56 kX2_bestCell = kX2_bestCell_56 := rfl
theorem cutX2_bestCell_56 : cutX2_bestCell 56 = some [true, true, true, true, false, false] := by decide
set_option maxRecDepth 100000 in
theorem sfxX2_bestCell_74 : mSfx 74 kX2_bestCell = kX2_bestCell_74 := rfl
theorem cutX2_bestCell_74 : cutX2_bestCell 74 = none := by decide
set_option maxRecDepth 100000 in
theorem sfxX2_bestCell_97 : mSfx 97 kX2_bestCell = kX2_bestCell_97 := rfl
theorem cutX2_bestCell_97 : cutX2_bestCell 97 = none := by decide
set_option maxRecDepth 100000 in
theorem sfxX2_bestCell_105 : mSfx 105 kX2_bestCell = kX2_bestCell_105 := rfl
theorem cutX2_bestCell_105 : cutX2_bestCell 105 = none := by decide
set_option maxRecDepth 100000 in
theorem sfxX2_bestCell_111 : mSfx 111 kX2_bestCell = kX2_bestCell_111 := rfl
theorem cutX2_bestCell_111 : cutX2_bestCell 111 = none := by decide
def kX2_leastFarFrom_48 : List mIn := (48, 2, 0, 2, 1, 0, []) :: (49, 33, 0, 1, 0, 0, []) :: []
def kX2_leastFarFrom_42 : List mIn := (42, 8, 1, 3, 0, 0, []) :: (45, 22, 0, 0, 4, 0, []) :: kX2_leastFarFrom_48
def kX2_leastFarFrom_36 : List mIn := (36, 2, 0, 3, 1, 0, []) :: (37, 2, 0, 1, 1, 0, []) :: (38, 32, 3, 1, 2, 163, [20, 623, 105, 624]) :: (41, 5, 0, 2, 1, 0, []) :: kX2_leastFarFrom_42
def kX2_leastFarFrom_4 : List mIn := (4, 2, 0, 3, 1, 0, []) :: (5, 0, 289, 2, 0, 0, []) :: (8, 19, 0, 3, 48, 0, []) :: (11, 4, 0, 0, 1, 0, []) :: (12, 24, 0, 2, 0, 42, [411]) :: (15, 2, 0, 3, 1, 0, []) :: (16, 32, 0, 0, 2, 137, [3, 1162, 1163, 1164, 107, 1165]) :: (19, 20, 0, 0, 42, 0, []) :: (22, 2, 0, 2, 1, 0, []) :: (23, 0, (-1), 0, 0, 0, []) :: (24, 19, 0, 0, 36, 0, []) :: (27, 2, 0, 3, 1, 0, []) :: (28, 2, 0, 1, 1, 0, []) :: (29, 32, 3, 1, 2, 163, [20, 623, 105, 624]) :: (32, 2, 0, 2, 1, 0, []) :: (33, 19, 0, 3, 42, 0, []) :: kX2_leastFarFrom_36
def kX2_leastFarFrom_0 : List mIn := (0, 0, (-1), 0, 0, 0, []) :: (1, 5, 0, 2, 1, 0, []) :: (2, 0, 0, 0, 0, 0, []) :: (3, 5, 0, 3, 1, 0, []) :: (4, 43, 0, 0, 4, 0, []) :: kX2_leastFarFrom_4
def kX2_leastFarFrom : List mIn := kX2_leastFarFrom_0
def TX2_leastFarFrom : Nat → mCal := fun a => match a with
  | 0 => calX3_mayHold
  | 1 => calX10_apart
  | _ => (yX2_leastFarFrom, cX2_leastFarFrom, 4, (some .int), (0, 0, 0, 0))
def calX2_leastFarFrom : mCal := (yX2_leastFarFrom, cX2_leastFarFrom, 4, (some .int), (3, 66, 0, 0))
def cutX2_leastFarFrom : Nat → Option (List Bool) := fun t => mLk t [(4, [true, true, true, true])]
theorem okX2_leastFarFrom : mOK (yX2_leastFarFrom.cls, cX2_leastFarFrom, TX2_leastFarFrom, (some .int), (3, 66, 0, 0), 4, mAcf [], mAcf []) kX2_leastFarFrom = true := by decide +kernel
set_option maxRecDepth 100000 in
theorem sfxX2_leastFarFrom_4 : mSfx 4 kX2_leastFarFrom = kX2_leastFarFrom_4 := rfl
theorem cutX2_leastFarFrom_4 : cutX2_leastFarFrom 4 = some [true, true, true, true] := by decide
set_option maxRecDepth 100000 in
theorem sfxX2_leastFarFrom_36 : mSfx 36 kX2_leastFarFrom = kX2_leastFarFrom_36 := rfl
theorem cutX2_leastFarFrom_36 : cutX2_leastFarFrom 36 = none := by decide
set_option maxRecDepth 100000 in
theorem sfxX2_leastFarFrom_42 : mSfx 42 kX2_leastFarFrom = kX2_leastFarFrom_42 := rfl
theorem cutX2_leastFarFrom_42 : cutX2_leastFarFrom 42 = none := by decide
set_option maxRecDepth 100000 in
theorem sfxX2_leastFarFrom_48 : mSfx 48 kX2_leastFarFrom = kX2_leastFarFrom_48 := rfl
theorem cutX2_leastFarFrom_48 : cutX2_leastFarFrom 48 = none := by decide
def kX2_mayReach_43 : List mIn := (43, 33, 0, 4, 0, 0, []) :: []
def kX2_mayReach_42 : List mIn := (42, 0, 0, 0, 0, 0, []) :: kX2_mayReach_43
def kX2_mayReach_0 : List mIn := (0, 4, 0, 0, 1, 0, []) :: (1, 24, 0, 2, 13, 39, [424]) :: (4, 2, 0, 2, 1, 0, []) :: (5, 26, 0, 20, 0, 0, []) :: (6, 0, (-1), 0, 0, 0, []) :: (7, 19, 0, 0, 42, 0, []) :: (10, 4, 0, 0, 1, 0, []) :: (11, 24, 0, 2, 13, 39, [424]) :: (14, 2, 0, 2, 1, 0, []) :: (15, 26, 0, 20, 0, 0, []) :: (16, 4, 0, 0, 1, 0, []) :: (17, 24, 0, 2, 1, 46, [412]) :: (20, 24, 0, 6, 1, 166, [239]) :: (23, 2, 0, 3, 1, 0, []) :: (24, 26, 0, 20, 0, 0, []) :: (25, 9, 0, 2, 0, 0, []) :: (26, 4, 0, 0, 1, 0, []) :: (27, 24, 0, 2, 2, 50, [413]) :: (30, 2, 0, 1, 1, 0, []) :: (31, 2, 0, 2, 1, 0, []) :: (32, 32, 0, 0, 3, 169, [0, 1178, 688, 689, 111, 690]) :: (35, 19, 0, 4, 42, 0, []) :: (38, 0, 1, 0, 0, 0, []) :: (39, 22, 0, 0, 43, 0, []) :: kX2_mayReach_42
def kX2_mayReach : List mIn := kX2_mayReach_0
def TX2_mayReach : Nat → mCal := fun a => match a with
  | 0 => calX0_tickAt
  | _ => (yX2_mayReach, cX2_mayReach, 4, (some .boolean), (0, 0, 0, 0))
def calX2_mayReach : mCal := (yX2_mayReach, cX2_mayReach, 4, (some .boolean), (1, 22, 0, 0))
def cutX2_mayReach : Nat → Option (List Bool) := fun t => mLk t []
theorem okX2_mayReach : mOK (yX2_mayReach.cls, cX2_mayReach, TX2_mayReach, (some .boolean), (1, 22, 0, 0), 4, mAcf [], mAcf []) kX2_mayReach = true := by decide +kernel
set_option maxRecDepth 100000 in
theorem sfxX2_mayReach_42 : mSfx 42 kX2_mayReach = kX2_mayReach_42 := rfl
theorem cutX2_mayReach_42 : cutX2_mayReach 42 = none := by decide
set_option maxRecDepth 100000 in
theorem sfxX2_mayReach_43 : mSfx 43 kX2_mayReach = kX2_mayReach_43 := rfl
theorem cutX2_mayReach_43 : cutX2_mayReach 43 = none := by decide
def kX2_chanceAlone_49 : List mIn := (49, 33, 0, 1, 0, 0, []) :: []
def kX2_chanceAlone_48 : List mIn := (48, 0, 0, 0, 0, 0, []) :: kX2_chanceAlone_49
def kX2_chanceAlone_0 : List mIn := (0, 4, 0, 0, 1, 0, []) :: (1, 24, 0, 2, 2, 50, [413]) :: (4, 24, 0, 0, 5, 121, [326]) :: (7, 2, 0, 1, 1, 0, []) :: (8, 26, 0, 20, 0, 0, []) :: (9, 5, 0, 3, 1, 0, []) :: (10, 4, 0, 0, 1, 0, []) :: (11, 24, 0, 2, 2, 50, [413]) :: (14, 2, 0, 1, 1, 0, []) :: (15, 32, 0, 0, 2, 160, [0, 1176, 680, 681, 111, 682]) :: (18, 20, 0, 0, 48, 0, []) :: (21, 4, 0, 0, 1, 0, []) :: (22, 2, 0, 1, 1, 0, []) :: (23, 2, 0, 3, 1, 0, []) :: (24, 2, 0, 2, 1, 0, []) :: (25, 32, 0, 1, 4, 209, [2, 1221, 1223, 30, 113, 1224]) :: (28, 20, 0, 0, 48, 0, []) :: (31, 4, 0, 0, 1, 0, []) :: (32, 24, 0, 2, 3, 54, [414]) :: (35, 2, 0, 2, 1, 0, []) :: (36, 4, 0, 0, 1, 0, []) :: (37, 24, 0, 2, 13, 39, [424]) :: (40, 2, 0, 3, 1, 0, []) :: (41, 26, 0, 20, 0, 0, []) :: (42, 32, 0, 2, 3, 176, [9, 1182, 692, 693, 112, 694]) :: (45, 22, 0, 0, 49, 0, []) :: kX2_chanceAlone_48
def kX2_chanceAlone : List mIn := kX2_chanceAlone_0
def TX2_chanceAlone : Nat → mCal := fun a => match a with
  | 0 => calX0_isHigh
  | 1 => calX2_mayReach
  | 2 => calX9_chanceAt
  | _ => (yX2_chanceAlone, cX2_chanceAlone, 4, (some .int), (0, 0, 0, 0))
def calX2_chanceAlone : mCal := (yX2_chanceAlone, cX2_chanceAlone, 4, (some .int), (2, 45, 0, 0))
def cutX2_chanceAlone : Nat → Option (List Bool) := fun t => mLk t []
theorem okX2_chanceAlone : mOK (yX2_chanceAlone.cls, cX2_chanceAlone, TX2_chanceAlone, (some .int), (2, 45, 0, 0), 4, mAcf [], mAcf []) kX2_chanceAlone = true := by decide +kernel
set_option maxRecDepth 100000 in
theorem sfxX2_chanceAlone_48 : mSfx 48 kX2_chanceAlone = kX2_chanceAlone_48 := rfl
theorem cutX2_chanceAlone_48 : cutX2_chanceAlone 48 = none := by decide
set_option maxRecDepth 100000 in
theorem sfxX2_chanceAlone_49 : mSfx 49 kX2_chanceAlone = kX2_chanceAlone_49 := rfl
theorem cutX2_chanceAlone_49 : cutX2_chanceAlone 49 = none := by decide
def kX2_runsAlone_52 : List mIn := (52, 4, 0, 0, 1, 0, []) :: (53, 24, 0, 2, 2, 50, [413]) :: (56, 2, 0, 1, 1, 0, []) :: (57, 32, 0, 2, 2, 197, [0, 1216, 705, 706, 111, 707]) :: (60, 33, 0, 1, 0, 0, []) :: []
def kX2_runsAlone_46 : List mIn := (46, 8, 1, 3, 0, 0, []) :: (49, 22, 0, 0, 12, 0, []) :: kX2_runsAlone_52
def kX2_runsAlone_12 : List mIn := (12, 2, 0, 3, 1, 0, []) :: (13, 4, 0, 0, 1, 0, []) :: (14, 24, 0, 2, 2, 50, [413]) :: (17, 24, 0, 0, 7, 185, [336]) :: (20, 2, 0, 1, 1, 0, []) :: (21, 26, 0, 20, 0, 0, []) :: (22, 19, 0, 4, 52, 0, []) :: (25, 4, 0, 0, 1, 0, []) :: (26, 2, 0, 1, 1, 0, []) :: (27, 2, 0, 3, 1, 0, []) :: (28, 2, 0, 2, 1, 0, []) :: (29, 32, 0, 0, 4, 209, [2, 1221, 1223, 30, 113, 1224]) :: (32, 20, 0, 0, 46, 0, []) :: (35, 4, 0, 0, 1, 0, []) :: (36, 24, 0, 2, 3, 54, [414]) :: (39, 2, 0, 1, 1, 0, []) :: (40, 2, 0, 2, 1, 0, []) :: (41, 2, 0, 3, 1, 0, []) :: (42, 32, 0, 1, 4, 107, [9, 1147, 701, 702, 112, 703]) :: (45, 33, 0, 1, 0, 0, []) :: kX2_runsAlone_46
def kX2_runsAlone_0 : List mIn := (0, 4, 0, 0, 1, 0, []) :: (1, 24, 0, 2, 2, 50, [413]) :: (4, 24, 0, 0, 5, 121, [326]) :: (7, 2, 0, 1, 1, 0, []) :: (8, 26, 0, 20, 0, 0, []) :: (9, 0, 1, 0, 0, 0, []) :: (10, 9, 0, 0, 0, 0, []) :: (11, 5, 0, 3, 1, 0, []) :: (12, 43, 0, 0, 12, 0, []) :: kX2_runsAlone_12
def kX2_runsAlone : List mIn := kX2_runsAlone_0
def TX2_runsAlone : Nat → mCal := fun a => match a with
  | 0 => calX2_mayReach
  | 1 => calX9_runsBy
  | 2 => calX0_runsUnstopped
  | _ => (yX2_runsAlone, cX2_runsAlone, 4, (some .int), (0, 0, 0, 0))
def calX2_runsAlone : mCal := (yX2_runsAlone, cX2_runsAlone, 4, (some .int), (2, 49, 0, 0))
def cutX2_runsAlone : Nat → Option (List Bool) := fun t => mLk t [(12, [true, true, true, true])]
theorem okX2_runsAlone : mOK (yX2_runsAlone.cls, cX2_runsAlone, TX2_runsAlone, (some .int), (2, 49, 0, 0), 4, mAcf [], mAcf []) kX2_runsAlone = true := by decide +kernel
set_option maxRecDepth 100000 in
theorem sfxX2_runsAlone_12 : mSfx 12 kX2_runsAlone = kX2_runsAlone_12 := rfl
theorem cutX2_runsAlone_12 : cutX2_runsAlone 12 = some [true, true, true, true] := by decide
set_option maxRecDepth 100000 in
theorem sfxX2_runsAlone_46 : mSfx 46 kX2_runsAlone = kX2_runsAlone_46 := rfl
theorem cutX2_runsAlone_46 : cutX2_runsAlone 46 = none := by decide
set_option maxRecDepth 100000 in
theorem sfxX2_runsAlone_52 : mSfx 52 kX2_runsAlone = kX2_runsAlone_52 := rfl
theorem cutX2_runsAlone_52 : cutX2_runsAlone 52 = none := by decide
def kX2_boundCost_105 : List mIn := (105, 4, 0, 0, 1, 0, []) :: (106, 24, 0, 2, 3, 54, [414]) :: (109, 2, 0, 2, 1, 0, []) :: (110, 2, 0, 3, 1, 0, []) :: (111, 32, 0, 5, 3, 179, [9, 1183, 712, 713, 112, 714]) :: (114, 33, 0, 1, 0, 0, []) :: []
def kX2_boundCost_99 : List mIn := (99, 8, 1, 4, 0, 0, []) :: (102, 22, 0, 0, 54, 0, []) :: kX2_boundCost_105
def kX2_boundCost_54 : List mIn := (54, 2, 0, 4, 2, 0, []) :: (56, 0, 9, 1, 0, 0, []) :: (58, 19, 0, 3, 105, 0, []) :: (61, 4, 0, 0, 1, 0, []) :: (62, 24, 0, 2, 1, 46, [412]) :: (65, 24, 0, 6, 0, 58, [235]) :: (68, 2, 0, 4, 2, 0, []) :: (70, 26, 0, 20, 0, 0, []) :: (71, 0, (-1), 0, 0, 0, []) :: (72, 19, 0, 0, 99, 0, []) :: (75, 2, 0, 2, 1, 0, []) :: (76, 4, 0, 0, 1, 0, []) :: (77, 2, 0, 1, 1, 0, []) :: (78, 2, 0, 4, 2, 0, []) :: (80, 32, 0, 3, 3, 200, [2, 1217, 1219, 29, 113, 1220]) :: (83, 40, 0, 0, 0, 151, [1188, 656, 121, 657]) :: (86, 5, 0, 2, 1, 0, []) :: (87, 2, 0, 3, 1, 0, []) :: (88, 4, 0, 0, 1, 0, []) :: (89, 2, 0, 1, 1, 0, []) :: (90, 2, 0, 4, 2, 0, []) :: (92, 32, 0, 4, 3, 203, [2, 1225, 1227, 31, 113, 1228]) :: (95, 40, 0, 1, 0, 206, [1229, 709, 121, 710]) :: (98, 5, 0, 3, 1, 0, []) :: kX2_boundCost_99
def kX2_boundCost_40 : List mIn := (40, 0, 0, 0, 0, 0, []) :: (41, 5, 0, 2, 1, 0, []) :: (42, 4, 0, 0, 1, 0, []) :: (43, 24, 0, 2, 2, 50, [413]) :: (46, 2, 0, 1, 1, 0, []) :: (47, 32, 0, 2, 2, 197, [0, 1216, 705, 706, 111, 707]) :: (50, 5, 0, 3, 1, 0, []) :: (51, 0, 0, 0, 0, 0, []) :: (52, 5, 0, 4, 2, 0, []) :: (54, 43, 0, 0, 54, 0, []) :: kX2_boundCost_54
def kX2_boundCost_2 : List mIn := (2, 2, 0, 2, 1, 0, []) :: (3, 4, 0, 0, 1, 0, []) :: (4, 24, 0, 2, 2, 50, [413]) :: (7, 24, 0, 0, 7, 185, [336]) :: (10, 2, 0, 1, 1, 0, []) :: (11, 26, 0, 20, 0, 0, []) :: (12, 19, 0, 4, 40, 0, []) :: (15, 4, 0, 0, 1, 0, []) :: (16, 24, 0, 2, 13, 39, [424]) :: (19, 2, 0, 2, 1, 0, []) :: (20, 4, 0, 0, 1, 0, []) :: (21, 4, 0, 0, 1, 0, []) :: (22, 24, 0, 2, 2, 50, [413]) :: (25, 2, 0, 1, 1, 0, []) :: (26, 2, 0, 2, 1, 0, []) :: (27, 32, 0, 0, 3, 130, [0, 1153, 676, 677, 111, 678]) :: (30, 32, 0, 1, 2, 194, [2, 1212, 1214, 28, 113, 1215]) :: (33, 27, 0, 20, 0, 0, []) :: (34, 8, 1, 2, 0, 0, []) :: (37, 22, 0, 0, 2, 0, []) :: kX2_boundCost_40
def kX2_boundCost_0 : List mIn := (0, 0, 1, 0, 0, 0, []) :: (1, 5, 0, 2, 1, 0, []) :: (2, 43, 0, 0, 2, 0, []) :: kX2_boundCost_2
def kX2_boundCost : List mIn := kX2_boundCost_0
def TX2_boundCost : Nat → mCal := fun a => match a with
  | 0 => calX0_cellAt
  | 1 => calX2_leastFarFrom
  | 2 => calX0_runsUnstopped
  | 3 => calX2_chanceAlone
  | 4 => calX2_runsAlone
  | 5 => calX9_price
  | _ => (yX2_boundCost, cX2_boundCost, 5, (some .int), (0, 0, 0, 0))
def calX2_boundCost : mCal := (yX2_boundCost, cX2_boundCost, 5, (some .int), (4, 89, 0, 0))
def cutX2_boundCost : Nat → Option (List Bool) := fun t => mLk t [(2, [true, true, true, false, false]), (54, [true, true, true, true, true])]
theorem okX2_boundCost : mOK (yX2_boundCost.cls, cX2_boundCost, TX2_boundCost, (some .int), (4, 89, 0, 0), 5, mAcf [], mAcf []) kX2_boundCost = true := by decide +kernel
set_option maxRecDepth 100000 in
theorem sfxX2_boundCost_2 : mSfx 2 kX2_boundCost = kX2_boundCost_2 := rfl
theorem cutX2_boundCost_2 : cutX2_boundCost 2 = some [true, true, true, false, false] := by decide
set_option maxRecDepth 100000 in
theorem sfxX2_boundCost_40 : mSfx 40 kX2_boundCost = kX2_boundCost_40 := rfl
theorem cutX2_boundCost_40 : cutX2_boundCost 40 = none := by decide
set_option maxRecDepth 100000 in
theorem sfxX2_boundCost_54 : mSfx 54 kX2_boundCost = kX2_boundCost_54 := rfl
theorem cutX2_boundCost_54 : cutX2_boundCost 54 = some [true, true, true, true, true] := by decide
set_option maxRecDepth 100000 in
theorem sfxX2_boundCost_99 : mSfx 99 kX2_boundCost = kX2_boundCost_99 := rfl
theorem cutX2_boundCost_99 : cutX2_boundCost 99 = none := by decide
set_option maxRecDepth 100000 in
theorem sfxX2_boundCost_105 : mSfx 105 kX2_boundCost = kX2_boundCost_105 := rfl
theorem cutX2_boundCost_105 : cutX2_boundCost 105 = none := by decide
def kX2_boundTop_41 : List mIn := (41, 1, 100, 1, 192, 1230, []) :: (44, 3, 0, 1, 1, 0, []) :: (45, 11, 0, 2, 0, 0, []) :: (46, 33, 0, 2, 0, 0, []) :: []
def kX2_boundTop_4 : List mIn := (4, 2, 0, 3, 1, 0, []) :: (5, 4, 0, 0, 1, 0, []) :: (6, 24, 0, 2, 2, 50, [413]) :: (9, 24, 0, 0, 0, 67, [315]) :: (12, 19, 0, 3, 41, 0, []) :: (15, 3, 0, 1, 1, 0, []) :: (16, 4, 0, 0, 1, 0, []) :: (17, 24, 0, 2, 2, 50, [413]) :: (20, 24, 0, 0, 6, 148, [330]) :: (23, 2, 0, 3, 1, 0, []) :: (24, 26, 0, 20, 0, 0, []) :: (25, 13, 0, 0, 0, 0, []) :: (26, 4, 0, 0, 1, 0, []) :: (27, 2, 0, 3, 1, 0, []) :: (28, 32, 0, 0, 2, 188, [2, 1208, 1210, 27, 113, 1211]) :: (31, 13, 0, 0, 0, 0, []) :: (32, 11, 0, 2, 0, 0, []) :: (33, 11, 0, 0, 0, 0, []) :: (34, 6, 0, 1, 1, 0, []) :: (35, 8, 1, 3, 0, 0, []) :: (38, 22, 0, 0, 4, 0, []) :: kX2_boundTop_41
def kX2_boundTop_0 : List mIn := (0, 1, 0, 0, 0, 0, []) :: (1, 6, 0, 1, 1, 0, []) :: (2, 0, 0, 0, 0, 0, []) :: (3, 5, 0, 3, 1, 0, []) :: (4, 43, 0, 0, 4, 0, []) :: kX2_boundTop_4
def kX2_boundTop : List mIn := kX2_boundTop_0
def TX2_boundTop : Nat → mCal := fun a => match a with
  | 0 => calX2_boundCost
  | _ => (yX2_boundTop, cX2_boundTop, 4, (some .long), (0, 0, 0, 0))
def calX2_boundTop : mCal := (yX2_boundTop, cX2_boundTop, 4, (some .long), (5, 113, 0, 0))
def cutX2_boundTop : Nat → Option (List Bool) := fun t => mLk t [(4, [true, true, false, true])]
theorem okX2_boundTop : mOK (yX2_boundTop.cls, cX2_boundTop, TX2_boundTop, (some .long), (5, 113, 0, 0), 4, mAcf [], mAcf []) kX2_boundTop = true := by decide +kernel
set_option maxRecDepth 100000 in
theorem sfxX2_boundTop_4 : mSfx 4 kX2_boundTop = kX2_boundTop_4 := rfl
theorem cutX2_boundTop_4 : cutX2_boundTop 4 = some [true, true, false, true] := by decide
set_option maxRecDepth 100000 in
theorem sfxX2_boundTop_41 : mSfx 41 kX2_boundTop = kX2_boundTop_41 := rfl
theorem cutX2_boundTop_41 : cutX2_boundTop 41 = none := by decide
