def kX3_hitsOf_20 : List mIn := (20, 33, 0, 1, 0, 0, []) :: []
def kX3_hitsOf_19 : List mIn := (19, 0, 0, 0, 0, 0, []) :: kX3_hitsOf_20
def kX3_hitsOf_0 : List mIn := (0, 2, 0, 1, 1, 0, []) :: (1, 20, 0, 2, 19, 0, []) :: (4, 2, 0, 1, 1, 0, []) :: (5, 0, 6, 1, 0, 0, []) :: (7, 19, 0, 3, 19, 0, []) :: (10, 4, 0, 0, 1, 0, []) :: (11, 24, 0, 3, 7, 15, [186]) :: (14, 2, 0, 1, 1, 0, []) :: (15, 26, 0, 20, 0, 0, []) :: (16, 22, 0, 0, 20, 0, []) :: kX3_hitsOf_19
def TX3_hitsOf : Nat → mCal := fun a => match a with
  | _ => (yX3_hitsOf, cX3_hitsOf, 2, (some .int), (0, 0, 0, 0))
def calX3_hitsOf : mCal := (yX3_hitsOf, cX3_hitsOf, 2, (some .int), (0, 0, 0, 0))
def cutX3_hitsOf : Nat → Option (List Bool) := fun t => mLk t []
theorem okX3_hitsOf : mOK (yX3_hitsOf.cls, cX3_hitsOf, TX3_hitsOf, (some .int), (0, 0, 0, 0), 2, mAcf [], mAcf []) kX3_hitsOf_0 = true := by decide +kernel
theorem sfxX3_hitsOf_19 : mSfx 19 kX3_hitsOf_0 = kX3_hitsOf_19 := rfl
theorem cutX3_hitsOf_19 : cutX3_hitsOf 19 = none := rfl
theorem sfxX3_hitsOf_20 : mSfx 20 kX3_hitsOf_0 = kX3_hitsOf_20 := rfl
theorem cutX3_hitsOf_20 : cutX3_hitsOf 20 = none := rfl
def kX0_wayBy_13 : List mIn := (13, 0, 15, 1, 0, 0, []) :: (15, 9, 0, 3, 0, 0, []) :: (16, 33, 0, 1, 0, 0, []) :: []
def kX0_wayBy_12 : List mIn := (12, 2, 0, 1, 1, 0, []) :: kX0_wayBy_13
def kX0_wayBy_0 : List mIn := (0, 2, 0, 0, 1, 0, []) :: (1, 0, 4, 0, 0, 0, []) :: (2, 19, 0, 1, 12, 0, []) :: (5, 0, 16, 1, 0, 0, []) :: (7, 2, 0, 1, 1, 0, []) :: (8, 9, 0, 1, 0, 0, []) :: (9, 22, 0, 0, 13, 0, []) :: kX0_wayBy_12
def TX0_wayBy : Nat → mCal := fun a => match a with
  | _ => (yX0_wayBy, cX0_wayBy, 2, (some .int), (0, 0, 0, 0))
def calX0_wayBy : mCal := (yX0_wayBy, cX0_wayBy, 2, (some .int), (0, 0, 0, 0))
def cutX0_wayBy : Nat → Option (List Bool) := fun t => mLk t []
theorem okX0_wayBy : mOK (yX0_wayBy.cls, cX0_wayBy, TX0_wayBy, (some .int), (0, 0, 0, 0), 2, mAcf [], mAcf []) kX0_wayBy_0 = true := by decide +kernel
theorem sfxX0_wayBy_12 : mSfx 12 kX0_wayBy_0 = kX0_wayBy_12 := rfl
theorem cutX0_wayBy_12 : cutX0_wayBy 12 = none := rfl
theorem sfxX0_wayBy_13 : mSfx 13 kX0_wayBy_0 = kX0_wayBy_13 := rfl
theorem cutX0_wayBy_13 : cutX0_wayBy 13 = none := rfl
def kX0_airBy_21 : List mIn := (21, 33, 0, 1, 0, 0, []) :: []
def kX0_airBy_20 : List mIn := (20, 2, 0, 1, 1, 0, []) :: kX0_airBy_21
def kX0_airBy_7 : List mIn := (7, 2, 0, 0, 1, 0, []) :: (8, 0, 3, 0, 0, 0, []) :: (9, 19, 0, 1, 20, 0, []) :: (12, 0, 3, 0, 0, 0, []) :: (13, 2, 0, 1, 1, 0, []) :: (14, 40, 0, 0, 0, 64, [655, 656, 121, 657]) :: (17, 22, 0, 0, 21, 0, []) :: kX0_airBy_20
def kX0_airBy_0 : List mIn := (0, 2, 0, 0, 1, 0, []) :: (1, 0, 2, 0, 0, 0, []) :: (2, 19, 0, 1, 7, 0, []) :: (5, 0, 0, 0, 0, 0, []) :: (6, 33, 0, 1, 0, 0, []) :: kX0_airBy_7
def TX0_airBy : Nat → mCal := fun a => match a with
  | _ => (yX0_airBy, cX0_airBy, 2, (some .int), (0, 0, 0, 0))
def calX0_airBy : mCal := (yX0_airBy, cX0_airBy, 2, (some .int), (1, 23, 0, 0))
def cutX0_airBy : Nat → Option (List Bool) := fun t => mLk t []
theorem okX0_airBy : mOK (yX0_airBy.cls, cX0_airBy, TX0_airBy, (some .int), (1, 23, 0, 0), 2, mAcf [], mAcf []) kX0_airBy_0 = true := by decide +kernel
theorem sfxX0_airBy_7 : mSfx 7 kX0_airBy_0 = kX0_airBy_7 := rfl
theorem cutX0_airBy_7 : cutX0_airBy 7 = none := rfl
theorem sfxX0_airBy_20 : mSfx 20 kX0_airBy_0 = kX0_airBy_20 := rfl
theorem cutX0_airBy_20 : cutX0_airBy 20 = none := rfl
theorem sfxX0_airBy_21 : mSfx 21 kX0_airBy_0 = kX0_airBy_21 := rfl
theorem cutX0_airBy_21 : cutX0_airBy 21 = none := rfl
def kX3_liesIn_57 : List mIn := (57, 33, 0, 4, 0, 0, []) :: []
def kX3_liesIn_56 : List mIn := (56, 0, 0, 0, 0, 0, []) :: kX3_liesIn_57
def kX3_liesIn_0 : List mIn := (0, 2, 0, 1, 1, 0, []) :: (1, 0, 8, 1, 0, 0, []) :: (3, 9, 0, 1, 0, 0, []) :: (4, 5, 0, 3, 1, 0, []) :: (5, 2, 0, 2, 1, 0, []) :: (6, 0, 8, 1, 0, 0, []) :: (8, 9, 0, 1, 0, 0, []) :: (9, 5, 0, 4, 2, 0, []) :: (11, 2, 0, 1, 1, 0, []) :: (12, 20, 0, 2, 56, 0, []) :: (15, 2, 0, 1, 1, 0, []) :: (16, 0, 17, 1, 0, 0, []) :: (18, 19, 0, 3, 56, 0, []) :: (21, 2, 0, 2, 1, 0, []) :: (22, 20, 0, 2, 56, 0, []) :: (25, 2, 0, 2, 1, 0, []) :: (26, 0, 17, 1, 0, 0, []) :: (28, 19, 0, 3, 56, 0, []) :: (31, 2, 0, 3, 1, 0, []) :: (32, 2, 0, 3, 1, 0, []) :: (33, 9, 0, 2, 0, 0, []) :: (34, 2, 0, 4, 2, 0, []) :: (36, 2, 0, 4, 2, 0, []) :: (38, 9, 0, 2, 0, 0, []) :: (39, 9, 0, 0, 0, 0, []) :: (40, 4, 0, 0, 1, 0, []) :: (41, 24, 0, 3, 1, 37, [162]) :: (44, 4, 0, 0, 1, 0, []) :: (45, 24, 0, 3, 1, 37, [162]) :: (48, 9, 0, 2, 0, 0, []) :: (49, 19, 0, 4, 56, 0, []) :: (52, 0, 1, 0, 0, 0, []) :: (53, 22, 0, 0, 57, 0, []) :: kX3_liesIn_56
def TX3_liesIn : Nat → mCal := fun a => match a with
  | _ => (yX3_liesIn, cX3_liesIn, 5, (some .boolean), (0, 0, 0, 0))
def calX3_liesIn : mCal := (yX3_liesIn, cX3_liesIn, 5, (some .boolean), (0, 0, 0, 0))
def cutX3_liesIn : Nat → Option (List Bool) := fun t => mLk t []
theorem okX3_liesIn : mOK (yX3_liesIn.cls, cX3_liesIn, TX3_liesIn, (some .boolean), (0, 0, 0, 0), 5, mAcf [], mAcf []) kX3_liesIn_0 = true := by decide +kernel
theorem sfxX3_liesIn_56 : mSfx 56 kX3_liesIn_0 = kX3_liesIn_56 := rfl
theorem cutX3_liesIn_56 : cutX3_liesIn 56 = none := rfl
theorem sfxX3_liesIn_57 : mSfx 57 kX3_liesIn_0 = kX3_liesIn_57 := rfl
theorem cutX3_liesIn_57 : cutX3_liesIn 57 = none := rfl
def kX0_run_162 : List mIn := (162, 33, 0, 0, 0, 0, []) :: []
def kX0_run_112 : List mIn := (112, 9, 0, 0, 0, 0, []) :: (113, 9, 0, 0, 0, 0, []) :: (114, 5, 0, 6, 2, 0, []) :: (116, 4, 0, 0, 1, 0, []) :: (117, 24, 0, 0, 8, 27, [337]) :: (120, 2, 0, 2, 1, 0, []) :: (121, 0, 8, 1, 0, 0, []) :: (123, 9, 0, 2, 0, 0, []) :: (124, 2, 0, 7, 2, 0, []) :: (126, 9, 0, 0, 0, 0, []) :: (127, 0, 1, 0, 0, 0, []) :: (128, 9, 0, 1, 0, 0, []) :: (129, 2, 0, 8, 2, 0, []) :: (131, 27, 0, 20, 0, 0, []) :: (132, 4, 0, 0, 1, 0, []) :: (133, 24, 0, 0, 9, 30, [338]) :: (136, 2, 0, 2, 1, 0, []) :: (137, 0, 8, 1, 0, 0, []) :: (139, 9, 0, 2, 0, 0, []) :: (140, 2, 0, 7, 2, 0, []) :: (142, 9, 0, 0, 0, 0, []) :: (143, 0, 1, 0, 0, 0, []) :: (144, 9, 0, 1, 0, 0, []) :: (145, 2, 0, 6, 2, 0, []) :: (147, 27, 0, 20, 0, 0, []) :: (148, 4, 0, 0, 1, 0, []) :: (149, 24, 0, 0, 7, 24, [333]) :: (152, 2, 0, 2, 1, 0, []) :: (153, 2, 0, 7, 2, 0, []) :: (155, 27, 0, 20, 0, 0, []) :: (156, 8, 1, 7, 0, 0, []) :: (159, 22, 0, 0, 31, 0, []) :: kX0_run_162
def kX0_run_111 : List mIn := (111, 0, 0, 0, 0, 0, []) :: kX0_run_112
def kX0_run_72 : List mIn := (72, 2, 0, 5, 2, 0, []) :: (74, 0, 17, 1, 0, 0, []) :: (76, 9, 0, 2, 0, 0, []) :: (77, 2, 0, 4, 2, 0, []) :: (79, 9, 0, 0, 0, 0, []) :: (80, 5, 0, 8, 2, 0, []) :: (82, 2, 0, 6, 2, 0, []) :: (84, 4, 0, 0, 1, 0, []) :: (85, 24, 0, 0, 4, 15, [323]) :: (88, 2, 0, 2, 1, 0, []) :: (89, 26, 0, 20, 0, 0, []) :: (90, 2, 0, 7, 2, 0, []) :: (92, 4, 0, 0, 1, 0, []) :: (93, 24, 0, 0, 5, 18, [325]) :: (96, 2, 0, 2, 1, 0, []) :: (97, 26, 0, 20, 0, 0, []) :: (98, 19, 0, 2, 111, 0, []) :: (101, 4, 0, 1, 1, 0, []) :: (102, 24, 0, 3, 6, 79, [183]) :: (105, 2, 0, 8, 2, 0, []) :: (107, 26, 0, 20, 0, 0, []) :: (108, 22, 0, 0, 112, 0, []) :: kX0_run_111
def kX0_run_31 : List mIn := (31, 2, 0, 7, 2, 0, []) :: (33, 0, 8, 1, 0, 0, []) :: (35, 19, 0, 4, 162, 0, []) :: (38, 2, 0, 4, 2, 0, []) :: (40, 36, 0, 0, 0, 69, []) :: (43, 2, 0, 3, 1, 0, []) :: (44, 26, 0, 20, 0, 0, []) :: (45, 9, 0, 0, 0, 0, []) :: (46, 5, 0, 4, 2, 0, []) :: (48, 2, 0, 5, 2, 0, []) :: (50, 36, 0, 1, 0, 72, []) :: (53, 2, 0, 3, 1, 0, []) :: (54, 26, 0, 20, 0, 0, []) :: (55, 9, 0, 0, 0, 0, []) :: (56, 5, 0, 5, 2, 0, []) :: (58, 4, 0, 1, 1, 0, []) :: (59, 2, 0, 4, 2, 0, []) :: (61, 2, 0, 5, 2, 0, []) :: (63, 32, 0, 0, 3, 75, [3, 666, 619, 620, 107, 621]) :: (66, 20, 0, 1, 72, 0, []) :: (69, 22, 0, 0, 162, 0, []) :: kX0_run_72
def kX0_run_0 : List mIn := (0, 4, 0, 0, 1, 0, []) :: (1, 24, 0, 0, 3, 9, [321]) :: (4, 2, 0, 2, 1, 0, []) :: (5, 26, 0, 20, 0, 0, []) :: (6, 0, 15, 1, 0, 0, []) :: (8, 9, 0, 3, 0, 0, []) :: (9, 5, 0, 3, 1, 0, []) :: (10, 0, 8, 1, 0, 0, []) :: (12, 5, 0, 4, 2, 0, []) :: (14, 0, 8, 1, 0, 0, []) :: (16, 5, 0, 5, 2, 0, []) :: (18, 0, 0, 0, 0, 0, []) :: (19, 5, 0, 6, 2, 0, []) :: (21, 4, 0, 0, 1, 0, []) :: (22, 24, 0, 0, 7, 24, [333]) :: (25, 2, 0, 2, 1, 0, []) :: (26, 0, 0, 0, 0, 0, []) :: (27, 27, 0, 20, 0, 0, []) :: (28, 0, 1, 0, 0, 0, []) :: (29, 5, 0, 7, 2, 0, []) :: (31, 43, 0, 0, 31, 0, []) :: kX0_run_31
def TX0_run : Nat → mCal := fun a => match a with
  | 0 => calX3_liesIn
  | _ => (yX0_run, cX0_run, 9, none, (0, 0, 0, 0))
def calX0_run : mCal := (yX0_run, cX0_run, 9, none, (1, 24, 0, 0))
def cutX0_run : Nat → Option (List Bool) := fun t => mLk t [(31, [true, true, true, true, true, true, true, true, false])]
theorem okX0_run : mOK (yX0_run.cls, cX0_run, TX0_run, none, (1, 24, 0, 0), 9, mAcf [], mAcf []) kX0_run_0 = true := by decide +kernel
theorem sfxX0_run_31 : mSfx 31 kX0_run_0 = kX0_run_31 := rfl
theorem cutX0_run_31 : cutX0_run 31 = some [true, true, true, true, true, true, true, true, false] := rfl
theorem sfxX0_run_72 : mSfx 72 kX0_run_0 = kX0_run_72 := rfl
theorem cutX0_run_72 : cutX0_run 72 = none := rfl
theorem sfxX0_run_111 : mSfx 111 kX0_run_0 = kX0_run_111 := rfl
theorem cutX0_run_111 : cutX0_run 111 = none := rfl
theorem sfxX0_run_112 : mSfx 112 kX0_run_0 = kX0_run_112 := rfl
theorem cutX0_run_112 : cutX0_run 112 = none := rfl
theorem sfxX0_run_162 : mSfx 162 kX0_run_0 = kX0_run_162 := rfl
theorem cutX0_run_162 : cutX0_run 162 = none := rfl
def kX0_lay_143 : List mIn := (143, 33, 0, 0, 0, 0, []) :: []
def kX0_lay_32 : List mIn := (32, 2, 0, 5, 2, 0, []) :: (34, 4, 0, 0, 1, 0, []) :: (35, 24, 0, 0, 0, 39, [314]) :: (38, 19, 0, 3, 143, 0, []) :: (41, 2, 0, 2, 1, 0, []) :: (42, 0, 8, 1, 0, 0, []) :: (44, 9, 0, 2, 0, 0, []) :: (45, 2, 0, 5, 2, 0, []) :: (47, 9, 0, 0, 0, 0, []) :: (48, 5, 0, 6, 2, 0, []) :: (50, 4, 0, 0, 1, 0, []) :: (51, 24, 0, 0, 3, 9, [321]) :: (54, 2, 0, 5, 2, 0, []) :: (56, 2, 0, 3, 1, 0, []) :: (57, 4, 0, 1, 1, 0, []) :: (58, 24, 0, 3, 8, 49, [189]) :: (61, 2, 0, 6, 2, 0, []) :: (63, 26, 0, 20, 0, 0, []) :: (64, 32, 1, 1, 2, 50, [649, 650, 111, 651]) :: (67, 27, 0, 20, 0, 0, []) :: (68, 4, 0, 0, 1, 0, []) :: (69, 24, 0, 0, 4, 15, [323]) :: (72, 2, 0, 5, 2, 0, []) :: (74, 4, 0, 1, 1, 0, []) :: (75, 24, 0, 3, 9, 54, [192]) :: (78, 2, 0, 6, 2, 0, []) :: (80, 26, 0, 20, 0, 0, []) :: (81, 27, 0, 20, 0, 0, []) :: (82, 4, 0, 0, 1, 0, []) :: (83, 24, 0, 0, 5, 18, [325]) :: (86, 2, 0, 5, 2, 0, []) :: (88, 2, 0, 3, 1, 0, []) :: (89, 4, 0, 1, 1, 0, []) :: (90, 24, 0, 3, 10, 55, [195]) :: (93, 2, 0, 6, 2, 0, []) :: (95, 26, 0, 20, 0, 0, []) :: (96, 32, 1, 2, 2, 56, [652, 653, 111, 654]) :: (99, 27, 0, 20, 0, 0, []) :: (100, 4, 0, 0, 1, 0, []) :: (101, 24, 0, 0, 6, 21, [329]) :: (104, 2, 0, 5, 2, 0, []) :: (106, 4, 0, 1, 1, 0, []) :: (107, 24, 0, 3, 11, 59, [198]) :: (110, 2, 0, 6, 2, 0, []) :: (112, 26, 0, 20, 0, 0, []) :: (113, 27, 0, 20, 0, 0, []) :: (114, 4, 0, 0, 1, 0, []) :: (115, 29, 0, 0, 0, 0, []) :: (116, 24, 0, 0, 1, 43, [318]) :: (119, 4, 0, 0, 1, 0, []) :: (120, 24, 0, 0, 6, 21, [329]) :: (123, 2, 0, 5, 2, 0, []) :: (125, 26, 0, 20, 0, 0, []) :: (126, 9, 0, 0, 0, 0, []) :: (127, 25, 0, 0, 1, 43, [318]) :: (130, 4, 0, 0, 1, 0, []) :: (131, 4, 0, 1, 1, 0, []) :: (132, 2, 0, 5, 2, 0, []) :: (134, 32, 0, 3, 3, 60, [0, 658, 660, 2, 111, 661]) :: (137, 8, 1, 5, 0, 0, []) :: (140, 22, 0, 0, 32, 0, []) :: kX0_lay_143
def kX0_lay_26 : List mIn := (26, 25, 0, 0, 2, 46, [320]) :: (29, 0, 0, 0, 0, 0, []) :: (30, 5, 0, 5, 2, 0, []) :: (32, 43, 0, 0, 32, 0, []) :: kX0_lay_32
def kX0_lay_25 : List mIn := (25, 0, 0, 0, 0, 0, []) :: kX0_lay_26
def kX0_lay_0 : List mIn := (0, 4, 0, 0, 1, 0, []) :: (1, 4, 0, 1, 1, 0, []) :: (2, 2, 0, 2, 1, 0, []) :: (3, 32, 0, 0, 2, 33, [3, 645, 646, 647, 107, 648]) :: (6, 25, 0, 0, 0, 39, [314]) :: (9, 4, 0, 0, 1, 0, []) :: (10, 0, 0, 0, 0, 0, []) :: (11, 25, 0, 0, 1, 43, [318]) :: (14, 4, 0, 0, 1, 0, []) :: (15, 2, 0, 3, 1, 0, []) :: (16, 0, 1, 0, 0, 0, []) :: (17, 19, 0, 1, 25, 0, []) :: (20, 2, 0, 4, 2, 0, []) :: (22, 22, 0, 0, 26, 0, []) :: kX0_lay_25
def TX0_lay : Nat → mCal := fun a => match a with
  | 0 => calX3_hitsOf
  | 1 => calX0_wayBy
  | 2 => calX0_airBy
  | 3 => calX0_run
  | _ => (yX0_lay, cX0_lay, 7, none, (0, 0, 0, 0))
def calX0_lay : mCal := (yX0_lay, cX0_lay, 7, none, (2, 52, 0, 0))
def cutX0_lay : Nat → Option (List Bool) := fun t => mLk t [(32, [true, true, true, true, false, true, false])]
theorem okX0_lay : mOK (yX0_lay.cls, cX0_lay, TX0_lay, none, (2, 52, 0, 0), 7, mAcf [], mAcf []) kX0_lay_0 = true := by decide +kernel
theorem sfxX0_lay_25 : mSfx 25 kX0_lay_0 = kX0_lay_25 := rfl
theorem cutX0_lay_25 : cutX0_lay 25 = none := rfl
theorem sfxX0_lay_26 : mSfx 26 kX0_lay_0 = kX0_lay_26 := rfl
theorem cutX0_lay_26 : cutX0_lay 26 = none := rfl
theorem sfxX0_lay_32 : mSfx 32 kX0_lay_0 = kX0_lay_32 := rfl
theorem cutX0_lay_32 : cutX0_lay 32 = some [true, true, true, true, false, true, false] := rfl
theorem sfxX0_lay_143 : mSfx 143 kX0_lay_0 = kX0_lay_143 := rfl
theorem cutX0_lay_143 : cutX0_lay 143 = none := rfl
def kX0_cellAt_30 : List mIn := (30, 33, 0, 1, 0, 0, []) :: []
def kX0_cellAt_27 : List mIn := (27, 0, 144, 2, 0, 0, []) :: kX0_cellAt_30
def kX0_cellAt_0 : List mIn := (0, 2, 0, 2, 1, 0, []) :: (1, 0, 1, 0, 0, 0, []) :: (2, 19, 0, 2, 27, 0, []) :: (5, 2, 0, 2, 1, 0, []) :: (6, 0, 8, 1, 0, 0, []) :: (8, 19, 0, 4, 27, 0, []) :: (11, 4, 0, 0, 1, 0, []) :: (12, 24, 0, 0, 8, 27, [337]) :: (15, 2, 0, 1, 1, 0, []) :: (16, 0, 8, 1, 0, 0, []) :: (18, 9, 0, 2, 0, 0, []) :: (19, 2, 0, 2, 1, 0, []) :: (20, 9, 0, 0, 0, 0, []) :: (21, 0, 1, 0, 0, 0, []) :: (22, 9, 0, 1, 0, 0, []) :: (23, 26, 0, 20, 0, 0, []) :: (24, 22, 0, 0, 30, 0, []) :: kX0_cellAt_27
def TX0_cellAt : Nat → mCal := fun a => match a with
  | _ => (yX0_cellAt, cX0_cellAt, 3, (some .int), (0, 0, 0, 0))
def calX0_cellAt : mCal := (yX0_cellAt, cX0_cellAt, 3, (some .int), (0, 0, 0, 0))
def cutX0_cellAt : Nat → Option (List Bool) := fun t => mLk t []
theorem okX0_cellAt : mOK (yX0_cellAt.cls, cX0_cellAt, TX0_cellAt, (some .int), (0, 0, 0, 0), 3, mAcf [], mAcf []) kX0_cellAt_0 = true := by decide +kernel
theorem sfxX0_cellAt_27 : mSfx 27 kX0_cellAt_0 = kX0_cellAt_27 := rfl
theorem cutX0_cellAt_27 : cutX0_cellAt 27 = none := rfl
theorem sfxX0_cellAt_30 : mSfx 30 kX0_cellAt_0 = kX0_cellAt_30 := rfl
theorem cutX0_cellAt_30 : cutX0_cellAt 30 = none := rfl
def kX0_tickAt_28 : List mIn := (28, 33, 0, 1, 0, 0, []) :: []
def kX0_tickAt_27 : List mIn := (27, 0, 0, 0, 0, 0, []) :: kX0_tickAt_28
def kX0_tickAt_0 : List mIn := (0, 2, 0, 2, 1, 0, []) :: (1, 0, 1, 0, 0, 0, []) :: (2, 19, 0, 2, 27, 0, []) :: (5, 2, 0, 2, 1, 0, []) :: (6, 0, 8, 1, 0, 0, []) :: (8, 19, 0, 4, 27, 0, []) :: (11, 4, 0, 0, 1, 0, []) :: (12, 24, 0, 0, 9, 30, [338]) :: (15, 2, 0, 1, 1, 0, []) :: (16, 0, 8, 1, 0, 0, []) :: (18, 9, 0, 2, 0, 0, []) :: (19, 2, 0, 2, 1, 0, []) :: (20, 9, 0, 0, 0, 0, []) :: (21, 0, 1, 0, 0, 0, []) :: (22, 9, 0, 1, 0, 0, []) :: (23, 26, 0, 20, 0, 0, []) :: (24, 22, 0, 0, 28, 0, []) :: kX0_tickAt_27
def TX0_tickAt : Nat → mCal := fun a => match a with
  | _ => (yX0_tickAt, cX0_tickAt, 3, (some .int), (0, 0, 0, 0))
def calX0_tickAt : mCal := (yX0_tickAt, cX0_tickAt, 3, (some .int), (0, 0, 0, 0))
def cutX0_tickAt : Nat → Option (List Bool) := fun t => mLk t []
theorem okX0_tickAt : mOK (yX0_tickAt.cls, cX0_tickAt, TX0_tickAt, (some .int), (0, 0, 0, 0), 3, mAcf [], mAcf []) kX0_tickAt_0 = true := by decide +kernel
theorem sfxX0_tickAt_27 : mSfx 27 kX0_tickAt_0 = kX0_tickAt_27 := rfl
theorem cutX0_tickAt_27 : cutX0_tickAt 27 = none := rfl
theorem sfxX0_tickAt_28 : mSfx 28 kX0_tickAt_0 = kX0_tickAt_28 := rfl
theorem cutX0_tickAt_28 : cutX0_tickAt 28 = none := rfl
def kX0_isHigh_30 : List mIn := (30, 33, 0, 4, 0, 0, []) :: []
def kX0_isHigh_29 : List mIn := (29, 0, 0, 0, 0, 0, []) :: kX0_isHigh_30
def kX0_isHigh_0 : List mIn := (0, 4, 0, 0, 1, 0, []) :: (1, 24, 0, 0, 5, 18, [325]) :: (4, 2, 0, 1, 1, 0, []) :: (5, 26, 0, 20, 0, 0, []) :: (6, 0, 1, 0, 0, 0, []) :: (7, 19, 0, 2, 29, 0, []) :: (10, 4, 0, 0, 1, 0, []) :: (11, 24, 0, 0, 5, 18, [325]) :: (14, 2, 0, 1, 1, 0, []) :: (15, 26, 0, 20, 0, 0, []) :: (16, 4, 0, 0, 1, 0, []) :: (17, 24, 0, 0, 7, 24, [333]) :: (20, 2, 0, 1, 1, 0, []) :: (21, 26, 0, 20, 0, 0, []) :: (22, 19, 0, 4, 29, 0, []) :: (25, 0, 1, 0, 0, 0, []) :: (26, 22, 0, 0, 30, 0, []) :: kX0_isHigh_29
def TX0_isHigh : Nat → mCal := fun a => match a with
  | _ => (yX0_isHigh, cX0_isHigh, 2, (some .boolean), (0, 0, 0, 0))
def calX0_isHigh : mCal := (yX0_isHigh, cX0_isHigh, 2, (some .boolean), (0, 0, 0, 0))
def cutX0_isHigh : Nat → Option (List Bool) := fun t => mLk t []
theorem okX0_isHigh : mOK (yX0_isHigh.cls, cX0_isHigh, TX0_isHigh, (some .boolean), (0, 0, 0, 0), 2, mAcf [], mAcf []) kX0_isHigh_0 = true := by decide +kernel
theorem sfxX0_isHigh_29 : mSfx 29 kX0_isHigh_0 = kX0_isHigh_29 := rfl
theorem cutX0_isHigh_29 : cutX0_isHigh 29 = none := rfl
theorem sfxX0_isHigh_30 : mSfx 30 kX0_isHigh_0 = kX0_isHigh_30 := rfl
theorem cutX0_isHigh_30 : cutX0_isHigh 30 = none := rfl
def kX0_runsUnstopped_21 : List mIn := (21, 33, 0, 1, 0, 0, []) :: []
def kX0_runsUnstopped_20 : List mIn := (20, 0, 4, 0, 0, 0, []) :: kX0_runsUnstopped_21
def kX0_runsUnstopped_0 : List mIn := (0, 4, 0, 0, 1, 0, []) :: (1, 24, 0, 0, 5, 18, [325]) :: (4, 2, 0, 1, 1, 0, []) :: (5, 26, 0, 20, 0, 0, []) :: (6, 4, 0, 0, 1, 0, []) :: (7, 24, 0, 0, 7, 24, [333]) :: (10, 2, 0, 1, 1, 0, []) :: (11, 26, 0, 20, 0, 0, []) :: (12, 19, 0, 5, 20, 0, []) :: (15, 0, 6, 1, 0, 0, []) :: (17, 22, 0, 0, 21, 0, []) :: kX0_runsUnstopped_20
def TX0_runsUnstopped : Nat → mCal := fun a => match a with
  | _ => (yX0_runsUnstopped, cX0_runsUnstopped, 2, (some .int), (0, 0, 0, 0))
def calX0_runsUnstopped : mCal := (yX0_runsUnstopped, cX0_runsUnstopped, 2, (some .int), (0, 0, 0, 0))
def cutX0_runsUnstopped : Nat → Option (List Bool) := fun t => mLk t []
theorem okX0_runsUnstopped : mOK (yX0_runsUnstopped.cls, cX0_runsUnstopped, TX0_runsUnstopped, (some .int), (0, 0, 0, 0), 2, mAcf [], mAcf []) kX0_runsUnstopped_0 = true := by decide +kernel
theorem sfxX0_runsUnstopped_20 : mSfx 20 kX0_runsUnstopped_0 = kX0_runsUnstopped_20 := rfl
theorem cutX0_runsUnstopped_20 : cutX0_runsUnstopped 20 = none := rfl
theorem sfxX0_runsUnstopped_21 : mSfx 21 kX0_runsUnstopped_0 = kX0_runsUnstopped_21 := rfl
theorem cutX0_runsUnstopped_21 : cutX0_runsUnstopped 21 = none := rfl
def kX0_hitAt_33 : List mIn := (33, 0, 0, 0, 0, 0, []) :: (34, 33, 0, 1, 0, 0, []) :: []
def kX0_hitAt_27 : List mIn := (27, 8, 1, 3, 0, 0, []) :: (30, 22, 0, 0, 4, 0, []) :: kX0_hitAt_33
def kX0_hitAt_4 : List mIn := (4, 2, 0, 3, 1, 0, []) :: (5, 4, 0, 0, 1, 0, []) :: (6, 24, 0, 0, 0, 39, [314]) :: (9, 19, 0, 3, 33, 0, []) :: (12, 2, 0, 2, 1, 0, []) :: (13, 4, 0, 0, 1, 0, []) :: (14, 24, 0, 0, 6, 21, [329]) :: (17, 2, 0, 3, 1, 0, []) :: (18, 26, 0, 20, 0, 0, []) :: (19, 9, 0, 1, 0, 0, []) :: (20, 5, 0, 2, 1, 0, []) :: (21, 2, 0, 2, 1, 0, []) :: (22, 20, 0, 3, 27, 0, []) :: (25, 2, 0, 3, 1, 0, []) :: (26, 33, 0, 1, 0, 0, []) :: kX0_hitAt_27
def kX0_hitAt_0 : List mIn := (0, 2, 0, 1, 1, 0, []) :: (1, 5, 0, 2, 1, 0, []) :: (2, 0, 0, 0, 0, 0, []) :: (3, 5, 0, 3, 1, 0, []) :: (4, 43, 0, 0, 4, 0, []) :: kX0_hitAt_4
def TX0_hitAt : Nat → mCal := fun a => match a with
  | _ => (yX0_hitAt, cX0_hitAt, 4, (some .int), (0, 0, 0, 0))
def calX0_hitAt : mCal := (yX0_hitAt, cX0_hitAt, 4, (some .int), (0, 0, 0, 0))
def cutX0_hitAt : Nat → Option (List Bool) := fun t => mLk t [(4, [true, false, true, true])]
theorem okX0_hitAt : mOK (yX0_hitAt.cls, cX0_hitAt, TX0_hitAt, (some .int), (0, 0, 0, 0), 4, mAcf [], mAcf []) kX0_hitAt_0 = true := by decide +kernel
theorem sfxX0_hitAt_4 : mSfx 4 kX0_hitAt_0 = kX0_hitAt_4 := rfl
theorem cutX0_hitAt_4 : cutX0_hitAt 4 = some [true, false, true, true] := rfl
theorem sfxX0_hitAt_27 : mSfx 27 kX0_hitAt_0 = kX0_hitAt_27 := rfl
theorem cutX0_hitAt_27 : cutX0_hitAt 27 = none := rfl
theorem sfxX0_hitAt_33 : mSfx 33 kX0_hitAt_0 = kX0_hitAt_33 := rfl
theorem cutX0_hitAt_33 : cutX0_hitAt 33 = none := rfl
def kX0_blend_0 : List mIn := (0, 0, 100, 1, 0, 0, []) :: (2, 4, 0, 0, 1, 0, []) :: (3, 24, 0, 0, 2, 46, [320]) :: (6, 9, 0, 1, 0, 0, []) :: (7, 13, 0, 0, 0, 0, []) :: (8, 3, 0, 1, 1, 0, []) :: (9, 11, 0, 2, 0, 0, []) :: (10, 4, 0, 0, 1, 0, []) :: (11, 24, 0, 0, 2, 46, [320]) :: (14, 13, 0, 0, 0, 0, []) :: (15, 3, 0, 3, 1, 0, []) :: (16, 11, 0, 2, 0, 0, []) :: (17, 4, 0, 0, 1, 0, []) :: (18, 24, 0, 0, 1, 43, [318]) :: (21, 13, 0, 0, 0, 0, []) :: (22, 11, 0, 2, 0, 0, []) :: (23, 11, 0, 0, 0, 0, []) :: (24, 33, 0, 2, 0, 0, []) :: []
def TX0_blend : Nat → mCal := fun a => match a with
  | _ => (yX0_blend, cX0_blend, 5, (some .long), (0, 0, 0, 0))
def calX0_blend : mCal := (yX0_blend, cX0_blend, 5, (some .long), (0, 0, 0, 0))
def cutX0_blend : Nat → Option (List Bool) := fun t => mLk t []
theorem okX0_blend : mOK (yX0_blend.cls, cX0_blend, TX0_blend, (some .long), (0, 0, 0, 0), 5, mAcf [], mAcf []) kX0_blend_0 = true := by decide +kernel
def kX0_meanBase_0 : List mIn := (0, 1, 10000, 1, 82, 1100, []) :: (3, 4, 0, 0, 1, 0, []) :: (4, 24, 0, 0, 1, 43, [318]) :: (7, 13, 0, 0, 0, 0, []) :: (8, 11, 0, 2, 0, 0, []) :: (9, 33, 0, 2, 0, 0, []) :: []
def TX0_meanBase : Nat → mCal := fun a => match a with
  | _ => (yX0_meanBase, cX0_meanBase, 1, (some .long), (0, 0, 0, 0))
def calX0_meanBase : mCal := (yX0_meanBase, cX0_meanBase, 1, (some .long), (0, 0, 0, 0))
def cutX0_meanBase : Nat → Option (List Bool) := fun t => mLk t []
theorem okX0_meanBase : mOK (yX0_meanBase.cls, cX0_meanBase, TX0_meanBase, (some .long), (0, 0, 0, 0), 1, mAcf [], mAcf []) kX0_meanBase_0 = true := by decide +kernel
def kX10_copyRow_0 : List mIn := (0, 4, 0, 0, 1, 0, []) :: (1, 0, 0, 0, 0, 0, []) :: (2, 4, 0, 1, 1, 0, []) :: (3, 0, 0, 0, 0, 0, []) :: (4, 4, 0, 0, 1, 0, []) :: (5, 28, 0, 0, 0, 0, []) :: (6, 4, 0, 1, 1, 0, []) :: (7, 28, 0, 0, 0, 0, []) :: (8, 40, 0, 1, 0, 343, [943, 709, 121, 710]) :: (11, 41, 0, 0, 0, 447, [944, 946, 945, 126]) :: (14, 33, 0, 0, 0, 0, []) :: []
def TX10_copyRow : Nat → mCal := fun a => match a with
  | _ => (yX10_copyRow, cX10_copyRow, 2, none, (0, 0, 0, 0))
def calX10_copyRow : mCal := (yX10_copyRow, cX10_copyRow, 2, none, (1, 60, 0, 0))
def cutX10_copyRow : Nat → Option (List Bool) := fun t => mLk t []
theorem okX10_copyRow : mOK (yX10_copyRow.cls, cX10_copyRow, TX10_copyRow, none, (1, 60, 0, 0), 2, mAcf [], mAcf []) kX10_copyRow_0 = true := by decide +kernel
def kX1_copyFrom_0 : List mIn := (0, 4, 0, 0, 1, 0, []) :: (1, 4, 0, 1, 1, 0, []) :: (2, 24, 0, 1, 0, 18, [274]) :: (5, 25, 0, 1, 0, 18, [274]) :: (8, 4, 0, 0, 1, 0, []) :: (9, 4, 0, 1, 1, 0, []) :: (10, 24, 0, 1, 1, 22, [276]) :: (13, 25, 0, 1, 1, 22, [276]) :: (16, 4, 0, 0, 1, 0, []) :: (17, 4, 0, 1, 1, 0, []) :: (18, 24, 0, 1, 2, 25, [278]) :: (21, 25, 0, 1, 2, 25, [278]) :: (24, 4, 0, 1, 1, 0, []) :: (25, 24, 0, 1, 3, 9, [280]) :: (28, 4, 0, 0, 1, 0, []) :: (29, 24, 0, 1, 3, 9, [280]) :: (32, 32, 3, 0, 2, 29, [25, 941, 105, 942]) :: (35, 4, 0, 1, 1, 0, []) :: (36, 24, 0, 1, 4, 15, [282]) :: (39, 4, 0, 0, 1, 0, []) :: (40, 24, 0, 1, 4, 15, [282]) :: (43, 32, 3, 0, 2, 29, [25, 941, 105, 942]) :: (46, 33, 0, 0, 0, 0, []) :: []
def TX1_copyFrom : Nat → mCal := fun a => match a with
  | 0 => calX10_copyRow
  | _ => (yX1_copyFrom, cX1_copyFrom, 2, none, (0, 0, 0, 0))
def calX1_copyFrom : mCal := (yX1_copyFrom, cX1_copyFrom, 2, none, (2, 81, 0, 0))
def cutX1_copyFrom : Nat → Option (List Bool) := fun t => mLk t []
theorem okX1_copyFrom : mOK (yX1_copyFrom.cls, cX1_copyFrom, TX1_copyFrom, none, (2, 81, 0, 0), 2, mAcf [], mAcf []) kX1_copyFrom_0 = true := by decide +kernel
def kJ7_fill_53178_20 : List mIn := (20, 33, 0, 0, 0, 0, []) :: []
def kJ7_fill_53178_5 : List mIn := (5, 2, 0, 2, 1, 0, []) :: (6, 2, 0, 3, 1, 0, []) :: (7, 19, 0, 3, 20, 0, []) :: (10, 4, 0, 0, 1, 0, []) :: (11, 2, 0, 2, 1, 0, []) :: (12, 2, 0, 1, 1, 0, []) :: (13, 27, 0, 20, 0, 0, []) :: (14, 8, 1, 2, 0, 0, []) :: (17, 22, 0, 0, 5, 0, []) :: kJ7_fill_53178_20
def kJ7_fill_53178_0 : List mIn := (0, 0, 0, 0, 0, 0, []) :: (1, 5, 0, 2, 1, 0, []) :: (2, 4, 0, 0, 1, 0, []) :: (3, 28, 0, 0, 0, 0, []) :: (4, 5, 0, 3, 1, 0, []) :: (5, 43, 0, 0, 5, 0, []) :: kJ7_fill_53178_5
def TJ7_fill_53178 : Nat → mCal := fun a => match a with
  | _ => (yJ7_fill_53178, cJ7_fill_53178, 4, none, (0, 0, 0, 0))
def calJ7_fill_53178 : mCal := (yJ7_fill_53178, cJ7_fill_53178, 4, none, (0, 0, 0, 0))
def cutJ7_fill_53178 : Nat → Option (List Bool) := fun t => mLk t [(5, [true, true, true, true])]
theorem okJ7_fill_53178 : mOK (yJ7_fill_53178.cls, cJ7_fill_53178, TJ7_fill_53178, none, (0, 0, 0, 0), 4, mAcf [], mAcf []) kJ7_fill_53178_0 = true := by decide +kernel
theorem sfxJ7_fill_53178_5 : mSfx 5 kJ7_fill_53178_0 = kJ7_fill_53178_5 := rfl
theorem cutJ7_fill_53178_5 : cutJ7_fill_53178 5 = some [true, true, true, true] := rfl
theorem sfxJ7_fill_53178_20 : mSfx 20 kJ7_fill_53178_0 = kJ7_fill_53178_20 := rfl
theorem cutJ7_fill_53178_20 : cutJ7_fill_53178 20 = none := rfl
def kX1_forget_0 : List mIn := (0, 4, 0, 0, 1, 0, []) :: (1, 24, 0, 1, 3, 9, [280]) :: (4, 0, 0, 0, 0, 0, []) :: (5, 32, 1, 0, 2, 33, [955, 157, 108, 158]) :: (8, 4, 0, 0, 1, 0, []) :: (9, 24, 0, 1, 4, 15, [282]) :: (12, 0, 0, 0, 0, 0, []) :: (13, 32, 1, 0, 2, 33, [955, 157, 108, 158]) :: (16, 33, 0, 0, 0, 0, []) :: []
def TX1_forget : Nat → mCal := fun a => match a with
  | 0 => calJ7_fill_53178
  | _ => (yX1_forget, cX1_forget, 1, none, (0, 0, 0, 0))
def calX1_forget : mCal := (yX1_forget, cX1_forget, 1, none, (1, 23, 0, 0))
def cutX1_forget : Nat → Option (List Bool) := fun t => mLk t []
theorem okX1_forget : mOK (yX1_forget.cls, cX1_forget, TX1_forget, none, (1, 23, 0, 0), 1, mAcf [], mAcf []) kX1_forget_0 = true := by decide +kernel
def kX1_note_45 : List mIn := (45, 9, 0, 0, 0, 0, []) :: (46, 27, 0, 20, 0, 0, []) :: (47, 4, 0, 0, 1, 0, []) :: (48, 24, 0, 1, 4, 15, [282]) :: (51, 0, 3, 0, 0, 0, []) :: (52, 30, 0, 0, 0, 0, []) :: (53, 26, 0, 20, 0, 0, []) :: (54, 0, 1, 0, 0, 0, []) :: (55, 9, 0, 0, 0, 0, []) :: (56, 27, 0, 20, 0, 0, []) :: (57, 33, 0, 0, 0, 0, []) :: []
def kX1_note_44 : List mIn := (44, 0, 0, 0, 0, 0, []) :: kX1_note_45
def kX1_note_26 : List mIn := (26, 9, 0, 0, 0, 0, []) :: (27, 27, 0, 20, 0, 0, []) :: (28, 4, 0, 0, 1, 0, []) :: (29, 24, 0, 1, 4, 15, [282]) :: (32, 0, 2, 0, 0, 0, []) :: (33, 30, 0, 0, 0, 0, []) :: (34, 26, 0, 20, 0, 0, []) :: (35, 2, 0, 1, 1, 0, []) :: (36, 0, 4, 0, 0, 0, []) :: (37, 19, 0, 2, 44, 0, []) :: (40, 0, 1, 0, 0, 0, []) :: (41, 22, 0, 0, 45, 0, []) :: kX1_note_44
def kX1_note_25 : List mIn := (25, 0, 0, 0, 0, 0, []) :: kX1_note_26
def kX1_note_0 : List mIn := (0, 4, 0, 0, 1, 0, []) :: (1, 24, 0, 1, 4, 15, [282]) :: (4, 0, 0, 0, 0, 0, []) :: (5, 30, 0, 0, 0, 0, []) :: (6, 26, 0, 20, 0, 0, []) :: (7, 2, 0, 1, 1, 0, []) :: (8, 9, 0, 0, 0, 0, []) :: (9, 27, 0, 20, 0, 0, []) :: (10, 4, 0, 0, 1, 0, []) :: (11, 24, 0, 1, 4, 15, [282]) :: (14, 0, 1, 0, 0, 0, []) :: (15, 30, 0, 0, 0, 0, []) :: (16, 26, 0, 20, 0, 0, []) :: (17, 2, 0, 2, 1, 0, []) :: (18, 20, 0, 0, 25, 0, []) :: (21, 0, 1, 0, 0, 0, []) :: (22, 22, 0, 0, 26, 0, []) :: kX1_note_25
def TX1_note : Nat → mCal := fun a => match a with
  | _ => (yX1_note, cX1_note, 3, none, (0, 0, 0, 0))
def calX1_note : mCal := (yX1_note, cX1_note, 3, none, (0, 0, 0, 0))
def cutX1_note : Nat → Option (List Bool) := fun t => mLk t []
theorem okX1_note : mOK (yX1_note.cls, cX1_note, TX1_note, none, (0, 0, 0, 0), 3, mAcf [], mAcf []) kX1_note_0 = true := by decide +kernel
theorem sfxX1_note_25 : mSfx 25 kX1_note_0 = kX1_note_25 := rfl
theorem cutX1_note_25 : cutX1_note 25 = none := rfl
theorem sfxX1_note_26 : mSfx 26 kX1_note_0 = kX1_note_26 := rfl
theorem cutX1_note_26 : cutX1_note 26 = none := rfl
theorem sfxX1_note_44 : mSfx 44 kX1_note_0 = kX1_note_44 := rfl
theorem cutX1_note_44 : cutX1_note 44 = none := rfl
theorem sfxX1_note_45 : mSfx 45 kX1_note_0 = kX1_note_45 := rfl
theorem cutX1_note_45 : cutX1_note 45 = none := rfl
def kX3_liesIn__0 : List mIn := (0, 4, 0, 0, 1, 0, []) :: (1, 2, 0, 1, 1, 0, []) :: (2, 0, 17, 1, 0, 0, []) :: (4, 16, 0, 1, 0, 0, []) :: (5, 2, 0, 1, 1, 0, []) :: (6, 0, 17, 1, 0, 0, []) :: (8, 16, 0, 0, 0, 0, []) :: (9, 32, 0, 0, 3, 62, [3, 618, 619, 620, 107, 621]) :: (12, 33, 0, 4, 0, 0, []) :: []
def TX3_liesIn_ : Nat → mCal := fun a => match a with
  | 0 => calX3_liesIn
  | _ => (yX3_liesIn_, cX3_liesIn_, 2, (some .boolean), (0, 0, 0, 0))
def calX3_liesIn_ : mCal := (yX3_liesIn_, cX3_liesIn_, 2, (some .boolean), (1, 24, 0, 0))
def cutX3_liesIn_ : Nat → Option (List Bool) := fun t => mLk t []
theorem okX3_liesIn_ : mOK (yX3_liesIn_.cls, cX3_liesIn_, TX3_liesIn_, (some .boolean), (1, 24, 0, 0), 2, mAcf [], mAcf []) kX3_liesIn__0 = true := by decide +kernel
def kX10_apart_58 : List mIn := (58, 33, 0, 1, 0, 0, []) :: []
def kX10_apart_56 : List mIn := (56, 2, 0, 5, 2, 0, []) :: kX10_apart_58
def kX10_apart_42 : List mIn := (42, 5, 0, 5, 2, 0, []) :: (44, 2, 0, 4, 2, 0, []) :: (46, 2, 0, 5, 2, 0, []) :: (48, 19, 0, 5, 56, 0, []) :: (51, 2, 0, 4, 2, 0, []) :: (53, 22, 0, 0, 58, 0, []) :: kX10_apart_56
def kX10_apart_41 : List mIn := (41, 2, 0, 3, 1, 0, []) :: kX10_apart_42
def kX10_apart_30 : List mIn := (30, 5, 0, 4, 2, 0, []) :: (32, 2, 0, 3, 1, 0, []) :: (33, 20, 0, 3, 41, 0, []) :: (36, 2, 0, 3, 1, 0, []) :: (37, 10, 0, 0, 0, 0, []) :: (38, 22, 0, 0, 42, 0, []) :: kX10_apart_41
def kX10_apart_29 : List mIn := (29, 2, 0, 2, 1, 0, []) :: kX10_apart_30
def kX10_apart_0 : List mIn := (0, 2, 0, 0, 1, 0, []) :: (1, 0, 17, 1, 0, 0, []) :: (3, 16, 0, 1, 0, 0, []) :: (4, 2, 0, 1, 1, 0, []) :: (5, 0, 17, 1, 0, 0, []) :: (7, 16, 0, 1, 0, 0, []) :: (8, 9, 0, 1, 0, 0, []) :: (9, 5, 0, 2, 1, 0, []) :: (10, 2, 0, 0, 1, 0, []) :: (11, 0, 17, 1, 0, 0, []) :: (13, 16, 0, 0, 0, 0, []) :: (14, 2, 0, 1, 1, 0, []) :: (15, 0, 17, 1, 0, 0, []) :: (17, 16, 0, 0, 0, 0, []) :: (18, 9, 0, 1, 0, 0, []) :: (19, 5, 0, 3, 1, 0, []) :: (20, 2, 0, 2, 1, 0, []) :: (21, 20, 0, 3, 29, 0, []) :: (24, 2, 0, 2, 1, 0, []) :: (25, 10, 0, 0, 0, 0, []) :: (26, 22, 0, 0, 30, 0, []) :: kX10_apart_29
def TX10_apart : Nat → mCal := fun a => match a with
  | _ => (yX10_apart, cX10_apart, 6, (some .int), (0, 0, 0, 0))
def calX10_apart : mCal := (yX10_apart, cX10_apart, 6, (some .int), (0, 0, 0, 0))
def cutX10_apart : Nat → Option (List Bool) := fun t => mLk t []
theorem okX10_apart : mOK (yX10_apart.cls, cX10_apart, TX10_apart, (some .int), (0, 0, 0, 0), 6, mAcf [], mAcf []) kX10_apart_0 = true := by decide +kernel
theorem sfxX10_apart_29 : mSfx 29 kX10_apart_0 = kX10_apart_29 := rfl
theorem cutX10_apart_29 : cutX10_apart 29 = none := rfl
theorem sfxX10_apart_30 : mSfx 30 kX10_apart_0 = kX10_apart_30 := rfl
theorem cutX10_apart_30 : cutX10_apart 30 = none := rfl
theorem sfxX10_apart_41 : mSfx 41 kX10_apart_0 = kX10_apart_41 := rfl
theorem cutX10_apart_41 : cutX10_apart 41 = none := rfl
theorem sfxX10_apart_42 : mSfx 42 kX10_apart_0 = kX10_apart_42 := rfl
theorem cutX10_apart_42 : cutX10_apart 42 = none := rfl
theorem sfxX10_apart_56 : mSfx 56 kX10_apart_0 = kX10_apart_56 := rfl
theorem cutX10_apart_56 : cutX10_apart 56 = none := rfl
theorem sfxX10_apart_58 : mSfx 58 kX10_apart_0 = kX10_apart_58 := rfl
theorem cutX10_apart_58 : cutX10_apart 58 = none := rfl
def kX9_reasonAgainst_79 : List mIn := (79, 33, 0, 1, 0, 0, []) :: []
def kX9_reasonAgainst_78 : List mIn := (78, 0, 0, 0, 0, 0, []) :: kX9_reasonAgainst_79
def kX9_reasonAgainst_63 : List mIn := (63, 2, 0, 3, 1, 0, []) :: (64, 4, 0, 0, 1, 0, []) :: (65, 24, 0, 9, 0, 9, [366]) :: (68, 24, 0, 3, 4, 41, [174]) :: (71, 19, 0, 5, 78, 0, []) :: (74, 0, 4, 0, 0, 0, []) :: (75, 22, 0, 0, 79, 0, []) :: kX9_reasonAgainst_78
def kX9_reasonAgainst_57 : List mIn := (57, 8, 1, 4, 0, 0, []) :: (60, 22, 0, 0, 39, 0, []) :: kX9_reasonAgainst_63
def kX9_reasonAgainst_39 : List mIn := (39, 2, 0, 4, 2, 0, []) :: (41, 2, 0, 2, 1, 0, []) :: (42, 19, 0, 3, 63, 0, []) :: (45, 4, 0, 1, 1, 0, []) :: (46, 2, 0, 4, 2, 0, []) :: (48, 26, 0, 20, 0, 0, []) :: (49, 4, 0, 1, 1, 0, []) :: (50, 2, 0, 2, 1, 0, []) :: (51, 26, 0, 20, 0, 0, []) :: (52, 19, 0, 1, 57, 0, []) :: (55, 0, 3, 0, 0, 0, []) :: (56, 33, 0, 1, 0, 0, []) :: kX9_reasonAgainst_57
def kX9_reasonAgainst_36 : List mIn := (36, 0, 0, 0, 0, 0, []) :: (37, 5, 0, 4, 2, 0, []) :: (39, 43, 0, 0, 39, 0, []) :: kX9_reasonAgainst_39
def kX9_reasonAgainst_15 : List mIn := (15, 4, 0, 1, 1, 0, []) :: (16, 2, 0, 2, 1, 0, []) :: (17, 26, 0, 20, 0, 0, []) :: (18, 0, 144, 2, 0, 0, []) :: (21, 32, 3, 1, 2, 33, [5, 623, 105, 624]) :: (24, 4, 0, 0, 1, 0, []) :: (25, 24, 0, 9, 0, 9, [366]) :: (28, 24, 0, 3, 5, 37, [179]) :: (31, 19, 0, 3, 36, 0, []) :: (34, 0, 2, 0, 0, 0, []) :: (35, 33, 0, 1, 0, 0, []) :: kX9_reasonAgainst_36
def kX9_reasonAgainst_0 : List mIn := (0, 4, 0, 0, 1, 0, []) :: (1, 24, 0, 9, 0, 9, [366]) :: (4, 4, 0, 1, 1, 0, []) :: (5, 2, 0, 2, 1, 0, []) :: (6, 26, 0, 20, 0, 0, []) :: (7, 32, 0, 0, 2, 27, [3, 614, 615, 616, 107, 617]) :: (10, 20, 0, 1, 15, 0, []) :: (13, 0, 1, 0, 0, 0, []) :: (14, 33, 0, 1, 0, 0, []) :: kX9_reasonAgainst_15
def TX9_reasonAgainst : Nat → mCal := fun a => match a with
  | 0 => calX3_liesIn_
  | 1 => calX10_apart
  | _ => (yX9_reasonAgainst, cX9_reasonAgainst, 5, (some .int), (0, 0, 0, 0))
def calX9_reasonAgainst : mCal := (yX9_reasonAgainst, cX9_reasonAgainst, 5, (some .int), (2, 45, 0, 0))
def cutX9_reasonAgainst : Nat → Option (List Bool) := fun t => mLk t [(39, [true, true, true, true, true])]
theorem okX9_reasonAgainst : mOK (yX9_reasonAgainst.cls, cX9_reasonAgainst, TX9_reasonAgainst, (some .int), (2, 45, 0, 0), 5, mAcf [], mAcf []) kX9_reasonAgainst_0 = true := by decide +kernel
theorem sfxX9_reasonAgainst_15 : mSfx 15 kX9_reasonAgainst_0 = kX9_reasonAgainst_15 := rfl
theorem cutX9_reasonAgainst_15 : cutX9_reasonAgainst 15 = none := rfl
theorem sfxX9_reasonAgainst_36 : mSfx 36 kX9_reasonAgainst_0 = kX9_reasonAgainst_36 := rfl
theorem cutX9_reasonAgainst_36 : cutX9_reasonAgainst 36 = none := rfl
theorem sfxX9_reasonAgainst_39 : mSfx 39 kX9_reasonAgainst_0 = kX9_reasonAgainst_39 := rfl
theorem cutX9_reasonAgainst_39 : cutX9_reasonAgainst 39 = some [true, true, true, true, true] := rfl
theorem sfxX9_reasonAgainst_57 : mSfx 57 kX9_reasonAgainst_0 = kX9_reasonAgainst_57 := rfl
theorem cutX9_reasonAgainst_57 : cutX9_reasonAgainst 57 = none := rfl
theorem sfxX9_reasonAgainst_63 : mSfx 63 kX9_reasonAgainst_0 = kX9_reasonAgainst_63 := rfl
theorem cutX9_reasonAgainst_63 : cutX9_reasonAgainst 63 = none := rfl
theorem sfxX9_reasonAgainst_78 : mSfx 78 kX9_reasonAgainst_0 = kX9_reasonAgainst_78 := rfl
theorem cutX9_reasonAgainst_78 : cutX9_reasonAgainst 78 = none := rfl
theorem sfxX9_reasonAgainst_79 : mSfx 79 kX9_reasonAgainst_0 = kX9_reasonAgainst_79 := rfl
theorem cutX9_reasonAgainst_79 : cutX9_reasonAgainst 79 = none := rfl
def kX9_verdict_67 : List mIn := (67, 0, (-1), 0, 0, 0, []) :: (68, 33, 0, 1, 0, 0, []) :: []
def kX9_verdict_61 : List mIn := (61, 8, 1, 3, 0, 0, []) :: (64, 22, 0, 0, 4, 0, []) :: kX9_verdict_67
def kX9_verdict_37 : List mIn := (37, 9, 0, 0, 0, 0, []) :: (38, 5, 0, 2, 1, 0, []) :: (39, 4, 0, 0, 1, 0, []) :: (40, 4, 0, 1, 1, 0, []) :: (41, 2, 0, 3, 1, 0, []) :: (42, 2, 0, 2, 1, 0, []) :: (43, 32, 0, 0, 4, 23, [9, 610, 612, 0, 112, 613]) :: (46, 5, 0, 4, 2, 0, []) :: (48, 2, 0, 4, 2, 0, []) :: (50, 20, 0, 0, 61, 0, []) :: (53, 0, 10, 1, 0, 0, []) :: (55, 2, 0, 3, 1, 0, []) :: (56, 9, 0, 2, 0, 0, []) :: (57, 2, 0, 4, 2, 0, []) :: (59, 9, 0, 0, 0, 0, []) :: (60, 33, 0, 1, 0, 0, []) :: kX9_verdict_61
def kX9_verdict_36 : List mIn := (36, 0, 0, 0, 0, 0, []) :: kX9_verdict_37
def kX9_verdict_20 : List mIn := (20, 2, 0, 2, 1, 0, []) :: (21, 4, 0, 1, 1, 0, []) :: (22, 2, 0, 3, 1, 0, []) :: (23, 26, 0, 20, 0, 0, []) :: (24, 0, 17, 1, 0, 0, []) :: (26, 16, 0, 1, 0, 0, []) :: (27, 0, 8, 1, 0, 0, []) :: (29, 19, 0, 3, 36, 0, []) :: (32, 0, 1, 0, 0, 0, []) :: (33, 22, 0, 0, 37, 0, []) :: kX9_verdict_36
def kX9_verdict_4 : List mIn := (4, 2, 0, 3, 1, 0, []) :: (5, 0, 9, 1, 0, 0, []) :: (7, 19, 0, 3, 67, 0, []) :: (10, 4, 0, 1, 1, 0, []) :: (11, 2, 0, 3, 1, 0, []) :: (12, 26, 0, 20, 0, 0, []) :: (13, 0, (-1), 0, 0, 0, []) :: (14, 19, 0, 1, 20, 0, []) :: (17, 22, 0, 0, 61, 0, []) :: kX9_verdict_20
def kX9_verdict_0 : List mIn := (0, 0, 0, 0, 0, 0, []) :: (1, 5, 0, 2, 1, 0, []) :: (2, 0, 0, 0, 0, 0, []) :: (3, 5, 0, 3, 1, 0, []) :: (4, 43, 0, 0, 4, 0, []) :: kX9_verdict_4
def TX9_verdict : Nat → mCal := fun a => match a with
  | 0 => calX9_reasonAgainst
  | _ => (yX9_verdict, cX9_verdict, 5, (some .int), (0, 0, 0, 0))
def calX9_verdict : mCal := (yX9_verdict, cX9_verdict, 5, (some .int), (3, 69, 0, 0))
def cutX9_verdict : Nat → Option (List Bool) := fun t => mLk t [(4, [true, true, true, true, false])]
theorem okX9_verdict : mOK (yX9_verdict.cls, cX9_verdict, TX9_verdict, (some .int), (3, 69, 0, 0), 5, mAcf [], mAcf []) kX9_verdict_0 = true := by decide +kernel
theorem sfxX9_verdict_4 : mSfx 4 kX9_verdict_0 = kX9_verdict_4 := rfl
theorem cutX9_verdict_4 : cutX9_verdict 4 = some [true, true, true, true, false] := rfl
theorem sfxX9_verdict_20 : mSfx 20 kX9_verdict_0 = kX9_verdict_20 := rfl
theorem cutX9_verdict_20 : cutX9_verdict 20 = none := rfl
theorem sfxX9_verdict_36 : mSfx 36 kX9_verdict_0 = kX9_verdict_36 := rfl
theorem cutX9_verdict_36 : cutX9_verdict 36 = none := rfl
theorem sfxX9_verdict_37 : mSfx 37 kX9_verdict_0 = kX9_verdict_37 := rfl
theorem cutX9_verdict_37 : cutX9_verdict 37 = none := rfl
theorem sfxX9_verdict_61 : mSfx 61 kX9_verdict_0 = kX9_verdict_61 := rfl
theorem cutX9_verdict_61 : cutX9_verdict 61 = none := rfl
theorem sfxX9_verdict_67 : mSfx 67 kX9_verdict_0 = kX9_verdict_67 := rfl
theorem cutX9_verdict_67 : cutX9_verdict 67 = none := rfl
def kX9_firstAt_112 : List mIn := (112, 2, 0, 7, 2, 0, []) :: (114, 33, 0, 1, 0, 0, []) :: []
def kX9_firstAt_106 : List mIn := (106, 8, 1, 9, 0, 0, []) :: (109, 22, 0, 0, 31, 0, []) :: kX9_firstAt_112
def kX9_firstAt_98 : List mIn := (98, 2, 0, 9, 2, 0, []) :: (100, 5, 0, 7, 2, 0, []) :: (102, 2, 0, 10, 2, 0, []) :: (104, 5, 0, 8, 2, 0, []) :: kX9_firstAt_106
def kX9_firstAt_56 : List mIn := (56, 4, 0, 3, 1, 0, []) :: (57, 2, 0, 9, 2, 0, []) :: (59, 26, 0, 20, 0, 0, []) :: (60, 2, 0, 5, 2, 0, []) :: (62, 32, 3, 2, 2, 33, [5, 623, 105, 624]) :: (65, 4, 0, 0, 1, 0, []) :: (66, 24, 0, 9, 1, 15, [367]) :: (69, 24, 0, 6, 1, 98, [238]) :: (72, 2, 0, 9, 2, 0, []) :: (74, 26, 0, 20, 0, 0, []) :: (75, 9, 0, 2, 0, 0, []) :: (76, 5, 0, 10, 2, 0, []) :: (78, 2, 0, 10, 2, 0, []) :: (80, 2, 0, 6, 2, 0, []) :: (82, 19, 0, 4, 106, 0, []) :: (85, 2, 0, 7, 2, 0, []) :: (87, 0, (-1), 0, 0, 0, []) :: (88, 19, 0, 0, 98, 0, []) :: (91, 2, 0, 10, 2, 0, []) :: (93, 2, 0, 8, 2, 0, []) :: (95, 19, 0, 3, 106, 0, []) :: kX9_firstAt_98
def kX9_firstAt_31 : List mIn := (31, 2, 0, 9, 2, 0, []) :: (33, 0, 9, 1, 0, 0, []) :: (35, 19, 0, 3, 112, 0, []) :: (38, 4, 0, 3, 1, 0, []) :: (39, 2, 0, 9, 2, 0, []) :: (41, 26, 0, 20, 0, 0, []) :: (42, 0, (-1), 0, 0, 0, []) :: (43, 19, 0, 0, 106, 0, []) :: (46, 2, 0, 9, 2, 0, []) :: (48, 2, 0, 4, 2, 0, []) :: (50, 19, 0, 1, 56, 0, []) :: (53, 22, 0, 0, 106, 0, []) :: kX9_firstAt_56
def kX9_firstAt_0 : List mIn := (0, 4, 0, 0, 1, 0, []) :: (1, 24, 0, 9, 2, 19, [368]) :: (4, 2, 0, 1, 1, 0, []) :: (5, 2, 0, 2, 1, 0, []) :: (6, 32, 0, 0, 3, 50, [0, 675, 676, 677, 111, 678]) :: (9, 5, 0, 5, 2, 0, []) :: (11, 4, 0, 0, 1, 0, []) :: (12, 24, 0, 9, 2, 19, [368]) :: (15, 2, 0, 1, 1, 0, []) :: (16, 2, 0, 2, 1, 0, []) :: (17, 32, 0, 1, 3, 95, [0, 687, 688, 689, 111, 690]) :: (20, 5, 0, 6, 2, 0, []) :: (22, 0, (-1), 0, 0, 0, []) :: (23, 5, 0, 7, 2, 0, []) :: (25, 0, 0, 0, 0, 0, []) :: (26, 5, 0, 8, 2, 0, []) :: (28, 0, 0, 0, 0, 0, []) :: (29, 5, 0, 9, 2, 0, []) :: (31, 43, 0, 0, 31, 0, []) :: kX9_firstAt_31
def TX9_firstAt : Nat → mCal := fun a => match a with
  | 0 => calX0_cellAt
  | 1 => calX0_tickAt
  | 2 => calX10_apart
  | _ => (yX9_firstAt, cX9_firstAt, 11, (some .int), (0, 0, 0, 0))
def calX9_firstAt : mCal := (yX9_firstAt, cX9_firstAt, 11, (some .int), (1, 25, 0, 0))
def cutX9_firstAt : Nat → Option (List Bool) := fun t => mLk t [(31, [true, false, false, true, true, true, true, true, true, true, false])]
theorem okX9_firstAt : mOK (yX9_firstAt.cls, cX9_firstAt, TX9_firstAt, (some .int), (1, 25, 0, 0), 11, mAcf [], mAcf []) kX9_firstAt_0 = true := by decide +kernel
theorem sfxX9_firstAt_31 : mSfx 31 kX9_firstAt_0 = kX9_firstAt_31 := rfl
theorem cutX9_firstAt_31 : cutX9_firstAt 31 = some [true, false, false, true, true, true, true, true, true, true, false] := rfl
theorem sfxX9_firstAt_56 : mSfx 56 kX9_firstAt_0 = kX9_firstAt_56 := rfl
theorem cutX9_firstAt_56 : cutX9_firstAt 56 = none := rfl
theorem sfxX9_firstAt_98 : mSfx 98 kX9_firstAt_0 = kX9_firstAt_98 := rfl
theorem cutX9_firstAt_98 : cutX9_firstAt 98 = none := rfl
theorem sfxX9_firstAt_106 : mSfx 106 kX9_firstAt_0 = kX9_firstAt_106 := rfl
theorem cutX9_firstAt_106 : cutX9_firstAt 106 = none := rfl
theorem sfxX9_firstAt_112 : mSfx 112 kX9_firstAt_0 = kX9_firstAt_112 := rfl
theorem cutX9_firstAt_112 : cutX9_firstAt 112 = none := rfl
def kX9_findStop_78 : List mIn := (78, 33, 0, 0, 0, 0, []) :: []
def kX9_findStop_72 : List mIn := (72, 8, 1, 4, 0, 0, []) :: (75, 22, 0, 0, 23, 0, []) :: kX9_findStop_78
def kX9_findStop_23 : List mIn := (23, 2, 0, 4, 2, 0, []) :: (25, 4, 0, 0, 1, 0, []) :: (26, 24, 0, 9, 2, 19, [368]) :: (29, 24, 0, 0, 7, 92, [334]) :: (32, 2, 0, 1, 1, 0, []) :: (33, 26, 0, 20, 0, 0, []) :: (34, 19, 0, 4, 78, 0, []) :: (37, 4, 0, 0, 1, 0, []) :: (38, 24, 0, 9, 5, 73, [376]) :: (41, 0, (-1), 0, 0, 0, []) :: (42, 19, 0, 1, 78, 0, []) :: (45, 4, 0, 0, 1, 0, []) :: (46, 4, 0, 0, 1, 0, []) :: (47, 2, 0, 1, 1, 0, []) :: (48, 2, 0, 4, 2, 0, []) :: (50, 4, 0, 2, 1, 0, []) :: (51, 2, 0, 3, 1, 0, []) :: (52, 32, 0, 0, 5, 56, [9, 683, 685, 3, 112, 686]) :: (55, 25, 0, 9, 5, 73, [376]) :: (58, 4, 0, 0, 1, 0, []) :: (59, 24, 0, 9, 5, 73, [376]) :: (62, 0, (-1), 0, 0, 0, []) :: (63, 19, 0, 0, 72, 0, []) :: (66, 4, 0, 0, 1, 0, []) :: (67, 2, 0, 4, 2, 0, []) :: (69, 25, 0, 9, 6, 76, [379]) :: kX9_findStop_72
def kX9_findStop_0 : List mIn := (0, 4, 0, 0, 1, 0, []) :: (1, 0, (-1), 0, 0, 0, []) :: (2, 25, 0, 9, 5, 73, [376]) :: (5, 4, 0, 0, 1, 0, []) :: (6, 0, (-1), 0, 0, 0, []) :: (7, 25, 0, 9, 6, 76, [379]) :: (10, 4, 0, 0, 1, 0, []) :: (11, 24, 0, 9, 2, 19, [368]) :: (14, 24, 0, 0, 5, 44, [327]) :: (17, 2, 0, 1, 1, 0, []) :: (18, 26, 0, 20, 0, 0, []) :: (19, 0, 1, 0, 0, 0, []) :: (20, 9, 0, 0, 0, 0, []) :: (21, 5, 0, 4, 2, 0, []) :: (23, 43, 0, 0, 23, 0, []) :: kX9_findStop_23
def TX9_findStop : Nat → mCal := fun a => match a with
  | 0 => calX9_firstAt
  | _ => (yX9_findStop, cX9_findStop, 5, none, (0, 0, 0, 0))
def calX9_findStop : mCal := (yX9_findStop, cX9_findStop, 5, none, (2, 55, 0, 0))
def cutX9_findStop : Nat → Option (List Bool) := fun t => mLk t [(23, [true, true, true, true, true])]
theorem okX9_findStop : mOK (yX9_findStop.cls, cX9_findStop, TX9_findStop, none, (2, 55, 0, 0), 5, mAcf [], mAcf []) kX9_findStop_0 = true := by decide +kernel
theorem sfxX9_findStop_23 : mSfx 23 kX9_findStop_0 = kX9_findStop_23 := rfl
theorem cutX9_findStop_23 : cutX9_findStop 23 = some [true, true, true, true, true] := rfl
theorem sfxX9_findStop_72 : mSfx 72 kX9_findStop_0 = kX9_findStop_72 := rfl
theorem cutX9_findStop_72 : cutX9_findStop 72 = none := rfl
theorem sfxX9_findStop_78 : mSfx 78 kX9_findStop_0 = kX9_findStop_78 := rfl
theorem cutX9_findStop_78 : cutX9_findStop 78 = none := rfl
def kX9_runsBy_79 : List mIn := (79, 33, 0, 1, 0, 0, []) :: []
def kX9_runsBy_78 : List mIn := (78, 0, 3, 0, 0, 0, []) :: kX9_runsBy_79
def kX9_runsBy_14 : List mIn := (14, 4, 0, 0, 1, 0, []) :: (15, 24, 0, 9, 2, 19, [368]) :: (18, 2, 0, 1, 1, 0, []) :: (19, 2, 0, 3, 1, 0, []) :: (20, 32, 0, 1, 3, 95, [0, 687, 688, 689, 111, 690]) :: (23, 4, 0, 0, 1, 0, []) :: (24, 24, 0, 9, 1, 15, [367]) :: (27, 24, 0, 6, 4, 118, [249]) :: (30, 2, 0, 2, 1, 0, []) :: (31, 26, 0, 20, 0, 0, []) :: (32, 4, 0, 0, 1, 0, []) :: (33, 24, 0, 9, 2, 19, [368]) :: (36, 2, 0, 1, 1, 0, []) :: (37, 2, 0, 3, 1, 0, []) :: (38, 32, 0, 2, 3, 50, [0, 675, 676, 677, 111, 678]) :: (41, 0, 144, 2, 0, 0, []) :: (44, 32, 3, 3, 2, 33, [5, 623, 105, 624]) :: (47, 9, 0, 2, 0, 0, []) :: (48, 9, 0, 0, 0, 0, []) :: (49, 5, 0, 4, 2, 0, []) :: (51, 4, 0, 0, 1, 0, []) :: (52, 24, 0, 9, 0, 9, [366]) :: (55, 24, 0, 3, 2, 121, [167]) :: (58, 20, 0, 5, 78, 0, []) :: (61, 0, 3, 0, 0, 0, []) :: (62, 2, 0, 4, 2, 0, []) :: (64, 4, 0, 0, 1, 0, []) :: (65, 24, 0, 9, 0, 9, [366]) :: (68, 24, 0, 3, 2, 121, [167]) :: (71, 16, 0, 0, 0, 0, []) :: (72, 40, 0, 1, 0, 124, [708, 709, 121, 710]) :: (75, 22, 0, 0, 79, 0, []) :: kX9_runsBy_78
def kX9_runsBy_0 : List mIn := (0, 2, 0, 2, 1, 0, []) :: (1, 0, (-1), 0, 0, 0, []) :: (2, 19, 0, 1, 14, 0, []) :: (5, 4, 0, 0, 1, 0, []) :: (6, 24, 0, 9, 2, 19, [368]) :: (9, 2, 0, 1, 1, 0, []) :: (10, 32, 0, 0, 2, 114, [0, 704, 705, 706, 111, 707]) :: (13, 33, 0, 1, 0, 0, []) :: kX9_runsBy_14
def TX9_runsBy : Nat → mCal := fun a => match a with
  | 0 => calX0_runsUnstopped
  | 1 => calX0_tickAt
  | 2 => calX0_cellAt
  | 3 => calX10_apart
  | _ => (yX9_runsBy, cX9_runsBy, 5, (some .int), (0, 0, 0, 0))
def calX9_runsBy : mCal := (yX9_runsBy, cX9_runsBy, 5, (some .int), (1, 25, 0, 0))
def cutX9_runsBy : Nat → Option (List Bool) := fun t => mLk t []
theorem okX9_runsBy : mOK (yX9_runsBy.cls, cX9_runsBy, TX9_runsBy, (some .int), (1, 25, 0, 0), 5, mAcf [], mAcf []) kX9_runsBy_0 = true := by decide +kernel
theorem sfxX9_runsBy_14 : mSfx 14 kX9_runsBy_0 = kX9_runsBy_14 := rfl
theorem cutX9_runsBy_14 : cutX9_runsBy 14 = none := rfl
theorem sfxX9_runsBy_78 : mSfx 78 kX9_runsBy_0 = kX9_runsBy_78 := rfl
theorem cutX9_runsBy_78 : cutX9_runsBy 78 = none := rfl
theorem sfxX9_runsBy_79 : mSfx 79 kX9_runsBy_0 = kX9_runsBy_79 := rfl
theorem cutX9_runsBy_79 : cutX9_runsBy 79 = none := rfl
def kX9_chanceAt_0 : List mIn := (0, 0, 0, 0, 0, 0, []) :: (1, 4, 0, 0, 1, 0, []) :: (2, 24, 0, 9, 1, 15, [367]) :: (5, 24, 0, 6, 2, 103, [242]) :: (8, 2, 0, 1, 1, 0, []) :: (9, 26, 0, 20, 0, 0, []) :: (10, 4, 0, 0, 1, 0, []) :: (11, 24, 0, 9, 1, 15, [367]) :: (14, 24, 0, 6, 3, 106, [245]) :: (17, 2, 0, 1, 1, 0, []) :: (18, 26, 0, 20, 0, 0, []) :: (19, 2, 0, 2, 1, 0, []) :: (20, 9, 0, 2, 0, 0, []) :: (21, 9, 0, 1, 0, 0, []) :: (22, 40, 0, 0, 0, 109, [695, 656, 121, 657]) :: (25, 33, 0, 1, 0, 0, []) :: []
def TX9_chanceAt : Nat → mCal := fun a => match a with
  | _ => (yX9_chanceAt, cX9_chanceAt, 3, (some .int), (0, 0, 0, 0))
def calX9_chanceAt : mCal := (yX9_chanceAt, cX9_chanceAt, 3, (some .int), (1, 23, 0, 0))
def cutX9_chanceAt : Nat → Option (List Bool) := fun t => mLk t []
theorem okX9_chanceAt : mOK (yX9_chanceAt.cls, cX9_chanceAt, TX9_chanceAt, (some .int), (1, 23, 0, 0), 3, mAcf [], mAcf []) kX9_chanceAt_0 = true := by decide +kernel
def kX9_price_0 : List mIn := (0, 0, 100, 1, 0, 0, []) :: (2, 2, 0, 1, 1, 0, []) :: (3, 9, 0, 1, 0, 0, []) :: (4, 2, 0, 2, 1, 0, []) :: (5, 9, 0, 2, 0, 0, []) :: (6, 4, 0, 0, 1, 0, []) :: (7, 24, 0, 9, 0, 9, [366]) :: (10, 24, 0, 3, 3, 127, [171]) :: (13, 2, 0, 1, 1, 0, []) :: (14, 9, 0, 2, 0, 0, []) :: (15, 9, 0, 1, 0, 0, []) :: (16, 33, 0, 1, 0, 0, []) :: []
def TX9_price : Nat → mCal := fun a => match a with
  | _ => (yX9_price, cX9_price, 3, (some .int), (0, 0, 0, 0))
def calX9_price : mCal := (yX9_price, cX9_price, 3, (some .int), (0, 0, 0, 0))
def cutX9_price : Nat → Option (List Bool) := fun t => mLk t []
theorem okX9_price : mOK (yX9_price.cls, cX9_price, TX9_price, (some .int), (0, 0, 0, 0), 3, mAcf [], mAcf []) kX9_price_0 = true := by decide +kernel
def kX9_weigh_84 : List mIn := (84, 25, 0, 9, 4, 66, [373]) :: (87, 4, 0, 0, 1, 0, []) :: (88, 2, 0, 1, 1, 0, []) :: (89, 4, 0, 2, 1, 0, []) :: (90, 4, 0, 0, 1, 0, []) :: (91, 24, 0, 9, 3, 60, [370]) :: (94, 32, 0, 5, 4, 69, [9, 696, 697, 698, 112, 699]) :: (97, 4, 0, 0, 1, 0, []) :: (98, 4, 0, 0, 1, 0, []) :: (99, 2, 0, 1, 1, 0, []) :: (100, 4, 0, 0, 1, 0, []) :: (101, 24, 0, 9, 5, 73, [376]) :: (104, 4, 0, 0, 1, 0, []) :: (105, 24, 0, 9, 6, 76, [379]) :: (108, 32, 0, 6, 4, 79, [9, 700, 701, 702, 112, 703]) :: (111, 25, 0, 9, 7, 83, [382]) :: (114, 4, 0, 0, 1, 0, []) :: (115, 4, 0, 0, 1, 0, []) :: (116, 4, 0, 0, 1, 0, []) :: (117, 24, 0, 9, 4, 66, [373]) :: (120, 4, 0, 0, 1, 0, []) :: (121, 24, 0, 9, 7, 83, [382]) :: (124, 32, 0, 7, 3, 86, [9, 711, 712, 713, 112, 714]) :: (127, 25, 0, 9, 8, 89, [384]) :: (130, 33, 0, 0, 0, 0, []) :: []
def kX9_weigh_66 : List mIn := (66, 4, 0, 0, 1, 0, []) :: (67, 4, 0, 0, 1, 0, []) :: (68, 24, 0, 9, 3, 60, [370]) :: (71, 4, 0, 2, 1, 0, []) :: (72, 4, 0, 0, 1, 0, []) :: (73, 24, 0, 9, 3, 60, [370]) :: (76, 26, 0, 20, 0, 0, []) :: (77, 2, 0, 3, 1, 0, []) :: (78, 32, 3, 3, 2, 33, [5, 623, 105, 624]) :: (81, 32, 0, 4, 3, 63, [9, 691, 692, 693, 112, 694]) :: kX9_weigh_84
def kX9_weigh_50 : List mIn := (50, 25, 0, 9, 3, 60, [370]) :: (53, 4, 0, 0, 1, 0, []) :: (54, 4, 0, 0, 1, 0, []) :: (55, 24, 0, 9, 3, 60, [370]) :: (58, 0, (-1), 0, 0, 0, []) :: (59, 19, 0, 1, 66, 0, []) :: (62, 0, 0, 0, 0, 0, []) :: (63, 22, 0, 0, 84, 0, []) :: kX9_weigh_66
def kX9_weigh_49 : List mIn := (49, 0, (-1), 0, 0, 0, []) :: kX9_weigh_50
def kX9_weigh_0 : List mIn := (0, 4, 0, 0, 1, 0, []) :: (1, 24, 0, 9, 2, 19, [368]) :: (4, 2, 0, 1, 1, 0, []) :: (5, 4, 0, 0, 1, 0, []) :: (6, 24, 0, 9, 2, 19, [368]) :: (9, 24, 0, 0, 5, 44, [327]) :: (12, 2, 0, 1, 1, 0, []) :: (13, 26, 0, 20, 0, 0, []) :: (14, 32, 0, 0, 3, 50, [0, 675, 676, 677, 111, 678]) :: (17, 5, 0, 3, 1, 0, []) :: (18, 4, 0, 0, 1, 0, []) :: (19, 4, 0, 0, 1, 0, []) :: (20, 24, 0, 9, 2, 19, [368]) :: (23, 2, 0, 1, 1, 0, []) :: (24, 32, 0, 1, 2, 53, [0, 679, 680, 681, 111, 682]) :: (27, 20, 0, 0, 49, 0, []) :: (30, 4, 0, 0, 1, 0, []) :: (31, 2, 0, 1, 1, 0, []) :: (32, 4, 0, 0, 1, 0, []) :: (33, 24, 0, 9, 2, 19, [368]) :: (36, 24, 0, 0, 5, 44, [327]) :: (39, 2, 0, 1, 1, 0, []) :: (40, 26, 0, 20, 0, 0, []) :: (41, 4, 0, 2, 1, 0, []) :: (42, 0, (-1), 0, 0, 0, []) :: (43, 32, 0, 2, 5, 56, [9, 683, 685, 3, 112, 686]) :: (46, 22, 0, 0, 50, 0, []) :: kX9_weigh_49
def TX9_weigh : Nat → mCal := fun a => match a with
  | 0 => calX0_cellAt
  | 1 => calX0_isHigh
  | 2 => calX9_firstAt
  | 3 => calX10_apart
  | 4 => calX9_chanceAt
  | 5 => calX9_findStop
  | 6 => calX9_runsBy
  | 7 => calX9_price
  | _ => (yX9_weigh, cX9_weigh, 4, none, (0, 0, 0, 0))
def calX9_weigh : mCal := (yX9_weigh, cX9_weigh, 4, none, (3, 79, 0, 0))
def cutX9_weigh : Nat → Option (List Bool) := fun t => mLk t []
theorem okX9_weigh : mOK (yX9_weigh.cls, cX9_weigh, TX9_weigh, none, (3, 79, 0, 0), 4, mAcf [], mAcf []) kX9_weigh_0 = true := by decide +kernel
theorem sfxX9_weigh_49 : mSfx 49 kX9_weigh_0 = kX9_weigh_49 := rfl
theorem cutX9_weigh_49 : cutX9_weigh 49 = none := rfl
theorem sfxX9_weigh_50 : mSfx 50 kX9_weigh_0 = kX9_weigh_50 := rfl
theorem cutX9_weigh_50 : cutX9_weigh 50 = none := rfl
theorem sfxX9_weigh_66 : mSfx 66 kX9_weigh_0 = kX9_weigh_66 := rfl
theorem cutX9_weigh_66 : cutX9_weigh 66 = none := rfl
theorem sfxX9_weigh_84 : mSfx 84 kX9_weigh_0 = kX9_weigh_84 := rfl
theorem cutX9_weigh_84 : cutX9_weigh 84 = none := rfl
def kX9_timeTo_0 : List mIn := (0, 2, 0, 2, 1, 0, []) :: (1, 2, 0, 3, 1, 0, []) :: (2, 32, 3, 0, 2, 33, [5, 623, 105, 624]) :: (5, 4, 0, 0, 1, 0, []) :: (6, 24, 0, 9, 1, 15, [367]) :: (9, 24, 0, 6, 1, 98, [238]) :: (12, 2, 0, 1, 1, 0, []) :: (13, 26, 0, 20, 0, 0, []) :: (14, 9, 0, 2, 0, 0, []) :: (15, 33, 0, 1, 0, 0, []) :: []
def TX9_timeTo : Nat → mCal := fun a => match a with
  | 0 => calX10_apart
  | _ => (yX9_timeTo, cX9_timeTo, 4, (some .int), (0, 0, 0, 0))
def calX9_timeTo : mCal := (yX9_timeTo, cX9_timeTo, 4, (some .int), (1, 25, 0, 0))
def cutX9_timeTo : Nat → Option (List Bool) := fun t => mLk t []
theorem okX9_timeTo : mOK (yX9_timeTo.cls, cX9_timeTo, TX9_timeTo, (some .int), (1, 25, 0, 0), 4, mAcf [], mAcf []) kX9_timeTo_0 = true := by decide +kernel
def kX2_timeOf_32 : List mIn := (32, 33, 0, 1, 0, 0, []) :: []
def kX2_timeOf_9 : List mIn := (9, 4, 0, 0, 1, 0, []) :: (10, 24, 0, 2, 3, 54, [414]) :: (13, 2, 0, 1, 1, 0, []) :: (14, 4, 0, 0, 1, 0, []) :: (15, 24, 0, 2, 4, 9, [415]) :: (18, 2, 0, 1, 1, 0, []) :: (19, 26, 0, 20, 0, 0, []) :: (20, 4, 0, 0, 1, 0, []) :: (21, 24, 0, 2, 2, 50, [413]) :: (24, 2, 0, 2, 1, 0, []) :: (25, 2, 0, 3, 1, 0, []) :: (26, 32, 0, 0, 3, 130, [0, 1153, 676, 677, 111, 678]) :: (29, 32, 0, 1, 4, 134, [9, 1154, 1155, 1156, 112, 1157]) :: kX2_timeOf_32
def kX2_timeOf_0 : List mIn := (0, 2, 0, 1, 1, 0, []) :: (1, 0, (-1), 0, 0, 0, []) :: (2, 19, 0, 1, 9, 0, []) :: (5, 0, 0, 0, 0, 0, []) :: (6, 22, 0, 0, 32, 0, []) :: kX2_timeOf_9
def TX2_timeOf : Nat → mCal := fun a => match a with
  | 0 => calX0_cellAt
  | 1 => calX9_timeTo
  | _ => (yX2_timeOf, cX2_timeOf, 4, (some .int), (0, 0, 0, 0))
def calX2_timeOf : mCal := (yX2_timeOf, cX2_timeOf, 4, (some .int), (2, 48, 0, 0))
def cutX2_timeOf : Nat → Option (List Bool) := fun t => mLk t []
theorem okX2_timeOf : mOK (yX2_timeOf.cls, cX2_timeOf, TX2_timeOf, (some .int), (2, 48, 0, 0), 4, mAcf [], mAcf []) kX2_timeOf_0 = true := by decide +kernel
theorem sfxX2_timeOf_9 : mSfx 9 kX2_timeOf_0 = kX2_timeOf_9 := rfl
theorem cutX2_timeOf_9 : cutX2_timeOf 9 = none := rfl
theorem sfxX2_timeOf_32 : mSfx 32 kX2_timeOf_0 = kX2_timeOf_32 := rfl
theorem cutX2_timeOf_32 : cutX2_timeOf 32 = none := rfl
def kX2_weighOthers_246 : List mIn := (246, 33, 0, 0, 0, 0, []) :: []
def kX2_weighOthers_59 : List mIn := (59, 2, 0, 1, 1, 0, []) :: (60, 4, 0, 0, 1, 0, []) :: (61, 24, 0, 2, 2, 50, [413]) :: (64, 24, 0, 0, 0, 67, [315]) :: (67, 19, 0, 3, 246, 0, []) :: (70, 4, 0, 0, 1, 0, []) :: (71, 24, 0, 2, 3, 54, [414]) :: (74, 2, 0, 1, 1, 0, []) :: (75, 4, 0, 0, 1, 0, []) :: (76, 24, 0, 2, 4, 9, [415]) :: (79, 0, (-1), 0, 0, 0, []) :: (80, 32, 0, 0, 4, 97, [9, 1146, 697, 698, 112, 699]) :: (83, 4, 0, 0, 1, 0, []) :: (84, 24, 0, 2, 8, 24, [419]) :: (87, 2, 0, 1, 1, 0, []) :: (88, 4, 0, 0, 1, 0, []) :: (89, 24, 0, 2, 3, 54, [414]) :: (92, 2, 0, 1, 1, 0, []) :: (93, 4, 0, 0, 1, 0, []) :: (94, 24, 0, 2, 3, 54, [414]) :: (97, 24, 0, 9, 5, 101, [375]) :: (100, 4, 0, 0, 1, 0, []) :: (101, 24, 0, 2, 3, 54, [414]) :: (104, 24, 0, 9, 6, 104, [378]) :: (107, 32, 0, 1, 4, 107, [9, 1147, 701, 702, 112, 703]) :: (110, 27, 0, 20, 0, 0, []) :: (111, 4, 0, 0, 1, 0, []) :: (112, 24, 0, 2, 3, 54, [414]) :: (115, 2, 0, 1, 1, 0, []) :: (116, 4, 0, 0, 1, 0, []) :: (117, 24, 0, 2, 4, 9, [415]) :: (120, 32, 0, 2, 3, 111, [9, 1148, 672, 673, 112, 674]) :: (123, 4, 0, 0, 1, 0, []) :: (124, 24, 0, 2, 5, 15, [416]) :: (127, 2, 0, 1, 1, 0, []) :: (128, 4, 0, 0, 1, 0, []) :: (129, 24, 0, 2, 3, 54, [414]) :: (132, 24, 0, 9, 3, 115, [369]) :: (135, 27, 0, 20, 0, 0, []) :: (136, 4, 0, 0, 1, 0, []) :: (137, 24, 0, 2, 7, 21, [418]) :: (140, 2, 0, 1, 1, 0, []) :: (141, 4, 0, 0, 1, 0, []) :: (142, 24, 0, 2, 3, 54, [414]) :: (145, 24, 0, 9, 4, 118, [372]) :: (148, 27, 0, 20, 0, 0, []) :: (149, 4, 0, 0, 1, 0, []) :: (150, 24, 0, 2, 6, 18, [417]) :: (153, 2, 0, 1, 1, 0, []) :: (154, 4, 0, 0, 1, 0, []) :: (155, 4, 0, 0, 1, 0, []) :: (156, 24, 0, 2, 3, 54, [414]) :: (159, 24, 0, 9, 3, 115, [369]) :: (162, 2, 0, 1, 1, 0, []) :: (163, 4, 0, 0, 1, 0, []) :: (164, 24, 0, 2, 2, 50, [413]) :: (167, 24, 0, 0, 5, 121, [326]) :: (170, 2, 0, 1, 1, 0, []) :: (171, 26, 0, 20, 0, 0, []) :: (172, 32, 0, 3, 4, 124, [2, 1149, 1151, 22, 113, 1152]) :: (175, 27, 0, 20, 0, 0, []) :: (176, 4, 0, 0, 1, 0, []) :: (177, 24, 0, 2, 9, 27, [420]) :: (180, 2, 0, 1, 1, 0, []) :: (181, 4, 0, 0, 1, 0, []) :: (182, 24, 0, 2, 3, 54, [414]) :: (185, 24, 0, 9, 5, 101, [375]) :: (188, 27, 0, 20, 0, 0, []) :: (189, 4, 0, 0, 1, 0, []) :: (190, 24, 0, 2, 10, 30, [421]) :: (193, 2, 0, 1, 1, 0, []) :: (194, 4, 0, 0, 1, 0, []) :: (195, 24, 0, 2, 3, 54, [414]) :: (198, 24, 0, 9, 6, 104, [378]) :: (201, 27, 0, 20, 0, 0, []) :: (202, 4, 0, 0, 1, 0, []) :: (203, 24, 0, 2, 11, 33, [422]) :: (206, 2, 0, 1, 1, 0, []) :: (207, 4, 0, 0, 1, 0, []) :: (208, 4, 0, 0, 1, 0, []) :: (209, 24, 0, 2, 3, 54, [414]) :: (212, 24, 0, 9, 5, 101, [375]) :: (215, 2, 0, 1, 1, 0, []) :: (216, 4, 0, 0, 1, 0, []) :: (217, 24, 0, 2, 3, 54, [414]) :: (220, 24, 0, 9, 6, 104, [378]) :: (223, 32, 0, 3, 4, 124, [2, 1149, 1151, 22, 113, 1152]) :: (226, 27, 0, 20, 0, 0, []) :: (227, 4, 0, 0, 1, 0, []) :: (228, 24, 0, 2, 12, 36, [423]) :: (231, 2, 0, 1, 1, 0, []) :: (232, 4, 0, 0, 1, 0, []) :: (233, 24, 0, 2, 3, 54, [414]) :: (236, 24, 0, 9, 7, 127, [381]) :: (239, 27, 0, 20, 0, 0, []) :: (240, 8, 1, 1, 0, 0, []) :: (243, 22, 0, 0, 59, 0, []) :: kX2_weighOthers_246
def kX2_weighOthers_57 : List mIn := (57, 0, 0, 0, 0, 0, []) :: (58, 5, 0, 1, 1, 0, []) :: (59, 43, 0, 0, 59, 0, []) :: kX2_weighOthers_59
def kX2_weighOthers_47 : List mIn := (47, 9, 0, 0, 0, 0, []) :: (48, 25, 0, 2, 14, 94, [425]) :: (51, 8, 1, 1, 0, 0, []) :: (54, 22, 0, 0, 7, 0, []) :: kX2_weighOthers_57
def kX2_weighOthers_46 : List mIn := (46, 0, 0, 0, 0, 0, []) :: kX2_weighOthers_47
def kX2_weighOthers_7 : List mIn := (7, 2, 0, 1, 1, 0, []) :: (8, 0, 9, 1, 0, 0, []) :: (10, 19, 0, 3, 57, 0, []) :: (13, 4, 0, 0, 1, 0, []) :: (14, 29, 0, 0, 0, 0, []) :: (15, 24, 0, 2, 14, 94, [425]) :: (18, 4, 0, 0, 1, 0, []) :: (19, 24, 0, 2, 4, 9, [415]) :: (22, 2, 0, 1, 1, 0, []) :: (23, 26, 0, 20, 0, 0, []) :: (24, 0, (-1), 0, 0, 0, []) :: (25, 19, 0, 0, 46, 0, []) :: (28, 4, 0, 0, 1, 0, []) :: (29, 24, 0, 2, 4, 9, [415]) :: (32, 2, 0, 1, 1, 0, []) :: (33, 26, 0, 20, 0, 0, []) :: (34, 0, 17, 1, 0, 0, []) :: (36, 16, 0, 1, 0, 0, []) :: (37, 0, 8, 1, 0, 0, []) :: (39, 19, 0, 3, 46, 0, []) :: (42, 0, 1, 0, 0, 0, []) :: (43, 22, 0, 0, 47, 0, []) :: kX2_weighOthers_46
def kX2_weighOthers_0 : List mIn := (0, 4, 0, 0, 1, 0, []) :: (1, 0, 0, 0, 0, 0, []) :: (2, 25, 0, 2, 14, 94, [425]) :: (5, 0, 0, 0, 0, 0, []) :: (6, 5, 0, 1, 1, 0, []) :: (7, 43, 0, 0, 7, 0, []) :: kX2_weighOthers_7
def TX2_weighOthers : Nat → mCal := fun a => match a with
  | 0 => calX9_findStop
  | 1 => calX9_runsBy
  | 2 => calX9_weigh
  | 3 => calX2_timeOf
  | _ => (yX2_weighOthers, cX2_weighOthers, 2, none, (0, 0, 0, 0))
def calX2_weighOthers : mCal := (yX2_weighOthers, cX2_weighOthers, 2, none, (4, 102, 0, 0))
def cutX2_weighOthers : Nat → Option (List Bool) := fun t => mLk t [(7, [true, true]), (59, [true, true])]
theorem okX2_weighOthers : mOK (yX2_weighOthers.cls, cX2_weighOthers, TX2_weighOthers, none, (4, 102, 0, 0), 2, mAcf [], mAcf []) kX2_weighOthers_0 = true := by decide +kernel
theorem sfxX2_weighOthers_7 : mSfx 7 kX2_weighOthers_0 = kX2_weighOthers_7 := rfl
theorem cutX2_weighOthers_7 : cutX2_weighOthers 7 = some [true, true] := rfl
theorem sfxX2_weighOthers_46 : mSfx 46 kX2_weighOthers_0 = kX2_weighOthers_46 := rfl
theorem cutX2_weighOthers_46 : cutX2_weighOthers 46 = none := rfl
theorem sfxX2_weighOthers_47 : mSfx 47 kX2_weighOthers_0 = kX2_weighOthers_47 := rfl
theorem cutX2_weighOthers_47 : cutX2_weighOthers 47 = none := rfl
theorem sfxX2_weighOthers_57 : mSfx 57 kX2_weighOthers_0 = kX2_weighOthers_57 := rfl
theorem cutX2_weighOthers_57 : cutX2_weighOthers 57 = none := rfl
theorem sfxX2_weighOthers_59 : mSfx 59 kX2_weighOthers_0 = kX2_weighOthers_59 := rfl
theorem cutX2_weighOthers_59 : cutX2_weighOthers 59 = some [true, true] := rfl
theorem sfxX2_weighOthers_246 : mSfx 246 kX2_weighOthers_0 = kX2_weighOthers_246 := rfl
theorem cutX2_weighOthers_246 : cutX2_weighOthers 246 = none := rfl
def kX3_mayHold_27 : List mIn := (27, 33, 0, 4, 0, 0, []) :: []
def kX3_mayHold_26 : List mIn := (26, 0, 0, 0, 0, 0, []) :: kX3_mayHold_27
def kX3_mayHold_0 : List mIn := (0, 4, 0, 0, 1, 0, []) :: (1, 2, 0, 1, 1, 0, []) :: (2, 32, 0, 0, 2, 66, [3, 1166, 615, 616, 107, 617]) :: (5, 20, 0, 0, 26, 0, []) :: (8, 2, 0, 1, 1, 0, []) :: (9, 0, 144, 2, 0, 0, []) :: (12, 32, 3, 1, 2, 69, [19, 623, 105, 624]) :: (15, 4, 0, 0, 1, 0, []) :: (16, 24, 0, 3, 5, 49, [178]) :: (19, 19, 0, 2, 26, 0, []) :: (22, 0, 1, 0, 0, 0, []) :: (23, 22, 0, 0, 27, 0, []) :: kX3_mayHold_26
def TX3_mayHold : Nat → mCal := fun a => match a with
  | 0 => calX3_liesIn_
  | 1 => calX10_apart
  | _ => (yX3_mayHold, cX3_mayHold, 2, (some .boolean), (0, 0, 0, 0))
def calX3_mayHold : mCal := (yX3_mayHold, cX3_mayHold, 2, (some .boolean), (2, 45, 0, 0))
def cutX3_mayHold : Nat → Option (List Bool) := fun t => mLk t []
theorem okX3_mayHold : mOK (yX3_mayHold.cls, cX3_mayHold, TX3_mayHold, (some .boolean), (2, 45, 0, 0), 2, mAcf [], mAcf []) kX3_mayHold_0 = true := by decide +kernel
theorem sfxX3_mayHold_26 : mSfx 26 kX3_mayHold_0 = kX3_mayHold_26 := rfl
theorem cutX3_mayHold_26 : cutX3_mayHold 26 = none := rfl
theorem sfxX3_mayHold_27 : mSfx 27 kX3_mayHold_0 = kX3_mayHold_27 := rfl
theorem cutX3_mayHold_27 : cutX3_mayHold 27 = none := rfl
def kX2_mayGo_62 : List mIn := (62, 0, 1, 0, 0, 0, []) :: (63, 33, 0, 4, 0, 0, []) :: []
def kX2_mayGo_56 : List mIn := (56, 8, 1, 2, 0, 0, []) :: (59, 22, 0, 0, 38, 0, []) :: kX2_mayGo_62
def kX2_mayGo_38 : List mIn := (38, 2, 0, 2, 1, 0, []) :: (39, 0, 9, 1, 0, 0, []) :: (41, 19, 0, 3, 62, 0, []) :: (44, 4, 0, 0, 1, 0, []) :: (45, 24, 0, 2, 4, 9, [415]) :: (48, 2, 0, 2, 1, 0, []) :: (49, 26, 0, 20, 0, 0, []) :: (50, 2, 0, 1, 1, 0, []) :: (51, 19, 0, 1, 56, 0, []) :: (54, 0, 0, 0, 0, 0, []) :: (55, 33, 0, 4, 0, 0, []) :: kX2_mayGo_56
def kX2_mayGo_36 : List mIn := (36, 0, 0, 0, 0, 0, []) :: (37, 5, 0, 2, 1, 0, []) :: (38, 43, 0, 0, 38, 0, []) :: kX2_mayGo_38
def kX2_mayGo_34 : List mIn := (34, 0, 0, 0, 0, 0, []) :: (35, 33, 0, 4, 0, 0, []) :: kX2_mayGo_36
def kX2_mayGo_0 : List mIn := (0, 4, 0, 0, 1, 0, []) :: (1, 24, 0, 2, 0, 42, [411]) :: (4, 2, 0, 1, 1, 0, []) :: (5, 32, 0, 0, 2, 137, [3, 1162, 1163, 1164, 107, 1165]) :: (8, 20, 0, 0, 34, 0, []) :: (11, 2, 0, 1, 1, 0, []) :: (12, 0, 17, 1, 0, 0, []) :: (14, 16, 0, 1, 0, 0, []) :: (15, 0, 8, 1, 0, 0, []) :: (17, 19, 0, 3, 36, 0, []) :: (20, 4, 0, 0, 1, 0, []) :: (21, 24, 0, 2, 14, 94, [425]) :: (24, 4, 0, 0, 1, 0, []) :: (25, 24, 0, 2, 0, 42, [411]) :: (28, 24, 0, 3, 4, 142, [175]) :: (31, 19, 0, 2, 36, 0, []) :: kX2_mayGo_34
def TX2_mayGo : Nat → mCal := fun a => match a with
  | 0 => calX3_mayHold
  | _ => (yX2_mayGo, cX2_mayGo, 3, (some .boolean), (0, 0, 0, 0))
def calX2_mayGo : mCal := (yX2_mayGo, cX2_mayGo, 3, (some .boolean), (3, 66, 0, 0))
def cutX2_mayGo : Nat → Option (List Bool) := fun t => mLk t [(38, [true, true, true])]
theorem okX2_mayGo : mOK (yX2_mayGo.cls, cX2_mayGo, TX2_mayGo, (some .boolean), (3, 66, 0, 0), 3, mAcf [], mAcf []) kX2_mayGo_0 = true := by decide +kernel
theorem sfxX2_mayGo_34 : mSfx 34 kX2_mayGo_0 = kX2_mayGo_34 := rfl
theorem cutX2_mayGo_34 : cutX2_mayGo 34 = none := rfl
theorem sfxX2_mayGo_36 : mSfx 36 kX2_mayGo_0 = kX2_mayGo_36 := rfl
theorem cutX2_mayGo_36 : cutX2_mayGo 36 = none := rfl
theorem sfxX2_mayGo_38 : mSfx 38 kX2_mayGo_0 = kX2_mayGo_38 := rfl
theorem cutX2_mayGo_38 : cutX2_mayGo 38 = some [true, true, true] := rfl
theorem sfxX2_mayGo_56 : mSfx 56 kX2_mayGo_0 = kX2_mayGo_56 := rfl
theorem cutX2_mayGo_56 : cutX2_mayGo 56 = none := rfl
theorem sfxX2_mayGo_62 : mSfx 62 kX2_mayGo_0 = kX2_mayGo_62 := rfl
theorem cutX2_mayGo_62 : cutX2_mayGo 62 = none := rfl
def kX2_goesFirst_25 : List mIn := (25, 33, 0, 4, 0, 0, []) :: []
def kX2_goesFirst_24 : List mIn := (24, 0, 0, 0, 0, 0, []) :: kX2_goesFirst_25
def kX2_goesFirst_20 : List mIn := (20, 0, 1, 0, 0, 0, []) :: (21, 22, 0, 0, 25, 0, []) :: kX2_goesFirst_24
def kX2_goesFirst_0 : List mIn := (0, 2, 0, 2, 1, 0, []) :: (1, 0, (-1), 0, 0, 0, []) :: (2, 19, 0, 0, 20, 0, []) :: (5, 2, 0, 1, 1, 0, []) :: (6, 2, 0, 3, 1, 0, []) :: (7, 19, 0, 2, 20, 0, []) :: (10, 2, 0, 1, 1, 0, []) :: (11, 2, 0, 3, 1, 0, []) :: (12, 19, 0, 1, 24, 0, []) :: (15, 2, 0, 0, 1, 0, []) :: (16, 2, 0, 2, 1, 0, []) :: (17, 19, 0, 3, 24, 0, []) :: kX2_goesFirst_20
def TX2_goesFirst : Nat → mCal := fun a => match a with
  | _ => (yX2_goesFirst, cX2_goesFirst, 4, (some .boolean), (0, 0, 0, 0))
def calX2_goesFirst : mCal := (yX2_goesFirst, cX2_goesFirst, 4, (some .boolean), (0, 0, 0, 0))
def cutX2_goesFirst : Nat → Option (List Bool) := fun t => mLk t []
theorem okX2_goesFirst : mOK (yX2_goesFirst.cls, cX2_goesFirst, TX2_goesFirst, (some .boolean), (0, 0, 0, 0), 4, mAcf [], mAcf []) kX2_goesFirst_0 = true := by decide +kernel
theorem sfxX2_goesFirst_20 : mSfx 20 kX2_goesFirst_0 = kX2_goesFirst_20 := rfl
theorem cutX2_goesFirst_20 : cutX2_goesFirst 20 = none := rfl
theorem sfxX2_goesFirst_24 : mSfx 24 kX2_goesFirst_0 = kX2_goesFirst_24 := rfl
theorem cutX2_goesFirst_24 : cutX2_goesFirst 24 = none := rfl
theorem sfxX2_goesFirst_25 : mSfx 25 kX2_goesFirst_0 = kX2_goesFirst_25 := rfl
theorem cutX2_goesFirst_25 : cutX2_goesFirst 25 = none := rfl
def kX2_runsWith_148 : List mIn := (148, 4, 0, 0, 1, 0, []) :: (149, 24, 0, 2, 12, 36, [423]) :: (152, 2, 0, 1, 1, 0, []) :: (153, 26, 0, 20, 0, 0, []) :: (154, 33, 0, 1, 0, 0, []) :: []
def kX2_runsWith_142 : List mIn := (142, 8, 1, 5, 0, 0, []) :: (145, 22, 0, 0, 43, 0, []) :: kX2_runsWith_148
def kX2_runsWith_108 : List mIn := (108, 5, 0, 7, 2, 0, []) :: (110, 2, 0, 6, 2, 0, []) :: (112, 4, 0, 0, 1, 0, []) :: (113, 24, 0, 2, 2, 50, [413]) :: (116, 2, 0, 1, 1, 0, []) :: (117, 2, 0, 5, 2, 0, []) :: (119, 32, 0, 3, 3, 169, [0, 1178, 688, 689, 111, 690]) :: (122, 19, 0, 4, 142, 0, []) :: (125, 2, 0, 7, 2, 0, []) :: (127, 20, 0, 0, 142, 0, []) :: (130, 4, 0, 0, 1, 0, []) :: (131, 24, 0, 2, 3, 54, [414]) :: (134, 2, 0, 1, 1, 0, []) :: (135, 2, 0, 2, 1, 0, []) :: (136, 2, 0, 5, 2, 0, []) :: (138, 32, 0, 4, 4, 107, [9, 1147, 701, 702, 112, 703]) :: (141, 33, 0, 1, 0, 0, []) :: kX2_runsWith_142
def kX2_runsWith_107 : List mIn := (107, 0, 0, 0, 0, 0, []) :: kX2_runsWith_108
def kX2_runsWith_103 : List mIn := (103, 0, 1, 0, 0, 0, []) :: (104, 22, 0, 0, 108, 0, []) :: kX2_runsWith_107
def kX2_runsWith_43 : List mIn := (43, 2, 0, 5, 2, 0, []) :: (45, 2, 0, 4, 2, 0, []) :: (47, 19, 0, 4, 148, 0, []) :: (50, 4, 0, 0, 1, 0, []) :: (51, 24, 0, 2, 3, 54, [414]) :: (54, 2, 0, 2, 1, 0, []) :: (55, 2, 0, 3, 1, 0, []) :: (56, 4, 0, 0, 1, 0, []) :: (57, 24, 0, 2, 2, 50, [413]) :: (60, 2, 0, 1, 1, 0, []) :: (61, 2, 0, 5, 2, 0, []) :: (63, 32, 0, 0, 3, 130, [0, 1153, 676, 677, 111, 678]) :: (66, 32, 0, 1, 4, 134, [9, 1154, 1155, 1156, 112, 1157]) :: (69, 5, 0, 6, 2, 0, []) :: (71, 2, 0, 5, 2, 0, []) :: (73, 4, 0, 0, 1, 0, []) :: (74, 24, 0, 2, 10, 30, [421]) :: (77, 2, 0, 1, 1, 0, []) :: (78, 26, 0, 20, 0, 0, []) :: (79, 19, 0, 1, 103, 0, []) :: (82, 2, 0, 2, 1, 0, []) :: (83, 2, 0, 6, 2, 0, []) :: (85, 4, 0, 0, 1, 0, []) :: (86, 24, 0, 2, 9, 27, [420]) :: (89, 2, 0, 1, 1, 0, []) :: (90, 26, 0, 20, 0, 0, []) :: (91, 4, 0, 0, 1, 0, []) :: (92, 24, 0, 2, 11, 33, [422]) :: (95, 2, 0, 1, 1, 0, []) :: (96, 26, 0, 20, 0, 0, []) :: (97, 32, 1, 2, 4, 172, [1179, 1180, 113, 1181]) :: (100, 20, 0, 0, 107, 0, []) :: kX2_runsWith_103
def kX2_runsWith_28 : List mIn := (28, 5, 0, 4, 2, 0, []) :: (30, 4, 0, 0, 1, 0, []) :: (31, 24, 0, 2, 2, 50, [413]) :: (34, 24, 0, 0, 5, 121, [326]) :: (37, 2, 0, 1, 1, 0, []) :: (38, 26, 0, 20, 0, 0, []) :: (39, 0, 1, 0, 0, 0, []) :: (40, 9, 0, 0, 0, 0, []) :: (41, 5, 0, 5, 2, 0, []) :: (43, 43, 0, 0, 43, 0, []) :: kX2_runsWith_43
def kX2_runsWith_22 : List mIn := (22, 4, 0, 0, 1, 0, []) :: (23, 24, 0, 2, 10, 30, [421]) :: (26, 2, 0, 1, 1, 0, []) :: (27, 26, 0, 20, 0, 0, []) :: kX2_runsWith_28
def kX2_runsWith_0 : List mIn := (0, 4, 0, 0, 1, 0, []) :: (1, 24, 0, 2, 9, 27, [420]) :: (4, 2, 0, 1, 1, 0, []) :: (5, 26, 0, 20, 0, 0, []) :: (6, 0, (-1), 0, 0, 0, []) :: (7, 19, 0, 1, 22, 0, []) :: (10, 4, 0, 0, 1, 0, []) :: (11, 24, 0, 2, 2, 50, [413]) :: (14, 24, 0, 0, 7, 185, [336]) :: (17, 2, 0, 1, 1, 0, []) :: (18, 26, 0, 20, 0, 0, []) :: (19, 22, 0, 0, 28, 0, []) :: kX2_runsWith_22
def TX2_runsWith : Nat → mCal := fun a => match a with
  | 0 => calX0_cellAt
  | 1 => calX9_timeTo
  | 2 => calX2_goesFirst
  | 3 => calX0_tickAt
  | 4 => calX9_runsBy
  | _ => (yX2_runsWith, cX2_runsWith, 8, (some .int), (0, 0, 0, 0))
def calX2_runsWith : mCal := (yX2_runsWith, cX2_runsWith, 8, (some .int), (2, 49, 0, 0))
def cutX2_runsWith : Nat → Option (List Bool) := fun t => mLk t [(43, [true, true, true, true, true, true, false, false])]
theorem okX2_runsWith : mOK (yX2_runsWith.cls, cX2_runsWith, TX2_runsWith, (some .int), (2, 49, 0, 0), 8, mAcf [], mAcf []) kX2_runsWith_0 = true := by decide +kernel
theorem sfxX2_runsWith_22 : mSfx 22 kX2_runsWith_0 = kX2_runsWith_22 := rfl
theorem cutX2_runsWith_22 : cutX2_runsWith 22 = none := rfl
theorem sfxX2_runsWith_28 : mSfx 28 kX2_runsWith_0 = kX2_runsWith_28 := rfl
theorem cutX2_runsWith_28 : cutX2_runsWith 28 = none := rfl
theorem sfxX2_runsWith_43 : mSfx 43 kX2_runsWith_0 = kX2_runsWith_43 := rfl
theorem cutX2_runsWith_43 : cutX2_runsWith 43 = some [true, true, true, true, true, true, false, false] := rfl
theorem sfxX2_runsWith_103 : mSfx 103 kX2_runsWith_0 = kX2_runsWith_103 := rfl
theorem cutX2_runsWith_103 : cutX2_runsWith 103 = none := rfl
theorem sfxX2_runsWith_107 : mSfx 107 kX2_runsWith_0 = kX2_runsWith_107 := rfl
theorem cutX2_runsWith_107 : cutX2_runsWith 107 = none := rfl
theorem sfxX2_runsWith_108 : mSfx 108 kX2_runsWith_0 = kX2_runsWith_108 := rfl
theorem cutX2_runsWith_108 : cutX2_runsWith 108 = none := rfl
theorem sfxX2_runsWith_142 : mSfx 142 kX2_runsWith_0 = kX2_runsWith_142 := rfl
theorem cutX2_runsWith_142 : cutX2_runsWith 142 = none := rfl
theorem sfxX2_runsWith_148 : mSfx 148 kX2_runsWith_0 = kX2_runsWith_148 := rfl
theorem cutX2_runsWith_148 : cutX2_runsWith 148 = none := rfl
def kX2_costWith_112 : List mIn := (112, 4, 0, 0, 1, 0, []) :: (113, 24, 0, 2, 3, 54, [414]) :: (116, 4, 0, 0, 1, 0, []) :: (117, 24, 0, 2, 7, 21, [418]) :: (120, 2, 0, 1, 1, 0, []) :: (121, 26, 0, 20, 0, 0, []) :: (122, 4, 0, 0, 1, 0, []) :: (123, 2, 0, 1, 1, 0, []) :: (124, 2, 0, 2, 1, 0, []) :: (125, 2, 0, 3, 1, 0, []) :: (126, 32, 0, 7, 4, 182, [2, 1184, 1186, 26, 113, 1187]) :: (129, 32, 0, 6, 3, 179, [9, 1183, 712, 713, 112, 714]) :: (132, 33, 0, 1, 0, 0, []) :: []
def kX2_costWith_0 : List mIn := (0, 4, 0, 0, 1, 0, []) :: (1, 24, 0, 2, 2, 50, [413]) :: (4, 24, 0, 0, 5, 121, [326]) :: (7, 2, 0, 1, 1, 0, []) :: (8, 26, 0, 20, 0, 0, []) :: (9, 5, 0, 4, 2, 0, []) :: (11, 4, 0, 0, 1, 0, []) :: (12, 24, 0, 2, 2, 50, [413]) :: (15, 2, 0, 1, 1, 0, []) :: (16, 32, 0, 0, 2, 160, [0, 1176, 680, 681, 111, 682]) :: (19, 20, 0, 0, 112, 0, []) :: (22, 2, 0, 3, 1, 0, []) :: (23, 4, 0, 0, 1, 0, []) :: (24, 24, 0, 2, 2, 50, [413]) :: (27, 2, 0, 1, 1, 0, []) :: (28, 2, 0, 4, 2, 0, []) :: (30, 32, 0, 1, 3, 130, [0, 1153, 676, 677, 111, 678]) :: (33, 32, 3, 2, 2, 163, [20, 623, 105, 624]) :: (36, 5, 0, 5, 2, 0, []) :: (38, 2, 0, 5, 2, 0, []) :: (40, 4, 0, 0, 1, 0, []) :: (41, 24, 0, 2, 1, 46, [412]) :: (44, 24, 0, 6, 1, 166, [239]) :: (47, 2, 0, 2, 1, 0, []) :: (48, 26, 0, 20, 0, 0, []) :: (49, 9, 0, 2, 0, 0, []) :: (50, 5, 0, 6, 2, 0, []) :: (52, 2, 0, 6, 2, 0, []) :: (54, 4, 0, 0, 1, 0, []) :: (55, 24, 0, 2, 2, 50, [413]) :: (58, 2, 0, 1, 1, 0, []) :: (59, 2, 0, 4, 2, 0, []) :: (61, 32, 0, 3, 3, 169, [0, 1178, 688, 689, 111, 690]) :: (64, 19, 0, 4, 112, 0, []) :: (67, 2, 0, 2, 1, 0, []) :: (68, 2, 0, 6, 2, 0, []) :: (70, 4, 0, 0, 1, 0, []) :: (71, 24, 0, 2, 5, 15, [416]) :: (74, 2, 0, 1, 1, 0, []) :: (75, 26, 0, 20, 0, 0, []) :: (76, 4, 0, 0, 1, 0, []) :: (77, 24, 0, 2, 6, 18, [417]) :: (80, 2, 0, 1, 1, 0, []) :: (81, 26, 0, 20, 0, 0, []) :: (82, 32, 1, 4, 4, 172, [1179, 1180, 113, 1181]) :: (85, 20, 0, 0, 112, 0, []) :: (88, 4, 0, 0, 1, 0, []) :: (89, 24, 0, 2, 3, 54, [414]) :: (92, 4, 0, 0, 1, 0, []) :: (93, 24, 0, 2, 3, 54, [414]) :: (96, 2, 0, 2, 1, 0, []) :: (97, 2, 0, 5, 2, 0, []) :: (99, 32, 0, 5, 3, 176, [9, 1182, 692, 693, 112, 694]) :: (102, 4, 0, 0, 1, 0, []) :: (103, 24, 0, 2, 8, 24, [419]) :: (106, 2, 0, 1, 1, 0, []) :: (107, 26, 0, 20, 0, 0, []) :: (108, 32, 0, 6, 3, 179, [9, 1183, 712, 713, 112, 714]) :: (111, 33, 0, 1, 0, 0, []) :: kX2_costWith_112
def TX2_costWith : Nat → mCal := fun a => match a with
  | 0 => calX0_isHigh
  | 1 => calX0_cellAt
  | 2 => calX10_apart
  | 3 => calX0_tickAt
  | 4 => calX2_goesFirst
  | 5 => calX9_chanceAt
  | 6 => calX9_price
  | 7 => calX2_runsWith
  | _ => (yX2_costWith, cX2_costWith, 7, (some .int), (0, 0, 0, 0))
def calX2_costWith : mCal := (yX2_costWith, cX2_costWith, 7, (some .int), (3, 76, 0, 0))
def cutX2_costWith : Nat → Option (List Bool) := fun t => mLk t []
theorem okX2_costWith : mOK (yX2_costWith.cls, cX2_costWith, TX2_costWith, (some .int), (3, 76, 0, 0), 7, mAcf [], mAcf []) kX2_costWith_0 = true := by decide +kernel
theorem sfxX2_costWith_112 : mSfx 112 kX2_costWith_0 = kX2_costWith_112 := rfl
theorem cutX2_costWith_112 : cutX2_costWith 112 = none := rfl
def kX2_topWith_73 : List mIn := (73, 4, 0, 0, 1, 0, []) :: (74, 24, 0, 2, 2, 50, [413]) :: (77, 3, 0, 3, 1, 0, []) :: (78, 2, 0, 5, 2, 0, []) :: (80, 13, 0, 0, 0, 0, []) :: (81, 32, 0, 1, 3, 156, [0, 1189, 716, 717, 111, 718]) :: (84, 33, 0, 2, 0, 0, []) :: []
def kX2_topWith_65 : List mIn := (65, 5, 0, 5, 2, 0, []) :: (67, 8, 1, 6, 0, 0, []) :: (70, 22, 0, 0, 8, 0, []) :: kX2_topWith_73
def kX2_topWith_58 : List mIn := (58, 2, 0, 5, 2, 0, []) :: (60, 2, 0, 7, 2, 0, []) :: (62, 40, 0, 0, 0, 151, [1188, 656, 121, 657]) :: kX2_topWith_65
def kX2_topWith_8 : List mIn := (8, 2, 0, 6, 2, 0, []) :: (10, 4, 0, 0, 1, 0, []) :: (11, 24, 0, 2, 2, 50, [413]) :: (14, 24, 0, 0, 0, 67, [315]) :: (17, 19, 0, 3, 73, 0, []) :: (20, 4, 0, 0, 1, 0, []) :: (21, 2, 0, 6, 2, 0, []) :: (23, 2, 0, 1, 1, 0, []) :: (24, 2, 0, 2, 1, 0, []) :: (25, 32, 0, 0, 4, 145, [2, 1172, 1174, 25, 113, 1175]) :: (28, 5, 0, 7, 2, 0, []) :: (30, 3, 0, 3, 1, 0, []) :: (31, 4, 0, 0, 1, 0, []) :: (32, 24, 0, 2, 2, 50, [413]) :: (35, 24, 0, 0, 6, 148, [330]) :: (38, 2, 0, 6, 2, 0, []) :: (40, 26, 0, 20, 0, 0, []) :: (41, 13, 0, 0, 0, 0, []) :: (42, 2, 0, 7, 2, 0, []) :: (44, 13, 0, 0, 0, 0, []) :: (45, 11, 0, 2, 0, 0, []) :: (46, 11, 0, 0, 0, 0, []) :: (47, 6, 0, 3, 1, 0, []) :: (48, 2, 0, 6, 2, 0, []) :: (50, 20, 0, 1, 58, 0, []) :: (53, 2, 0, 7, 2, 0, []) :: (55, 22, 0, 0, 65, 0, []) :: kX2_topWith_58
def kX2_topWith_0 : List mIn := (0, 1, 0, 0, 0, 0, []) :: (1, 6, 0, 3, 1, 0, []) :: (2, 0, 0, 0, 0, 0, []) :: (3, 5, 0, 5, 2, 0, []) :: (5, 0, 0, 0, 0, 0, []) :: (6, 5, 0, 6, 2, 0, []) :: (8, 43, 0, 0, 8, 0, []) :: kX2_topWith_8
def TX2_topWith : Nat → mCal := fun a => match a with
  | 0 => calX2_costWith
  | 1 => calX0_blend
  | _ => (yX2_topWith, cX2_topWith, 8, (some .long), (0, 0, 0, 0))
def calX2_topWith : mCal := (yX2_topWith, cX2_topWith, 8, (some .long), (4, 102, 0, 0))
def cutX2_topWith : Nat → Option (List Bool) := fun t => mLk t [(8, [true, true, true, true, false, true, true, false])]
theorem okX2_topWith : mOK (yX2_topWith.cls, cX2_topWith, TX2_topWith, (some .long), (4, 102, 0, 0), 8, mAcf [], mAcf []) kX2_topWith_0 = true := by decide +kernel
theorem sfxX2_topWith_8 : mSfx 8 kX2_topWith_0 = kX2_topWith_8 := rfl
theorem cutX2_topWith_8 : cutX2_topWith 8 = some [true, true, true, true, false, true, true, false] := rfl
theorem sfxX2_topWith_58 : mSfx 58 kX2_topWith_0 = kX2_topWith_58 := rfl
theorem cutX2_topWith_58 : cutX2_topWith 58 = none := rfl
theorem sfxX2_topWith_65 : mSfx 65 kX2_topWith_0 = kX2_topWith_65 := rfl
theorem cutX2_topWith_65 : cutX2_topWith 65 = none := rfl
theorem sfxX2_topWith_73 : mSfx 73 kX2_topWith_0 = kX2_topWith_73 := rfl
theorem cutX2_topWith_73 : cutX2_topWith 73 = none := rfl
def kX2_bestCell_111 : List mIn := (111, 2, 0, 2, 1, 0, []) :: (112, 33, 0, 1, 0, 0, []) :: []
def kX2_bestCell_105 : List mIn := (105, 8, 1, 3, 0, 0, []) :: (108, 22, 0, 0, 56, 0, []) :: kX2_bestCell_111
def kX2_bestCell_97 : List mIn := (97, 2, 0, 3, 1, 0, []) :: (98, 5, 0, 2, 1, 0, []) :: (99, 4, 0, 0, 1, 0, []) :: (100, 3, 0, 4, 2, 0, []) :: (102, 25, 0, 2, 15, 90, [426]) :: kX2_bestCell_105
def kX2_bestCell_74 : List mIn := (74, 4, 0, 0, 1, 0, []) :: (75, 2, 0, 1, 1, 0, []) :: (76, 2, 0, 3, 1, 0, []) :: (77, 32, 0, 4, 3, 86, [2, 1168, 1170, 24, 113, 1171]) :: (80, 6, 0, 4, 2, 0, []) :: (82, 2, 0, 2, 1, 0, []) :: (83, 0, (-1), 0, 0, 0, []) :: (84, 19, 0, 0, 97, 0, []) :: (87, 3, 0, 4, 2, 0, []) :: (89, 4, 0, 0, 1, 0, []) :: (90, 24, 0, 2, 15, 90, [426]) :: (93, 21, 0, 3, 105, 0, []) :: kX2_bestCell_97
def kX2_bestCell_56 : List mIn := (56, 2, 0, 3, 1, 0, []) :: (57, 0, 289, 2, 0, 0, []) :: (60, 19, 0, 3, 111, 0, []) :: (63, 4, 0, 0, 1, 0, []) :: (64, 2, 0, 3, 1, 0, []) :: (65, 32, 0, 3, 2, 82, [2, 1158, 1160, 23, 113, 1161]) :: (68, 20, 0, 1, 74, 0, []) :: (71, 22, 0, 0, 105, 0, []) :: kX2_bestCell_74
def kX2_bestCell_48 : List mIn := (48, 4, 0, 0, 1, 0, []) :: (49, 32, 0, 2, 1, 79, [2, 1142, 1144, 21, 113, 1145]) :: (52, 0, (-1), 0, 0, 0, []) :: (53, 5, 0, 2, 1, 0, []) :: (54, 0, 0, 0, 0, 0, []) :: (55, 5, 0, 3, 1, 0, []) :: (56, 43, 0, 0, 56, 0, []) :: kX2_bestCell_56
def kX2_bestCell_46 : List mIn := (46, 0, (-1), 0, 0, 0, []) :: (47, 33, 0, 1, 0, 0, []) :: kX2_bestCell_48
def kX2_bestCell_0 : List mIn := (0, 4, 0, 0, 1, 0, []) :: (1, 24, 0, 2, 1, 46, [412]) :: (4, 24, 0, 6, 0, 58, [235]) :: (7, 4, 0, 0, 1, 0, []) :: (8, 24, 0, 2, 4, 9, [415]) :: (11, 32, 3, 0, 2, 63, [18, 941, 105, 942]) :: (14, 4, 0, 0, 1, 0, []) :: (15, 24, 0, 2, 4, 9, [415]) :: (18, 2, 0, 1, 1, 0, []) :: (19, 0, (-1), 0, 0, 0, []) :: (20, 27, 0, 20, 0, 0, []) :: (21, 4, 0, 0, 1, 0, []) :: (22, 24, 0, 2, 2, 50, [413]) :: (25, 24, 0, 0, 0, 67, [315]) :: (28, 20, 0, 0, 46, 0, []) :: (31, 4, 0, 0, 1, 0, []) :: (32, 24, 0, 2, 3, 54, [414]) :: (35, 4, 0, 0, 1, 0, []) :: (36, 24, 0, 2, 4, 9, [415]) :: (39, 32, 0, 1, 2, 73, [9, 1141, 607, 608, 112, 609]) :: (42, 0, (-1), 0, 0, 0, []) :: (43, 19, 0, 0, 48, 0, []) :: kX2_bestCell_46
def TX2_bestCell : Nat → mCal := fun a => match a with
  | 0 => calX10_copyRow
  | 1 => calX9_verdict
  | 2 => calX2_weighOthers
  | 3 => calX2_mayGo
  | 4 => calX2_topWith
  | _ => (yX2_bestCell, cX2_bestCell, 6, (some .int), (0, 0, 0, 0))
def calX2_bestCell : mCal := (yX2_bestCell, cX2_bestCell, 6, (some .int), (5, 129, 0, 0))
def cutX2_bestCell : Nat → Option (List Bool) := fun t => mLk t [(56, [true, true, true, true, false, false])]
theorem okX2_bestCell : mOK (yX2_bestCell.cls, cX2_bestCell, TX2_bestCell, (some .int), (5, 129, 0, 0), 6, mAcf [], mAcf []) kX2_bestCell_0 = true := by decide +kernel
theorem sfxX2_bestCell_46 : mSfx 46 kX2_bestCell_0 = kX2_bestCell_46 := rfl
theorem cutX2_bestCell_46 : cutX2_bestCell 46 = none := rfl
theorem sfxX2_bestCell_48 : mSfx 48 kX2_bestCell_0 = kX2_bestCell_48 := rfl
theorem cutX2_bestCell_48 : cutX2_bestCell 48 = none := rfl
theorem sfxX2_bestCell_56 : mSfx 56 kX2_bestCell_0 = kX2_bestCell_56 := rfl
theorem cutX2_bestCell_56 : cutX2_bestCell 56 = some [true, true, true, true, false, false] := rfl
theorem sfxX2_bestCell_74 : mSfx 74 kX2_bestCell_0 = kX2_bestCell_74 := rfl
theorem cutX2_bestCell_74 : cutX2_bestCell 74 = none := rfl
theorem sfxX2_bestCell_97 : mSfx 97 kX2_bestCell_0 = kX2_bestCell_97 := rfl
theorem cutX2_bestCell_97 : cutX2_bestCell 97 = none := rfl
theorem sfxX2_bestCell_105 : mSfx 105 kX2_bestCell_0 = kX2_bestCell_105 := rfl
theorem cutX2_bestCell_105 : cutX2_bestCell 105 = none := rfl
theorem sfxX2_bestCell_111 : mSfx 111 kX2_bestCell_0 = kX2_bestCell_111 := rfl
theorem cutX2_bestCell_111 : cutX2_bestCell 111 = none := rfl
def kX2_leastFarFrom_48 : List mIn := (48, 2, 0, 2, 1, 0, []) :: (49, 33, 0, 1, 0, 0, []) :: []
def kX2_leastFarFrom_42 : List mIn := (42, 8, 1, 3, 0, 0, []) :: (45, 22, 0, 0, 4, 0, []) :: kX2_leastFarFrom_48
def kX2_leastFarFrom_36 : List mIn := (36, 2, 0, 3, 1, 0, []) :: (37, 2, 0, 1, 1, 0, []) :: (38, 32, 3, 1, 2, 163, [20, 623, 105, 624]) :: (41, 5, 0, 2, 1, 0, []) :: kX2_leastFarFrom_42
def kX2_leastFarFrom_4 : List mIn := (4, 2, 0, 3, 1, 0, []) :: (5, 0, 289, 2, 0, 0, []) :: (8, 19, 0, 3, 48, 0, []) :: (11, 4, 0, 0, 1, 0, []) :: (12, 24, 0, 2, 0, 42, [411]) :: (15, 2, 0, 3, 1, 0, []) :: (16, 32, 0, 0, 2, 137, [3, 1162, 1163, 1164, 107, 1165]) :: (19, 20, 0, 0, 42, 0, []) :: (22, 2, 0, 2, 1, 0, []) :: (23, 0, (-1), 0, 0, 0, []) :: (24, 19, 0, 0, 36, 0, []) :: (27, 2, 0, 3, 1, 0, []) :: (28, 2, 0, 1, 1, 0, []) :: (29, 32, 3, 1, 2, 163, [20, 623, 105, 624]) :: (32, 2, 0, 2, 1, 0, []) :: (33, 19, 0, 3, 42, 0, []) :: kX2_leastFarFrom_36
def kX2_leastFarFrom_0 : List mIn := (0, 0, (-1), 0, 0, 0, []) :: (1, 5, 0, 2, 1, 0, []) :: (2, 0, 0, 0, 0, 0, []) :: (3, 5, 0, 3, 1, 0, []) :: (4, 43, 0, 0, 4, 0, []) :: kX2_leastFarFrom_4
def TX2_leastFarFrom : Nat → mCal := fun a => match a with
  | 0 => calX3_mayHold
  | 1 => calX10_apart
  | _ => (yX2_leastFarFrom, cX2_leastFarFrom, 4, (some .int), (0, 0, 0, 0))
def calX2_leastFarFrom : mCal := (yX2_leastFarFrom, cX2_leastFarFrom, 4, (some .int), (3, 66, 0, 0))
def cutX2_leastFarFrom : Nat → Option (List Bool) := fun t => mLk t [(4, [true, true, true, true])]
theorem okX2_leastFarFrom : mOK (yX2_leastFarFrom.cls, cX2_leastFarFrom, TX2_leastFarFrom, (some .int), (3, 66, 0, 0), 4, mAcf [], mAcf []) kX2_leastFarFrom_0 = true := by decide +kernel
theorem sfxX2_leastFarFrom_4 : mSfx 4 kX2_leastFarFrom_0 = kX2_leastFarFrom_4 := rfl
theorem cutX2_leastFarFrom_4 : cutX2_leastFarFrom 4 = some [true, true, true, true] := rfl
theorem sfxX2_leastFarFrom_36 : mSfx 36 kX2_leastFarFrom_0 = kX2_leastFarFrom_36 := rfl
theorem cutX2_leastFarFrom_36 : cutX2_leastFarFrom 36 = none := rfl
theorem sfxX2_leastFarFrom_42 : mSfx 42 kX2_leastFarFrom_0 = kX2_leastFarFrom_42 := rfl
theorem cutX2_leastFarFrom_42 : cutX2_leastFarFrom 42 = none := rfl
theorem sfxX2_leastFarFrom_48 : mSfx 48 kX2_leastFarFrom_0 = kX2_leastFarFrom_48 := rfl
theorem cutX2_leastFarFrom_48 : cutX2_leastFarFrom 48 = none := rfl
def kX2_mayReach_43 : List mIn := (43, 33, 0, 4, 0, 0, []) :: []
def kX2_mayReach_42 : List mIn := (42, 0, 0, 0, 0, 0, []) :: kX2_mayReach_43
def kX2_mayReach_0 : List mIn := (0, 4, 0, 0, 1, 0, []) :: (1, 24, 0, 2, 13, 39, [424]) :: (4, 2, 0, 2, 1, 0, []) :: (5, 26, 0, 20, 0, 0, []) :: (6, 0, (-1), 0, 0, 0, []) :: (7, 19, 0, 0, 42, 0, []) :: (10, 4, 0, 0, 1, 0, []) :: (11, 24, 0, 2, 13, 39, [424]) :: (14, 2, 0, 2, 1, 0, []) :: (15, 26, 0, 20, 0, 0, []) :: (16, 4, 0, 0, 1, 0, []) :: (17, 24, 0, 2, 1, 46, [412]) :: (20, 24, 0, 6, 1, 166, [239]) :: (23, 2, 0, 3, 1, 0, []) :: (24, 26, 0, 20, 0, 0, []) :: (25, 9, 0, 2, 0, 0, []) :: (26, 4, 0, 0, 1, 0, []) :: (27, 24, 0, 2, 2, 50, [413]) :: (30, 2, 0, 1, 1, 0, []) :: (31, 2, 0, 2, 1, 0, []) :: (32, 32, 0, 0, 3, 169, [0, 1178, 688, 689, 111, 690]) :: (35, 19, 0, 4, 42, 0, []) :: (38, 0, 1, 0, 0, 0, []) :: (39, 22, 0, 0, 43, 0, []) :: kX2_mayReach_42
def TX2_mayReach : Nat → mCal := fun a => match a with
  | 0 => calX0_tickAt
  | _ => (yX2_mayReach, cX2_mayReach, 4, (some .boolean), (0, 0, 0, 0))
def calX2_mayReach : mCal := (yX2_mayReach, cX2_mayReach, 4, (some .boolean), (1, 22, 0, 0))
def cutX2_mayReach : Nat → Option (List Bool) := fun t => mLk t []
theorem okX2_mayReach : mOK (yX2_mayReach.cls, cX2_mayReach, TX2_mayReach, (some .boolean), (1, 22, 0, 0), 4, mAcf [], mAcf []) kX2_mayReach_0 = true := by decide +kernel
theorem sfxX2_mayReach_42 : mSfx 42 kX2_mayReach_0 = kX2_mayReach_42 := rfl
theorem cutX2_mayReach_42 : cutX2_mayReach 42 = none := rfl
theorem sfxX2_mayReach_43 : mSfx 43 kX2_mayReach_0 = kX2_mayReach_43 := rfl
theorem cutX2_mayReach_43 : cutX2_mayReach 43 = none := rfl
def kX2_chanceAlone_49 : List mIn := (49, 33, 0, 1, 0, 0, []) :: []
def kX2_chanceAlone_48 : List mIn := (48, 0, 0, 0, 0, 0, []) :: kX2_chanceAlone_49
def kX2_chanceAlone_0 : List mIn := (0, 4, 0, 0, 1, 0, []) :: (1, 24, 0, 2, 2, 50, [413]) :: (4, 24, 0, 0, 5, 121, [326]) :: (7, 2, 0, 1, 1, 0, []) :: (8, 26, 0, 20, 0, 0, []) :: (9, 5, 0, 3, 1, 0, []) :: (10, 4, 0, 0, 1, 0, []) :: (11, 24, 0, 2, 2, 50, [413]) :: (14, 2, 0, 1, 1, 0, []) :: (15, 32, 0, 0, 2, 160, [0, 1176, 680, 681, 111, 682]) :: (18, 20, 0, 0, 48, 0, []) :: (21, 4, 0, 0, 1, 0, []) :: (22, 2, 0, 1, 1, 0, []) :: (23, 2, 0, 3, 1, 0, []) :: (24, 2, 0, 2, 1, 0, []) :: (25, 32, 0, 1, 4, 209, [2, 1221, 1223, 30, 113, 1224]) :: (28, 20, 0, 0, 48, 0, []) :: (31, 4, 0, 0, 1, 0, []) :: (32, 24, 0, 2, 3, 54, [414]) :: (35, 2, 0, 2, 1, 0, []) :: (36, 4, 0, 0, 1, 0, []) :: (37, 24, 0, 2, 13, 39, [424]) :: (40, 2, 0, 3, 1, 0, []) :: (41, 26, 0, 20, 0, 0, []) :: (42, 32, 0, 2, 3, 176, [9, 1182, 692, 693, 112, 694]) :: (45, 22, 0, 0, 49, 0, []) :: kX2_chanceAlone_48
def TX2_chanceAlone : Nat → mCal := fun a => match a with
  | 0 => calX0_isHigh
  | 1 => calX2_mayReach
  | 2 => calX9_chanceAt
  | _ => (yX2_chanceAlone, cX2_chanceAlone, 4, (some .int), (0, 0, 0, 0))
def calX2_chanceAlone : mCal := (yX2_chanceAlone, cX2_chanceAlone, 4, (some .int), (2, 45, 0, 0))
def cutX2_chanceAlone : Nat → Option (List Bool) := fun t => mLk t []
theorem okX2_chanceAlone : mOK (yX2_chanceAlone.cls, cX2_chanceAlone, TX2_chanceAlone, (some .int), (2, 45, 0, 0), 4, mAcf [], mAcf []) kX2_chanceAlone_0 = true := by decide +kernel
theorem sfxX2_chanceAlone_48 : mSfx 48 kX2_chanceAlone_0 = kX2_chanceAlone_48 := rfl
theorem cutX2_chanceAlone_48 : cutX2_chanceAlone 48 = none := rfl
theorem sfxX2_chanceAlone_49 : mSfx 49 kX2_chanceAlone_0 = kX2_chanceAlone_49 := rfl
theorem cutX2_chanceAlone_49 : cutX2_chanceAlone 49 = none := rfl
def kX2_runsAlone_52 : List mIn := (52, 4, 0, 0, 1, 0, []) :: (53, 24, 0, 2, 2, 50, [413]) :: (56, 2, 0, 1, 1, 0, []) :: (57, 32, 0, 2, 2, 197, [0, 1216, 705, 706, 111, 707]) :: (60, 33, 0, 1, 0, 0, []) :: []
def kX2_runsAlone_46 : List mIn := (46, 8, 1, 3, 0, 0, []) :: (49, 22, 0, 0, 12, 0, []) :: kX2_runsAlone_52
def kX2_runsAlone_12 : List mIn := (12, 2, 0, 3, 1, 0, []) :: (13, 4, 0, 0, 1, 0, []) :: (14, 24, 0, 2, 2, 50, [413]) :: (17, 24, 0, 0, 7, 185, [336]) :: (20, 2, 0, 1, 1, 0, []) :: (21, 26, 0, 20, 0, 0, []) :: (22, 19, 0, 4, 52, 0, []) :: (25, 4, 0, 0, 1, 0, []) :: (26, 2, 0, 1, 1, 0, []) :: (27, 2, 0, 3, 1, 0, []) :: (28, 2, 0, 2, 1, 0, []) :: (29, 32, 0, 0, 4, 209, [2, 1221, 1223, 30, 113, 1224]) :: (32, 20, 0, 0, 46, 0, []) :: (35, 4, 0, 0, 1, 0, []) :: (36, 24, 0, 2, 3, 54, [414]) :: (39, 2, 0, 1, 1, 0, []) :: (40, 2, 0, 2, 1, 0, []) :: (41, 2, 0, 3, 1, 0, []) :: (42, 32, 0, 1, 4, 107, [9, 1147, 701, 702, 112, 703]) :: (45, 33, 0, 1, 0, 0, []) :: kX2_runsAlone_46
def kX2_runsAlone_0 : List mIn := (0, 4, 0, 0, 1, 0, []) :: (1, 24, 0, 2, 2, 50, [413]) :: (4, 24, 0, 0, 5, 121, [326]) :: (7, 2, 0, 1, 1, 0, []) :: (8, 26, 0, 20, 0, 0, []) :: (9, 0, 1, 0, 0, 0, []) :: (10, 9, 0, 0, 0, 0, []) :: (11, 5, 0, 3, 1, 0, []) :: (12, 43, 0, 0, 12, 0, []) :: kX2_runsAlone_12
def TX2_runsAlone : Nat → mCal := fun a => match a with
  | 0 => calX2_mayReach
  | 1 => calX9_runsBy
  | 2 => calX0_runsUnstopped
  | _ => (yX2_runsAlone, cX2_runsAlone, 4, (some .int), (0, 0, 0, 0))
def calX2_runsAlone : mCal := (yX2_runsAlone, cX2_runsAlone, 4, (some .int), (2, 49, 0, 0))
def cutX2_runsAlone : Nat → Option (List Bool) := fun t => mLk t [(12, [true, true, true, true])]
theorem okX2_runsAlone : mOK (yX2_runsAlone.cls, cX2_runsAlone, TX2_runsAlone, (some .int), (2, 49, 0, 0), 4, mAcf [], mAcf []) kX2_runsAlone_0 = true := by decide +kernel
theorem sfxX2_runsAlone_12 : mSfx 12 kX2_runsAlone_0 = kX2_runsAlone_12 := rfl
theorem cutX2_runsAlone_12 : cutX2_runsAlone 12 = some [true, true, true, true] := rfl
theorem sfxX2_runsAlone_46 : mSfx 46 kX2_runsAlone_0 = kX2_runsAlone_46 := rfl
theorem cutX2_runsAlone_46 : cutX2_runsAlone 46 = none := rfl
theorem sfxX2_runsAlone_52 : mSfx 52 kX2_runsAlone_0 = kX2_runsAlone_52 := rfl
theorem cutX2_runsAlone_52 : cutX2_runsAlone 52 = none := rfl
def kX2_boundCost_105 : List mIn := (105, 4, 0, 0, 1, 0, []) :: (106, 24, 0, 2, 3, 54, [414]) :: (109, 2, 0, 2, 1, 0, []) :: (110, 2, 0, 3, 1, 0, []) :: (111, 32, 0, 5, 3, 179, [9, 1183, 712, 713, 112, 714]) :: (114, 33, 0, 1, 0, 0, []) :: []
def kX2_boundCost_99 : List mIn := (99, 8, 1, 4, 0, 0, []) :: (102, 22, 0, 0, 54, 0, []) :: kX2_boundCost_105
def kX2_boundCost_54 : List mIn := (54, 2, 0, 4, 2, 0, []) :: (56, 0, 9, 1, 0, 0, []) :: (58, 19, 0, 3, 105, 0, []) :: (61, 4, 0, 0, 1, 0, []) :: (62, 24, 0, 2, 1, 46, [412]) :: (65, 24, 0, 6, 0, 58, [235]) :: (68, 2, 0, 4, 2, 0, []) :: (70, 26, 0, 20, 0, 0, []) :: (71, 0, (-1), 0, 0, 0, []) :: (72, 19, 0, 0, 99, 0, []) :: (75, 2, 0, 2, 1, 0, []) :: (76, 4, 0, 0, 1, 0, []) :: (77, 2, 0, 1, 1, 0, []) :: (78, 2, 0, 4, 2, 0, []) :: (80, 32, 0, 3, 3, 200, [2, 1217, 1219, 29, 113, 1220]) :: (83, 40, 0, 0, 0, 151, [1188, 656, 121, 657]) :: (86, 5, 0, 2, 1, 0, []) :: (87, 2, 0, 3, 1, 0, []) :: (88, 4, 0, 0, 1, 0, []) :: (89, 2, 0, 1, 1, 0, []) :: (90, 2, 0, 4, 2, 0, []) :: (92, 32, 0, 4, 3, 203, [2, 1225, 1227, 31, 113, 1228]) :: (95, 40, 0, 1, 0, 206, [1229, 709, 121, 710]) :: (98, 5, 0, 3, 1, 0, []) :: kX2_boundCost_99
def kX2_boundCost_40 : List mIn := (40, 0, 0, 0, 0, 0, []) :: (41, 5, 0, 2, 1, 0, []) :: (42, 4, 0, 0, 1, 0, []) :: (43, 24, 0, 2, 2, 50, [413]) :: (46, 2, 0, 1, 1, 0, []) :: (47, 32, 0, 2, 2, 197, [0, 1216, 705, 706, 111, 707]) :: (50, 5, 0, 3, 1, 0, []) :: (51, 0, 0, 0, 0, 0, []) :: (52, 5, 0, 4, 2, 0, []) :: (54, 43, 0, 0, 54, 0, []) :: kX2_boundCost_54
def kX2_boundCost_2 : List mIn := (2, 2, 0, 2, 1, 0, []) :: (3, 4, 0, 0, 1, 0, []) :: (4, 24, 0, 2, 2, 50, [413]) :: (7, 24, 0, 0, 7, 185, [336]) :: (10, 2, 0, 1, 1, 0, []) :: (11, 26, 0, 20, 0, 0, []) :: (12, 19, 0, 4, 40, 0, []) :: (15, 4, 0, 0, 1, 0, []) :: (16, 24, 0, 2, 13, 39, [424]) :: (19, 2, 0, 2, 1, 0, []) :: (20, 4, 0, 0, 1, 0, []) :: (21, 4, 0, 0, 1, 0, []) :: (22, 24, 0, 2, 2, 50, [413]) :: (25, 2, 0, 1, 1, 0, []) :: (26, 2, 0, 2, 1, 0, []) :: (27, 32, 0, 0, 3, 130, [0, 1153, 676, 677, 111, 678]) :: (30, 32, 0, 1, 2, 194, [2, 1212, 1214, 28, 113, 1215]) :: (33, 27, 0, 20, 0, 0, []) :: (34, 8, 1, 2, 0, 0, []) :: (37, 22, 0, 0, 2, 0, []) :: kX2_boundCost_40
def kX2_boundCost_0 : List mIn := (0, 0, 1, 0, 0, 0, []) :: (1, 5, 0, 2, 1, 0, []) :: (2, 43, 0, 0, 2, 0, []) :: kX2_boundCost_2
def TX2_boundCost : Nat → mCal := fun a => match a with
  | 0 => calX0_cellAt
  | 1 => calX2_leastFarFrom
  | 2 => calX0_runsUnstopped
  | 3 => calX2_chanceAlone
  | 4 => calX2_runsAlone
  | 5 => calX9_price
  | _ => (yX2_boundCost, cX2_boundCost, 5, (some .int), (0, 0, 0, 0))
def calX2_boundCost : mCal := (yX2_boundCost, cX2_boundCost, 5, (some .int), (4, 89, 0, 0))
def cutX2_boundCost : Nat → Option (List Bool) := fun t => mLk t [(2, [true, true, true, false, false]), (54, [true, true, true, true, true])]
theorem okX2_boundCost : mOK (yX2_boundCost.cls, cX2_boundCost, TX2_boundCost, (some .int), (4, 89, 0, 0), 5, mAcf [], mAcf []) kX2_boundCost_0 = true := by decide +kernel
theorem sfxX2_boundCost_2 : mSfx 2 kX2_boundCost_0 = kX2_boundCost_2 := rfl
theorem cutX2_boundCost_2 : cutX2_boundCost 2 = some [true, true, true, false, false] := rfl
theorem sfxX2_boundCost_40 : mSfx 40 kX2_boundCost_0 = kX2_boundCost_40 := rfl
theorem cutX2_boundCost_40 : cutX2_boundCost 40 = none := rfl
theorem sfxX2_boundCost_54 : mSfx 54 kX2_boundCost_0 = kX2_boundCost_54 := rfl
theorem cutX2_boundCost_54 : cutX2_boundCost 54 = some [true, true, true, true, true] := rfl
theorem sfxX2_boundCost_99 : mSfx 99 kX2_boundCost_0 = kX2_boundCost_99 := rfl
theorem cutX2_boundCost_99 : cutX2_boundCost 99 = none := rfl
theorem sfxX2_boundCost_105 : mSfx 105 kX2_boundCost_0 = kX2_boundCost_105 := rfl
theorem cutX2_boundCost_105 : cutX2_boundCost 105 = none := rfl
def kX2_boundTop_41 : List mIn := (41, 1, 100, 1, 192, 1230, []) :: (44, 3, 0, 1, 1, 0, []) :: (45, 11, 0, 2, 0, 0, []) :: (46, 33, 0, 2, 0, 0, []) :: []
def kX2_boundTop_4 : List mIn := (4, 2, 0, 3, 1, 0, []) :: (5, 4, 0, 0, 1, 0, []) :: (6, 24, 0, 2, 2, 50, [413]) :: (9, 24, 0, 0, 0, 67, [315]) :: (12, 19, 0, 3, 41, 0, []) :: (15, 3, 0, 1, 1, 0, []) :: (16, 4, 0, 0, 1, 0, []) :: (17, 24, 0, 2, 2, 50, [413]) :: (20, 24, 0, 0, 6, 148, [330]) :: (23, 2, 0, 3, 1, 0, []) :: (24, 26, 0, 20, 0, 0, []) :: (25, 13, 0, 0, 0, 0, []) :: (26, 4, 0, 0, 1, 0, []) :: (27, 2, 0, 3, 1, 0, []) :: (28, 32, 0, 0, 2, 188, [2, 1208, 1210, 27, 113, 1211]) :: (31, 13, 0, 0, 0, 0, []) :: (32, 11, 0, 2, 0, 0, []) :: (33, 11, 0, 0, 0, 0, []) :: (34, 6, 0, 1, 1, 0, []) :: (35, 8, 1, 3, 0, 0, []) :: (38, 22, 0, 0, 4, 0, []) :: kX2_boundTop_41
def kX2_boundTop_0 : List mIn := (0, 1, 0, 0, 0, 0, []) :: (1, 6, 0, 1, 1, 0, []) :: (2, 0, 0, 0, 0, 0, []) :: (3, 5, 0, 3, 1, 0, []) :: (4, 43, 0, 0, 4, 0, []) :: kX2_boundTop_4
def TX2_boundTop : Nat → mCal := fun a => match a with
  | 0 => calX2_boundCost
  | _ => (yX2_boundTop, cX2_boundTop, 4, (some .long), (0, 0, 0, 0))
def calX2_boundTop : mCal := (yX2_boundTop, cX2_boundTop, 4, (some .long), (5, 113, 0, 0))
def cutX2_boundTop : Nat → Option (List Bool) := fun t => mLk t [(4, [true, true, false, true])]
theorem okX2_boundTop : mOK (yX2_boundTop.cls, cX2_boundTop, TX2_boundTop, (some .long), (5, 113, 0, 0), 4, mAcf [], mAcf []) kX2_boundTop_0 = true := by decide +kernel
theorem sfxX2_boundTop_4 : mSfx 4 kX2_boundTop_0 = kX2_boundTop_4 := rfl
theorem cutX2_boundTop_4 : cutX2_boundTop 4 = some [true, true, false, true] := rfl
theorem sfxX2_boundTop_41 : mSfx 41 kX2_boundTop_0 = kX2_boundTop_41 := rfl
theorem cutX2_boundTop_41 : cutX2_boundTop 41 = none := rfl
def kX3_clear_0 : List mIn := (0, 4, 0, 0, 1, 0, []) :: (1, 0, 0, 0, 0, 0, []) :: (2, 25, 0, 3, 0, 33, [159]) :: (5, 4, 0, 0, 1, 0, []) :: (6, 0, 8, 1, 0, 0, []) :: (8, 25, 0, 3, 1, 37, [162]) :: (11, 4, 0, 0, 1, 0, []) :: (12, 0, 9, 1, 0, 0, []) :: (14, 25, 0, 3, 2, 40, [165]) :: (17, 4, 0, 0, 1, 0, []) :: (18, 0, 20, 1, 0, 0, []) :: (20, 25, 0, 3, 3, 43, [169]) :: (23, 4, 0, 0, 1, 0, []) :: (24, 0, 9, 1, 0, 0, []) :: (26, 25, 0, 3, 4, 46, [173]) :: (29, 4, 0, 0, 1, 0, []) :: (30, 0, 1, 0, 0, 0, []) :: (31, 25, 0, 3, 5, 49, [178]) :: (34, 4, 0, 0, 1, 0, []) :: (35, 24, 0, 3, 6, 9, [182]) :: (38, 0, 0, 0, 0, 0, []) :: (39, 32, 1, 0, 2, 52, [156, 157, 108, 158]) :: (42, 4, 0, 0, 1, 0, []) :: (43, 24, 0, 3, 7, 15, [186]) :: (46, 0, 0, 0, 0, 0, []) :: (47, 32, 1, 0, 2, 52, [156, 157, 108, 158]) :: (50, 33, 0, 0, 0, 0, []) :: []
def TX3_clear : Nat → mCal := fun a => match a with
  | 0 => calJ7_fill_53178
  | _ => (yX3_clear, cX3_clear, 1, none, (0, 0, 0, 0))
def calX3_clear : mCal := (yX3_clear, cX3_clear, 1, none, (1, 23, 0, 0))
def cutX3_clear : Nat → Option (List Bool) := fun t => mLk t []
theorem okX3_clear : mOK (yX3_clear.cls, cX3_clear, TX3_clear, none, (1, 23, 0, 0), 1, mAcf [], mAcf []) kX3_clear_0 = true := by decide +kernel
def kX3_copyFrom_0 : List mIn := (0, 4, 0, 0, 1, 0, []) :: (1, 4, 0, 1, 1, 0, []) :: (2, 24, 0, 3, 0, 33, [159]) :: (5, 25, 0, 3, 0, 33, [159]) :: (8, 4, 0, 0, 1, 0, []) :: (9, 4, 0, 1, 1, 0, []) :: (10, 24, 0, 3, 1, 37, [162]) :: (13, 25, 0, 3, 1, 37, [162]) :: (16, 4, 0, 0, 1, 0, []) :: (17, 4, 0, 1, 1, 0, []) :: (18, 24, 0, 3, 2, 40, [165]) :: (21, 25, 0, 3, 2, 40, [165]) :: (24, 4, 0, 0, 1, 0, []) :: (25, 4, 0, 1, 1, 0, []) :: (26, 24, 0, 3, 3, 43, [169]) :: (29, 25, 0, 3, 3, 43, [169]) :: (32, 4, 0, 0, 1, 0, []) :: (33, 4, 0, 1, 1, 0, []) :: (34, 24, 0, 3, 4, 46, [173]) :: (37, 25, 0, 3, 4, 46, [173]) :: (40, 4, 0, 0, 1, 0, []) :: (41, 4, 0, 1, 1, 0, []) :: (42, 24, 0, 3, 5, 49, [178]) :: (45, 25, 0, 3, 5, 49, [178]) :: (48, 4, 0, 1, 1, 0, []) :: (49, 24, 0, 3, 6, 9, [182]) :: (52, 4, 0, 0, 1, 0, []) :: (53, 24, 0, 3, 6, 9, [182]) :: (56, 32, 3, 0, 2, 58, [15, 941, 105, 942]) :: (59, 4, 0, 1, 1, 0, []) :: (60, 24, 0, 3, 7, 15, [186]) :: (63, 4, 0, 0, 1, 0, []) :: (64, 24, 0, 3, 7, 15, [186]) :: (67, 32, 3, 0, 2, 58, [15, 941, 105, 942]) :: (70, 4, 0, 1, 1, 0, []) :: (71, 24, 0, 3, 8, 18, [188]) :: (74, 4, 0, 0, 1, 0, []) :: (75, 24, 0, 3, 8, 18, [188]) :: (78, 32, 3, 0, 2, 58, [15, 941, 105, 942]) :: (81, 4, 0, 1, 1, 0, []) :: (82, 24, 0, 3, 9, 21, [191]) :: (85, 4, 0, 0, 1, 0, []) :: (86, 24, 0, 3, 9, 21, [191]) :: (89, 32, 3, 0, 2, 58, [15, 941, 105, 942]) :: (92, 4, 0, 1, 1, 0, []) :: (93, 24, 0, 3, 10, 24, [194]) :: (96, 4, 0, 0, 1, 0, []) :: (97, 24, 0, 3, 10, 24, [194]) :: (100, 32, 3, 0, 2, 58, [15, 941, 105, 942]) :: (103, 4, 0, 1, 1, 0, []) :: (104, 24, 0, 3, 11, 27, [197]) :: (107, 4, 0, 0, 1, 0, []) :: (108, 24, 0, 3, 11, 27, [197]) :: (111, 32, 3, 0, 2, 58, [15, 941, 105, 942]) :: (114, 33, 0, 0, 0, 0, []) :: []
def TX3_copyFrom : Nat → mCal := fun a => match a with
  | 0 => calX10_copyRow
  | _ => (yX3_copyFrom, cX3_copyFrom, 2, none, (0, 0, 0, 0))
def calX3_copyFrom : mCal := (yX3_copyFrom, cX3_copyFrom, 2, none, (2, 81, 0, 0))
def cutX3_copyFrom : Nat → Option (List Bool) := fun t => mLk t []
theorem okX3_copyFrom : mOK (yX3_copyFrom.cls, cX3_copyFrom, TX3_copyFrom, none, (2, 81, 0, 0), 2, mAcf [], mAcf []) kX3_copyFrom_0 = true := by decide +kernel
def kX4_consider_145 : List mIn := (145, 33, 0, 0, 0, 0, []) :: []
def kX4_consider_129 : List mIn := (129, 4, 0, 0, 1, 0, []) :: (130, 3, 0, 1, 1, 0, []) :: (131, 25, 0, 4, 3, 22, [522]) :: (134, 4, 0, 0, 1, 0, []) :: (135, 3, 0, 3, 1, 0, []) :: (136, 25, 0, 4, 4, 26, [524]) :: (139, 4, 0, 0, 1, 0, []) :: (140, 3, 0, 5, 2, 0, []) :: (142, 25, 0, 4, 5, 29, [526]) :: kX4_consider_145
def kX4_consider_71 : List mIn := (71, 3, 0, 5, 2, 0, []) :: (73, 4, 0, 0, 1, 0, []) :: (74, 24, 0, 4, 4, 26, [524]) :: (77, 11, 0, 2, 0, 0, []) :: (78, 6, 0, 7, 2, 0, []) :: (80, 4, 0, 0, 1, 0, []) :: (81, 24, 0, 4, 5, 29, [526]) :: (84, 3, 0, 3, 1, 0, []) :: (85, 11, 0, 2, 0, 0, []) :: (86, 6, 0, 9, 2, 0, []) :: (88, 4, 0, 0, 1, 0, []) :: (89, 24, 0, 4, 4, 26, [524]) :: (92, 1, 0, 0, 0, 0, []) :: (93, 21, 0, 0, 129, 0, []) :: (97, 3, 0, 7, 2, 0, []) :: (99, 3, 0, 9, 2, 0, []) :: (101, 21, 0, 2, 129, 0, []) :: (105, 3, 0, 7, 2, 0, []) :: (107, 3, 0, 9, 2, 0, []) :: (109, 21, 0, 1, 145, 0, []) :: (113, 3, 0, 1, 1, 0, []) :: (114, 4, 0, 0, 1, 0, []) :: (115, 24, 0, 4, 4, 26, [524]) :: (118, 11, 0, 2, 0, 0, []) :: (119, 4, 0, 0, 1, 0, []) :: (120, 24, 0, 4, 3, 22, [522]) :: (123, 3, 0, 3, 1, 0, []) :: (124, 11, 0, 2, 0, 0, []) :: (125, 21, 0, 3, 145, 0, []) :: kX4_consider_129
def kX4_consider_26 : List mIn := (26, 2, 0, 7, 2, 0, []) :: (28, 4, 0, 0, 1, 0, []) :: (29, 24, 0, 4, 2, 18, [521]) :: (32, 19, 0, 3, 71, 0, []) :: (35, 3, 0, 5, 2, 0, []) :: (37, 3, 0, 1, 1, 0, []) :: (38, 4, 0, 0, 1, 0, []) :: (39, 24, 0, 4, 0, 9, [517]) :: (42, 2, 0, 7, 2, 0, []) :: (44, 26, 0, 20, 0, 0, []) :: (45, 13, 0, 0, 0, 0, []) :: (46, 11, 0, 2, 0, 0, []) :: (47, 3, 0, 3, 1, 0, []) :: (48, 3, 0, 1, 1, 0, []) :: (49, 11, 0, 1, 0, 0, []) :: (50, 4, 0, 0, 1, 0, []) :: (51, 24, 0, 4, 1, 15, [519]) :: (54, 2, 0, 7, 2, 0, []) :: (56, 26, 0, 20, 0, 0, []) :: (57, 13, 0, 0, 0, 0, []) :: (58, 11, 0, 2, 0, 0, []) :: (59, 11, 0, 0, 0, 0, []) :: (60, 40, 0, 3, 0, 40, [1282, 1283, 121, 1284]) :: (63, 6, 0, 5, 2, 0, []) :: (65, 8, 1, 7, 0, 0, []) :: (68, 22, 0, 0, 26, 0, []) :: kX4_consider_71
def kX4_consider_0 : List mIn := (0, 3, 0, 1, 1, 0, []) :: (1, 4, 0, 0, 1, 0, []) :: (2, 24, 0, 4, 0, 9, [517]) :: (5, 0, 0, 0, 0, 0, []) :: (6, 26, 0, 20, 0, 0, []) :: (7, 13, 0, 0, 0, 0, []) :: (8, 11, 0, 2, 0, 0, []) :: (9, 3, 0, 3, 1, 0, []) :: (10, 3, 0, 1, 1, 0, []) :: (11, 11, 0, 1, 0, 0, []) :: (12, 4, 0, 0, 1, 0, []) :: (13, 24, 0, 4, 1, 15, [519]) :: (16, 0, 0, 0, 0, 0, []) :: (17, 26, 0, 20, 0, 0, []) :: (18, 13, 0, 0, 0, 0, []) :: (19, 11, 0, 2, 0, 0, []) :: (20, 11, 0, 0, 0, 0, []) :: (21, 6, 0, 5, 2, 0, []) :: (23, 0, 1, 0, 0, 0, []) :: (24, 5, 0, 7, 2, 0, []) :: (26, 43, 0, 0, 26, 0, []) :: kX4_consider_26
def TX4_consider : Nat → mCal := fun a => match a with
  | _ => (yX4_consider, cX4_consider, 11, none, (0, 0, 0, 0))
def calX4_consider : mCal := (yX4_consider, cX4_consider, 11, none, (1, 23, 0, 0))
def cutX4_consider : Nat → Option (List Bool) := fun t => mLk t [(26, [true, true, false, true, false, true, false, true, false, false, false])]
theorem okX4_consider : mOK (yX4_consider.cls, cX4_consider, TX4_consider, none, (1, 23, 0, 0), 11, mAcf [], mAcf []) kX4_consider_0 = true := by decide +kernel
theorem sfxX4_consider_26 : mSfx 26 kX4_consider_0 = kX4_consider_26 := rfl
theorem cutX4_consider_26 : cutX4_consider 26 = some [true, true, false, true, false, true, false, true, false, false, false] := rfl
theorem sfxX4_consider_71 : mSfx 71 kX4_consider_0 = kX4_consider_71 := rfl
theorem cutX4_consider_71 : cutX4_consider 71 = none := rfl
theorem sfxX4_consider_129 : mSfx 129 kX4_consider_0 = kX4_consider_129 := rfl
theorem cutX4_consider_129 : cutX4_consider 129 = none := rfl
theorem sfxX4_consider_145 : mSfx 145 kX4_consider_0 = kX4_consider_145 := rfl
theorem cutX4_consider_145 : cutX4_consider 145 = none := rfl
def kX4_considerCrossing_87 : List mIn := (87, 33, 0, 0, 0, 0, []) :: []
def kX4_considerCrossing_60 : List mIn := (60, 3, 0, 5, 2, 0, []) :: (62, 1, 0, 0, 0, 0, []) :: (63, 21, 0, 5, 87, 0, []) :: (67, 3, 0, 3, 1, 0, []) :: (68, 1, 0, 0, 0, 0, []) :: (69, 21, 0, 2, 87, 0, []) :: (73, 3, 0, 3, 1, 0, []) :: (74, 3, 0, 5, 2, 0, []) :: (76, 21, 0, 4, 87, 0, []) :: (80, 4, 0, 0, 1, 0, []) :: (81, 3, 0, 3, 1, 0, []) :: (82, 3, 0, 5, 2, 0, []) :: (84, 32, 0, 0, 3, 32, [4, 1278, 1280, 33, 115, 1281]) :: kX4_considerCrossing_87
def kX4_considerCrossing_0 : List mIn := (0, 4, 0, 0, 1, 0, []) :: (1, 24, 0, 4, 1, 15, [519]) :: (4, 2, 0, 2, 1, 0, []) :: (5, 26, 0, 20, 0, 0, []) :: (6, 4, 0, 0, 1, 0, []) :: (7, 24, 0, 4, 1, 15, [519]) :: (10, 2, 0, 1, 1, 0, []) :: (11, 26, 0, 20, 0, 0, []) :: (12, 9, 0, 1, 0, 0, []) :: (13, 13, 0, 0, 0, 0, []) :: (14, 6, 0, 3, 1, 0, []) :: (15, 4, 0, 0, 1, 0, []) :: (16, 24, 0, 4, 0, 9, [517]) :: (19, 2, 0, 1, 1, 0, []) :: (20, 26, 0, 20, 0, 0, []) :: (21, 4, 0, 0, 1, 0, []) :: (22, 24, 0, 4, 1, 15, [519]) :: (25, 2, 0, 1, 1, 0, []) :: (26, 26, 0, 20, 0, 0, []) :: (27, 9, 0, 1, 0, 0, []) :: (28, 4, 0, 0, 1, 0, []) :: (29, 24, 0, 4, 0, 9, [517]) :: (32, 2, 0, 2, 1, 0, []) :: (33, 26, 0, 20, 0, 0, []) :: (34, 4, 0, 0, 1, 0, []) :: (35, 24, 0, 4, 1, 15, [519]) :: (38, 2, 0, 2, 1, 0, []) :: (39, 26, 0, 20, 0, 0, []) :: (40, 9, 0, 1, 0, 0, []) :: (41, 9, 0, 1, 0, 0, []) :: (42, 13, 0, 0, 0, 0, []) :: (43, 6, 0, 5, 2, 0, []) :: (45, 3, 0, 5, 2, 0, []) :: (47, 1, 0, 0, 0, 0, []) :: (48, 21, 0, 3, 60, 0, []) :: (52, 3, 0, 3, 1, 0, []) :: (53, 12, 0, 0, 0, 0, []) :: (54, 6, 0, 3, 1, 0, []) :: (55, 3, 0, 5, 2, 0, []) :: (57, 12, 0, 0, 0, 0, []) :: (58, 6, 0, 5, 2, 0, []) :: kX4_considerCrossing_60
def TX4_considerCrossing : Nat → mCal := fun a => match a with
  | 0 => calX4_consider
  | _ => (yX4_considerCrossing, cX4_considerCrossing, 7, none, (0, 0, 0, 0))
def calX4_considerCrossing : mCal := (yX4_considerCrossing, cX4_considerCrossing, 7, none, (2, 53, 0, 0))
def cutX4_considerCrossing : Nat → Option (List Bool) := fun t => mLk t []
theorem okX4_considerCrossing : mOK (yX4_considerCrossing.cls, cX4_considerCrossing, TX4_considerCrossing, none, (2, 53, 0, 0), 7, mAcf [], mAcf []) kX4_considerCrossing_0 = true := by decide +kernel
theorem sfxX4_considerCrossing_60 : mSfx 60 kX4_considerCrossing_0 = kX4_considerCrossing_60 := rfl
theorem cutX4_considerCrossing_60 : cutX4_considerCrossing 60 = none := rfl
theorem sfxX4_considerCrossing_87 : mSfx 87 kX4_considerCrossing_0 = kX4_considerCrossing_87 := rfl
theorem cutX4_considerCrossing_87 : cutX4_considerCrossing 87 = none := rfl
def kX4_solve_75 : List mIn := (75, 33, 0, 0, 0, 0, []) :: []
def kX4_solve_69 : List mIn := (69, 8, 1, 2, 0, 0, []) :: (72, 22, 0, 0, 42, 0, []) :: kX4_solve_75
def kX4_solve_52 : List mIn := (52, 2, 0, 3, 1, 0, []) :: (53, 2, 0, 2, 1, 0, []) :: (54, 19, 0, 3, 69, 0, []) :: (57, 4, 0, 0, 1, 0, []) :: (58, 2, 0, 2, 1, 0, []) :: (59, 2, 0, 3, 1, 0, []) :: (60, 32, 0, 1, 3, 36, [4, 1285, 1287, 34, 115, 1288]) :: (63, 8, 1, 3, 0, 0, []) :: (66, 22, 0, 0, 52, 0, []) :: kX4_solve_69
def kX4_solve_42 : List mIn := (42, 2, 0, 2, 1, 0, []) :: (43, 4, 0, 0, 1, 0, []) :: (44, 24, 0, 4, 2, 18, [521]) :: (47, 19, 0, 3, 75, 0, []) :: (50, 0, 0, 0, 0, 0, []) :: (51, 5, 0, 3, 1, 0, []) :: (52, 43, 0, 0, 52, 0, []) :: kX4_solve_52
def kX4_solve_28 : List mIn := (28, 4, 0, 0, 1, 0, []) :: (29, 1, 0, 0, 0, 0, []) :: (30, 1, 1, 0, 1, 0, []) :: (31, 32, 0, 0, 3, 32, [4, 1278, 1280, 33, 115, 1281]) :: (34, 4, 0, 0, 1, 0, []) :: (35, 1, 1, 0, 1, 0, []) :: (36, 1, 1, 0, 1, 0, []) :: (37, 32, 0, 0, 3, 32, [4, 1278, 1280, 33, 115, 1281]) :: (40, 0, 0, 0, 0, 0, []) :: (41, 5, 0, 2, 1, 0, []) :: (42, 43, 0, 0, 42, 0, []) :: kX4_solve_42
def kX4_solve_0 : List mIn := (0, 4, 0, 0, 1, 0, []) :: (1, 2, 0, 1, 1, 0, []) :: (2, 25, 0, 4, 2, 18, [521]) :: (5, 4, 0, 0, 1, 0, []) :: (6, 1, 0, 0, 0, 0, []) :: (7, 25, 0, 4, 3, 22, [522]) :: (10, 4, 0, 0, 1, 0, []) :: (11, 1, 0, 0, 0, 0, []) :: (12, 25, 0, 4, 4, 26, [524]) :: (15, 4, 0, 0, 1, 0, []) :: (16, 1, 0, 0, 0, 0, []) :: (17, 25, 0, 4, 5, 29, [526]) :: (20, 4, 0, 0, 1, 0, []) :: (21, 24, 0, 4, 2, 18, [521]) :: (24, 20, 0, 1, 28, 0, []) :: (27, 33, 0, 0, 0, 0, []) :: kX4_solve_28
def TX4_solve : Nat → mCal := fun a => match a with
  | 0 => calX4_consider
  | 1 => calX4_considerCrossing
  | _ => (yX4_solve, cX4_solve, 4, none, (0, 0, 0, 0))
def calX4_solve : mCal := (yX4_solve, cX4_solve, 4, none, (3, 79, 0, 0))
def cutX4_solve : Nat → Option (List Bool) := fun t => mLk t [(42, [true, false, true, false]), (52, [true, false, true, true])]
theorem okX4_solve : mOK (yX4_solve.cls, cX4_solve, TX4_solve, none, (3, 79, 0, 0), 4, mAcf [], mAcf []) kX4_solve_0 = true := by decide +kernel
theorem sfxX4_solve_28 : mSfx 28 kX4_solve_0 = kX4_solve_28 := rfl
theorem cutX4_solve_28 : cutX4_solve 28 = none := rfl
theorem sfxX4_solve_42 : mSfx 42 kX4_solve_0 = kX4_solve_42 := rfl
theorem cutX4_solve_42 : cutX4_solve 42 = some [true, false, true, false] := rfl
theorem sfxX4_solve_52 : mSfx 52 kX4_solve_0 = kX4_solve_52 := rfl
theorem cutX4_solve_52 : cutX4_solve 52 = some [true, false, true, true] := rfl
theorem sfxX4_solve_69 : mSfx 69 kX4_solve_0 = kX4_solve_69 := rfl
theorem cutX4_solve_69 : cutX4_solve 69 = none := rfl
theorem sfxX4_solve_75 : mSfx 75 kX4_solve_0 = kX4_solve_75 := rfl
theorem cutX4_solve_75 : cutX4_solve 75 = none := rfl
def kX5_append_46 : List mIn := (46, 33, 0, 0, 0, 0, []) :: []
def kX5_append_3 : List mIn := (3, 2, 0, 2, 1, 0, []) :: (4, 20, 0, 2, 46, 0, []) :: (7, 4, 0, 0, 1, 0, []) :: (8, 24, 0, 5, 1, 26, [474]) :: (11, 0, 800, 2, 0, 0, []) :: (14, 19, 0, 3, 46, 0, []) :: (17, 4, 0, 0, 1, 0, []) :: (18, 24, 0, 5, 0, 9, [472]) :: (21, 4, 0, 0, 1, 0, []) :: (22, 24, 0, 5, 1, 26, [474]) :: (25, 2, 0, 1, 1, 0, []) :: (26, 2, 0, 2, 1, 0, []) :: (27, 9, 0, 7, 0, 0, []) :: (28, 15, 0, 0, 0, 0, []) :: (29, 27, 0, 21, 0, 0, []) :: (30, 4, 0, 0, 1, 0, []) :: (31, 29, 0, 0, 0, 0, []) :: (32, 24, 0, 5, 1, 26, [474]) :: (35, 0, 1, 0, 0, 0, []) :: (36, 9, 0, 0, 0, 0, []) :: (37, 25, 0, 5, 1, 26, [474]) :: (40, 8, (-8), 2, 0, 0, []) :: (43, 22, 0, 0, 3, 0, []) :: kX5_append_46
def kX5_append_0 : List mIn := (0, 0, 24, 1, 0, 0, []) :: (2, 5, 0, 2, 1, 0, []) :: (3, 43, 0, 0, 3, 0, []) :: kX5_append_3
def TX5_append : Nat → mCal := fun a => match a with
  | _ => (yX5_append, cX5_append, 3, none, (0, 0, 0, 0))
def calX5_append : mCal := (yX5_append, cX5_append, 3, none, (0, 0, 0, 0))
def cutX5_append : Nat → Option (List Bool) := fun t => mLk t [(3, [true, true, true])]
theorem okX5_append : mOK (yX5_append.cls, cX5_append, TX5_append, none, (0, 0, 0, 0), 3, mAcf [], mAcf []) kX5_append_0 = true := by decide +kernel
theorem sfxX5_append_3 : mSfx 3 kX5_append_0 = kX5_append_3 := rfl
theorem cutX5_append_3 : cutX5_append 3 = some [true, true, true] := rfl
theorem sfxX5_append_46 : mSfx 46 kX5_append_0 = kX5_append_46 := rfl
theorem cutX5_append_46 : cutX5_append 46 = none := rfl
def kX5_signAt_29 : List mIn := (29, 33, 0, 1, 0, 0, []) :: []
def kX5_signAt_28 : List mIn := (28, 0, 0, 0, 0, 0, []) :: kX5_signAt_29
def kX5_signAt_0 : List mIn := (0, 2, 0, 1, 1, 0, []) :: (1, 20, 0, 2, 28, 0, []) :: (4, 2, 0, 1, 1, 0, []) :: (5, 4, 0, 0, 1, 0, []) :: (6, 24, 0, 5, 5, 35, [481]) :: (9, 19, 0, 3, 28, 0, []) :: (12, 2, 0, 1, 1, 0, []) :: (13, 0, 800, 2, 0, 0, []) :: (16, 19, 0, 3, 28, 0, []) :: (19, 4, 0, 0, 1, 0, []) :: (20, 24, 0, 5, 0, 9, [472]) :: (23, 2, 0, 1, 1, 0, []) :: (24, 26, 0, 21, 0, 0, []) :: (25, 22, 0, 0, 29, 0, []) :: kX5_signAt_28
def TX5_signAt : Nat → mCal := fun a => match a with
  | _ => (yX5_signAt, cX5_signAt, 2, (some .int), (0, 0, 0, 0))
def calX5_signAt : mCal := (yX5_signAt, cX5_signAt, 2, (some .int), (0, 0, 0, 0))
def cutX5_signAt : Nat → Option (List Bool) := fun t => mLk t []
theorem okX5_signAt : mOK (yX5_signAt.cls, cX5_signAt, TX5_signAt, (some .int), (0, 0, 0, 0), 2, mAcf [], mAcf []) kX5_signAt_0 = true := by decide +kernel
theorem sfxX5_signAt_28 : mSfx 28 kX5_signAt_0 = kX5_signAt_28 := rfl
theorem cutX5_signAt_28 : cutX5_signAt 28 = none := rfl
theorem sfxX5_signAt_29 : mSfx 29 kX5_signAt_0 = kX5_signAt_29 := rfl
theorem cutX5_signAt_29 : cutX5_signAt 29 = none := rfl
def kX5_isBlank_17 : List mIn := (17, 33, 0, 4, 0, 0, []) :: []
def kX5_isBlank_16 : List mIn := (16, 0, 0, 0, 0, 0, []) :: kX5_isBlank_17
def kX5_isBlank_12 : List mIn := (12, 0, 1, 0, 0, 0, []) :: (13, 22, 0, 0, 17, 0, []) :: kX5_isBlank_16
def kX5_isBlank_0 : List mIn := (0, 2, 0, 0, 1, 0, []) :: (1, 0, 10, 1, 0, 0, []) :: (3, 19, 0, 0, 12, 0, []) :: (6, 2, 0, 0, 1, 0, []) :: (7, 0, 32, 1, 0, 0, []) :: (9, 19, 0, 1, 16, 0, []) :: kX5_isBlank_12
def TX5_isBlank : Nat → mCal := fun a => match a with
  | _ => (yX5_isBlank, cX5_isBlank, 1, (some .boolean), (0, 0, 0, 0))
def calX5_isBlank : mCal := (yX5_isBlank, cX5_isBlank, 1, (some .boolean), (0, 0, 0, 0))
def cutX5_isBlank : Nat → Option (List Bool) := fun t => mLk t []
theorem okX5_isBlank : mOK (yX5_isBlank.cls, cX5_isBlank, TX5_isBlank, (some .boolean), (0, 0, 0, 0), 1, mAcf [], mAcf []) kX5_isBlank_0 = true := by decide +kernel
theorem sfxX5_isBlank_12 : mSfx 12 kX5_isBlank_0 = kX5_isBlank_12 := rfl
theorem cutX5_isBlank_12 : cutX5_isBlank 12 = none := rfl
theorem sfxX5_isBlank_16 : mSfx 16 kX5_isBlank_0 = kX5_isBlank_16 := rfl
theorem cutX5_isBlank_16 : cutX5_isBlank 16 = none := rfl
theorem sfxX5_isBlank_17 : mSfx 17 kX5_isBlank_0 = kX5_isBlank_17 := rfl
theorem cutX5_isBlank_17 : cutX5_isBlank 17 = none := rfl
def kX5_sortOf_39 : List mIn := (39, 33, 0, 1, 0, 0, []) :: []
def kX5_sortOf_38 : List mIn := (38, 0, 4, 0, 0, 0, []) :: kX5_sortOf_39
def kX5_sortOf_28 : List mIn := (28, 2, 0, 0, 1, 0, []) :: (29, 0, 59, 1, 0, 0, []) :: (31, 19, 0, 1, 38, 0, []) :: (34, 0, 3, 0, 0, 0, []) :: (35, 22, 0, 0, 39, 0, []) :: kX5_sortOf_38
def kX5_sortOf_14 : List mIn := (14, 2, 0, 0, 1, 0, []) :: (15, 0, 48, 1, 0, 0, []) :: (17, 19, 0, 2, 28, 0, []) :: (20, 2, 0, 0, 1, 0, []) :: (21, 0, 57, 1, 0, 0, []) :: (23, 19, 0, 4, 28, 0, []) :: (26, 0, 2, 0, 0, 0, []) :: (27, 33, 0, 1, 0, 0, []) :: kX5_sortOf_28
def kX5_sortOf_0 : List mIn := (0, 2, 0, 0, 1, 0, []) :: (1, 0, 97, 1, 0, 0, []) :: (3, 19, 0, 2, 14, 0, []) :: (6, 2, 0, 0, 1, 0, []) :: (7, 0, 122, 1, 0, 0, []) :: (9, 19, 0, 4, 14, 0, []) :: (12, 0, 1, 0, 0, 0, []) :: (13, 33, 0, 1, 0, 0, []) :: kX5_sortOf_14
def TX5_sortOf : Nat → mCal := fun a => match a with
  | _ => (yX5_sortOf, cX5_sortOf, 1, (some .int), (0, 0, 0, 0))
def calX5_sortOf : mCal := (yX5_sortOf, cX5_sortOf, 1, (some .int), (0, 0, 0, 0))
def cutX5_sortOf : Nat → Option (List Bool) := fun t => mLk t []
theorem okX5_sortOf : mOK (yX5_sortOf.cls, cX5_sortOf, TX5_sortOf, (some .int), (0, 0, 0, 0), 1, mAcf [], mAcf []) kX5_sortOf_0 = true := by decide +kernel
theorem sfxX5_sortOf_14 : mSfx 14 kX5_sortOf_0 = kX5_sortOf_14 := rfl
theorem cutX5_sortOf_14 : cutX5_sortOf 14 = none := rfl
theorem sfxX5_sortOf_28 : mSfx 28 kX5_sortOf_0 = kX5_sortOf_28 := rfl
theorem cutX5_sortOf_28 : cutX5_sortOf 28 = none := rfl
theorem sfxX5_sortOf_38 : mSfx 38 kX5_sortOf_0 = kX5_sortOf_38 := rfl
theorem cutX5_sortOf_38 : cutX5_sortOf 38 = none := rfl
theorem sfxX5_sortOf_39 : mSfx 39 kX5_sortOf_0 = kX5_sortOf_39 := rfl
theorem cutX5_sortOf_39 : cutX5_sortOf 39 = none := rfl
def kX5_advance_236 : List mIn := (236, 33, 0, 0, 0, 0, []) :: []
def kX5_advance_210 : List mIn := (210, 4, 0, 0, 1, 0, []) :: (211, 24, 0, 5, 7, 50, [483]) :: (214, 0, 2, 0, 0, 0, []) :: (215, 19, 0, 1, 236, 0, []) :: (218, 4, 0, 0, 1, 0, []) :: (219, 24, 0, 5, 6, 38, [482]) :: (222, 4, 0, 0, 1, 0, []) :: (223, 24, 0, 5, 8, 150, [484]) :: (226, 9, 0, 1, 0, 0, []) :: (227, 0, 3, 0, 0, 0, []) :: (228, 19, 0, 5, 236, 0, []) :: (231, 4, 0, 0, 1, 0, []) :: (232, 0, 4, 0, 0, 0, []) :: (233, 25, 0, 5, 7, 50, [483]) :: kX5_advance_236
def kX5_advance_206 : List mIn := (206, 5, 0, 1, 1, 0, []) :: (207, 22, 0, 0, 98, 0, []) :: kX5_advance_210
def kX5_advance_205 : List mIn := (205, 0, 0, 0, 0, 0, []) :: kX5_advance_206
def kX5_advance_183 : List mIn := (183, 4, 0, 0, 1, 0, []) :: (184, 4, 0, 0, 1, 0, []) :: (185, 24, 0, 5, 6, 38, [482]) :: (188, 32, 0, 0, 2, 157, [5, 821, 823, 6, 114, 824]) :: (191, 32, 1, 2, 1, 167, [828, 829, 114, 830]) :: (194, 4, 0, 0, 1, 0, []) :: (195, 24, 0, 5, 7, 50, [483]) :: (198, 19, 0, 1, 205, 0, []) :: (201, 0, 1, 0, 0, 0, []) :: (202, 22, 0, 0, 206, 0, []) :: kX5_advance_205
def kX5_advance_157 : List mIn := (157, 4, 0, 0, 1, 0, []) :: (158, 29, 0, 0, 0, 0, []) :: (159, 24, 0, 5, 6, 38, [482]) :: (162, 0, 1, 0, 0, 0, []) :: (163, 9, 0, 0, 0, 0, []) :: (164, 25, 0, 5, 6, 38, [482]) :: (167, 4, 0, 0, 1, 0, []) :: (168, 24, 0, 5, 7, 50, [483]) :: (171, 0, 1, 0, 0, 0, []) :: (172, 19, 0, 0, 183, 0, []) :: (175, 4, 0, 0, 1, 0, []) :: (176, 24, 0, 5, 7, 50, [483]) :: (179, 0, 2, 0, 0, 0, []) :: (180, 19, 0, 1, 205, 0, []) :: kX5_advance_183
def kX5_advance_98 : List mIn := (98, 2, 0, 1, 1, 0, []) :: (99, 20, 0, 0, 210, 0, []) :: (102, 4, 0, 0, 1, 0, []) :: (103, 24, 0, 5, 6, 38, [482]) :: (106, 4, 0, 0, 1, 0, []) :: (107, 24, 0, 5, 5, 35, [481]) :: (110, 19, 0, 3, 210, 0, []) :: (113, 4, 0, 0, 1, 0, []) :: (114, 24, 0, 5, 7, 50, [483]) :: (117, 0, 2, 0, 0, 0, []) :: (118, 19, 0, 1, 157, 0, []) :: (121, 4, 0, 0, 1, 0, []) :: (122, 24, 0, 5, 6, 38, [482]) :: (125, 4, 0, 0, 1, 0, []) :: (126, 24, 0, 5, 8, 150, [484]) :: (129, 9, 0, 1, 0, 0, []) :: (130, 0, 3, 0, 0, 0, []) :: (131, 19, 0, 3, 157, 0, []) :: (134, 4, 0, 0, 1, 0, []) :: (135, 4, 0, 0, 1, 0, []) :: (136, 24, 0, 5, 9, 147, [485]) :: (139, 0, 10, 1, 0, 0, []) :: (141, 9, 0, 2, 0, 0, []) :: (142, 4, 0, 0, 1, 0, []) :: (143, 4, 0, 0, 1, 0, []) :: (144, 24, 0, 5, 6, 38, [482]) :: (147, 32, 0, 0, 2, 157, [5, 821, 823, 6, 114, 824]) :: (150, 9, 0, 0, 0, 0, []) :: (151, 0, 48, 1, 0, 0, []) :: (153, 9, 0, 1, 0, 0, []) :: (154, 25, 0, 5, 9, 147, [485]) :: kX5_advance_157
def kX5_advance_97 : List mIn := (97, 5, 0, 1, 1, 0, []) :: (98, 43, 0, 0, 98, 0, []) :: kX5_advance_98
def kX5_advance_96 : List mIn := (96, 0, 0, 0, 0, 0, []) :: kX5_advance_97
def kX5_advance_73 : List mIn := (73, 25, 0, 5, 7, 50, [483]) :: (76, 4, 0, 0, 1, 0, []) :: (77, 0, 0, 0, 0, 0, []) :: (78, 25, 0, 5, 9, 147, [485]) :: (81, 4, 0, 0, 1, 0, []) :: (82, 24, 0, 5, 6, 38, [482]) :: (85, 4, 0, 0, 1, 0, []) :: (86, 24, 0, 5, 5, 35, [481]) :: (89, 19, 0, 3, 96, 0, []) :: (92, 0, 1, 0, 0, 0, []) :: (93, 22, 0, 0, 97, 0, []) :: kX5_advance_96
def kX5_advance_72 : List mIn := (72, 0, 0, 0, 0, 0, []) :: kX5_advance_73
def kX5_advance_38 : List mIn := (38, 4, 0, 0, 1, 0, []) :: (39, 4, 0, 0, 1, 0, []) :: (40, 24, 0, 5, 6, 38, [482]) :: (43, 25, 0, 5, 8, 150, [484]) :: (46, 4, 0, 0, 1, 0, []) :: (47, 4, 0, 0, 1, 0, []) :: (48, 24, 0, 5, 6, 38, [482]) :: (51, 4, 0, 0, 1, 0, []) :: (52, 24, 0, 5, 5, 35, [481]) :: (55, 19, 0, 3, 72, 0, []) :: (58, 4, 0, 0, 1, 0, []) :: (59, 4, 0, 0, 1, 0, []) :: (60, 24, 0, 5, 6, 38, [482]) :: (63, 32, 0, 0, 2, 157, [5, 821, 823, 6, 114, 824]) :: (66, 32, 1, 2, 1, 167, [828, 829, 114, 830]) :: (69, 22, 0, 0, 73, 0, []) :: kX5_advance_72
def kX5_advance_0 : List mIn := (0, 4, 0, 0, 1, 0, []) :: (1, 24, 0, 5, 6, 38, [482]) :: (4, 4, 0, 0, 1, 0, []) :: (5, 24, 0, 5, 5, 35, [481]) :: (8, 19, 0, 3, 38, 0, []) :: (11, 4, 0, 0, 1, 0, []) :: (12, 4, 0, 0, 1, 0, []) :: (13, 24, 0, 5, 6, 38, [482]) :: (16, 32, 0, 0, 2, 157, [5, 821, 823, 6, 114, 824]) :: (19, 32, 1, 1, 1, 164, [825, 826, 114, 827]) :: (22, 20, 0, 0, 38, 0, []) :: (25, 4, 0, 0, 1, 0, []) :: (26, 29, 0, 0, 0, 0, []) :: (27, 24, 0, 5, 6, 38, [482]) :: (30, 0, 1, 0, 0, 0, []) :: (31, 9, 0, 0, 0, 0, []) :: (32, 25, 0, 5, 6, 38, [482]) :: (35, 22, 0, 0, 0, 0, []) :: kX5_advance_38
def TX5_advance : Nat → mCal := fun a => match a with
  | 0 => calX5_signAt
  | 1 => calX5_isBlank
  | 2 => calX5_sortOf
  | _ => (yX5_advance, cX5_advance, 2, none, (0, 0, 0, 0))
def calX5_advance : mCal := (yX5_advance, cX5_advance, 2, none, (1, 21, 0, 0))
def cutX5_advance : Nat → Option (List Bool) := fun t => mLk t [(0, [true, false]), (98, [true, true])]
theorem okX5_advance : mOK (yX5_advance.cls, cX5_advance, TX5_advance, none, (1, 21, 0, 0), 2, mAcf [], mAcf []) kX5_advance_0 = true := by decide +kernel
theorem sfxX5_advance_0 : mSfx 0 kX5_advance_0 = kX5_advance_0 := rfl
theorem cutX5_advance_0 : cutX5_advance 0 = some [true, false] := rfl
theorem sfxX5_advance_38 : mSfx 38 kX5_advance_0 = kX5_advance_38 := rfl
theorem cutX5_advance_38 : cutX5_advance 38 = none := rfl
theorem sfxX5_advance_72 : mSfx 72 kX5_advance_0 = kX5_advance_72 := rfl
theorem cutX5_advance_72 : cutX5_advance 72 = none := rfl
theorem sfxX5_advance_73 : mSfx 73 kX5_advance_0 = kX5_advance_73 := rfl
theorem cutX5_advance_73 : cutX5_advance 73 = none := rfl
theorem sfxX5_advance_96 : mSfx 96 kX5_advance_0 = kX5_advance_96 := rfl
theorem cutX5_advance_96 : cutX5_advance 96 = none := rfl
theorem sfxX5_advance_97 : mSfx 97 kX5_advance_0 = kX5_advance_97 := rfl
theorem cutX5_advance_97 : cutX5_advance 97 = none := rfl
theorem sfxX5_advance_98 : mSfx 98 kX5_advance_0 = kX5_advance_98 := rfl
theorem cutX5_advance_98 : cutX5_advance 98 = some [true, true] := rfl
theorem sfxX5_advance_157 : mSfx 157 kX5_advance_0 = kX5_advance_157 := rfl
theorem cutX5_advance_157 : cutX5_advance 157 = none := rfl
theorem sfxX5_advance_183 : mSfx 183 kX5_advance_0 = kX5_advance_183 := rfl
theorem cutX5_advance_183 : cutX5_advance 183 = none := rfl
theorem sfxX5_advance_205 : mSfx 205 kX5_advance_0 = kX5_advance_205 := rfl
theorem cutX5_advance_205 : cutX5_advance 205 = none := rfl
theorem sfxX5_advance_206 : mSfx 206 kX5_advance_0 = kX5_advance_206 := rfl
theorem cutX5_advance_206 : cutX5_advance 206 = none := rfl
theorem sfxX5_advance_210 : mSfx 210 kX5_advance_0 = kX5_advance_210 := rfl
theorem cutX5_advance_210 : cutX5_advance 210 = none := rfl
theorem sfxX5_advance_236 : mSfx 236 kX5_advance_0 = kX5_advance_236 := rfl
theorem cutX5_advance_236 : cutX5_advance 236 = none := rfl
def kX5_isWord_62 : List mIn := (62, 0, 1, 0, 0, 0, []) :: (63, 33, 0, 4, 0, 0, []) :: []
def kX5_isWord_56 : List mIn := (56, 8, 1, 2, 0, 0, []) :: (59, 22, 0, 0, 28, 0, []) :: kX5_isWord_62
def kX5_isWord_28 : List mIn := (28, 2, 0, 2, 1, 0, []) :: (29, 4, 0, 1, 1, 0, []) :: (30, 38, 0, 0, 0, 153, [840, 841, 842, 122, 843]) :: (33, 19, 0, 3, 62, 0, []) :: (36, 4, 0, 0, 1, 0, []) :: (37, 4, 0, 0, 1, 0, []) :: (38, 24, 0, 5, 8, 150, [484]) :: (41, 2, 0, 2, 1, 0, []) :: (42, 9, 0, 0, 0, 0, []) :: (43, 32, 0, 0, 2, 157, [5, 821, 823, 6, 114, 824]) :: (46, 4, 0, 1, 1, 0, []) :: (47, 2, 0, 2, 1, 0, []) :: (48, 39, 0, 0, 0, 160, [850, 851, 852, 122, 853]) :: (51, 19, 0, 0, 56, 0, []) :: (54, 0, 0, 0, 0, 0, []) :: (55, 33, 0, 4, 0, 0, []) :: kX5_isWord_56
def kX5_isWord_26 : List mIn := (26, 0, 0, 0, 0, 0, []) :: (27, 5, 0, 2, 1, 0, []) :: (28, 43, 0, 0, 28, 0, []) :: kX5_isWord_28
def kX5_isWord_24 : List mIn := (24, 0, 0, 0, 0, 0, []) :: (25, 33, 0, 4, 0, 0, []) :: kX5_isWord_26
def kX5_isWord_0 : List mIn := (0, 4, 0, 0, 1, 0, []) :: (1, 24, 0, 5, 7, 50, [483]) :: (4, 0, 1, 0, 0, 0, []) :: (5, 19, 0, 1, 24, 0, []) :: (8, 4, 0, 0, 1, 0, []) :: (9, 24, 0, 5, 6, 38, [482]) :: (12, 4, 0, 0, 1, 0, []) :: (13, 24, 0, 5, 8, 150, [484]) :: (16, 9, 0, 1, 0, 0, []) :: (17, 4, 0, 1, 1, 0, []) :: (18, 38, 0, 0, 0, 153, [840, 841, 842, 122, 843]) :: (21, 19, 0, 0, 26, 0, []) :: kX5_isWord_24
def TX5_isWord : Nat → mCal := fun a => match a with
  | 0 => calX5_signAt
  | _ => (yX5_isWord, cX5_isWord, 3, (some .boolean), (0, 0, 0, 0))
def calX5_isWord : mCal := (yX5_isWord, cX5_isWord, 3, (some .boolean), (5, 141, 0, 0))
def cutX5_isWord : Nat → Option (List Bool) := fun t => mLk t [(28, [true, true, true])]
theorem okX5_isWord : mOK (yX5_isWord.cls, cX5_isWord, TX5_isWord, (some .boolean), (5, 141, 0, 0), 3, mAcf [], mAcf []) kX5_isWord_0 = true := by decide +kernel
theorem sfxX5_isWord_24 : mSfx 24 kX5_isWord_0 = kX5_isWord_24 := rfl
theorem cutX5_isWord_24 : cutX5_isWord 24 = none := rfl
theorem sfxX5_isWord_26 : mSfx 26 kX5_isWord_0 = kX5_isWord_26 := rfl
theorem cutX5_isWord_26 : cutX5_isWord 26 = none := rfl
theorem sfxX5_isWord_28 : mSfx 28 kX5_isWord_0 = kX5_isWord_28 := rfl
theorem cutX5_isWord_28 : cutX5_isWord 28 = some [true, true, true] := rfl
theorem sfxX5_isWord_56 : mSfx 56 kX5_isWord_0 = kX5_isWord_56 := rfl
theorem cutX5_isWord_56 : cutX5_isWord 56 = none := rfl
theorem sfxX5_isWord_62 : mSfx 62 kX5_isWord_0 = kX5_isWord_62 := rfl
theorem cutX5_isWord_62 : cutX5_isWord 62 = none := rfl
def kX5_lineNamed_81 : List mIn := (81, 33, 0, 1, 0, 0, []) :: []
def kX5_lineNamed_80 : List mIn := (80, 0, (-1), 0, 0, 0, []) :: kX5_lineNamed_81
def kX5_lineNamed_67 : List mIn := (67, 4, 0, 0, 1, 0, []) :: (68, 37, 0, 6, 2, 93, []) :: (70, 32, 0, 0, 2, 79, [5, 836, 838, 8, 114, 839]) :: (73, 20, 0, 0, 80, 0, []) :: (76, 0, 4, 0, 0, 0, []) :: (77, 22, 0, 0, 81, 0, []) :: kX5_lineNamed_80
def kX5_lineNamed_56 : List mIn := (56, 4, 0, 0, 1, 0, []) :: (57, 37, 0, 5, 2, 91, []) :: (59, 32, 0, 0, 2, 79, [5, 836, 838, 8, 114, 839]) :: (62, 20, 0, 0, 67, 0, []) :: (65, 0, 3, 0, 0, 0, []) :: (66, 33, 0, 1, 0, 0, []) :: kX5_lineNamed_67
def kX5_lineNamed_45 : List mIn := (45, 4, 0, 0, 1, 0, []) :: (46, 37, 0, 4, 2, 89, []) :: (48, 32, 0, 0, 2, 79, [5, 836, 838, 8, 114, 839]) :: (51, 20, 0, 0, 56, 0, []) :: (54, 0, 2, 0, 0, 0, []) :: (55, 33, 0, 1, 0, 0, []) :: kX5_lineNamed_56
def kX5_lineNamed_34 : List mIn := (34, 4, 0, 0, 1, 0, []) :: (35, 37, 0, 3, 2, 87, []) :: (37, 32, 0, 0, 2, 79, [5, 836, 838, 8, 114, 839]) :: (40, 20, 0, 0, 45, 0, []) :: (43, 0, 1, 0, 0, 0, []) :: (44, 33, 0, 1, 0, 0, []) :: kX5_lineNamed_45
def kX5_lineNamed_23 : List mIn := (23, 4, 0, 0, 1, 0, []) :: (24, 37, 0, 2, 2, 85, []) :: (26, 32, 0, 0, 2, 79, [5, 836, 838, 8, 114, 839]) :: (29, 20, 0, 0, 34, 0, []) :: (32, 0, 0, 0, 0, 0, []) :: (33, 33, 0, 1, 0, 0, []) :: kX5_lineNamed_34
def kX5_lineNamed_12 : List mIn := (12, 4, 0, 0, 1, 0, []) :: (13, 37, 0, 1, 2, 83, []) :: (15, 32, 0, 0, 2, 79, [5, 836, 838, 8, 114, 839]) :: (18, 20, 0, 0, 23, 0, []) :: (21, 0, 5, 0, 0, 0, []) :: (22, 33, 0, 1, 0, 0, []) :: kX5_lineNamed_23
def kX5_lineNamed_0 : List mIn := (0, 4, 0, 0, 1, 0, []) :: (1, 37, 0, 0, 2, 77, []) :: (3, 32, 0, 0, 2, 79, [5, 836, 838, 8, 114, 839]) :: (6, 20, 0, 0, 12, 0, []) :: (9, 0, 6, 1, 0, 0, []) :: (11, 33, 0, 1, 0, 0, []) :: kX5_lineNamed_12
def TX5_lineNamed : Nat → mCal := fun a => match a with
  | 0 => calX5_isWord
  | _ => (yX5_lineNamed, cX5_lineNamed, 1, (some .int), (0, 0, 0, 0))
def calX5_lineNamed : mCal := (yX5_lineNamed, cX5_lineNamed, 1, (some .int), (6, 163, 0, 0))
def cutX5_lineNamed : Nat → Option (List Bool) := fun t => mLk t []
theorem okX5_lineNamed : mOK (yX5_lineNamed.cls, cX5_lineNamed, TX5_lineNamed, (some .int), (6, 163, 0, 0), 1, mAcf [], mAcf []) kX5_lineNamed_0 = true := by decide +kernel
theorem sfxX5_lineNamed_12 : mSfx 12 kX5_lineNamed_0 = kX5_lineNamed_12 := rfl
theorem cutX5_lineNamed_12 : cutX5_lineNamed 12 = none := rfl
theorem sfxX5_lineNamed_23 : mSfx 23 kX5_lineNamed_0 = kX5_lineNamed_23 := rfl
theorem cutX5_lineNamed_23 : cutX5_lineNamed 23 = none := rfl
theorem sfxX5_lineNamed_34 : mSfx 34 kX5_lineNamed_0 = kX5_lineNamed_34 := rfl
theorem cutX5_lineNamed_34 : cutX5_lineNamed 34 = none := rfl
theorem sfxX5_lineNamed_45 : mSfx 45 kX5_lineNamed_0 = kX5_lineNamed_45 := rfl
theorem cutX5_lineNamed_45 : cutX5_lineNamed 45 = none := rfl
theorem sfxX5_lineNamed_56 : mSfx 56 kX5_lineNamed_0 = kX5_lineNamed_56 := rfl
theorem cutX5_lineNamed_56 : cutX5_lineNamed 56 = none := rfl
theorem sfxX5_lineNamed_67 : mSfx 67 kX5_lineNamed_0 = kX5_lineNamed_67 := rfl
theorem cutX5_lineNamed_67 : cutX5_lineNamed 67 = none := rfl
theorem sfxX5_lineNamed_80 : mSfx 80 kX5_lineNamed_0 = kX5_lineNamed_80 := rfl
theorem cutX5_lineNamed_80 : cutX5_lineNamed 80 = none := rfl
theorem sfxX5_lineNamed_81 : mSfx 81 kX5_lineNamed_0 = kX5_lineNamed_81 := rfl
theorem cutX5_lineNamed_81 : cutX5_lineNamed 81 = none := rfl
def kX5_fail_14 : List mIn := (14, 25, 0, 5, 3, 41, [477]) :: (17, 4, 0, 0, 1, 0, []) :: (18, 4, 0, 0, 1, 0, []) :: (19, 24, 0, 5, 8, 150, [484]) :: (22, 25, 0, 5, 4, 22, [479]) :: (25, 0, 0, 0, 0, 0, []) :: (26, 33, 0, 4, 0, 0, []) :: []
def kX5_fail_13 : List mIn := (13, 2, 0, 1, 1, 0, []) :: kX5_fail_14
def kX5_fail_0 : List mIn := (0, 4, 0, 0, 1, 0, []) :: (1, 4, 0, 0, 1, 0, []) :: (2, 24, 0, 5, 7, 50, [483]) :: (5, 0, 4, 0, 0, 0, []) :: (6, 19, 0, 1, 13, 0, []) :: (9, 0, 1, 0, 0, 0, []) :: (10, 22, 0, 0, 14, 0, []) :: kX5_fail_13
def TX5_fail : Nat → mCal := fun a => match a with
  | _ => (yX5_fail, cX5_fail, 2, (some .boolean), (0, 0, 0, 0))
def calX5_fail : mCal := (yX5_fail, cX5_fail, 2, (some .boolean), (0, 0, 0, 0))
def cutX5_fail : Nat → Option (List Bool) := fun t => mLk t []
theorem okX5_fail : mOK (yX5_fail.cls, cX5_fail, TX5_fail, (some .boolean), (0, 0, 0, 0), 2, mAcf [], mAcf []) kX5_fail_0 = true := by decide +kernel
theorem sfxX5_fail_13 : mSfx 13 kX5_fail_0 = kX5_fail_13 := rfl
theorem cutX5_fail_13 : cutX5_fail 13 = none := rfl
theorem sfxX5_fail_14 : mSfx 14 kX5_fail_0 = kX5_fail_14 := rfl
theorem cutX5_fail_14 : cutX5_fail 14 = none := rfl
def kX5_readNumber_36 : List mIn := (36, 4, 0, 0, 1, 0, []) :: (37, 4, 0, 0, 1, 0, []) :: (38, 24, 0, 5, 9, 147, [485]) :: (41, 25, 0, 5, 10, 99, [486]) :: (44, 4, 0, 0, 1, 0, []) :: (45, 32, 0, 1, 1, 47, [5, 817, 819, 5, 114, 820]) :: (48, 0, 1, 0, 0, 0, []) :: (49, 33, 0, 4, 0, 0, []) :: []
def kX5_readNumber_30 : List mIn := (30, 4, 0, 0, 1, 0, []) :: (31, 0, 3, 0, 0, 0, []) :: (32, 32, 0, 0, 2, 60, [5, 894, 896, 9, 114, 897]) :: (35, 33, 0, 4, 0, 0, []) :: kX5_readNumber_36
def kX5_readNumber_14 : List mIn := (14, 4, 0, 0, 1, 0, []) :: (15, 24, 0, 5, 9, 147, [485]) :: (18, 2, 0, 1, 1, 0, []) :: (19, 19, 0, 2, 30, 0, []) :: (22, 4, 0, 0, 1, 0, []) :: (23, 24, 0, 5, 9, 147, [485]) :: (26, 2, 0, 2, 1, 0, []) :: (27, 19, 0, 5, 36, 0, []) :: kX5_readNumber_30
def kX5_readNumber_0 : List mIn := (0, 4, 0, 0, 1, 0, []) :: (1, 24, 0, 5, 7, 50, [483]) :: (4, 0, 2, 0, 0, 0, []) :: (5, 19, 0, 0, 14, 0, []) :: (8, 4, 0, 0, 1, 0, []) :: (9, 0, 2, 0, 0, 0, []) :: (10, 32, 0, 0, 2, 60, [5, 894, 896, 9, 114, 897]) :: (13, 33, 0, 4, 0, 0, []) :: kX5_readNumber_14
def TX5_readNumber : Nat → mCal := fun a => match a with
  | 0 => calX5_fail
  | 1 => calX5_advance
  | _ => (yX5_readNumber, cX5_readNumber, 3, (some .boolean), (0, 0, 0, 0))
def calX5_readNumber : mCal := (yX5_readNumber, cX5_readNumber, 3, (some .boolean), (2, 42, 0, 0))
def cutX5_readNumber : Nat → Option (List Bool) := fun t => mLk t []
theorem okX5_readNumber : mOK (yX5_readNumber.cls, cX5_readNumber, TX5_readNumber, (some .boolean), (2, 42, 0, 0), 3, mAcf [], mAcf []) kX5_readNumber_0 = true := by decide +kernel
theorem sfxX5_readNumber_14 : mSfx 14 kX5_readNumber_0 = kX5_readNumber_14 := rfl
theorem cutX5_readNumber_14 : cutX5_readNumber 14 = none := rfl
theorem sfxX5_readNumber_30 : mSfx 30 kX5_readNumber_0 = kX5_readNumber_30 := rfl
theorem cutX5_readNumber_30 : cutX5_readNumber 30 = none := rfl
theorem sfxX5_readNumber_36 : mSfx 36 kX5_readNumber_0 = kX5_readNumber_36 := rfl
theorem cutX5_readNumber_36 : cutX5_readNumber 36 = none := rfl
def kX5_readWord_14 : List mIn := (14, 4, 0, 0, 1, 0, []) :: (15, 32, 0, 2, 1, 47, [5, 817, 819, 5, 114, 820]) :: (18, 0, 1, 0, 0, 0, []) :: (19, 33, 0, 4, 0, 0, []) :: []
def kX5_readWord_0 : List mIn := (0, 4, 0, 0, 1, 0, []) :: (1, 4, 0, 1, 1, 0, []) :: (2, 32, 0, 0, 2, 79, [5, 836, 838, 8, 114, 839]) :: (5, 20, 0, 1, 14, 0, []) :: (8, 4, 0, 0, 1, 0, []) :: (9, 0, 2, 0, 0, 0, []) :: (10, 32, 0, 1, 2, 60, [5, 894, 896, 9, 114, 897]) :: (13, 33, 0, 4, 0, 0, []) :: kX5_readWord_14
def TX5_readWord : Nat → mCal := fun a => match a with
  | 0 => calX5_isWord
  | 1 => calX5_fail
  | 2 => calX5_advance
  | _ => (yX5_readWord, cX5_readWord, 2, (some .boolean), (0, 0, 0, 0))
def calX5_readWord : mCal := (yX5_readWord, cX5_readWord, 2, (some .boolean), (6, 163, 0, 0))
def cutX5_readWord : Nat → Option (List Bool) := fun t => mLk t []
theorem okX5_readWord : mOK (yX5_readWord.cls, cX5_readWord, TX5_readWord, (some .boolean), (6, 163, 0, 0), 2, mAcf [], mAcf []) kX5_readWord_0 = true := by decide +kernel
theorem sfxX5_readWord_14 : mSfx 14 kX5_readWord_0 = kX5_readWord_14 := rfl
theorem cutX5_readWord_14 : cutX5_readWord 14 = none := rfl
def kX5_readSlow_80 : List mIn := (80, 0, 1, 0, 0, 0, []) :: (81, 33, 0, 4, 0, 0, []) :: []
def kX5_readSlow_74 : List mIn := (74, 8, 1, 2, 0, 0, []) :: (77, 22, 0, 0, 30, 0, []) :: kX5_readSlow_80
def kX5_readSlow_50 : List mIn := (50, 4, 0, 0, 1, 0, []) :: (51, 24, 0, 5, 2, 18, [475]) :: (54, 24, 0, 3, 6, 117, [184]) :: (57, 4, 0, 0, 1, 0, []) :: (58, 24, 0, 5, 10, 99, [486]) :: (61, 2, 0, 1, 1, 0, []) :: (62, 27, 0, 20, 0, 0, []) :: (63, 4, 0, 0, 1, 0, []) :: (64, 24, 0, 5, 7, 50, [483]) :: (67, 0, 2, 0, 0, 0, []) :: (68, 19, 0, 0, 74, 0, []) :: (71, 22, 0, 0, 80, 0, []) :: kX5_readSlow_74
def kX5_readSlow_30 : List mIn := (30, 2, 0, 2, 1, 0, []) :: (31, 0, 800, 2, 0, 0, []) :: (34, 19, 0, 3, 80, 0, []) :: (37, 4, 0, 0, 1, 0, []) :: (38, 0, 0, 0, 0, 0, []) :: (39, 0, 288, 2, 0, 0, []) :: (42, 32, 0, 0, 3, 95, [5, 902, 904, 11, 114, 905]) :: (45, 20, 0, 1, 50, 0, []) :: (48, 0, 0, 0, 0, 0, []) :: (49, 33, 0, 4, 0, 0, []) :: kX5_readSlow_50
def kX5_readSlow_28 : List mIn := (28, 0, 0, 0, 0, 0, []) :: (29, 5, 0, 2, 1, 0, []) :: (30, 43, 0, 0, 30, 0, []) :: kX5_readSlow_30
def kX5_readSlow_12 : List mIn := (12, 4, 0, 0, 1, 0, []) :: (13, 24, 0, 5, 10, 99, [486]) :: (16, 5, 0, 1, 1, 0, []) :: (17, 4, 0, 0, 1, 0, []) :: (18, 37, 0, 7, 2, 112, []) :: (20, 32, 0, 1, 2, 114, [5, 907, 909, 12, 114, 910]) :: (23, 20, 0, 1, 28, 0, []) :: (26, 0, 0, 0, 0, 0, []) :: (27, 33, 0, 4, 0, 0, []) :: kX5_readSlow_28
def kX5_readSlow_0 : List mIn := (0, 4, 0, 0, 1, 0, []) :: (1, 0, 0, 0, 0, 0, []) :: (2, 0, 20, 1, 0, 0, []) :: (4, 32, 0, 0, 3, 95, [5, 902, 904, 11, 114, 905]) :: (7, 20, 0, 1, 12, 0, []) :: (10, 0, 0, 0, 0, 0, []) :: (11, 33, 0, 4, 0, 0, []) :: kX5_readSlow_12
def TX5_readSlow : Nat → mCal := fun a => match a with
  | 0 => calX5_readNumber
  | 1 => calX5_readWord
  | _ => (yX5_readSlow, cX5_readSlow, 3, (some .boolean), (0, 0, 0, 0))
def calX5_readSlow : mCal := (yX5_readSlow, cX5_readSlow, 3, (some .boolean), (7, 184, 0, 0))
def cutX5_readSlow : Nat → Option (List Bool) := fun t => mLk t [(30, [true, true, true])]
theorem okX5_readSlow : mOK (yX5_readSlow.cls, cX5_readSlow, TX5_readSlow, (some .boolean), (7, 184, 0, 0), 3, mAcf [], mAcf []) kX5_readSlow_0 = true := by decide +kernel
theorem sfxX5_readSlow_12 : mSfx 12 kX5_readSlow_0 = kX5_readSlow_12 := rfl
theorem cutX5_readSlow_12 : cutX5_readSlow 12 = none := rfl
theorem sfxX5_readSlow_28 : mSfx 28 kX5_readSlow_0 = kX5_readSlow_28 := rfl
theorem cutX5_readSlow_28 : cutX5_readSlow 28 = none := rfl
theorem sfxX5_readSlow_30 : mSfx 30 kX5_readSlow_0 = kX5_readSlow_30 := rfl
theorem cutX5_readSlow_30 : cutX5_readSlow 30 = some [true, true, true] := rfl
theorem sfxX5_readSlow_50 : mSfx 50 kX5_readSlow_0 = kX5_readSlow_50 := rfl
theorem cutX5_readSlow_50 : cutX5_readSlow 50 = none := rfl
theorem sfxX5_readSlow_74 : mSfx 74 kX5_readSlow_0 = kX5_readSlow_74 := rfl
theorem cutX5_readSlow_74 : cutX5_readSlow 74 = none := rfl
theorem sfxX5_readSlow_80 : mSfx 80 kX5_readSlow_0 = kX5_readSlow_80 := rfl
theorem cutX5_readSlow_80 : cutX5_readSlow 80 = none := rfl
def kX5_readHit_128 : List mIn := (128, 4, 0, 0, 1, 0, []) :: (129, 24, 0, 5, 2, 18, [475]) :: (132, 24, 0, 3, 11, 144, [199]) :: (135, 2, 0, 1, 1, 0, []) :: (136, 4, 0, 0, 1, 0, []) :: (137, 24, 0, 5, 10, 99, [486]) :: (140, 27, 0, 20, 0, 0, []) :: (141, 0, 1, 0, 0, 0, []) :: (142, 33, 0, 4, 0, 0, []) :: []
def kX5_readHit_126 : List mIn := (126, 0, 0, 0, 0, 0, []) :: (127, 33, 0, 4, 0, 0, []) :: kX5_readHit_128
def kX5_readHit_107 : List mIn := (107, 4, 0, 0, 1, 0, []) :: (108, 37, 0, 11, 2, 142, []) :: (110, 32, 0, 1, 2, 114, [5, 907, 909, 12, 114, 910]) :: (113, 20, 0, 0, 126, 0, []) :: (116, 4, 0, 0, 1, 0, []) :: (117, 0, 1, 0, 0, 0, []) :: (118, 0, 99, 1, 0, 0, []) :: (120, 32, 0, 0, 3, 95, [5, 902, 904, 11, 114, 905]) :: (123, 20, 0, 1, 128, 0, []) :: kX5_readHit_126
def kX5_readHit_94 : List mIn := (94, 4, 0, 0, 1, 0, []) :: (95, 24, 0, 5, 2, 18, [475]) :: (98, 24, 0, 3, 10, 138, [196]) :: (101, 2, 0, 1, 1, 0, []) :: (102, 4, 0, 0, 1, 0, []) :: (103, 24, 0, 5, 10, 99, [486]) :: (106, 27, 0, 20, 0, 0, []) :: kX5_readHit_107
def kX5_readHit_46 : List mIn := (46, 4, 0, 0, 1, 0, []) :: (47, 24, 0, 5, 2, 18, [475]) :: (50, 24, 0, 3, 9, 136, [193]) :: (53, 2, 0, 1, 1, 0, []) :: (54, 4, 0, 0, 1, 0, []) :: (55, 24, 0, 5, 10, 99, [486]) :: (58, 27, 0, 20, 0, 0, []) :: (59, 4, 0, 0, 1, 0, []) :: (60, 24, 0, 5, 2, 18, [475]) :: (63, 24, 0, 3, 10, 138, [196]) :: (66, 2, 0, 1, 1, 0, []) :: (67, 0, 0, 0, 0, 0, []) :: (68, 27, 0, 20, 0, 0, []) :: (69, 4, 0, 0, 1, 0, []) :: (70, 37, 0, 10, 2, 141, []) :: (72, 32, 0, 2, 2, 79, [5, 836, 838, 8, 114, 839]) :: (75, 20, 0, 0, 107, 0, []) :: (78, 4, 0, 0, 1, 0, []) :: (79, 32, 0, 3, 1, 47, [5, 817, 819, 5, 114, 820]) :: (82, 4, 0, 0, 1, 0, []) :: (83, 0, 1, 0, 0, 0, []) :: (84, 0, 8, 1, 0, 0, []) :: (86, 32, 0, 0, 3, 95, [5, 902, 904, 11, 114, 905]) :: (89, 20, 0, 1, 94, 0, []) :: (92, 0, 0, 0, 0, 0, []) :: (93, 33, 0, 4, 0, 0, []) :: kX5_readHit_94
def kX5_readHit_44 : List mIn := (44, 0, 0, 0, 0, 0, []) :: (45, 33, 0, 4, 0, 0, []) :: kX5_readHit_46
def kX5_readHit_12 : List mIn := (12, 4, 0, 0, 1, 0, []) :: (13, 24, 0, 5, 2, 18, [475]) :: (16, 24, 0, 3, 8, 132, [190]) :: (19, 2, 0, 1, 1, 0, []) :: (20, 4, 0, 0, 1, 0, []) :: (21, 24, 0, 5, 10, 99, [486]) :: (24, 27, 0, 20, 0, 0, []) :: (25, 4, 0, 0, 1, 0, []) :: (26, 37, 0, 9, 2, 134, []) :: (28, 32, 0, 1, 2, 114, [5, 907, 909, 12, 114, 910]) :: (31, 20, 0, 0, 44, 0, []) :: (34, 4, 0, 0, 1, 0, []) :: (35, 0, 1, 0, 0, 0, []) :: (36, 0, 9, 1, 0, 0, []) :: (38, 32, 0, 0, 3, 95, [5, 902, 904, 11, 114, 905]) :: (41, 20, 0, 1, 46, 0, []) :: kX5_readHit_44
def kX5_readHit_0 : List mIn := (0, 4, 0, 0, 1, 0, []) :: (1, 0, 0, 0, 0, 0, []) :: (2, 0, 15, 1, 0, 0, []) :: (4, 32, 0, 0, 3, 95, [5, 902, 904, 11, 114, 905]) :: (7, 20, 0, 1, 12, 0, []) :: (10, 0, 0, 0, 0, 0, []) :: (11, 33, 0, 4, 0, 0, []) :: kX5_readHit_12
def TX5_readHit : Nat → mCal := fun a => match a with
  | 0 => calX5_readNumber
  | 1 => calX5_readWord
  | 2 => calX5_isWord
  | 3 => calX5_advance
  | _ => (yX5_readHit, cX5_readHit, 2, (some .boolean), (0, 0, 0, 0))
def calX5_readHit : mCal := (yX5_readHit, cX5_readHit, 2, (some .boolean), (7, 184, 0, 0))
def cutX5_readHit : Nat → Option (List Bool) := fun t => mLk t []
theorem okX5_readHit : mOK (yX5_readHit.cls, cX5_readHit, TX5_readHit, (some .boolean), (7, 184, 0, 0), 2, mAcf [], mAcf []) kX5_readHit_0 = true := by decide +kernel
theorem sfxX5_readHit_12 : mSfx 12 kX5_readHit_0 = kX5_readHit_12 := rfl
theorem cutX5_readHit_12 : cutX5_readHit 12 = none := rfl
theorem sfxX5_readHit_44 : mSfx 44 kX5_readHit_0 = kX5_readHit_44 := rfl
theorem cutX5_readHit_44 : cutX5_readHit 44 = none := rfl
theorem sfxX5_readHit_46 : mSfx 46 kX5_readHit_0 = kX5_readHit_46 := rfl
theorem cutX5_readHit_46 : cutX5_readHit 46 = none := rfl
theorem sfxX5_readHit_94 : mSfx 94 kX5_readHit_0 = kX5_readHit_94 := rfl
theorem cutX5_readHit_94 : cutX5_readHit 94 = none := rfl
theorem sfxX5_readHit_107 : mSfx 107 kX5_readHit_0 = kX5_readHit_107 := rfl
theorem cutX5_readHit_107 : cutX5_readHit 107 = none := rfl
theorem sfxX5_readHit_126 : mSfx 126 kX5_readHit_0 = kX5_readHit_126 := rfl
theorem cutX5_readHit_126 : cutX5_readHit 126 = none := rfl
theorem sfxX5_readHit_128 : mSfx 128 kX5_readHit_0 = kX5_readHit_128 := rfl
theorem cutX5_readHit_128 : cutX5_readHit 128 = none := rfl
def kX5_readBall_109 : List mIn := (109, 0, 0, 0, 0, 0, []) :: (110, 33, 0, 4, 0, 0, []) :: []
def kX5_readBall_91 : List mIn := (91, 4, 0, 0, 1, 0, []) :: (92, 24, 0, 5, 2, 18, [475]) :: (95, 24, 0, 3, 7, 129, [187]) :: (98, 2, 0, 1, 1, 0, []) :: (99, 2, 0, 3, 1, 0, []) :: (100, 0, 1, 0, 0, 0, []) :: (101, 9, 0, 0, 0, 0, []) :: (102, 27, 0, 20, 0, 0, []) :: (103, 8, 1, 2, 0, 0, []) :: (106, 22, 0, 0, 18, 0, []) :: kX5_readBall_109
def kX5_readBall_72 : List mIn := (72, 4, 0, 0, 1, 0, []) :: (73, 32, 0, 4, 1, 47, [5, 817, 819, 5, 114, 820]) :: (76, 4, 0, 0, 1, 0, []) :: (77, 2, 0, 1, 1, 0, []) :: (78, 0, 8, 1, 0, 0, []) :: (80, 9, 0, 2, 0, 0, []) :: (81, 2, 0, 3, 1, 0, []) :: (82, 9, 0, 0, 0, 0, []) :: (83, 32, 0, 5, 2, 126, [5, 917, 919, 14, 114, 920]) :: (86, 20, 0, 1, 91, 0, []) :: (89, 0, 0, 0, 0, 0, []) :: (90, 33, 0, 4, 0, 0, []) :: kX5_readBall_91
def kX5_readBall_51 : List mIn := (51, 4, 0, 0, 1, 0, []) :: (52, 24, 0, 5, 2, 18, [475]) :: (55, 2, 0, 1, 1, 0, []) :: (56, 32, 0, 3, 2, 122, [3, 916, 646, 647, 107, 648]) :: (59, 5, 0, 3, 1, 0, []) :: (60, 2, 0, 3, 1, 0, []) :: (61, 0, 8, 1, 0, 0, []) :: (63, 19, 0, 2, 72, 0, []) :: (66, 4, 0, 0, 1, 0, []) :: (67, 0, 5, 0, 0, 0, []) :: (68, 32, 0, 2, 2, 60, [5, 894, 896, 9, 114, 897]) :: (71, 33, 0, 4, 0, 0, []) :: kX5_readBall_72
def kX5_readBall_50 : List mIn := (50, 33, 0, 4, 0, 0, []) :: kX5_readBall_51
def kX5_readBall_49 : List mIn := (49, 0, 0, 0, 0, 0, []) :: kX5_readBall_50
def kX5_readBall_45 : List mIn := (45, 0, 1, 0, 0, 0, []) :: (46, 22, 0, 0, 50, 0, []) :: kX5_readBall_49
def kX5_readBall_18 : List mIn := (18, 2, 0, 2, 1, 0, []) :: (19, 0, 8, 1, 0, 0, []) :: (21, 19, 0, 4, 109, 0, []) :: (24, 4, 0, 0, 1, 0, []) :: (25, 37, 0, 8, 2, 120, []) :: (27, 32, 0, 1, 2, 79, [5, 836, 838, 8, 114, 839]) :: (30, 20, 0, 1, 51, 0, []) :: (33, 2, 0, 2, 1, 0, []) :: (34, 20, 0, 4, 45, 0, []) :: (37, 4, 0, 0, 1, 0, []) :: (38, 0, 2, 0, 0, 0, []) :: (39, 32, 0, 2, 2, 60, [5, 894, 896, 9, 114, 897]) :: (42, 20, 0, 0, 49, 0, []) :: kX5_readBall_45
def kX5_readBall_11 : List mIn := (11, 4, 0, 0, 1, 0, []) :: (12, 24, 0, 5, 10, 99, [486]) :: (15, 5, 0, 1, 1, 0, []) :: (16, 0, 0, 0, 0, 0, []) :: (17, 5, 0, 2, 1, 0, []) :: (18, 43, 0, 0, 18, 0, []) :: kX5_readBall_18
def kX5_readBall_0 : List mIn := (0, 4, 0, 0, 1, 0, []) :: (1, 0, 0, 0, 0, 0, []) :: (2, 0, 5, 0, 0, 0, []) :: (3, 32, 0, 0, 3, 95, [5, 902, 904, 11, 114, 905]) :: (6, 20, 0, 1, 11, 0, []) :: (9, 0, 0, 0, 0, 0, []) :: (10, 33, 0, 4, 0, 0, []) :: kX5_readBall_11
def TX5_readBall : Nat → mCal := fun a => match a with
  | 0 => calX5_readNumber
  | 1 => calX5_isWord
  | 2 => calX5_fail
  | 3 => calX3_hitsOf
  | 4 => calX5_advance
  | 5 => calX5_readHit
  | _ => (yX5_readBall, cX5_readBall, 4, (some .boolean), (0, 0, 0, 0))
def calX5_readBall : mCal := (yX5_readBall, cX5_readBall, 4, (some .boolean), (8, 205, 0, 0))
def cutX5_readBall : Nat → Option (List Bool) := fun t => mLk t [(18, [true, true, true, false])]
theorem okX5_readBall : mOK (yX5_readBall.cls, cX5_readBall, TX5_readBall, (some .boolean), (8, 205, 0, 0), 4, mAcf [], mAcf []) kX5_readBall_0 = true := by decide +kernel
theorem sfxX5_readBall_11 : mSfx 11 kX5_readBall_0 = kX5_readBall_11 := rfl
theorem cutX5_readBall_11 : cutX5_readBall 11 = none := rfl
theorem sfxX5_readBall_18 : mSfx 18 kX5_readBall_0 = kX5_readBall_18 := rfl
theorem cutX5_readBall_18 : cutX5_readBall 18 = some [true, true, true, false] := rfl
theorem sfxX5_readBall_45 : mSfx 45 kX5_readBall_0 = kX5_readBall_45 := rfl
theorem cutX5_readBall_45 : cutX5_readBall 45 = none := rfl
theorem sfxX5_readBall_49 : mSfx 49 kX5_readBall_0 = kX5_readBall_49 := rfl
theorem cutX5_readBall_49 : cutX5_readBall 49 = none := rfl
theorem sfxX5_readBall_50 : mSfx 50 kX5_readBall_0 = kX5_readBall_50 := rfl
theorem cutX5_readBall_50 : cutX5_readBall 50 = none := rfl
theorem sfxX5_readBall_51 : mSfx 51 kX5_readBall_0 = kX5_readBall_51 := rfl
theorem cutX5_readBall_51 : cutX5_readBall 51 = none := rfl
theorem sfxX5_readBall_72 : mSfx 72 kX5_readBall_0 = kX5_readBall_72 := rfl
theorem cutX5_readBall_72 : cutX5_readBall 72 = none := rfl
theorem sfxX5_readBall_91 : mSfx 91 kX5_readBall_0 = kX5_readBall_91 := rfl
theorem cutX5_readBall_91 : cutX5_readBall 91 = none := rfl
theorem sfxX5_readBall_109 : mSfx 109 kX5_readBall_0 = kX5_readBall_109 := rfl
theorem cutX5_readBall_109 : cutX5_readBall 109 = none := rfl
def kX5_readSetting_161 : List mIn := (161, 33, 0, 4, 0, 0, []) :: []
def kX5_readSetting_160 : List mIn := (160, 0, 0, 0, 0, 0, []) :: kX5_readSetting_161
def kX5_readSetting_149 : List mIn := (149, 4, 0, 0, 1, 0, []) :: (150, 24, 0, 5, 3, 41, [477]) :: (153, 20, 0, 1, 160, 0, []) :: (156, 0, 1, 0, 0, 0, []) :: (157, 22, 0, 0, 161, 0, []) :: kX5_readSetting_160
def kX5_readSetting_128 : List mIn := (128, 4, 0, 0, 1, 0, []) :: (129, 0, 0, 0, 0, 0, []) :: (130, 0, 8, 1, 0, 0, []) :: (132, 32, 0, 0, 3, 95, [5, 902, 904, 11, 114, 905]) :: (135, 20, 0, 0, 149, 0, []) :: (138, 4, 0, 0, 1, 0, []) :: (139, 24, 0, 5, 2, 18, [475]) :: (142, 4, 0, 0, 1, 0, []) :: (143, 24, 0, 5, 10, 99, [486]) :: (146, 25, 0, 3, 5, 110, [180]) :: kX5_readSetting_149
def kX5_readSetting_104 : List mIn := (104, 4, 0, 0, 1, 0, []) :: (105, 0, 0, 0, 0, 0, []) :: (106, 0, 9, 1, 0, 0, []) :: (108, 32, 0, 0, 3, 95, [5, 902, 904, 11, 114, 905]) :: (111, 20, 0, 0, 149, 0, []) :: (114, 4, 0, 0, 1, 0, []) :: (115, 24, 0, 5, 2, 18, [475]) :: (118, 4, 0, 0, 1, 0, []) :: (119, 24, 0, 5, 10, 99, [486]) :: (122, 25, 0, 3, 4, 108, [176]) :: (125, 22, 0, 0, 149, 0, []) :: kX5_readSetting_128
def kX5_readSetting_80 : List mIn := (80, 4, 0, 0, 1, 0, []) :: (81, 0, 0, 0, 0, 0, []) :: (82, 0, 99, 1, 0, 0, []) :: (84, 32, 0, 0, 3, 95, [5, 902, 904, 11, 114, 905]) :: (87, 20, 0, 0, 149, 0, []) :: (90, 4, 0, 0, 1, 0, []) :: (91, 24, 0, 5, 2, 18, [475]) :: (94, 4, 0, 0, 1, 0, []) :: (95, 24, 0, 5, 10, 99, [486]) :: (98, 25, 0, 3, 3, 106, [170]) :: (101, 22, 0, 0, 149, 0, []) :: kX5_readSetting_104
def kX5_readSetting_56 : List mIn := (56, 4, 0, 0, 1, 0, []) :: (57, 0, 1, 0, 0, 0, []) :: (58, 0, 60, 1, 0, 0, []) :: (60, 32, 0, 0, 3, 95, [5, 902, 904, 11, 114, 905]) :: (63, 20, 0, 0, 149, 0, []) :: (66, 4, 0, 0, 1, 0, []) :: (67, 24, 0, 5, 2, 18, [475]) :: (70, 4, 0, 0, 1, 0, []) :: (71, 24, 0, 5, 10, 99, [486]) :: (74, 25, 0, 3, 2, 104, [166]) :: (77, 22, 0, 0, 149, 0, []) :: kX5_readSetting_80
def kX5_readSetting_32 : List mIn := (32, 4, 0, 0, 1, 0, []) :: (33, 0, 2, 0, 0, 0, []) :: (34, 0, 8, 1, 0, 0, []) :: (36, 32, 0, 0, 3, 95, [5, 902, 904, 11, 114, 905]) :: (39, 20, 0, 0, 149, 0, []) :: (42, 4, 0, 0, 1, 0, []) :: (43, 24, 0, 5, 2, 18, [475]) :: (46, 4, 0, 0, 1, 0, []) :: (47, 24, 0, 5, 10, 99, [486]) :: (50, 25, 0, 3, 1, 102, [163]) :: (53, 22, 0, 0, 149, 0, []) :: kX5_readSetting_56
def kX5_readSetting_0 : List mIn := (0, 2, 0, 1, 1, 0, []) :: (1, 34, 0, 4, 128, 31, [32, 56, 80, 104]) :: kX5_readSetting_32
def TX5_readSetting : Nat → mCal := fun a => match a with
  | 0 => calX5_readNumber
  | _ => (yX5_readSetting, cX5_readSetting, 2, (some .boolean), (0, 0, 0, 0))
def calX5_readSetting : mCal := (yX5_readSetting, cX5_readSetting, 2, (some .boolean), (3, 64, 0, 0))
def cutX5_readSetting : Nat → Option (List Bool) := fun t => mLk t []
theorem okX5_readSetting : mOK (yX5_readSetting.cls, cX5_readSetting, TX5_readSetting, (some .boolean), (3, 64, 0, 0), 2, mAcf [], mAcf []) kX5_readSetting_0 = true := by decide +kernel
theorem sfxX5_readSetting_32 : mSfx 32 kX5_readSetting_0 = kX5_readSetting_32 := rfl
theorem cutX5_readSetting_32 : cutX5_readSetting 32 = none := rfl
theorem sfxX5_readSetting_56 : mSfx 56 kX5_readSetting_0 = kX5_readSetting_56 := rfl
theorem cutX5_readSetting_56 : cutX5_readSetting 56 = none := rfl
theorem sfxX5_readSetting_80 : mSfx 80 kX5_readSetting_0 = kX5_readSetting_80 := rfl
theorem cutX5_readSetting_80 : cutX5_readSetting 80 = none := rfl
theorem sfxX5_readSetting_104 : mSfx 104 kX5_readSetting_0 = kX5_readSetting_104 := rfl
theorem cutX5_readSetting_104 : cutX5_readSetting 104 = none := rfl
theorem sfxX5_readSetting_128 : mSfx 128 kX5_readSetting_0 = kX5_readSetting_128 := rfl
theorem cutX5_readSetting_128 : cutX5_readSetting 128 = none := rfl
theorem sfxX5_readSetting_149 : mSfx 149 kX5_readSetting_0 = kX5_readSetting_149 := rfl
theorem cutX5_readSetting_149 : cutX5_readSetting 149 = none := rfl
theorem sfxX5_readSetting_160 : mSfx 160 kX5_readSetting_0 = kX5_readSetting_160 := rfl
theorem cutX5_readSetting_160 : cutX5_readSetting 160 = none := rfl
theorem sfxX5_readSetting_161 : mSfx 161 kX5_readSetting_0 = kX5_readSetting_161 := rfl
theorem cutX5_readSetting_161 : cutX5_readSetting 161 = none := rfl
def kX5_readSign_14 : List mIn := (14, 4, 0, 0, 1, 0, []) :: (15, 32, 0, 1, 1, 47, [5, 817, 819, 5, 114, 820]) :: (18, 0, 1, 0, 0, 0, []) :: (19, 33, 0, 4, 0, 0, []) :: []
def kX5_readSign_0 : List mIn := (0, 4, 0, 0, 1, 0, []) :: (1, 24, 0, 5, 7, 50, [483]) :: (4, 0, 3, 0, 0, 0, []) :: (5, 19, 0, 0, 14, 0, []) :: (8, 4, 0, 0, 1, 0, []) :: (9, 0, 2, 0, 0, 0, []) :: (10, 32, 0, 0, 2, 60, [5, 894, 896, 9, 114, 897]) :: (13, 33, 0, 4, 0, 0, []) :: kX5_readSign_14
def TX5_readSign : Nat → mCal := fun a => match a with
  | 0 => calX5_fail
  | 1 => calX5_advance
  | _ => (yX5_readSign, cX5_readSign, 1, (some .boolean), (0, 0, 0, 0))
def calX5_readSign : mCal := (yX5_readSign, cX5_readSign, 1, (some .boolean), (2, 42, 0, 0))
def cutX5_readSign : Nat → Option (List Bool) := fun t => mLk t []
theorem okX5_readSign : mOK (yX5_readSign.cls, cX5_readSign, TX5_readSign, (some .boolean), (2, 42, 0, 0), 1, mAcf [], mAcf []) kX5_readSign_0 = true := by decide +kernel
theorem sfxX5_readSign_14 : mSfx 14 kX5_readSign_0 = kX5_readSign_14 := rfl
theorem cutX5_readSign_14 : cutX5_readSign 14 = none := rfl
def kX5_readField_147 : List mIn := (147, 0, 0, 0, 0, 0, []) :: (148, 33, 0, 4, 0, 0, []) :: []
def kX5_readField_141 : List mIn := (141, 8, 1, 2, 0, 0, []) :: (144, 22, 0, 0, 40, 0, []) :: kX5_readField_147
def kX5_readField_139 : List mIn := (139, 0, 0, 0, 0, 0, []) :: (140, 33, 0, 4, 0, 0, []) :: kX5_readField_141
def kX5_readField_125 : List mIn := (125, 5, 0, 4, 2, 0, []) :: (127, 2, 0, 4, 2, 0, []) :: (129, 20, 0, 0, 139, 0, []) :: (132, 4, 0, 0, 1, 0, []) :: (133, 32, 0, 7, 1, 74, [5, 928, 930, 16, 114, 931]) :: (136, 20, 0, 1, 141, 0, []) :: kX5_readField_139
def kX5_readField_120 : List mIn := (120, 4, 0, 0, 1, 0, []) :: (121, 2, 0, 3, 1, 0, []) :: (122, 32, 0, 6, 2, 71, [5, 924, 926, 15, 114, 927]) :: kX5_readField_125
def kX5_readField_107 : List mIn := (107, 2, 0, 3, 1, 0, []) :: (108, 0, 6, 1, 0, 0, []) :: (110, 19, 0, 1, 120, 0, []) :: (113, 4, 0, 0, 1, 0, []) :: (114, 32, 0, 5, 1, 68, [5, 911, 913, 13, 114, 914]) :: (117, 22, 0, 0, 125, 0, []) :: kX5_readField_120
def kX5_readField_91 : List mIn := (91, 4, 0, 0, 1, 0, []) :: (92, 32, 0, 1, 1, 47, [5, 817, 819, 5, 114, 820]) :: (95, 2, 0, 3, 1, 0, []) :: (96, 0, 5, 0, 0, 0, []) :: (97, 19, 0, 1, 107, 0, []) :: (100, 4, 0, 0, 1, 0, []) :: (101, 32, 0, 4, 1, 64, [5, 898, 900, 10, 114, 901]) :: (104, 22, 0, 0, 125, 0, []) :: kX5_readField_107
def kX5_readField_79 : List mIn := (79, 2, 0, 2, 1, 0, []) :: (80, 0, 30, 1, 0, 0, []) :: (82, 19, 0, 1, 91, 0, []) :: (85, 4, 0, 0, 1, 0, []) :: (86, 0, 4, 0, 0, 0, []) :: (87, 32, 0, 3, 2, 60, [5, 894, 896, 9, 114, 897]) :: (90, 33, 0, 4, 0, 0, []) :: kX5_readField_91
def kX5_readField_63 : List mIn := (63, 4, 0, 0, 1, 0, []) :: (64, 32, 0, 2, 1, 56, [5, 831, 833, 7, 114, 834]) :: (67, 5, 0, 3, 1, 0, []) :: (68, 2, 0, 3, 1, 0, []) :: (69, 0, (-1), 0, 0, 0, []) :: (70, 19, 0, 1, 79, 0, []) :: (73, 4, 0, 0, 1, 0, []) :: (74, 0, 2, 0, 0, 0, []) :: (75, 32, 0, 3, 2, 60, [5, 894, 896, 9, 114, 897]) :: (78, 33, 0, 4, 0, 0, []) :: kX5_readField_79
def kX5_readField_40 : List mIn := (40, 2, 0, 2, 1, 0, []) :: (41, 0, 30, 1, 0, 0, []) :: (43, 19, 0, 4, 147, 0, []) :: (46, 4, 0, 0, 1, 0, []) :: (47, 24, 0, 5, 7, 50, [483]) :: (50, 20, 0, 1, 63, 0, []) :: (53, 4, 0, 0, 1, 0, []) :: (54, 24, 0, 5, 2, 18, [475]) :: (57, 2, 0, 2, 1, 0, []) :: (58, 25, 0, 3, 0, 53, [160]) :: (61, 0, 1, 0, 0, 0, []) :: (62, 33, 0, 4, 0, 0, []) :: kX5_readField_63
def kX5_readField_0 : List mIn := (0, 4, 0, 0, 1, 0, []) :: (1, 2, 0, 1, 1, 0, []) :: (2, 4, 0, 0, 1, 0, []) :: (3, 24, 0, 5, 1, 26, [474]) :: (6, 40, 0, 1, 0, 29, [815, 709, 121, 710]) :: (9, 25, 0, 5, 5, 35, [481]) :: (12, 4, 0, 0, 1, 0, []) :: (13, 0, 0, 0, 0, 0, []) :: (14, 25, 0, 5, 6, 38, [482]) :: (17, 4, 0, 0, 1, 0, []) :: (18, 0, 0, 0, 0, 0, []) :: (19, 25, 0, 5, 3, 41, [477]) :: (22, 4, 0, 0, 1, 0, []) :: (23, 0, (-1), 0, 0, 0, []) :: (24, 25, 0, 5, 4, 22, [479]) :: (27, 4, 0, 0, 1, 0, []) :: (28, 24, 0, 5, 2, 18, [475]) :: (31, 32, 0, 0, 1, 44, [3, 816, 153, 154, 107, 155]) :: (34, 4, 0, 0, 1, 0, []) :: (35, 32, 0, 1, 1, 47, [5, 817, 819, 5, 114, 820]) :: (38, 0, 0, 0, 0, 0, []) :: (39, 5, 0, 2, 1, 0, []) :: (40, 43, 0, 0, 40, 0, []) :: kX5_readField_40
def TX5_readField : Nat → mCal := fun a => match a with
  | 0 => calX3_clear
  | 1 => calX5_advance
  | 2 => calX5_lineNamed
  | 3 => calX5_fail
  | 4 => calX5_readSlow
  | 5 => calX5_readBall
  | 6 => calX5_readSetting
  | 7 => calX5_readSign
  | _ => (yX5_readField, cX5_readField, 5, (some .boolean), (0, 0, 0, 0))
def calX5_readField : mCal := (yX5_readField, cX5_readField, 5, (some .boolean), (9, 228, 0, 0))
def cutX5_readField : Nat → Option (List Bool) := fun t => mLk t [(40, [true, false, true, false, false])]
theorem okX5_readField : mOK (yX5_readField.cls, cX5_readField, TX5_readField, (some .boolean), (9, 228, 0, 0), 5, mAcf [], mAcf []) kX5_readField_0 = true := by decide +kernel
theorem sfxX5_readField_40 : mSfx 40 kX5_readField_0 = kX5_readField_40 := rfl
theorem cutX5_readField_40 : cutX5_readField 40 = some [true, false, true, false, false] := rfl
theorem sfxX5_readField_63 : mSfx 63 kX5_readField_0 = kX5_readField_63 := rfl
theorem cutX5_readField_63 : cutX5_readField 63 = none := rfl
theorem sfxX5_readField_79 : mSfx 79 kX5_readField_0 = kX5_readField_79 := rfl
theorem cutX5_readField_79 : cutX5_readField 79 = none := rfl
theorem sfxX5_readField_91 : mSfx 91 kX5_readField_0 = kX5_readField_91 := rfl
theorem cutX5_readField_91 : cutX5_readField 91 = none := rfl
theorem sfxX5_readField_107 : mSfx 107 kX5_readField_0 = kX5_readField_107 := rfl
theorem cutX5_readField_107 : cutX5_readField 107 = none := rfl
theorem sfxX5_readField_120 : mSfx 120 kX5_readField_0 = kX5_readField_120 := rfl
theorem cutX5_readField_120 : cutX5_readField 120 = none := rfl
theorem sfxX5_readField_125 : mSfx 125 kX5_readField_0 = kX5_readField_125 := rfl
theorem cutX5_readField_125 : cutX5_readField 125 = none := rfl
theorem sfxX5_readField_139 : mSfx 139 kX5_readField_0 = kX5_readField_139 := rfl
theorem cutX5_readField_139 : cutX5_readField 139 = none := rfl
theorem sfxX5_readField_141 : mSfx 141 kX5_readField_0 = kX5_readField_141 := rfl
theorem cutX5_readField_141 : cutX5_readField 141 = none := rfl
theorem sfxX5_readField_147 : mSfx 147 kX5_readField_0 = kX5_readField_147 := rfl
theorem cutX5_readField_147 : cutX5_readField 147 = none := rfl
def kX6_copyFrom_0 : List mIn := (0, 4, 0, 1, 1, 0, []) :: (1, 24, 0, 6, 0, 9, [234]) :: (4, 4, 0, 0, 1, 0, []) :: (5, 24, 0, 6, 0, 9, [234]) :: (8, 32, 3, 0, 2, 36, [24, 941, 105, 942]) :: (11, 4, 0, 1, 1, 0, []) :: (12, 24, 0, 6, 1, 15, [237]) :: (15, 4, 0, 0, 1, 0, []) :: (16, 24, 0, 6, 1, 15, [237]) :: (19, 32, 3, 0, 2, 36, [24, 941, 105, 942]) :: (22, 4, 0, 1, 1, 0, []) :: (23, 24, 0, 6, 2, 18, [241]) :: (26, 4, 0, 0, 1, 0, []) :: (27, 24, 0, 6, 2, 18, [241]) :: (30, 32, 3, 0, 2, 36, [24, 941, 105, 942]) :: (33, 4, 0, 1, 1, 0, []) :: (34, 24, 0, 6, 3, 21, [244]) :: (37, 4, 0, 0, 1, 0, []) :: (38, 24, 0, 6, 3, 21, [244]) :: (41, 32, 3, 0, 2, 36, [24, 941, 105, 942]) :: (44, 4, 0, 1, 1, 0, []) :: (45, 24, 0, 6, 4, 24, [247]) :: (48, 4, 0, 0, 1, 0, []) :: (49, 24, 0, 6, 4, 24, [247]) :: (52, 32, 3, 0, 2, 36, [24, 941, 105, 942]) :: (55, 4, 0, 1, 1, 0, []) :: (56, 24, 0, 6, 5, 27, [250]) :: (59, 4, 0, 0, 1, 0, []) :: (60, 24, 0, 6, 5, 27, [250]) :: (63, 32, 3, 0, 2, 36, [24, 941, 105, 942]) :: (66, 4, 0, 0, 1, 0, []) :: (67, 4, 0, 1, 1, 0, []) :: (68, 24, 0, 6, 6, 40, [251]) :: (71, 25, 0, 6, 6, 40, [251]) :: (74, 33, 0, 0, 0, 0, []) :: []
def TX6_copyFrom : Nat → mCal := fun a => match a with
  | 0 => calX10_copyRow
  | _ => (yX6_copyFrom, cX6_copyFrom, 2, none, (0, 0, 0, 0))
def calX6_copyFrom : mCal := (yX6_copyFrom, cX6_copyFrom, 2, none, (2, 81, 0, 0))
def cutX6_copyFrom : Nat → Option (List Bool) := fun t => mLk t []
theorem okX6_copyFrom : mOK (yX6_copyFrom.cls, cX6_copyFrom, TX6_copyFrom, none, (2, 81, 0, 0), 2, mAcf [], mAcf []) kX6_copyFrom_0 = true := by decide +kernel
def kX6_leave_0 : List mIn := (0, 4, 0, 0, 1, 0, []) :: (1, 24, 0, 6, 0, 9, [234]) :: (4, 0, (-1), 0, 0, 0, []) :: (5, 32, 1, 0, 2, 30, [233, 157, 108, 158]) :: (8, 4, 0, 0, 1, 0, []) :: (9, 0, 0, 0, 0, 0, []) :: (10, 25, 0, 6, 6, 40, [251]) :: (13, 33, 0, 0, 0, 0, []) :: []
def TX6_leave : Nat → mCal := fun a => match a with
  | 0 => calJ7_fill_53178
  | _ => (yX6_leave, cX6_leave, 1, none, (0, 0, 0, 0))
def calX6_leave : mCal := (yX6_leave, cX6_leave, 1, none, (1, 23, 0, 0))
def cutX6_leave : Nat → Option (List Bool) := fun t => mLk t []
theorem okX6_leave : mOK (yX6_leave.cls, cX6_leave, TX6_leave, none, (1, 23, 0, 0), 1, mAcf [], mAcf []) kX6_leave_0 = true := by decide +kernel
