def kX3_clear_0 : List mIn := (0, 4, 0, 0, 1, 0, []) :: (1, 0, 0, 0, 0, 0, []) :: (2, 25, 0, 3, 0, 33, [159]) :: (5, 4, 0, 0, 1, 0, []) :: (6, 0, 8, 1, 0, 0, []) :: (8, 25, 0, 3, 1, 37, [162]) :: (11, 4, 0, 0, 1, 0, []) :: (12, 0, 9, 1, 0, 0, []) :: (14, 25, 0, 3, 2, 40, [165]) :: (17, 4, 0, 0, 1, 0, []) :: (18, 0, 20, 1, 0, 0, []) :: (20, 25, 0, 3, 3, 43, [169]) :: (23, 4, 0, 0, 1, 0, []) :: (24, 0, 9, 1, 0, 0, []) :: (26, 25, 0, 3, 4, 46, [173]) :: (29, 4, 0, 0, 1, 0, []) :: (30, 0, 1, 0, 0, 0, []) :: (31, 25, 0, 3, 5, 49, [178]) :: (34, 4, 0, 0, 1, 0, []) :: (35, 24, 0, 3, 6, 9, [182]) :: (38, 0, 0, 0, 0, 0, []) :: (39, 32, 1, 0, 2, 52, [156, 157, 108, 158]) :: (42, 4, 0, 0, 1, 0, []) :: (43, 24, 0, 3, 7, 15, [186]) :: (46, 0, 0, 0, 0, 0, []) :: (47, 32, 1, 0, 2, 52, [156, 157, 108, 158]) :: (50, 33, 0, 0, 0, 0, []) :: []
def kX3_clear : List mIn := kX3_clear_0
def TX3_clear : Nat → mCal := fun a => match a with
  | 0 => calJ7_fill_53178
  | _ => (yX3_clear, cX3_clear, 1, none, (0, 0, 0, 0))
def calX3_clear : mCal := (yX3_clear, cX3_clear, 1, none, (1, 23, 0, 0))
def cutX3_clear : Nat → Option (List Bool) := fun t => mLk t []
theorem okX3_clear : mOK (yX3_clear.cls, cX3_clear, TX3_clear, none, (1, 23, 0, 0), 1, mAcf [], mAcf []) kX3_clear = true := by decide +kernel
def kX3_copyFrom_0 : List mIn := (0, 4, 0, 0, 1, 0, []) :: (1, 4, 0, 1, 1, 0, []) :: (2, 24, 0, 3, 0, 33, [159]) :: (5, 25, 0, 3, 0, 33, [159]) :: (8, 4, 0, 0, 1, 0, []) :: (9, 4, 0, 1, 1, 0, []) :: (10, 24, 0, 3, 1, 37, [162]) :: (13, 25, 0, 3, 1, 37, [162]) :: (16, 4, 0, 0, 1, 0, []) :: (17, 4, 0, 1, 1, 0, []) :: (18, 24, 0, 3, 2, 40, [165]) :: (21, 25, 0, 3, 2, 40, [165]) :: (24, 4, 0, 0, 1, 0, []) :: (25, 4, 0, 1, 1, 0, []) :: (26, 24, 0, 3, 3, 43, [169]) :: (29, 25, 0, 3, 3, 43, [169]) :: (32, 4, 0, 0, 1, 0, []) :: (33, 4, 0, 1, 1, 0, []) :: (34, 24, 0, 3, 4, 46, [173]) :: (37, 25, 0, 3, 4, 46, [173]) :: (40, 4, 0, 0, 1, 0, []) :: (41, 4, 0, 1, 1, 0, []) :: (42, 24, 0, 3, 5, 49, [178]) :: (45, 25, 0, 3, 5, 49, [178]) :: (48, 4, 0, 1, 1, 0, []) :: (49, 24, 0, 3, 6, 9, [182]) :: (52, 4, 0, 0, 1, 0, []) :: (53, 24, 0, 3, 6, 9, [182]) :: (56, 32, 3, 0, 2, 58, [15, 941, 105, 942]) :: (59, 4, 0, 1, 1, 0, []) :: (60, 24, 0, 3, 7, 15, [186]) :: (63, 4, 0, 0, 1, 0, []) :: (64, 24, 0, 3, 7, 15, [186]) :: (67, 32, 3, 0, 2, 58, [15, 941, 105, 942]) :: (70, 4, 0, 1, 1, 0, []) :: (71, 24, 0, 3, 8, 18, [188]) :: (74, 4, 0, 0, 1, 0, []) :: (75, 24, 0, 3, 8, 18, [188]) :: (78, 32, 3, 0, 2, 58, [15, 941, 105, 942]) :: (81, 4, 0, 1, 1, 0, []) :: (82, 24, 0, 3, 9, 21, [191]) :: (85, 4, 0, 0, 1, 0, []) :: (86, 24, 0, 3, 9, 21, [191]) :: (89, 32, 3, 0, 2, 58, [15, 941, 105, 942]) :: (92, 4, 0, 1, 1, 0, []) :: (93, 24, 0, 3, 10, 24, [194]) :: (96, 4, 0, 0, 1, 0, []) :: (97, 24, 0, 3, 10, 24, [194]) :: (100, 32, 3, 0, 2, 58, [15, 941, 105, 942]) :: (103, 4, 0, 1, 1, 0, []) :: (104, 24, 0, 3, 11, 27, [197]) :: (107, 4, 0, 0, 1, 0, []) :: (108, 24, 0, 3, 11, 27, [197]) :: (111, 32, 3, 0, 2, 58, [15, 941, 105, 942]) :: (114, 33, 0, 0, 0, 0, []) :: []
def kX3_copyFrom : List mIn := kX3_copyFrom_0
def TX3_copyFrom : Nat → mCal := fun a => match a with
  | 0 => calX10_copyRow
  | _ => (yX3_copyFrom, cX3_copyFrom, 2, none, (0, 0, 0, 0))
def calX3_copyFrom : mCal := (yX3_copyFrom, cX3_copyFrom, 2, none, (2, 81, 0, 0))
def cutX3_copyFrom : Nat → Option (List Bool) := fun t => mLk t []
theorem okX3_copyFrom : mOK (yX3_copyFrom.cls, cX3_copyFrom, TX3_copyFrom, none, (2, 81, 0, 0), 2, mAcf [], mAcf []) kX3_copyFrom = true := by decide +kernel
def kX4_consider_145 : List mIn := (145, 33, 0, 0, 0, 0, []) :: []
def kX4_consider_129 : List mIn := (129, 4, 0, 0, 1, 0, []) :: (130, 3, 0, 1, 1, 0, []) :: (131, 25, 0, 4, 3, 22, [522]) :: (134, 4, 0, 0, 1, 0, []) :: (135, 3, 0, 3, 1, 0, []) :: (136, 25, 0, 4, 4, 26, [524]) :: (139, 4, 0, 0, 1, 0, []) :: (140, 3, 0, 5, 2, 0, []) :: (142, 25, 0, 4, 5, 29, [526]) :: kX4_consider_145
def kX4_consider_71 : List mIn := (71, 3, 0, 5, 2, 0, []) :: (73, 4, 0, 0, 1, 0, []) :: (74, 24, 0, 4, 4, 26, [524]) :: (77, 11, 0, 2, 0, 0, []) :: (78, 6, 0, 7, 2, 0, []) :: (80, 4, 0, 0, 1, 0, []) :: (81, 24, 0, 4, 5, 29, [526]) :: (84, 3, 0, 3, 1, 0, []) :: (85, 11, 0, 2, 0, 0, []) :: (86, 6, 0, 9, 2, 0, []) :: (88, 4, 0, 0, 1, 0, []) :: (89, 24, 0, 4, 4, 26, [524]) :: (92, 1, 0, 0, 0, 0, []) :: (93, 21, 0, 0, 129, 0, []) :: (97, 3, 0, 7, 2, 0, []) :: (99, 3, 0, 9, 2, 0, []) :: (101, 21, 0, 2, 129, 0, []) :: (105, 3, 0, 7, 2, 0, []) :: (107, 3, 0, 9, 2, 0, []) :: (109, 21, 0, 1, 145, 0, []) :: (113, 3, 0, 1, 1, 0, []) :: (114, 4, 0, 0, 1, 0, []) :: (115, 24, 0, 4, 4, 26, [524]) :: (118, 11, 0, 2, 0, 0, []) :: (119, 4, 0, 0, 1, 0, []) :: (120, 24, 0, 4, 3, 22, [522]) :: (123, 3, 0, 3, 1, 0, []) :: (124, 11, 0, 2, 0, 0, []) :: (125, 21, 0, 3, 145, 0, []) :: kX4_consider_129
def kX4_consider_26 : List mIn := (26, 2, 0, 7, 2, 0, []) :: (28, 4, 0, 0, 1, 0, []) :: (29, 24, 0, 4, 2, 18, [521]) :: (32, 19, 0, 3, 71, 0, []) :: (35, 3, 0, 5, 2, 0, []) :: (37, 3, 0, 1, 1, 0, []) :: (38, 4, 0, 0, 1, 0, []) :: (39, 24, 0, 4, 0, 9, [517]) :: (42, 2, 0, 7, 2, 0, []) :: (44, 26, 0, 20, 0, 0, []) :: (45, 13, 0, 0, 0, 0, []) :: (46, 11, 0, 2, 0, 0, []) :: (47, 3, 0, 3, 1, 0, []) :: (48, 3, 0, 1, 1, 0, []) :: (49, 11, 0, 1, 0, 0, []) :: (50, 4, 0, 0, 1, 0, []) :: (51, 24, 0, 4, 1, 15, [519]) :: (54, 2, 0, 7, 2, 0, []) :: (56, 26, 0, 20, 0, 0, []) :: (57, 13, 0, 0, 0, 0, []) :: (58, 11, 0, 2, 0, 0, []) :: (59, 11, 0, 0, 0, 0, []) :: (60, 40, 0, 3, 0, 40, [1282, 1283, 121, 1284]) :: (63, 6, 0, 5, 2, 0, []) :: (65, 8, 1, 7, 0, 0, []) :: (68, 22, 0, 0, 26, 0, []) :: kX4_consider_71
def kX4_consider_0 : List mIn := (0, 3, 0, 1, 1, 0, []) :: (1, 4, 0, 0, 1, 0, []) :: (2, 24, 0, 4, 0, 9, [517]) :: (5, 0, 0, 0, 0, 0, []) :: (6, 26, 0, 20, 0, 0, []) :: (7, 13, 0, 0, 0, 0, []) :: (8, 11, 0, 2, 0, 0, []) :: (9, 3, 0, 3, 1, 0, []) :: (10, 3, 0, 1, 1, 0, []) :: (11, 11, 0, 1, 0, 0, []) :: (12, 4, 0, 0, 1, 0, []) :: (13, 24, 0, 4, 1, 15, [519]) :: (16, 0, 0, 0, 0, 0, []) :: (17, 26, 0, 20, 0, 0, []) :: (18, 13, 0, 0, 0, 0, []) :: (19, 11, 0, 2, 0, 0, []) :: (20, 11, 0, 0, 0, 0, []) :: (21, 6, 0, 5, 2, 0, []) :: (23, 0, 1, 0, 0, 0, []) :: (24, 5, 0, 7, 2, 0, []) :: (26, 43, 0, 0, 26, 0, []) :: kX4_consider_26
def kX4_consider : List mIn := kX4_consider_0
def TX4_consider : Nat → mCal := fun a => match a with
  | _ => (yX4_consider, cX4_consider, 11, none, (0, 0, 0, 0))
def calX4_consider : mCal := (yX4_consider, cX4_consider, 11, none, (1, 23, 0, 0))
def cutX4_consider : Nat → Option (List Bool) := fun t => mLk t [(26, [true, true, false, true, false, true, false, true, false, false, false])]
theorem okX4_consider : mOK (yX4_consider.cls, cX4_consider, TX4_consider, none, (1, 23, 0, 0), 11, mAcf [], mAcf []) kX4_consider = true := by decide +kernel
set_option maxRecDepth 100000 in
theorem sfxX4_consider_26 : mSfx 26 kX4_consider = kX4_consider_26 := rfl
theorem cutX4_consider_26 : cutX4_consider 26 = some [true, true, false, true, false, true, false, true, false, false, false] := by decide
set_option maxRecDepth 100000 in
theorem sfxX4_consider_71 : mSfx 71 kX4_consider = kX4_consider_71 := rfl
theorem cutX4_consider_71 : cutX4_consider 71 = none := by decide
set_option maxRecDepth 100000 in
theorem sfxX4_consider_129 : mSfx 129 kX4_consider = kX4_consider_129 := rfl
theorem cutX4_consider_129 : cutX4_consider 129 = none := by decide
set_option maxRecDepth 100000 in
theorem sfxX4_consider_145 : mSfx 145 kX4_consider = kX4_consider_145 := rfl
theorem cutX4_consider_145 : cutX4_consider 145 = none := by decide
def kX4_considerCrossing_87 : List mIn := (87, 33, 0, 0, 0, 0, []) :: []
def kX4_considerCrossing_60 : List mIn := (60, 3, 0, 5, 2, 0, []) :: (62, 1, 0, 0, 0, 0, []) :: (63, 21, 0, 5, 87, 0, []) :: (67, 3, 0, 3, 1, 0, []) :: (68, 1, 0, 0, 0, 0, []) :: (69, 21, 0, 2, 87, 0, []) :: (73, 3, 0, 3, 1, 0, []) :: (74, 3, 0, 5, 2, 0, []) :: (76, 21, 0, 4, 87, 0, []) :: (80, 4, 0, 0, 1, 0, []) :: (81, 3, 0, 3, 1, 0, []) :: (82, 3, 0, 5, 2, 0, []) :: (84, 32, 0, 0, 3, 32, [4, 1278, 1280, 33, 115, 1281]) :: kX4_considerCrossing_87
def kX4_considerCrossing_0 : List mIn := (0, 4, 0, 0, 1, 0, []) :: (1, 24, 0, 4, 1, 15, [519]) :: (4, 2, 0, 2, 1, 0, []) :: (5, 26, 0, 20, 0, 0, []) :: (6, 4, 0, 0, 1, 0, []) :: (7, 24, 0, 4, 1, 15, [519]) :: (10, 2, 0, 1, 1, 0, []) :: (11, 26, 0, 20, 0, 0, []) :: (12, 9, 0, 1, 0, 0, []) :: (13, 13, 0, 0, 0, 0, []) :: (14, 6, 0, 3, 1, 0, []) :: (15, 4, 0, 0, 1, 0, []) :: (16, 24, 0, 4, 0, 9, [517]) :: (19, 2, 0, 1, 1, 0, []) :: (20, 26, 0, 20, 0, 0, []) :: (21, 4, 0, 0, 1, 0, []) :: (22, 24, 0, 4, 1, 15, [519]) :: (25, 2, 0, 1, 1, 0, []) :: (26, 26, 0, 20, 0, 0, []) :: (27, 9, 0, 1, 0, 0, []) :: (28, 4, 0, 0, 1, 0, []) :: (29, 24, 0, 4, 0, 9, [517]) :: (32, 2, 0, 2, 1, 0, []) :: (33, 26, 0, 20, 0, 0, []) :: (34, 4, 0, 0, 1, 0, []) :: (35, 24, 0, 4, 1, 15, [519]) :: (38, 2, 0, 2, 1, 0, []) :: (39, 26, 0, 20, 0, 0, []) :: (40, 9, 0, 1, 0, 0, []) :: (41, 9, 0, 1, 0, 0, []) :: (42, 13, 0, 0, 0, 0, []) :: (43, 6, 0, 5, 2, 0, []) :: (45, 3, 0, 5, 2, 0, []) :: (47, 1, 0, 0, 0, 0, []) :: (48, 21, 0, 3, 60, 0, []) :: (52, 3, 0, 3, 1, 0, []) :: (53, 12, 0, 0, 0, 0, []) :: (54, 6, 0, 3, 1, 0, []) :: (55, 3, 0, 5, 2, 0, []) :: (57, 12, 0, 0, 0, 0, []) :: (58, 6, 0, 5, 2, 0, []) :: kX4_considerCrossing_60
def kX4_considerCrossing : List mIn := kX4_considerCrossing_0
def TX4_considerCrossing : Nat → mCal := fun a => match a with
  | 0 => calX4_consider
  | _ => (yX4_considerCrossing, cX4_considerCrossing, 7, none, (0, 0, 0, 0))
def calX4_considerCrossing : mCal := (yX4_considerCrossing, cX4_considerCrossing, 7, none, (2, 53, 0, 0))
def cutX4_considerCrossing : Nat → Option (List Bool) := fun t => mLk t []
theorem okX4_considerCrossing : mOK (yX4_considerCrossing.cls, cX4_considerCrossing, TX4_considerCrossing, none, (2, 53, 0, 0), 7, mAcf [], mAcf []) kX4_considerCrossing = true := by decide +kernel
set_option maxRecDepth 100000 in
theorem sfxX4_considerCrossing_60 : mSfx 60 kX4_considerCrossing = kX4_considerCrossing_60 := rfl
theorem cutX4_considerCrossing_60 : cutX4_considerCrossing 60 = none := by decide
set_option maxRecDepth 100000 in
theorem sfxX4_considerCrossing_87 : mSfx 87 kX4_considerCrossing = kX4_considerCrossing_87 := rfl
theorem cutX4_considerCrossing_87 : cutX4_considerCrossing 87 = none := by decide
def kX4_solve_75 : List mIn := (75, 33, 0, 0, 0, 0, []) :: []
def kX4_solve_69 : List mIn := (69, 8, 1, 2, 0, 0, []) :: (72, 22, 0, 0, 42, 0, []) :: kX4_solve_75
def kX4_solve_52 : List mIn := (52, 2, 0, 3, 1, 0, []) :: (53, 2, 0, 2, 1, 0, []) :: (54, 19, 0, 3, 69, 0, []) :: (57, 4, 0, 0, 1, 0, []) :: (58, 2, 0, 2, 1, 0, []) :: (59, 2, 0, 3, 1, 0, []) :: (60, 32, 0, 1, 3, 36, [4, 1285, 1287, 34, 115, 1288]) :: (63, 8, 1, 3, 0, 0, []) :: (66, 22, 0, 0, 52, 0, []) :: kX4_solve_69
def kX4_solve_42 : List mIn := (42, 2, 0, 2, 1, 0, []) :: (43, 4, 0, 0, 1, 0, []) :: (44, 24, 0, 4, 2, 18, [521]) :: (47, 19, 0, 3, 75, 0, []) :: (50, 0, 0, 0, 0, 0, []) :: (51, 5, 0, 3, 1, 0, []) :: (52, 43, 0, 0, 52, 0, []) :: kX4_solve_52
def kX4_solve_28 : List mIn := (28, 4, 0, 0, 1, 0, []) :: (29, 1, 0, 0, 0, 0, []) :: (30, 1, 1, 0, 1, 0, []) :: (31, 32, 0, 0, 3, 32, [4, 1278, 1280, 33, 115, 1281]) :: (34, 4, 0, 0, 1, 0, []) :: (35, 1, 1, 0, 1, 0, []) :: (36, 1, 1, 0, 1, 0, []) :: (37, 32, 0, 0, 3, 32, [4, 1278, 1280, 33, 115, 1281]) :: (40, 0, 0, 0, 0, 0, []) :: (41, 5, 0, 2, 1, 0, []) :: (42, 43, 0, 0, 42, 0, []) :: kX4_solve_42
def kX4_solve_0 : List mIn := (0, 4, 0, 0, 1, 0, []) :: (1, 2, 0, 1, 1, 0, []) :: (2, 25, 0, 4, 2, 18, [521]) :: (5, 4, 0, 0, 1, 0, []) :: (6, 1, 0, 0, 0, 0, []) :: (7, 25, 0, 4, 3, 22, [522]) :: (10, 4, 0, 0, 1, 0, []) :: (11, 1, 0, 0, 0, 0, []) :: (12, 25, 0, 4, 4, 26, [524]) :: (15, 4, 0, 0, 1, 0, []) :: (16, 1, 0, 0, 0, 0, []) :: (17, 25, 0, 4, 5, 29, [526]) :: (20, 4, 0, 0, 1, 0, []) :: (21, 24, 0, 4, 2, 18, [521]) :: (24, 20, 0, 1, 28, 0, []) :: (27, 33, 0, 0, 0, 0, []) :: kX4_solve_28
def kX4_solve : List mIn := kX4_solve_0
def TX4_solve : Nat → mCal := fun a => match a with
  | 0 => calX4_consider
  | 1 => calX4_considerCrossing
  | _ => (yX4_solve, cX4_solve, 4, none, (0, 0, 0, 0))
def calX4_solve : mCal := (yX4_solve, cX4_solve, 4, none, (3, 79, 0, 0))
def cutX4_solve : Nat → Option (List Bool) := fun t => mLk t [(42, [true, false, true, false]), (52, [true, false, true, true])]
theorem okX4_solve : mOK (yX4_solve.cls, cX4_solve, TX4_solve, none, (3, 79, 0, 0), 4, mAcf [], mAcf []) kX4_solve = true := by decide +kernel
set_option maxRecDepth 100000 in
theorem sfxX4_solve_28 : mSfx 28 kX4_solve = kX4_solve_28 := rfl
theorem cutX4_solve_28 : cutX4_solve 28 = none := by decide
set_option maxRecDepth 100000 in
theorem sfxX4_solve_42 : mSfx 42 kX4_solve = kX4_solve_42 := rfl
theorem cutX4_solve_42 : cutX4_solve 42 = some [true, false, true, false] := by decide
set_option maxRecDepth 100000 in
theorem sfxX4_solve_52 : mSfx 52 kX4_solve = kX4_solve_52 := rfl
theorem cutX4_solve_52 : cutX4_solve 52 = some [true, false, true, true] := by decide
set_option maxRecDepth 100000 in
theorem sfxX4_solve_69 : mSfx 69 kX4_solve = kX4_solve_69 := rfl
theorem cutX4_solve_69 : cutX4_solve 69 = none := by decide
set_option maxRecDepth 100000 in
theorem sfxX4_solve_75 : mSfx 75 kX4_solve = kX4_solve_75 := rfl
theorem cutX4_solve_75 : cutX4_solve 75 = none := by decide
def kX5_append_46 : List mIn := (46, 33, 0, 0, 0, 0, []) :: []
def kX5_append_3 : List mIn := (3, 2, 0, 2, 1, 0, []) :: (4, 20, 0, 2, 46, 0, []) :: (7, 4, 0, 0, 1, 0, []) :: (8, 24, 0, 5, 1, 26, [474]) :: (11, 0, 800, 2, 0, 0, []) :: (14, 19, 0, 3, 46, 0, []) :: (17, 4, 0, 0, 1, 0, []) :: (18, 24, 0, 5, 0, 9, [472]) :: (21, 4, 0, 0, 1, 0, []) :: (22, 24, 0, 5, 1, 26, [474]) :: (25, 2, 0, 1, 1, 0, []) :: (26, 2, 0, 2, 1, 0, []) :: (27, 9, 0, 7, 0, 0, []) :: (28, 15, 0, 0, 0, 0, []) :: (29, 27, 0, 21, 0, 0, []) :: (30, 4, 0, 0, 1, 0, []) :: (31, 29, 0, 0, 0, 0, []) :: (32, 24, 0, 5, 1, 26, [474]) :: (35, 0, 1, 0, 0, 0, []) :: (36, 9, 0, 0, 0, 0, []) :: (37, 25, 0, 5, 1, 26, [474]) :: (40, 8, (-8), 2, 0, 0, []) :: (43, 22, 0, 0, 3, 0, []) :: kX5_append_46
def kX5_append_0 : List mIn := (0, 0, 24, 1, 0, 0, []) :: (2, 5, 0, 2, 1, 0, []) :: (3, 43, 0, 0, 3, 0, []) :: kX5_append_3
def kX5_append : List mIn := kX5_append_0
def TX5_append : Nat → mCal := fun a => match a with
  | _ => (yX5_append, cX5_append, 3, none, (0, 0, 0, 0))
def calX5_append : mCal := (yX5_append, cX5_append, 3, none, (0, 0, 0, 0))
def cutX5_append : Nat → Option (List Bool) := fun t => mLk t [(3, [true, true, true])]
theorem okX5_append : mOK (yX5_append.cls, cX5_append, TX5_append, none, (0, 0, 0, 0), 3, mAcf [], mAcf []) kX5_append = true := by decide +kernel
set_option maxRecDepth 100000 in
theorem sfxX5_append_3 : mSfx 3 kX5_append = kX5_append_3 := rfl
theorem cutX5_append_3 : cutX5_append 3 = some [true, true, true] := by decide
set_option maxRecDepth 100000 in
theorem sfxX5_append_46 : mSfx 46 kX5_append = kX5_append_46 := rfl
theorem cutX5_append_46 : cutX5_append 46 = none := by decide
def kX5_signAt_29 : List mIn := (29, 33, 0, 1, 0, 0, []) :: []
def kX5_signAt_28 : List mIn := (28, 0, 0, 0, 0, 0, []) :: kX5_signAt_29
def kX5_signAt_0 : List mIn := (0, 2, 0, 1, 1, 0, []) :: (1, 20, 0, 2, 28, 0, []) :: (4, 2, 0, 1, 1, 0, []) :: (5, 4, 0, 0, 1, 0, []) :: (6, 24, 0, 5, 5, 35, [481]) :: (9, 19, 0, 3, 28, 0, []) :: (12, 2, 0, 1, 1, 0, []) :: (13, 0, 800, 2, 0, 0, []) :: (16, 19, 0, 3, 28, 0, []) :: (19, 4, 0, 0, 1, 0, []) :: (20, 24, 0, 5, 0, 9, [472]) :: (23, 2, 0, 1, 1, 0, []) :: (24, 26, 0, 21, 0, 0, []) :: (25, 22, 0, 0, 29, 0, []) :: kX5_signAt_28
def kX5_signAt : List mIn := kX5_signAt_0
def TX5_signAt : Nat → mCal := fun a => match a with
  | _ => (yX5_signAt, cX5_signAt, 2, (some .int), (0, 0, 0, 0))
def calX5_signAt : mCal := (yX5_signAt, cX5_signAt, 2, (some .int), (0, 0, 0, 0))
def cutX5_signAt : Nat → Option (List Bool) := fun t => mLk t []
theorem okX5_signAt : mOK (yX5_signAt.cls, cX5_signAt, TX5_signAt, (some .int), (0, 0, 0, 0), 2, mAcf [], mAcf []) kX5_signAt = true := by decide +kernel
set_option maxRecDepth 100000 in
theorem sfxX5_signAt_28 : mSfx 28 kX5_signAt = kX5_signAt_28 := rfl
theorem cutX5_signAt_28 : cutX5_signAt 28 = none := by decide
set_option maxRecDepth 100000 in
theorem sfxX5_signAt_29 : mSfx 29 kX5_signAt = kX5_signAt_29 := rfl
theorem cutX5_signAt_29 : cutX5_signAt 29 = none := by decide
def kX5_isBlank_17 : List mIn := (17, 33, 0, 4, 0, 0, []) :: []
def kX5_isBlank_16 : List mIn := (16, 0, 0, 0, 0, 0, []) :: kX5_isBlank_17
def kX5_isBlank_12 : List mIn := (12, 0, 1, 0, 0, 0, []) :: (13, 22, 0, 0, 17, 0, []) :: kX5_isBlank_16
def kX5_isBlank_0 : List mIn := (0, 2, 0, 0, 1, 0, []) :: (1, 0, 10, 1, 0, 0, []) :: (3, 19, 0, 0, 12, 0, []) :: (6, 2, 0, 0, 1, 0, []) :: (7, 0, 32, 1, 0, 0, []) :: (9, 19, 0, 1, 16, 0, []) :: kX5_isBlank_12
def kX5_isBlank : List mIn := kX5_isBlank_0
def TX5_isBlank : Nat → mCal := fun a => match a with
  | _ => (yX5_isBlank, cX5_isBlank, 1, (some .boolean), (0, 0, 0, 0))
def calX5_isBlank : mCal := (yX5_isBlank, cX5_isBlank, 1, (some .boolean), (0, 0, 0, 0))
def cutX5_isBlank : Nat → Option (List Bool) := fun t => mLk t []
theorem okX5_isBlank : mOK (yX5_isBlank.cls, cX5_isBlank, TX5_isBlank, (some .boolean), (0, 0, 0, 0), 1, mAcf [], mAcf []) kX5_isBlank = true := by decide +kernel
set_option maxRecDepth 100000 in
theorem sfxX5_isBlank_12 : mSfx 12 kX5_isBlank = kX5_isBlank_12 := rfl
theorem cutX5_isBlank_12 : cutX5_isBlank 12 = none := by decide
set_option maxRecDepth 100000 in
theorem sfxX5_isBlank_16 : mSfx 16 kX5_isBlank = kX5_isBlank_16 := rfl
theorem cutX5_isBlank_16 : cutX5_isBlank 16 = none := by decide
set_option maxRecDepth 100000 in
theorem sfxX5_isBlank_17 : mSfx 17 kX5_isBlank = kX5_isBlank_17 := rfl
theorem cutX5_isBlank_17 : cutX5_isBlank 17 = none := by decide
def kX5_sortOf_39 : List mIn := (39, 33, 0, 1, 0, 0, []) :: []
def kX5_sortOf_38 : List mIn := (38, 0, 4, 0, 0, 0, []) :: kX5_sortOf_39
def kX5_sortOf_28 : List mIn := (28, 2, 0, 0, 1, 0, []) :: (29, 0, 59, 1, 0, 0, []) :: (31, 19, 0, 1, 38, 0, []) :: (34, 0, 3, 0, 0, 0, []) :: (35, 22, 0, 0, 39, 0, []) :: kX5_sortOf_38
def kX5_sortOf_14 : List mIn := (14, 2, 0, 0, 1, 0, []) :: (15, 0, 48, 1, 0, 0, []) :: (17, 19, 0, 2, 28, 0, []) :: (20, 2, 0, 0, 1, 0, []) :: (21, 0, 57, 1, 0, 0, []) :: (23, 19, 0, 4, 28, 0, []) :: (26, 0, 2, 0, 0, 0, []) :: (27, 33, 0, 1, 0, 0, []) :: kX5_sortOf_28
def kX5_sortOf_0 : List mIn := (0, 2, 0, 0, 1, 0, []) :: (1, 0, 97, 1, 0, 0, []) :: (3, 19, 0, 2, 14, 0, []) :: (6, 2, 0, 0, 1, 0, []) :: (7, 0, 122, 1, 0, 0, []) :: (9, 19, 0, 4, 14, 0, []) :: (12, 0, 1, 0, 0, 0, []) :: (13, 33, 0, 1, 0, 0, []) :: kX5_sortOf_14
def kX5_sortOf : List mIn := kX5_sortOf_0
def TX5_sortOf : Nat → mCal := fun a => match a with
  | _ => (yX5_sortOf, cX5_sortOf, 1, (some .int), (0, 0, 0, 0))
def calX5_sortOf : mCal := (yX5_sortOf, cX5_sortOf, 1, (some .int), (0, 0, 0, 0))
def cutX5_sortOf : Nat → Option (List Bool) := fun t => mLk t []
theorem okX5_sortOf : mOK (yX5_sortOf.cls, cX5_sortOf, TX5_sortOf, (some .int), (0, 0, 0, 0), 1, mAcf [], mAcf []) kX5_sortOf = true := by decide +kernel
set_option maxRecDepth 100000 in
theorem sfxX5_sortOf_14 : mSfx 14 kX5_sortOf = kX5_sortOf_14 := rfl
theorem cutX5_sortOf_14 : cutX5_sortOf 14 = none := by decide
set_option maxRecDepth 100000 in
theorem sfxX5_sortOf_28 : mSfx 28 kX5_sortOf = kX5_sortOf_28 := rfl
theorem cutX5_sortOf_28 : cutX5_sortOf 28 = none := by decide
set_option maxRecDepth 100000 in
theorem sfxX5_sortOf_38 : mSfx 38 kX5_sortOf = kX5_sortOf_38 := rfl
theorem cutX5_sortOf_38 : cutX5_sortOf 38 = none := by decide
set_option maxRecDepth 100000 in
theorem sfxX5_sortOf_39 : mSfx 39 kX5_sortOf = kX5_sortOf_39 := rfl
theorem cutX5_sortOf_39 : cutX5_sortOf 39 = none := by decide
def kX5_advance_236 : List mIn := (236, 33, 0, 0, 0, 0, []) :: []
def kX5_advance_210 : List mIn := (210, 4, 0, 0, 1, 0, []) :: (211, 24, 0, 5, 7, 50, [483]) :: (214, 0, 2, 0, 0, 0, []) :: (215, 19, 0, 1, 236, 0, []) :: (218, 4, 0, 0, 1, 0, []) :: (219, 24, 0, 5, 6, 38, [482]) :: (222, 4, 0, 0, 1, 0, []) :: (223, 24, 0, 5, 8, 150, [484]) :: (226, 9, 0, 1, 0, 0, []) :: (227, 0, 3, 0, 0, 0, []) :: (228, 19, 0, 5, 236, 0, []) :: (231, 4, 0, 0, 1, 0, []) :: (232, 0, 4, 0, 0, 0, []) :: (233, 25, 0, 5, 7, 50, [483]) :: kX5_advance_236
def kX5_advance_206 : List mIn := (206, 5, 0, 1, 1, 0, []) :: (207, 22, 0, 0, 98, 0, []) :: kX5_advance_210
def kX5_advance_205 : List mIn := (205, 0, 0, 0, 0, 0, []) :: kX5_advance_206
def kX5_advance_183 : List mIn := (183, 4, 0, 0, 1, 0, []) :: (184, 4, 0, 0, 1, 0, []) :: (185, 24, 0, 5, 6, 38, [482]) :: (188, 32, 0, 0, 2, 157, [5, 821, 823, 6, 114, 824]) :: (191, 32, 1, 2, 1, 167, [828, 829, 114, 830]) :: (194, 4, 0, 0, 1, 0, []) :: (195, 24, 0, 5, 7, 50, [483]) :: (198, 19, 0, 1, 205, 0, []) :: (201, 0, 1, 0, 0, 0, []) :: (202, 22, 0, 0, 206, 0, []) :: kX5_advance_205
def kX5_advance_157 : List mIn := (157, 4, 0, 0, 1, 0, []) :: (158, 29, 0, 0, 0, 0, []) :: (159, 24, 0, 5, 6, 38, [482]) :: (162, 0, 1, 0, 0, 0, []) :: (163, 9, 0, 0, 0, 0, []) :: (164, 25, 0, 5, 6, 38, [482]) :: (167, 4, 0, 0, 1, 0, []) :: (168, 24, 0, 5, 7, 50, [483]) :: (171, 0, 1, 0, 0, 0, []) :: (172, 19, 0, 0, 183, 0, []) :: (175, 4, 0, 0, 1, 0, []) :: (176, 24, 0, 5, 7, 50, [483]) :: (179, 0, 2, 0, 0, 0, []) :: (180, 19, 0, 1, 205, 0, []) :: kX5_advance_183
def kX5_advance_98 : List mIn := (98, 2, 0, 1, 1, 0, []) :: (99, 20, 0, 0, 210, 0, []) :: (102, 4, 0, 0, 1, 0, []) :: (103, 24, 0, 5, 6, 38, [482]) :: (106, 4, 0, 0, 1, 0, []) :: (107, 24, 0, 5, 5, 35, [481]) :: (110, 19, 0, 3, 210, 0, []) :: (113, 4, 0, 0, 1, 0, []) :: (114, 24, 0, 5, 7, 50, [483]) :: (117, 0, 2, 0, 0, 0, []) :: (118, 19, 0, 1, 157, 0, []) :: (121, 4, 0, 0, 1, 0, []) :: (122, 24, 0, 5, 6, 38, [482]) :: (125, 4, 0, 0, 1, 0, []) :: (126, 24, 0, 5, 8, 150, [484]) :: (129, 9, 0, 1, 0, 0, []) :: (130, 0, 3, 0, 0, 0, []) :: (131, 19, 0, 3, 157, 0, []) :: (134, 4, 0, 0, 1, 0, []) :: (135, 4, 0, 0, 1, 0, []) :: (136, 24, 0, 5, 9, 147, [485]) :: (139, 0, 10, 1, 0, 0, []) :: (141, 9, 0, 2, 0, 0, []) :: (142, 4, 0, 0, 1, 0, []) :: (143, 4, 0, 0, 1, 0, []) :: (144, 24, 0, 5, 6, 38, [482]) :: (147, 32, 0, 0, 2, 157, [5, 821, 823, 6, 114, 824]) :: (150, 9, 0, 0, 0, 0, []) :: (151, 0, 48, 1, 0, 0, []) :: (153, 9, 0, 1, 0, 0, []) :: (154, 25, 0, 5, 9, 147, [485]) :: kX5_advance_157
def kX5_advance_97 : List mIn := (97, 5, 0, 1, 1, 0, []) :: (98, 43, 0, 0, 98, 0, []) :: kX5_advance_98
def kX5_advance_96 : List mIn := (96, 0, 0, 0, 0, 0, []) :: kX5_advance_97
def kX5_advance_73 : List mIn := (73, 25, 0, 5, 7, 50, [483]) :: (76, 4, 0, 0, 1, 0, []) :: (77, 0, 0, 0, 0, 0, []) :: (78, 25, 0, 5, 9, 147, [485]) :: (81, 4, 0, 0, 1, 0, []) :: (82, 24, 0, 5, 6, 38, [482]) :: (85, 4, 0, 0, 1, 0, []) :: (86, 24, 0, 5, 5, 35, [481]) :: (89, 19, 0, 3, 96, 0, []) :: (92, 0, 1, 0, 0, 0, []) :: (93, 22, 0, 0, 97, 0, []) :: kX5_advance_96
def kX5_advance_72 : List mIn := (72, 0, 0, 0, 0, 0, []) :: kX5_advance_73
def kX5_advance_38 : List mIn := (38, 4, 0, 0, 1, 0, []) :: (39, 4, 0, 0, 1, 0, []) :: (40, 24, 0, 5, 6, 38, [482]) :: (43, 25, 0, 5, 8, 150, [484]) :: (46, 4, 0, 0, 1, 0, []) :: (47, 4, 0, 0, 1, 0, []) :: (48, 24, 0, 5, 6, 38, [482]) :: (51, 4, 0, 0, 1, 0, []) :: (52, 24, 0, 5, 5, 35, [481]) :: (55, 19, 0, 3, 72, 0, []) :: (58, 4, 0, 0, 1, 0, []) :: (59, 4, 0, 0, 1, 0, []) :: (60, 24, 0, 5, 6, 38, [482]) :: (63, 32, 0, 0, 2, 157, [5, 821, 823, 6, 114, 824]) :: (66, 32, 1, 2, 1, 167, [828, 829, 114, 830]) :: (69, 22, 0, 0, 73, 0, []) :: kX5_advance_72
def kX5_advance_0 : List mIn := (0, 4, 0, 0, 1, 0, []) :: (1, 24, 0, 5, 6, 38, [482]) :: (4, 4, 0, 0, 1, 0, []) :: (5, 24, 0, 5, 5, 35, [481]) :: (8, 19, 0, 3, 38, 0, []) :: (11, 4, 0, 0, 1, 0, []) :: (12, 4, 0, 0, 1, 0, []) :: (13, 24, 0, 5, 6, 38, [482]) :: (16, 32, 0, 0, 2, 157, [5, 821, 823, 6, 114, 824]) :: (19, 32, 1, 1, 1, 164, [825, 826, 114, 827]) :: (22, 20, 0, 0, 38, 0, []) :: (25, 4, 0, 0, 1, 0, []) :: (26, 29, 0, 0, 0, 0, []) :: (27, 24, 0, 5, 6, 38, [482]) :: (30, 0, 1, 0, 0, 0, []) :: (31, 9, 0, 0, 0, 0, []) :: (32, 25, 0, 5, 6, 38, [482]) :: (35, 22, 0, 0, 0, 0, []) :: kX5_advance_38
def kX5_advance : List mIn := kX5_advance_0
def TX5_advance : Nat → mCal := fun a => match a with
  | 0 => calX5_signAt
  | 1 => calX5_isBlank
  | 2 => calX5_sortOf
  | _ => (yX5_advance, cX5_advance, 2, none, (0, 0, 0, 0))
def calX5_advance : mCal := (yX5_advance, cX5_advance, 2, none, (1, 21, 0, 0))
def cutX5_advance : Nat → Option (List Bool) := fun t => mLk t [(0, [true, false]), (98, [true, true])]
theorem okX5_advance : mOK (yX5_advance.cls, cX5_advance, TX5_advance, none, (1, 21, 0, 0), 2, mAcf [], mAcf []) kX5_advance = true := by decide +kernel
set_option maxRecDepth 100000 in
theorem sfxX5_advance_0 : mSfx 0 kX5_advance = kX5_advance_0 := rfl
theorem cutX5_advance_0 : cutX5_advance 0 = some [true, false] := by decide
set_option maxRecDepth 100000 in
theorem sfxX5_advance_38 : mSfx 38 kX5_advance = kX5_advance_38 := rfl
theorem cutX5_advance_38 : cutX5_advance 38 = none := by decide
set_option maxRecDepth 100000 in
theorem sfxX5_advance_72 : mSfx 72 kX5_advance = kX5_advance_72 := rfl
theorem cutX5_advance_72 : cutX5_advance 72 = none := by decide
set_option maxRecDepth 100000 in
theorem sfxX5_advance_73 : mSfx 73 kX5_advance = kX5_advance_73 := rfl
theorem cutX5_advance_73 : cutX5_advance 73 = none := by decide
set_option maxRecDepth 100000 in
theorem sfxX5_advance_96 : mSfx 96 kX5_advance = kX5_advance_96 := rfl
theorem cutX5_advance_96 : cutX5_advance 96 = none := by decide
set_option maxRecDepth 100000 in
theorem sfxX5_advance_97 : mSfx 97 kX5_advance = kX5_advance_97 := rfl
theorem cutX5_advance_97 : cutX5_advance 97 = none := by decide
set_option maxRecDepth 100000 in
theorem sfxX5_advance_98 : mSfx 98 kX5_advance = kX5_advance_98 := rfl
theorem cutX5_advance_98 : cutX5_advance 98 = some [true, true] := by decide
set_option maxRecDepth 100000 in
theorem sfxX5_advance_157 : mSfx 157 kX5_advance = kX5_advance_157 := rfl
theorem cutX5_advance_157 : cutX5_advance 157 = none := by decide
set_option maxRecDepth 100000 in
theorem sfxX5_advance_183 : mSfx 183 kX5_advance = kX5_advance_183 := rfl
theorem cutX5_advance_183 : cutX5_advance 183 = none := by decide
set_option maxRecDepth 100000 in
theorem sfxX5_advance_205 : mSfx 205 kX5_advance = kX5_advance_205 := rfl
theorem cutX5_advance_205 : cutX5_advance 205 = none := by decide
set_option maxRecDepth 100000 in
theorem sfxX5_advance_206 : mSfx 206 kX5_advance = kX5_advance_206 := rfl
theorem cutX5_advance_206 : cutX5_advance 206 = none := by decide
set_option maxRecDepth 100000 in
theorem sfxX5_advance_210 : mSfx 210 kX5_advance = kX5_advance_210 := rfl
theorem cutX5_advance_210 : cutX5_advance 210 = none := by decide
set_option maxRecDepth 100000 in
theorem sfxX5_advance_236 : mSfx 236 kX5_advance = kX5_advance_236 := rfl
theorem cutX5_advance_236 : cutX5_advance 236 = none := by decide
def kX5_isWord_62 : List mIn := (62, 0, 1, 0, 0, 0, []) :: (63, 33, 0, 4, 0, 0, []) :: []
def kX5_isWord_56 : List mIn := (56, 8, 1, 2, 0, 0, []) :: (59, 22, 0, 0, 28, 0, []) :: kX5_isWord_62
def kX5_isWord_28 : List mIn := (28, 2, 0, 2, 1, 0, []) :: (29, 4, 0, 1, 1, 0, []) :: (30, 38, 0, 0, 0, 153, [840, 841, 842, 122, 843]) :: (33, 19, 0, 3, 62, 0, []) :: (36, 4, 0, 0, 1, 0, []) :: (37, 4, 0, 0, 1, 0, []) :: (38, 24, 0, 5, 8, 150, [484]) :: (41, 2, 0, 2, 1, 0, []) :: (42, 9, 0, 0, 0, 0, []) :: (43, 32, 0, 0, 2, 157, [5, 821, 823, 6, 114, 824]) :: (46, 4, 0, 1, 1, 0, []) :: (47, 2, 0, 2, 1, 0, []) :: (48, 39, 0, 0, 0, 160, [850, 851, 852, 122, 853]) :: (51, 19, 0, 0, 56, 0, []) :: (54, 0, 0, 0, 0, 0, []) :: (55, 33, 0, 4, 0, 0, []) :: kX5_isWord_56
def kX5_isWord_26 : List mIn := (26, 0, 0, 0, 0, 0, []) :: (27, 5, 0, 2, 1, 0, []) :: (28, 43, 0, 0, 28, 0, []) :: kX5_isWord_28
def kX5_isWord_24 : List mIn := (24, 0, 0, 0, 0, 0, []) :: (25, 33, 0, 4, 0, 0, []) :: kX5_isWord_26
def kX5_isWord_0 : List mIn := (0, 4, 0, 0, 1, 0, []) :: (1, 24, 0, 5, 7, 50, [483]) :: (4, 0, 1, 0, 0, 0, []) :: (5, 19, 0, 1, 24, 0, []) :: (8, 4, 0, 0, 1, 0, []) :: (9, 24, 0, 5, 6, 38, [482]) :: (12, 4, 0, 0, 1, 0, []) :: (13, 24, 0, 5, 8, 150, [484]) :: (16, 9, 0, 1, 0, 0, []) :: (17, 4, 0, 1, 1, 0, []) :: (18, 38, 0, 0, 0, 153, [840, 841, 842, 122, 843]) :: (21, 19, 0, 0, 26, 0, []) :: kX5_isWord_24
def kX5_isWord : List mIn := kX5_isWord_0
def TX5_isWord : Nat → mCal := fun a => match a with
  | 0 => calX5_signAt
  | _ => (yX5_isWord, cX5_isWord, 3, (some .boolean), (0, 0, 0, 0))
def calX5_isWord : mCal := (yX5_isWord, cX5_isWord, 3, (some .boolean), (5, 141, 0, 0))
def cutX5_isWord : Nat → Option (List Bool) := fun t => mLk t [(28, [true, true, true])]
theorem okX5_isWord : mOK (yX5_isWord.cls, cX5_isWord, TX5_isWord, (some .boolean), (5, 141, 0, 0), 3, mAcf [], mAcf []) kX5_isWord = true := by decide +kernel
set_option maxRecDepth 100000 in
theorem sfxX5_isWord_24 : mSfx 24 kX5_isWord = kX5_isWord_24 := rfl
theorem cutX5_isWord_24 : cutX5_isWord 24 = none := by decide
set_option maxRecDepth 100000 in
theorem sfxX5_isWord_26 : mSfx 26 kX5_isWord = kX5_isWord_26 := rfl
theorem cutX5_isWord_26 : cutX5_isWord 26 = none := by decide
set_option maxRecDepth 100000 in
theorem sfxX5_isWord_28 : mSfx 28 kX5_isWord = kX5_isWord_28 := rfl
theorem cutX5_isWord_28 : cutX5_isWord 28 = some [true, true, true] := by decide
set_option maxRecDepth 100000 in
theorem sfxX5_isWord_56 : mSfx 56 kX5_isWord = kX5_isWord_56 := rfl
theorem cutX5_isWord_56 : cutX5_isWord 56 = none := by decide
set_option maxRecDepth 100000 in
theorem sfxX5_isWord_62 : mSfx 62 kX5_isWord = kX5_isWord_62 := rfl
theorem cutX5_isWord_62 : cutX5_isWord 62 = none := by decide
def kX5_lineNamed_81 : List mIn := (81, 33, 0, 1, 0, 0, []) :: []
def kX5_lineNamed_80 : List mIn := (80, 0, (-1), 0, 0, 0, []) :: kX5_lineNamed_81
def kX5_lineNamed_67 : List mIn := (67, 4, 0, 0, 1, 0, []) :: (68, 37, 0, 6, 2, 93, []) :: (70, 32, 0, 0, 2, 79, [5, 836, 838, 8, 114, 839]) :: (73, 20, 0, 0, 80, 0, []) :: (76, 0, 4, 0, 0, 0, []) :: (77, 22, 0, 0, 81, 0, []) :: kX5_lineNamed_80
def kX5_lineNamed_56 : List mIn := (56, 4, 0, 0, 1, 0, []) :: (57, 37, 0, 5, 2, 91, []) :: (59, 32, 0, 0, 2, 79, [5, 836, 838, 8, 114, 839]) :: (62, 20, 0, 0, 67, 0, []) :: (65, 0, 3, 0, 0, 0, []) :: (66, 33, 0, 1, 0, 0, []) :: kX5_lineNamed_67
def kX5_lineNamed_45 : List mIn := (45, 4, 0, 0, 1, 0, []) :: (46, 37, 0, 4, 2, 89, []) :: (48, 32, 0, 0, 2, 79, [5, 836, 838, 8, 114, 839]) :: (51, 20, 0, 0, 56, 0, []) :: (54, 0, 2, 0, 0, 0, []) :: (55, 33, 0, 1, 0, 0, []) :: kX5_lineNamed_56
def kX5_lineNamed_34 : List mIn := (34, 4, 0, 0, 1, 0, []) :: (35, 37, 0, 3, 2, 87, []) :: (37, 32, 0, 0, 2, 79, [5, 836, 838, 8, 114, 839]) :: (40, 20, 0, 0, 45, 0, []) :: (43, 0, 1, 0, 0, 0, []) :: (44, 33, 0, 1, 0, 0, []) :: kX5_lineNamed_45
def kX5_lineNamed_23 : List mIn := (23, 4, 0, 0, 1, 0, []) :: (24, 37, 0, 2, 2, 85, []) :: (26, 32, 0, 0, 2, 79, [5, 836, 838, 8, 114, 839]) :: (29, 20, 0, 0, 34, 0, []) :: (32, 0, 0, 0, 0, 0, []) :: (33, 33, 0, 1, 0, 0, []) :: kX5_lineNamed_34
def kX5_lineNamed_12 : List mIn := (12, 4, 0, 0, 1, 0, []) :: (13, 37, 0, 1, 2, 83, []) :: (15, 32, 0, 0, 2, 79, [5, 836, 838, 8, 114, 839]) :: (18, 20, 0, 0, 23, 0, []) :: (21, 0, 5, 0, 0, 0, []) :: (22, 33, 0, 1, 0, 0, []) :: kX5_lineNamed_23
def kX5_lineNamed_0 : List mIn := (0, 4, 0, 0, 1, 0, []) :: (1, 37, 0, 0, 2, 77, []) :: (3, 32, 0, 0, 2, 79, [5, 836, 838, 8, 114, 839]) :: (6, 20, 0, 0, 12, 0, []) :: (9, 0, 6, 1, 0, 0, []) :: (11, 33, 0, 1, 0, 0, []) :: kX5_lineNamed_12
def kX5_lineNamed : List mIn := kX5_lineNamed_0
def TX5_lineNamed : Nat → mCal := fun a => match a with
  | 0 => calX5_isWord
  | _ => (yX5_lineNamed, cX5_lineNamed, 1, (some .int), (0, 0, 0, 0))
def calX5_lineNamed : mCal := (yX5_lineNamed, cX5_lineNamed, 1, (some .int), (6, 163, 0, 0))
def cutX5_lineNamed : Nat → Option (List Bool) := fun t => mLk t []
theorem okX5_lineNamed : mOK (yX5_lineNamed.cls, cX5_lineNamed, TX5_lineNamed, (some .int), (6, 163, 0, 0), 1, mAcf [], mAcf []) kX5_lineNamed = true := by decide +kernel
set_option maxRecDepth 100000 in
theorem sfxX5_lineNamed_12 : mSfx 12 kX5_lineNamed = kX5_lineNamed_12 := rfl
theorem cutX5_lineNamed_12 : cutX5_lineNamed 12 = none := by decide
set_option maxRecDepth 100000 in
theorem sfxX5_lineNamed_23 : mSfx 23 kX5_lineNamed = kX5_lineNamed_23 := rfl
theorem cutX5_lineNamed_23 : cutX5_lineNamed 23 = none := by decide
set_option maxRecDepth 100000 in
theorem sfxX5_lineNamed_34 : mSfx 34 kX5_lineNamed = kX5_lineNamed_34 := rfl
theorem cutX5_lineNamed_34 : cutX5_lineNamed 34 = none := by decide
set_option maxRecDepth 100000 in
theorem sfxX5_lineNamed_45 : mSfx 45 kX5_lineNamed = kX5_lineNamed_45 := rfl
theorem cutX5_lineNamed_45 : cutX5_lineNamed 45 = none := by decide
set_option maxRecDepth 100000 in
theorem sfxX5_lineNamed_56 : mSfx 56 kX5_lineNamed = kX5_lineNamed_56 := rfl
theorem cutX5_lineNamed_56 : cutX5_lineNamed 56 = none := by decide
set_option maxRecDepth 100000 in
theorem sfxX5_lineNamed_67 : mSfx 67 kX5_lineNamed = kX5_lineNamed_67 := rfl
theorem cutX5_lineNamed_67 : cutX5_lineNamed 67 = none := by decide
set_option maxRecDepth 100000 in
theorem sfxX5_lineNamed_80 : mSfx 80 kX5_lineNamed = kX5_lineNamed_80 := rfl
theorem cutX5_lineNamed_80 : cutX5_lineNamed 80 = none := by decide
set_option maxRecDepth 100000 in
theorem sfxX5_lineNamed_81 : mSfx 81 kX5_lineNamed = kX5_lineNamed_81 := rfl
theorem cutX5_lineNamed_81 : cutX5_lineNamed 81 = none := by decide
def kX5_fail_14 : List mIn := (14, 25, 0, 5, 3, 41, [477]) :: (17, 4, 0, 0, 1, 0, []) :: (18, 4, 0, 0, 1, 0, []) :: (19, 24, 0, 5, 8, 150, [484]) :: (22, 25, 0, 5, 4, 22, [479]) :: (25, 0, 0, 0, 0, 0, []) :: (26, 33, 0, 4, 0, 0, []) :: []
def kX5_fail_13 : List mIn := (13, 2, 0, 1, 1, 0, []) :: kX5_fail_14
def kX5_fail_0 : List mIn := (0, 4, 0, 0, 1, 0, []) :: (1, 4, 0, 0, 1, 0, []) :: (2, 24, 0, 5, 7, 50, [483]) :: (5, 0, 4, 0, 0, 0, []) :: (6, 19, 0, 1, 13, 0, []) :: (9, 0, 1, 0, 0, 0, []) :: (10, 22, 0, 0, 14, 0, []) :: kX5_fail_13
def kX5_fail : List mIn := kX5_fail_0
def TX5_fail : Nat → mCal := fun a => match a with
  | _ => (yX5_fail, cX5_fail, 2, (some .boolean), (0, 0, 0, 0))
def calX5_fail : mCal := (yX5_fail, cX5_fail, 2, (some .boolean), (0, 0, 0, 0))
def cutX5_fail : Nat → Option (List Bool) := fun t => mLk t []
theorem okX5_fail : mOK (yX5_fail.cls, cX5_fail, TX5_fail, (some .boolean), (0, 0, 0, 0), 2, mAcf [], mAcf []) kX5_fail = true := by decide +kernel
set_option maxRecDepth 100000 in
theorem sfxX5_fail_13 : mSfx 13 kX5_fail = kX5_fail_13 := rfl
theorem cutX5_fail_13 : cutX5_fail 13 = none := by decide
set_option maxRecDepth 100000 in
theorem sfxX5_fail_14 : mSfx 14 kX5_fail = kX5_fail_14 := rfl
theorem cutX5_fail_14 : cutX5_fail 14 = none := by decide
def kX5_readNumber_36 : List mIn := (36, 4, 0, 0, 1, 0, []) :: (37, 4, 0, 0, 1, 0, []) :: (38, 24, 0, 5, 9, 147, [485]) :: (41, 25, 0, 5, 10, 99, [486]) :: (44, 4, 0, 0, 1, 0, []) :: (45, 32, 0, 1, 1, 47, [5, 817, 819, 5, 114, 820]) :: (48, 0, 1, 0, 0, 0, []) :: (49, 33, 0, 4, 0, 0, []) :: []
def kX5_readNumber_30 : List mIn := (30, 4, 0, 0, 1, 0, []) :: (31, 0, 3, 0, 0, 0, []) :: (32, 32, 0, 0, 2, 60, [5, 894, 896, 9, 114, 897]) :: (35, 33, 0, 4, 0, 0, []) :: kX5_readNumber_36
def kX5_readNumber_14 : List mIn := (14, 4, 0, 0, 1, 0, []) :: (15, 24, 0, 5, 9, 147, [485]) :: (18, 2, 0, 1, 1, 0, []) :: (19, 19, 0, 2, 30, 0, []) :: (22, 4, 0, 0, 1, 0, []) :: (23, 24, 0, 5, 9, 147, [485]) :: (26, 2, 0, 2, 1, 0, []) :: (27, 19, 0, 5, 36, 0, []) :: kX5_readNumber_30
def kX5_readNumber_0 : List mIn := (0, 4, 0, 0, 1, 0, []) :: (1, 24, 0, 5, 7, 50, [483]) :: (4, 0, 2, 0, 0, 0, []) :: (5, 19, 0, 0, 14, 0, []) :: (8, 4, 0, 0, 1, 0, []) :: (9, 0, 2, 0, 0, 0, []) :: (10, 32, 0, 0, 2, 60, [5, 894, 896, 9, 114, 897]) :: (13, 33, 0, 4, 0, 0, []) :: kX5_readNumber_14
def kX5_readNumber : List mIn := kX5_readNumber_0
def TX5_readNumber : Nat → mCal := fun a => match a with
  | 0 => calX5_fail
  | 1 => calX5_advance
  | _ => (yX5_readNumber, cX5_readNumber, 3, (some .boolean), (0, 0, 0, 0))
def calX5_readNumber : mCal := (yX5_readNumber, cX5_readNumber, 3, (some .boolean), (2, 42, 0, 0))
def cutX5_readNumber : Nat → Option (List Bool) := fun t => mLk t []
theorem okX5_readNumber : mOK (yX5_readNumber.cls, cX5_readNumber, TX5_readNumber, (some .boolean), (2, 42, 0, 0), 3, mAcf [], mAcf []) kX5_readNumber = true := by decide +kernel
set_option maxRecDepth 100000 in
theorem sfxX5_readNumber_14 : mSfx 14 kX5_readNumber = kX5_readNumber_14 := rfl
theorem cutX5_readNumber_14 : cutX5_readNumber 14 = none := by decide
set_option maxRecDepth 100000 in
theorem sfxX5_readNumber_30 : mSfx 30 kX5_readNumber = kX5_readNumber_30 := rfl
theorem cutX5_readNumber_30 : cutX5_readNumber 30 = none := by decide
set_option maxRecDepth 100000 in
theorem sfxX5_readNumber_36 : mSfx 36 kX5_readNumber = kX5_readNumber_36 := rfl
theorem cutX5_readNumber_36 : cutX5_readNumber 36 = none := by decide
def kX5_readWord_14 : List mIn := (14, 4, 0, 0, 1, 0, []) :: (15, 32, 0, 2, 1, 47, [5, 817, 819, 5, 114, 820]) :: (18, 0, 1, 0, 0, 0, []) :: (19, 33, 0, 4, 0, 0, []) :: []
def kX5_readWord_0 : List mIn := (0, 4, 0, 0, 1, 0, []) :: (1, 4, 0, 1, 1, 0, []) :: (2, 32, 0, 0, 2, 79, [5, 836, 838, 8, 114, 839]) :: (5, 20, 0, 1, 14, 0, []) :: (8, 4, 0, 0, 1, 0, []) :: (9, 0, 2, 0, 0, 0, []) :: (10, 32, 0, 1, 2, 60, [5, 894, 896, 9, 114, 897]) :: (13, 33, 0, 4, 0, 0, []) :: kX5_readWord_14
def kX5_readWord : List mIn := kX5_readWord_0
def TX5_readWord : Nat → mCal := fun a => match a with
  | 0 => calX5_isWord
  | 1 => calX5_fail
  | 2 => calX5_advance
  | _ => (yX5_readWord, cX5_readWord, 2, (some .boolean), (0, 0, 0, 0))
def calX5_readWord : mCal := (yX5_readWord, cX5_readWord, 2, (some .boolean), (6, 163, 0, 0))
def cutX5_readWord : Nat → Option (List Bool) := fun t => mLk t []
theorem okX5_readWord : mOK (yX5_readWord.cls, cX5_readWord, TX5_readWord, (some .boolean), (6, 163, 0, 0), 2, mAcf [], mAcf []) kX5_readWord = true := by decide +kernel
set_option maxRecDepth 100000 in
theorem sfxX5_readWord_14 : mSfx 14 kX5_readWord = kX5_readWord_14 := rfl
theorem cutX5_readWord_14 : cutX5_readWord 14 = none := by decide
def kX5_readSlow_80 : List mIn := (80, 0, 1, 0, 0, 0, []) :: (81, 33, 0, 4, 0, 0, []) :: []
def kX5_readSlow_74 : List mIn := (74, 8, 1, 2, 0, 0, []) :: (77, 22, 0, 0, 30, 0, []) :: kX5_readSlow_80
def kX5_readSlow_50 : List mIn := (50, 4, 0, 0, 1, 0, []) :: (51, 24, 0, 5, 2, 18, [475]) :: (54, 24, 0, 3, 6, 117, [184]) :: (57, 4, 0, 0, 1, 0, []) :: (58, 24, 0, 5, 10, 99, [486]) :: (61, 2, 0, 1, 1, 0, []) :: (62, 27, 0, 20, 0, 0, []) :: (63, 4, 0, 0, 1, 0, []) :: (64, 24, 0, 5, 7, 50, [483]) :: (67, 0, 2, 0, 0, 0, []) :: (68, 19, 0, 0, 74, 0, []) :: (71, 22, 0, 0, 80, 0, []) :: kX5_readSlow_74
def kX5_readSlow_30 : List mIn := (30, 2, 0, 2, 1, 0, []) :: (31, 0, 800, 2, 0, 0, []) :: (34, 19, 0, 3, 80, 0, []) :: (37, 4, 0, 0, 1, 0, []) :: (38, 0, 0, 0, 0, 0, []) :: (39, 0, 288, 2, 0, 0, []) :: (42, 32, 0, 0, 3, 95, [5, 902, 904, 11, 114, 905]) :: (45, 20, 0, 1, 50, 0, []) :: (48, 0, 0, 0, 0, 0, []) :: (49, 33, 0, 4, 0, 0, []) :: kX5_readSlow_50
def kX5_readSlow_28 : List mIn := (28, 0, 0, 0, 0, 0, []) :: (29, 5, 0, 2, 1, 0, []) :: (30, 43, 0, 0, 30, 0, []) :: kX5_readSlow_30
def kX5_readSlow_12 : List mIn := (12, 4, 0, 0, 1, 0, []) :: (13, 24, 0, 5, 10, 99, [486]) :: (16, 5, 0, 1, 1, 0, []) :: (17, 4, 0, 0, 1, 0, []) :: (18, 37, 0, 7, 2, 112, []) :: (20, 32, 0, 1, 2, 114, [5, 907, 909, 12, 114, 910]) :: (23, 20, 0, 1, 28, 0, []) :: (26, 0, 0, 0, 0, 0, []) :: (27, 33, 0, 4, 0, 0, []) :: kX5_readSlow_28
def kX5_readSlow_0 : List mIn := (0, 4, 0, 0, 1, 0, []) :: (1, 0, 0, 0, 0, 0, []) :: (2, 0, 20, 1, 0, 0, []) :: (4, 32, 0, 0, 3, 95, [5, 902, 904, 11, 114, 905]) :: (7, 20, 0, 1, 12, 0, []) :: (10, 0, 0, 0, 0, 0, []) :: (11, 33, 0, 4, 0, 0, []) :: kX5_readSlow_12
def kX5_readSlow : List mIn := kX5_readSlow_0
def TX5_readSlow : Nat → mCal := fun a => match a with
  | 0 => calX5_readNumber
  | 1 => calX5_readWord
  | _ => (yX5_readSlow, cX5_readSlow, 3, (some .boolean), (0, 0, 0, 0))
def calX5_readSlow : mCal := (yX5_readSlow, cX5_readSlow, 3, (some .boolean), (7, 184, 0, 0))
def cutX5_readSlow : Nat → Option (List Bool) := fun t => mLk t [(30, [true, true, true])]
theorem okX5_readSlow : mOK (yX5_readSlow.cls, cX5_readSlow, TX5_readSlow, (some .boolean), (7, 184, 0, 0), 3, mAcf [], mAcf []) kX5_readSlow = true := by decide +kernel
set_option maxRecDepth 100000 in
theorem sfxX5_readSlow_12 : mSfx 12 kX5_readSlow = kX5_readSlow_12 := rfl
theorem cutX5_readSlow_12 : cutX5_readSlow 12 = none := by decide
set_option maxRecDepth 100000 in
theorem sfxX5_readSlow_28 : mSfx 28 kX5_readSlow = kX5_readSlow_28 := rfl
theorem cutX5_readSlow_28 : cutX5_readSlow 28 = none := by decide
set_option maxRecDepth 100000 in
theorem sfxX5_readSlow_30 : mSfx 30 kX5_readSlow = kX5_readSlow_30 := rfl
theorem cutX5_readSlow_30 : cutX5_readSlow 30 = some [true, true, true] := by decide
set_option maxRecDepth 100000 in
theorem sfxX5_readSlow_50 : mSfx 50 kX5_readSlow = kX5_readSlow_50 := rfl
theorem cutX5_readSlow_50 : cutX5_readSlow 50 = none := by decide
set_option maxRecDepth 100000 in
theorem sfxX5_readSlow_74 : mSfx 74 kX5_readSlow = kX5_readSlow_74 := rfl
theorem cutX5_readSlow_74 : cutX5_readSlow 74 = none := by decide
set_option maxRecDepth 100000 in
theorem sfxX5_readSlow_80 : mSfx 80 kX5_readSlow = kX5_readSlow_80 := rfl
theorem cutX5_readSlow_80 : cutX5_readSlow 80 = none := by decide
def kX5_readHit_128 : List mIn := (128, 4, 0, 0, 1, 0, []) :: (129, 24, 0, 5, 2, 18, [475]) :: (132, 24, 0, 3, 11, 144, [199]) :: (135, 2, 0, 1, 1, 0, []) :: (136, 4, 0, 0, 1, 0, []) :: (137, 24, 0, 5, 10, 99, [486]) :: (140, 27, 0, 20, 0, 0, []) :: (141, 0, 1, 0, 0, 0, []) :: (142, 33, 0, 4, 0, 0, []) :: []
def kX5_readHit_126 : List mIn := (126, 0, 0, 0, 0, 0, []) :: (127, 33, 0, 4, 0, 0, []) :: kX5_readHit_128
def kX5_readHit_107 : List mIn := (107, 4, 0, 0, 1, 0, []) :: (108, 37, 0, 11, 2, 142, []) :: (110, 32, 0, 1, 2, 114, [5, 907, 909, 12, 114, 910]) :: (113, 20, 0, 0, 126, 0, []) :: (116, 4, 0, 0, 1, 0, []) :: (117, 0, 1, 0, 0, 0, []) :: (118, 0, 99, 1, 0, 0, []) :: (120, 32, 0, 0, 3, 95, [5, 902, 904, 11, 114, 905]) :: (123, 20, 0, 1, 128, 0, []) :: kX5_readHit_126
def kX5_readHit_94 : List mIn := (94, 4, 0, 0, 1, 0, []) :: (95, 24, 0, 5, 2, 18, [475]) :: (98, 24, 0, 3, 10, 138, [196]) :: (101, 2, 0, 1, 1, 0, []) :: (102, 4, 0, 0, 1, 0, []) :: (103, 24, 0, 5, 10, 99, [486]) :: (106, 27, 0, 20, 0, 0, []) :: kX5_readHit_107
def kX5_readHit_46 : List mIn := (46, 4, 0, 0, 1, 0, []) :: (47, 24, 0, 5, 2, 18, [475]) :: (50, 24, 0, 3, 9, 136, [193]) :: (53, 2, 0, 1, 1, 0, []) :: (54, 4, 0, 0, 1, 0, []) :: (55, 24, 0, 5, 10, 99, [486]) :: (58, 27, 0, 20, 0, 0, []) :: (59, 4, 0, 0, 1, 0, []) :: (60, 24, 0, 5, 2, 18, [475]) :: (63, 24, 0, 3, 10, 138, [196]) :: (66, 2, 0, 1, 1, 0, []) :: (67, 0, 0, 0, 0, 0, []) :: (68, 27, 0, 20, 0, 0, []) :: (69, 4, 0, 0, 1, 0, []) :: (70, 37, 0, 10, 2, 141, []) :: (72, 32, 0, 2, 2, 79, [5, 836, 838, 8, 114, 839]) :: (75, 20, 0, 0, 107, 0, []) :: (78, 4, 0, 0, 1, 0, []) :: (79, 32, 0, 3, 1, 47, [5, 817, 819, 5, 114, 820]) :: (82, 4, 0, 0, 1, 0, []) :: (83, 0, 1, 0, 0, 0, []) :: (84, 0, 8, 1, 0, 0, []) :: (86, 32, 0, 0, 3, 95, [5, 902, 904, 11, 114, 905]) :: (89, 20, 0, 1, 94, 0, []) :: (92, 0, 0, 0, 0, 0, []) :: (93, 33, 0, 4, 0, 0, []) :: kX5_readHit_94
def kX5_readHit_44 : List mIn := (44, 0, 0, 0, 0, 0, []) :: (45, 33, 0, 4, 0, 0, []) :: kX5_readHit_46
def kX5_readHit_12 : List mIn := (12, 4, 0, 0, 1, 0, []) :: (13, 24, 0, 5, 2, 18, [475]) :: (16, 24, 0, 3, 8, 132, [190]) :: (19, 2, 0, 1, 1, 0, []) :: (20, 4, 0, 0, 1, 0, []) :: (21, 24, 0, 5, 10, 99, [486]) :: (24, 27, 0, 20, 0, 0, []) :: (25, 4, 0, 0, 1, 0, []) :: (26, 37, 0, 9, 2, 134, []) :: (28, 32, 0, 1, 2, 114, [5, 907, 909, 12, 114, 910]) :: (31, 20, 0, 0, 44, 0, []) :: (34, 4, 0, 0, 1, 0, []) :: (35, 0, 1, 0, 0, 0, []) :: (36, 0, 9, 1, 0, 0, []) :: (38, 32, 0, 0, 3, 95, [5, 902, 904, 11, 114, 905]) :: (41, 20, 0, 1, 46, 0, []) :: kX5_readHit_44
def kX5_readHit_0 : List mIn := (0, 4, 0, 0, 1, 0, []) :: (1, 0, 0, 0, 0, 0, []) :: (2, 0, 15, 1, 0, 0, []) :: (4, 32, 0, 0, 3, 95, [5, 902, 904, 11, 114, 905]) :: (7, 20, 0, 1, 12, 0, []) :: (10, 0, 0, 0, 0, 0, []) :: (11, 33, 0, 4, 0, 0, []) :: kX5_readHit_12
def kX5_readHit : List mIn := kX5_readHit_0
def TX5_readHit : Nat → mCal := fun a => match a with
  | 0 => calX5_readNumber
  | 1 => calX5_readWord
  | 2 => calX5_isWord
  | 3 => calX5_advance
  | _ => (yX5_readHit, cX5_readHit, 2, (some .boolean), (0, 0, 0, 0))
def calX5_readHit : mCal := (yX5_readHit, cX5_readHit, 2, (some .boolean), (7, 184, 0, 0))
def cutX5_readHit : Nat → Option (List Bool) := fun t => mLk t []
theorem okX5_readHit : mOK (yX5_readHit.cls, cX5_readHit, TX5_readHit, (some .boolean), (7, 184, 0, 0), 2, mAcf [], mAcf []) kX5_readHit = true := by decide +kernel
set_option maxRecDepth 100000 in
theorem sfxX5_readHit_12 : mSfx 12 kX5_readHit = kX5_readHit_12 := rfl
theorem cutX5_readHit_12 : cutX5_readHit 12 = none := by decide
set_option maxRecDepth 100000 in
theorem sfxX5_readHit_44 : mSfx 44 kX5_readHit = kX5_readHit_44 := rfl
theorem cutX5_readHit_44 : cutX5_readHit 44 = none := by decide
set_option maxRecDepth 100000 in
theorem sfxX5_readHit_46 : mSfx 46 kX5_readHit = kX5_readHit_46 := rfl
theorem cutX5_readHit_46 : cutX5_readHit 46 = none := by decide
set_option maxRecDepth 100000 in
theorem sfxX5_readHit_94 : mSfx 94 kX5_readHit = kX5_readHit_94 := rfl
theorem cutX5_readHit_94 : cutX5_readHit 94 = none := by decide
set_option maxRecDepth 100000 in
theorem sfxX5_readHit_107 : mSfx 107 kX5_readHit = kX5_readHit_107 := rfl
theorem cutX5_readHit_107 : cutX5_readHit 107 = none := by decide
set_option maxRecDepth 100000 in
theorem sfxX5_readHit_126 : mSfx 126 kX5_readHit = kX5_readHit_126 := rfl
theorem cutX5_readHit_126 : cutX5_readHit 126 = none := by decide
set_option maxRecDepth 100000 in
theorem sfxX5_readHit_128 : mSfx 128 kX5_readHit = kX5_readHit_128 := rfl
theorem cutX5_readHit_128 : cutX5_readHit 128 = none := by decide
def kX5_readBall_109 : List mIn := (109, 0, 0, 0, 0, 0, []) :: (110, 33, 0, 4, 0, 0, []) :: []
def kX5_readBall_91 : List mIn := (91, 4, 0, 0, 1, 0, []) :: (92, 24, 0, 5, 2, 18, [475]) :: (95, 24, 0, 3, 7, 129, [187]) :: (98, 2, 0, 1, 1, 0, []) :: (99, 2, 0, 3, 1, 0, []) :: (100, 0, 1, 0, 0, 0, []) :: (101, 9, 0, 0, 0, 0, []) :: (102, 27, 0, 20, 0, 0, []) :: (103, 8, 1, 2, 0, 0, []) :: (106, 22, 0, 0, 18, 0, []) :: kX5_readBall_109
def kX5_readBall_72 : List mIn := (72, 4, 0, 0, 1, 0, []) :: (73, 32, 0, 4, 1, 47, [5, 817, 819, 5, 114, 820]) :: (76, 4, 0, 0, 1, 0, []) :: (77, 2, 0, 1, 1, 0, []) :: (78, 0, 8, 1, 0, 0, []) :: (80, 9, 0, 2, 0, 0, []) :: (81, 2, 0, 3, 1, 0, []) :: (82, 9, 0, 0, 0, 0, []) :: (83, 32, 0, 5, 2, 126, [5, 917, 919, 14, 114, 920]) :: (86, 20, 0, 1, 91, 0, []) :: (89, 0, 0, 0, 0, 0, []) :: (90, 33, 0, 4, 0, 0, []) :: kX5_readBall_91
def kX5_readBall_51 : List mIn := (51, 4, 0, 0, 1, 0, []) :: (52, 24, 0, 5, 2, 18, [475]) :: (55, 2, 0, 1, 1, 0, []) :: (56, 32, 0, 3, 2, 122, [3, 916, 646, 647, 107, 648]) :: (59, 5, 0, 3, 1, 0, []) :: (60, 2, 0, 3, 1, 0, []) :: (61, 0, 8, 1, 0, 0, []) :: (63, 19, 0, 2, 72, 0, []) :: (66, 4, 0, 0, 1, 0, []) :: (67, 0, 5, 0, 0, 0, []) :: (68, 32, 0, 2, 2, 60, [5, 894, 896, 9, 114, 897]) :: (71, 33, 0, 4, 0, 0, []) :: kX5_readBall_72
def kX5_readBall_50 : List mIn := (50, 33, 0, 4, 0, 0, []) :: kX5_readBall_51
def kX5_readBall_49 : List mIn := (49, 0, 0, 0, 0, 0, []) :: kX5_readBall_50
def kX5_readBall_45 : List mIn := (45, 0, 1, 0, 0, 0, []) :: (46, 22, 0, 0, 50, 0, []) :: kX5_readBall_49
def kX5_readBall_18 : List mIn := (18, 2, 0, 2, 1, 0, []) :: (19, 0, 8, 1, 0, 0, []) :: (21, 19, 0, 4, 109, 0, []) :: (24, 4, 0, 0, 1, 0, []) :: (25, 37, 0, 8, 2, 120, []) :: (27, 32, 0, 1, 2, 79, [5, 836, 838, 8, 114, 839]) :: (30, 20, 0, 1, 51, 0, []) :: (33, 2, 0, 2, 1, 0, []) :: (34, 20, 0, 4, 45, 0, []) :: (37, 4, 0, 0, 1, 0, []) :: (38, 0, 2, 0, 0, 0, []) :: (39, 32, 0, 2, 2, 60, [5, 894, 896, 9, 114, 897]) :: (42, 20, 0, 0, 49, 0, []) :: kX5_readBall_45
def kX5_readBall_11 : List mIn := (11, 4, 0, 0, 1, 0, []) :: (12, 24, 0, 5, 10, 99, [486]) :: (15, 5, 0, 1, 1, 0, []) :: (16, 0, 0, 0, 0, 0, []) :: (17, 5, 0, 2, 1, 0, []) :: (18, 43, 0, 0, 18, 0, []) :: kX5_readBall_18
def kX5_readBall_0 : List mIn := (0, 4, 0, 0, 1, 0, []) :: (1, 0, 0, 0, 0, 0, []) :: (2, 0, 5, 0, 0, 0, []) :: (3, 32, 0, 0, 3, 95, [5, 902, 904, 11, 114, 905]) :: (6, 20, 0, 1, 11, 0, []) :: (9, 0, 0, 0, 0, 0, []) :: (10, 33, 0, 4, 0, 0, []) :: kX5_readBall_11
def kX5_readBall : List mIn := kX5_readBall_0
def TX5_readBall : Nat → mCal := fun a => match a with
  | 0 => calX5_readNumber
  | 1 => calX5_isWord
  | 2 => calX5_fail
  | 3 => calX3_hitsOf
  | 4 => calX5_advance
  | 5 => calX5_readHit
  | _ => (yX5_readBall, cX5_readBall, 4, (some .boolean), (0, 0, 0, 0))
def calX5_readBall : mCal := (yX5_readBall, cX5_readBall, 4, (some .boolean), (8, 205, 0, 0))
def cutX5_readBall : Nat → Option (List Bool) := fun t => mLk t [(18, [true, true, true, false])]
theorem okX5_readBall : mOK (yX5_readBall.cls, cX5_readBall, TX5_readBall, (some .boolean), (8, 205, 0, 0), 4, mAcf [], mAcf []) kX5_readBall = true := by decide +kernel
set_option maxRecDepth 100000 in
theorem sfxX5_readBall_11 : mSfx 11 kX5_readBall = kX5_readBall_11 := rfl
theorem cutX5_readBall_11 : cutX5_readBall 11 = none := by decide
set_option maxRecDepth 100000 in
theorem sfxX5_readBall_18 : mSfx 18 kX5_readBall = kX5_readBall_18 := rfl
theorem cutX5_readBall_18 : cutX5_readBall 18 = some [true, true, true, false] := by decide
set_option maxRecDepth 100000 in
theorem sfxX5_readBall_45 : mSfx 45 kX5_readBall = kX5_readBall_45 := rfl
theorem cutX5_readBall_45 : cutX5_readBall 45 = none := by decide
set_option maxRecDepth 100000 in
theorem sfxX5_readBall_49 : mSfx 49 kX5_readBall = kX5_readBall_49 := rfl
theorem cutX5_readBall_49 : cutX5_readBall 49 = none := by decide
set_option maxRecDepth 100000 in
theorem sfxX5_readBall_50 : mSfx 50 kX5_readBall = kX5_readBall_50 := rfl
theorem cutX5_readBall_50 : cutX5_readBall 50 = none := by decide
set_option maxRecDepth 100000 in
theorem sfxX5_readBall_51 : mSfx 51 kX5_readBall = kX5_readBall_51 := rfl
theorem cutX5_readBall_51 : cutX5_readBall 51 = none := by decide
set_option maxRecDepth 100000 in
theorem sfxX5_readBall_72 : mSfx 72 kX5_readBall = kX5_readBall_72 := rfl
theorem cutX5_readBall_72 : cutX5_readBall 72 = none := by decide
set_option maxRecDepth 100000 in
theorem sfxX5_readBall_91 : mSfx 91 kX5_readBall = kX5_readBall_91 := rfl
theorem cutX5_readBall_91 : cutX5_readBall 91 = none := by decide
set_option maxRecDepth 100000 in
theorem sfxX5_readBall_109 : mSfx 109 kX5_readBall = kX5_readBall_109 := rfl
theorem cutX5_readBall_109 : cutX5_readBall 109 = none := by decide
def kX5_readSetting_161 : List mIn := (161, 33, 0, 4, 0, 0, []) :: []
def kX5_readSetting_160 : List mIn := (160, 0, 0, 0, 0, 0, []) :: kX5_readSetting_161
def kX5_readSetting_149 : List mIn := (149, 4, 0, 0, 1, 0, []) :: (150, 24, 0, 5, 3, 41, [477]) :: (153, 20, 0, 1, 160, 0, []) :: (156, 0, 1, 0, 0, 0, []) :: (157, 22, 0, 0, 161, 0, []) :: kX5_readSetting_160
def kX5_readSetting_128 : List mIn := (128, 4, 0, 0, 1, 0, []) :: (129, 0, 0, 0, 0, 0, []) :: (130, 0, 8, 1, 0, 0, []) :: (132, 32, 0, 0, 3, 95, [5, 902, 904, 11, 114, 905]) :: (135, 20, 0, 0, 149, 0, []) :: (138, 4, 0, 0, 1, 0, []) :: (139, 24, 0, 5, 2, 18, [475]) :: (142, 4, 0, 0, 1, 0, []) :: (143, 24, 0, 5, 10, 99, [486]) :: (146, 25, 0, 3, 5, 110, [180]) :: kX5_readSetting_149
def kX5_readSetting_104 : List mIn := (104, 4, 0, 0, 1, 0, []) :: (105, 0, 0, 0, 0, 0, []) :: (106, 0, 9, 1, 0, 0, []) :: (108, 32, 0, 0, 3, 95, [5, 902, 904, 11, 114, 905]) :: (111, 20, 0, 0, 149, 0, []) :: (114, 4, 0, 0, 1, 0, []) :: (115, 24, 0, 5, 2, 18, [475]) :: (118, 4, 0, 0, 1, 0, []) :: (119, 24, 0, 5, 10, 99, [486]) :: (122, 25, 0, 3, 4, 108, [176]) :: (125, 22, 0, 0, 149, 0, []) :: kX5_readSetting_128
def kX5_readSetting_80 : List mIn := (80, 4, 0, 0, 1, 0, []) :: (81, 0, 0, 0, 0, 0, []) :: (82, 0, 99, 1, 0, 0, []) :: (84, 32, 0, 0, 3, 95, [5, 902, 904, 11, 114, 905]) :: (87, 20, 0, 0, 149, 0, []) :: (90, 4, 0, 0, 1, 0, []) :: (91, 24, 0, 5, 2, 18, [475]) :: (94, 4, 0, 0, 1, 0, []) :: (95, 24, 0, 5, 10, 99, [486]) :: (98, 25, 0, 3, 3, 106, [170]) :: (101, 22, 0, 0, 149, 0, []) :: kX5_readSetting_104
def kX5_readSetting_56 : List mIn := (56, 4, 0, 0, 1, 0, []) :: (57, 0, 1, 0, 0, 0, []) :: (58, 0, 60, 1, 0, 0, []) :: (60, 32, 0, 0, 3, 95, [5, 902, 904, 11, 114, 905]) :: (63, 20, 0, 0, 149, 0, []) :: (66, 4, 0, 0, 1, 0, []) :: (67, 24, 0, 5, 2, 18, [475]) :: (70, 4, 0, 0, 1, 0, []) :: (71, 24, 0, 5, 10, 99, [486]) :: (74, 25, 0, 3, 2, 104, [166]) :: (77, 22, 0, 0, 149, 0, []) :: kX5_readSetting_80
def kX5_readSetting_32 : List mIn := (32, 4, 0, 0, 1, 0, []) :: (33, 0, 2, 0, 0, 0, []) :: (34, 0, 8, 1, 0, 0, []) :: (36, 32, 0, 0, 3, 95, [5, 902, 904, 11, 114, 905]) :: (39, 20, 0, 0, 149, 0, []) :: (42, 4, 0, 0, 1, 0, []) :: (43, 24, 0, 5, 2, 18, [475]) :: (46, 4, 0, 0, 1, 0, []) :: (47, 24, 0, 5, 10, 99, [486]) :: (50, 25, 0, 3, 1, 102, [163]) :: (53, 22, 0, 0, 149, 0, []) :: kX5_readSetting_56
def kX5_readSetting_0 : List mIn := (0, 2, 0, 1, 1, 0, []) :: (1, 34, 0, 4, 128, 31, [32, 56, 80, 104]) :: kX5_readSetting_32
def kX5_readSetting : List mIn := kX5_readSetting_0
def TX5_readSetting : Nat → mCal := fun a => match a with
  | 0 => calX5_readNumber
  | _ => (yX5_readSetting, cX5_readSetting, 2, (some .boolean), (0, 0, 0, 0))
def calX5_readSetting : mCal := (yX5_readSetting, cX5_readSetting, 2, (some .boolean), (3, 64, 0, 0))
def cutX5_readSetting : Nat → Option (List Bool) := fun t => mLk t []
theorem okX5_readSetting : mOK (yX5_readSetting.cls, cX5_readSetting, TX5_readSetting, (some .boolean), (3, 64, 0, 0), 2, mAcf [], mAcf []) kX5_readSetting = true := by decide +kernel
set_option maxRecDepth 100000 in
theorem sfxX5_readSetting_32 : mSfx 32 kX5_readSetting = kX5_readSetting_32 := rfl
theorem cutX5_readSetting_32 : cutX5_readSetting 32 = none := by decide
set_option maxRecDepth 100000 in
theorem sfxX5_readSetting_56 : mSfx 56 kX5_readSetting = kX5_readSetting_56 := rfl
theorem cutX5_readSetting_56 : cutX5_readSetting 56 = none := by decide
set_option maxRecDepth 100000 in
theorem sfxX5_readSetting_80 : mSfx 80 kX5_readSetting = kX5_readSetting_80 := rfl
theorem cutX5_readSetting_80 : cutX5_readSetting 80 = none := by decide
set_option maxRecDepth 100000 in
theorem sfxX5_readSetting_104 : mSfx 104 kX5_readSetting = kX5_readSetting_104 := rfl
theorem cutX5_readSetting_104 : cutX5_readSetting 104 = none := by decide
set_option maxRecDepth 100000 in
theorem sfxX5_readSetting_128 : mSfx 128 kX5_readSetting = kX5_readSetting_128 := rfl
theorem cutX5_readSetting_128 : cutX5_readSetting 128 = none := by decide
set_option maxRecDepth 100000 in
theorem sfxX5_readSetting_149 : mSfx 149 kX5_readSetting = kX5_readSetting_149 := rfl
theorem cutX5_readSetting_149 : cutX5_readSetting 149 = none := by decide
set_option maxRecDepth 100000 in
theorem sfxX5_readSetting_160 : mSfx 160 kX5_readSetting = kX5_readSetting_160 := rfl
theorem cutX5_readSetting_160 : cutX5_readSetting 160 = none := by decide
set_option maxRecDepth 100000 in
theorem sfxX5_readSetting_161 : mSfx 161 kX5_readSetting = kX5_readSetting_161 := rfl
theorem cutX5_readSetting_161 : cutX5_readSetting 161 = none := by decide
def kX5_readSign_14 : List mIn := (14, 4, 0, 0, 1, 0, []) :: (15, 32, 0, 1, 1, 47, [5, 817, 819, 5, 114, 820]) :: (18, 0, 1, 0, 0, 0, []) :: (19, 33, 0, 4, 0, 0, []) :: []
def kX5_readSign_0 : List mIn := (0, 4, 0, 0, 1, 0, []) :: (1, 24, 0, 5, 7, 50, [483]) :: (4, 0, 3, 0, 0, 0, []) :: (5, 19, 0, 0, 14, 0, []) :: (8, 4, 0, 0, 1, 0, []) :: (9, 0, 2, 0, 0, 0, []) :: (10, 32, 0, 0, 2, 60, [5, 894, 896, 9, 114, 897]) :: (13, 33, 0, 4, 0, 0, []) :: kX5_readSign_14
def kX5_readSign : List mIn := kX5_readSign_0
def TX5_readSign : Nat → mCal := fun a => match a with
  | 0 => calX5_fail
  | 1 => calX5_advance
  | _ => (yX5_readSign, cX5_readSign, 1, (some .boolean), (0, 0, 0, 0))
def calX5_readSign : mCal := (yX5_readSign, cX5_readSign, 1, (some .boolean), (2, 42, 0, 0))
def cutX5_readSign : Nat → Option (List Bool) := fun t => mLk t []
theorem okX5_readSign : mOK (yX5_readSign.cls, cX5_readSign, TX5_readSign, (some .boolean), (2, 42, 0, 0), 1, mAcf [], mAcf []) kX5_readSign = true := by decide +kernel
set_option maxRecDepth 100000 in
theorem sfxX5_readSign_14 : mSfx 14 kX5_readSign = kX5_readSign_14 := rfl
theorem cutX5_readSign_14 : cutX5_readSign 14 = none := by decide
def kX5_readField_147 : List mIn := (147, 0, 0, 0, 0, 0, []) :: (148, 33, 0, 4, 0, 0, []) :: []
def kX5_readField_141 : List mIn := (141, 8, 1, 2, 0, 0, []) :: (144, 22, 0, 0, 40, 0, []) :: kX5_readField_147
def kX5_readField_139 : List mIn := (139, 0, 0, 0, 0, 0, []) :: (140, 33, 0, 4, 0, 0, []) :: kX5_readField_141
def kX5_readField_125 : List mIn := (125, 5, 0, 4, 2, 0, []) :: (127, 2, 0, 4, 2, 0, []) :: (129, 20, 0, 0, 139, 0, []) :: (132, 4, 0, 0, 1, 0, []) :: (133, 32, 0, 7, 1, 74, [5, 928, 930, 16, 114, 931]) :: (136, 20, 0, 1, 141, 0, []) :: kX5_readField_139
def kX5_readField_120 : List mIn := (120, 4, 0, 0, 1, 0, []) :: (121, 2, 0, 3, 1, 0, []) :: (122, 32, 0, 6, 2, 71, [5, 924, 926, 15, 114, 927]) :: kX5_readField_125
def kX5_readField_107 : List mIn := (107, 2, 0, 3, 1, 0, []) :: (108, 0, 6, 1, 0, 0, []) :: (110, 19, 0, 1, 120, 0, []) :: (113, 4, 0, 0, 1, 0, []) :: (114, 32, 0, 5, 1, 68, [5, 911, 913, 13, 114, 914]) :: (117, 22, 0, 0, 125, 0, []) :: kX5_readField_120
def kX5_readField_91 : List mIn := (91, 4, 0, 0, 1, 0, []) :: (92, 32, 0, 1, 1, 47, [5, 817, 819, 5, 114, 820]) :: (95, 2, 0, 3, 1, 0, []) :: (96, 0, 5, 0, 0, 0, []) :: (97, 19, 0, 1, 107, 0, []) :: (100, 4, 0, 0, 1, 0, []) :: (101, 32, 0, 4, 1, 64, [5, 898, 900, 10, 114, 901]) :: (104, 22, 0, 0, 125, 0, []) :: kX5_readField_107
def kX5_readField_79 : List mIn := (79, 2, 0, 2, 1, 0, []) :: (80, 0, 30, 1, 0, 0, []) :: (82, 19, 0, 1, 91, 0, []) :: (85, 4, 0, 0, 1, 0, []) :: (86, 0, 4, 0, 0, 0, []) :: (87, 32, 0, 3, 2, 60, [5, 894, 896, 9, 114, 897]) :: (90, 33, 0, 4, 0, 0, []) :: kX5_readField_91
def kX5_readField_63 : List mIn := (63, 4, 0, 0, 1, 0, []) :: (64, 32, 0, 2, 1, 56, [5, 831, 833, 7, 114, 834]) :: (67, 5, 0, 3, 1, 0, []) :: (68, 2, 0, 3, 1, 0, []) :: (69, 0, (-1), 0, 0, 0, []) :: (70, 19, 0, 1, 79, 0, []) :: (73, 4, 0, 0, 1, 0, []) :: (74, 0, 2, 0, 0, 0, []) :: (75, 32, 0, 3, 2, 60, [5, 894, 896, 9, 114, 897]) :: (78, 33, 0, 4, 0, 0, []) :: kX5_readField_79
def kX5_readField_40 : List mIn := (40, 2, 0, 2, 1, 0, []) :: (41, 0, 30, 1, 0, 0, []) :: (43, 19, 0, 4, 147, 0, []) :: (46, 4, 0, 0, 1, 0, []) :: (47, 24, 0, 5, 7, 50, [483]) :: (50, 20, 0, 1, 63, 0, []) :: (53, 4, 0, 0, 1, 0, []) :: (54, 24, 0, 5, 2, 18, [475]) :: (57, 2, 0, 2, 1, 0, []) :: (58, 25, 0, 3, 0, 53, [160]) :: (61, 0, 1, 0, 0, 0, []) :: (62, 33, 0, 4, 0, 0, []) :: kX5_readField_63
def kX5_readField_0 : List mIn := (0, 4, 0, 0, 1, 0, []) :: (1, 2, 0, 1, 1, 0, []) :: (2, 4, 0, 0, 1, 0, []) :: (3, 24, 0, 5, 1, 26, [474]) :: (6, 40, 0, 1, 0, 29, [815, 709, 121, 710]) :: (9, 25, 0, 5, 5, 35, [481]) :: (12, 4, 0, 0, 1, 0, []) :: (13, 0, 0, 0, 0, 0, []) :: (14, 25, 0, 5, 6, 38, [482]) :: (17, 4, 0, 0, 1, 0, []) :: (18, 0, 0, 0, 0, 0, []) :: (19, 25, 0, 5, 3, 41, [477]) :: (22, 4, 0, 0, 1, 0, []) :: (23, 0, (-1), 0, 0, 0, []) :: (24, 25, 0, 5, 4, 22, [479]) :: (27, 4, 0, 0, 1, 0, []) :: (28, 24, 0, 5, 2, 18, [475]) :: (31, 32, 0, 0, 1, 44, [3, 816, 153, 154, 107, 155]) :: (34, 4, 0, 0, 1, 0, []) :: (35, 32, 0, 1, 1, 47, [5, 817, 819, 5, 114, 820]) :: (38, 0, 0, 0, 0, 0, []) :: (39, 5, 0, 2, 1, 0, []) :: (40, 43, 0, 0, 40, 0, []) :: kX5_readField_40
def kX5_readField : List mIn := kX5_readField_0
def TX5_readField : Nat → mCal := fun a => match a with
  | 0 => calX3_clear
  | 1 => calX5_advance
  | 2 => calX5_lineNamed
  | 3 => calX5_fail
  | 4 => calX5_readSlow
  | 5 => calX5_readBall
  | 6 => calX5_readSetting
  | 7 => calX5_readSign
  | _ => (yX5_readField, cX5_readField, 5, (some .boolean), (0, 0, 0, 0))
def calX5_readField : mCal := (yX5_readField, cX5_readField, 5, (some .boolean), (9, 228, 0, 0))
def cutX5_readField : Nat → Option (List Bool) := fun t => mLk t [(40, [true, false, true, false, false])]
theorem okX5_readField : mOK (yX5_readField.cls, cX5_readField, TX5_readField, (some .boolean), (9, 228, 0, 0), 5, mAcf [], mAcf []) kX5_readField = true := by decide +kernel
set_option maxRecDepth 100000 in
theorem sfxX5_readField_40 : mSfx 40 kX5_readField = kX5_readField_40 := rfl
theorem cutX5_readField_40 : cutX5_readField 40 = some [true, false, true, false, false] := by decide
set_option maxRecDepth 100000 in
theorem sfxX5_readField_63 : mSfx 63 kX5_readField = kX5_readField_63 := rfl
theorem cutX5_readField_63 : cutX5_readField 63 = none := by decide
set_option maxRecDepth 100000 in
theorem sfxX5_readField_79 : mSfx 79 kX5_readField = kX5_readField_79 := rfl
theorem cutX5_readField_79 : cutX5_readField 79 = none := by decide
set_option maxRecDepth 100000 in
theorem sfxX5_readField_91 : mSfx 91 kX5_readField = kX5_readField_91 := rfl
theorem cutX5_readField_91 : cutX5_readField 91 = none := by decide
set_option maxRecDepth 100000 in
theorem sfxX5_readField_107 : mSfx 107 kX5_readField = kX5_readField_107 := rfl
theorem cutX5_readField_107 : cutX5_readField 107 = none := by decide
set_option maxRecDepth 100000 in
theorem sfxX5_readField_120 : mSfx 120 kX5_readField = kX5_readField_120 := rfl
theorem cutX5_readField_120 : cutX5_readField 120 = none := by decide
set_option maxRecDepth 100000 in
theorem sfxX5_readField_125 : mSfx 125 kX5_readField = kX5_readField_125 := rfl
theorem cutX5_readField_125 : cutX5_readField 125 = none := by decide
set_option maxRecDepth 100000 in
theorem sfxX5_readField_139 : mSfx 139 kX5_readField = kX5_readField_139 := rfl
theorem cutX5_readField_139 : cutX5_readField 139 = none := by decide
set_option maxRecDepth 100000 in
theorem sfxX5_readField_141 : mSfx 141 kX5_readField = kX5_readField_141 := rfl
theorem cutX5_readField_141 : cutX5_readField 141 = none := by decide
set_option maxRecDepth 100000 in
theorem sfxX5_readField_147 : mSfx 147 kX5_readField = kX5_readField_147 := rfl
theorem cutX5_readField_147 : cutX5_readField 147 = none := by decide
def kX6_copyFrom_0 : List mIn := (0, 4, 0, 1, 1, 0, []) :: (1, 24, 0, 6, 0, 9, [234]) :: (4, 4, 0, 0, 1, 0, []) :: (5, 24, 0, 6, 0, 9, [234]) :: (8, 32, 3, 0, 2, 36, [24, 941, 105, 942]) :: (11, 4, 0, 1, 1, 0, []) :: (12, 24, 0, 6, 1, 15, [237]) :: (15, 4, 0, 0, 1, 0, []) :: (16, 24, 0, 6, 1, 15, [237]) :: (19, 32, 3, 0, 2, 36, [24, 941, 105, 942]) :: (22, 4, 0, 1, 1, 0, []) :: (23, 24, 0, 6, 2, 18, [241]) :: (26, 4, 0, 0, 1, 0, []) :: (27, 24, 0, 6, 2, 18, [241]) :: (30, 32, 3, 0, 2, 36, [24, 941, 105, 942]) :: (33, 4, 0, 1, 1, 0, []) :: (34, 24, 0, 6, 3, 21, [244]) :: (37, 4, 0, 0, 1, 0, []) :: (38, 24, 0, 6, 3, 21, [244]) :: (41, 32, 3, 0, 2, 36, [24, 941, 105, 942]) :: (44, 4, 0, 1, 1, 0, []) :: (45, 24, 0, 6, 4, 24, [247]) :: (48, 4, 0, 0, 1, 0, []) :: (49, 24, 0, 6, 4, 24, [247]) :: (52, 32, 3, 0, 2, 36, [24, 941, 105, 942]) :: (55, 4, 0, 1, 1, 0, []) :: (56, 24, 0, 6, 5, 27, [250]) :: (59, 4, 0, 0, 1, 0, []) :: (60, 24, 0, 6, 5, 27, [250]) :: (63, 32, 3, 0, 2, 36, [24, 941, 105, 942]) :: (66, 4, 0, 0, 1, 0, []) :: (67, 4, 0, 1, 1, 0, []) :: (68, 24, 0, 6, 6, 40, [251]) :: (71, 25, 0, 6, 6, 40, [251]) :: (74, 33, 0, 0, 0, 0, []) :: []
def kX6_copyFrom : List mIn := kX6_copyFrom_0
def TX6_copyFrom : Nat → mCal := fun a => match a with
  | 0 => calX10_copyRow
  | _ => (yX6_copyFrom, cX6_copyFrom, 2, none, (0, 0, 0, 0))
def calX6_copyFrom : mCal := (yX6_copyFrom, cX6_copyFrom, 2, none, (2, 81, 0, 0))
def cutX6_copyFrom : Nat → Option (List Bool) := fun t => mLk t []
theorem okX6_copyFrom : mOK (yX6_copyFrom.cls, cX6_copyFrom, TX6_copyFrom, none, (2, 81, 0, 0), 2, mAcf [], mAcf []) kX6_copyFrom = true := by decide +kernel
def kX6_leave_0 : List mIn := (0, 4, 0, 0, 1, 0, []) :: (1, 24, 0, 6, 0, 9, [234]) :: (4, 0, (-1), 0, 0, 0, []) :: (5, 32, 1, 0, 2, 30, [233, 157, 108, 158]) :: (8, 4, 0, 0, 1, 0, []) :: (9, 0, 0, 0, 0, 0, []) :: (10, 25, 0, 6, 6, 40, [251]) :: (13, 33, 0, 0, 0, 0, []) :: []
def kX6_leave : List mIn := kX6_leave_0
def TX6_leave : Nat → mCal := fun a => match a with
  | 0 => calJ7_fill_53178
  | _ => (yX6_leave, cX6_leave, 1, none, (0, 0, 0, 0))
def calX6_leave : mCal := (yX6_leave, cX6_leave, 1, none, (1, 23, 0, 0))
def cutX6_leave : Nat → Option (List Bool) := fun t => mLk t []
theorem okX6_leave : mOK (yX6_leave.cls, cX6_leave, TX6_leave, none, (1, 23, 0, 0), 1, mAcf [], mAcf []) kX6_leave = true := by decide +kernel
def kX6_keep_0 : List mIn := (0, 4, 0, 0, 1, 0, []) :: (1, 24, 0, 6, 0, 9, [234]) :: (4, 0, 0, 0, 0, 0, []) :: (5, 4, 0, 0, 1, 0, []) :: (6, 24, 0, 6, 5, 27, [250]) :: (9, 2, 0, 1, 1, 0, []) :: (10, 0, 9, 1, 0, 0, []) :: (12, 9, 0, 2, 0, 0, []) :: (13, 0, 9, 1, 0, 0, []) :: (15, 41, 0, 0, 0, 44, [1253, 946, 945, 126]) :: (18, 4, 0, 0, 1, 0, []) :: (19, 29, 0, 0, 0, 0, []) :: (20, 24, 0, 6, 6, 40, [251]) :: (23, 0, 1, 0, 0, 0, []) :: (24, 2, 0, 1, 1, 0, []) :: (25, 9, 0, 6, 0, 0, []) :: (26, 9, 0, 4, 0, 0, []) :: (27, 25, 0, 6, 6, 40, [251]) :: (30, 33, 0, 0, 0, 0, []) :: []
def kX6_keep : List mIn := kX6_keep_0
def TX6_keep : Nat → mCal := fun a => match a with
  | _ => (yX6_keep, cX6_keep, 2, none, (0, 0, 0, 0))
def calX6_keep : mCal := (yX6_keep, cX6_keep, 2, none, (1, 60, 0, 0))
def cutX6_keep : Nat → Option (List Bool) := fun t => mLk t []
theorem okX6_keep : mOK (yX6_keep.cls, cX6_keep, TX6_keep, none, (1, 60, 0, 0), 2, mAcf [], mAcf []) kX6_keep = true := by decide +kernel
def kX6_standAs_0 : List mIn := (0, 4, 0, 0, 1, 0, []) :: (1, 24, 0, 6, 5, 27, [250]) :: (4, 2, 0, 1, 1, 0, []) :: (5, 0, 9, 1, 0, 0, []) :: (7, 9, 0, 2, 0, 0, []) :: (8, 4, 0, 2, 1, 0, []) :: (9, 0, 0, 0, 0, 0, []) :: (10, 0, 9, 1, 0, 0, []) :: (12, 41, 0, 0, 0, 44, [1253, 946, 945, 126]) :: (15, 33, 0, 0, 0, 0, []) :: []
def kX6_standAs : List mIn := kX6_standAs_0
def TX6_standAs : Nat → mCal := fun a => match a with
  | _ => (yX6_standAs, cX6_standAs, 3, none, (0, 0, 0, 0))
def calX6_standAs : mCal := (yX6_standAs, cX6_standAs, 3, none, (1, 60, 0, 0))
def cutX6_standAs : Nat → Option (List Bool) := fun t => mLk t []
theorem okX6_standAs : mOK (yX6_standAs.cls, cX6_standAs, TX6_standAs, none, (1, 60, 0, 0), 3, mAcf [], mAcf []) kX6_standAs = true := by decide +kernel
def kX6_manyThere_34 : List mIn := (34, 2, 0, 1, 1, 0, []) :: (35, 33, 0, 1, 0, 0, []) :: []
def kX6_manyThere_26 : List mIn := (26, 9, 0, 0, 0, 0, []) :: (27, 5, 0, 1, 1, 0, []) :: (28, 8, 1, 2, 0, 0, []) :: (31, 22, 0, 0, 4, 0, []) :: kX6_manyThere_34
def kX6_manyThere_25 : List mIn := (25, 0, 1, 0, 0, 0, []) :: kX6_manyThere_26
def kX6_manyThere_4 : List mIn := (4, 2, 0, 2, 1, 0, []) :: (5, 0, 9, 1, 0, 0, []) :: (7, 19, 0, 3, 34, 0, []) :: (10, 2, 0, 1, 1, 0, []) :: (11, 4, 0, 0, 1, 0, []) :: (12, 24, 0, 6, 0, 9, [234]) :: (15, 2, 0, 2, 1, 0, []) :: (16, 26, 0, 20, 0, 0, []) :: (17, 0, (-1), 0, 0, 0, []) :: (18, 19, 0, 1, 25, 0, []) :: (21, 0, 0, 0, 0, 0, []) :: (22, 22, 0, 0, 26, 0, []) :: kX6_manyThere_25
def kX6_manyThere_0 : List mIn := (0, 0, 0, 0, 0, 0, []) :: (1, 5, 0, 1, 1, 0, []) :: (2, 0, 0, 0, 0, 0, []) :: (3, 5, 0, 2, 1, 0, []) :: (4, 43, 0, 0, 4, 0, []) :: kX6_manyThere_4
def kX6_manyThere : List mIn := kX6_manyThere_0
def TX6_manyThere : Nat → mCal := fun a => match a with
  | _ => (yX6_manyThere, cX6_manyThere, 3, (some .int), (0, 0, 0, 0))
def calX6_manyThere : mCal := (yX6_manyThere, cX6_manyThere, 3, (some .int), (0, 0, 0, 0))
def cutX6_manyThere : Nat → Option (List Bool) := fun t => mLk t [(4, [true, true, true])]
theorem okX6_manyThere : mOK (yX6_manyThere.cls, cX6_manyThere, TX6_manyThere, (some .int), (0, 0, 0, 0), 3, mAcf [], mAcf []) kX6_manyThere = true := by decide +kernel
set_option maxRecDepth 100000 in
theorem sfxX6_manyThere_4 : mSfx 4 kX6_manyThere = kX6_manyThere_4 := rfl
theorem cutX6_manyThere_4 : cutX6_manyThere 4 = some [true, true, true] := by decide
set_option maxRecDepth 100000 in
theorem sfxX6_manyThere_25 : mSfx 25 kX6_manyThere = kX6_manyThere_25 := rfl
theorem cutX6_manyThere_25 : cutX6_manyThere 25 = none := by decide
set_option maxRecDepth 100000 in
theorem sfxX6_manyThere_26 : mSfx 26 kX6_manyThere = kX6_manyThere_26 := rfl
theorem cutX6_manyThere_26 : cutX6_manyThere 26 = none := by decide
set_option maxRecDepth 100000 in
theorem sfxX6_manyThere_34 : mSfx 34 kX6_manyThere = kX6_manyThere_34 := rfl
theorem cutX6_manyThere_34 : cutX6_manyThere 34 = none := by decide
def kX6_nearestTo_64 : List mIn := (64, 2, 0, 2, 1, 0, []) :: (65, 33, 0, 1, 0, 0, []) :: []
def kX6_nearestTo_58 : List mIn := (58, 8, 1, 4, 0, 0, []) :: (61, 22, 0, 0, 7, 0, []) :: kX6_nearestTo_64
def kX6_nearestTo_52 : List mIn := (52, 2, 0, 4, 2, 0, []) :: (54, 5, 0, 2, 1, 0, []) :: (55, 2, 0, 5, 2, 0, []) :: (57, 5, 0, 3, 1, 0, []) :: kX6_nearestTo_58
def kX6_nearestTo_28 : List mIn := (28, 4, 0, 0, 1, 0, []) :: (29, 24, 0, 6, 0, 9, [234]) :: (32, 2, 0, 4, 2, 0, []) :: (34, 26, 0, 20, 0, 0, []) :: (35, 2, 0, 1, 1, 0, []) :: (36, 32, 3, 0, 2, 50, [22, 623, 105, 624]) :: (39, 5, 0, 5, 2, 0, []) :: (41, 2, 0, 2, 1, 0, []) :: (42, 0, (-1), 0, 0, 0, []) :: (43, 19, 0, 0, 52, 0, []) :: (46, 2, 0, 5, 2, 0, []) :: (48, 2, 0, 3, 1, 0, []) :: (49, 19, 0, 3, 58, 0, []) :: kX6_nearestTo_52
def kX6_nearestTo_7 : List mIn := (7, 2, 0, 4, 2, 0, []) :: (9, 0, 9, 1, 0, 0, []) :: (11, 19, 0, 3, 64, 0, []) :: (14, 4, 0, 0, 1, 0, []) :: (15, 24, 0, 6, 0, 9, [234]) :: (18, 2, 0, 4, 2, 0, []) :: (20, 26, 0, 20, 0, 0, []) :: (21, 0, (-1), 0, 0, 0, []) :: (22, 19, 0, 1, 28, 0, []) :: (25, 22, 0, 0, 58, 0, []) :: kX6_nearestTo_28
def kX6_nearestTo_0 : List mIn := (0, 0, (-1), 0, 0, 0, []) :: (1, 5, 0, 2, 1, 0, []) :: (2, 0, 0, 0, 0, 0, []) :: (3, 5, 0, 3, 1, 0, []) :: (4, 0, 0, 0, 0, 0, []) :: (5, 5, 0, 4, 2, 0, []) :: (7, 43, 0, 0, 7, 0, []) :: kX6_nearestTo_7
def kX6_nearestTo : List mIn := kX6_nearestTo_0
def TX6_nearestTo : Nat → mCal := fun a => match a with
  | 0 => calX10_apart
  | _ => (yX6_nearestTo, cX6_nearestTo, 6, (some .int), (0, 0, 0, 0))
def calX6_nearestTo : mCal := (yX6_nearestTo, cX6_nearestTo, 6, (some .int), (1, 25, 0, 0))
def cutX6_nearestTo : Nat → Option (List Bool) := fun t => mLk t [(7, [true, true, true, true, true, false])]
theorem okX6_nearestTo : mOK (yX6_nearestTo.cls, cX6_nearestTo, TX6_nearestTo, (some .int), (1, 25, 0, 0), 6, mAcf [], mAcf []) kX6_nearestTo = true := by decide +kernel
set_option maxRecDepth 100000 in
theorem sfxX6_nearestTo_7 : mSfx 7 kX6_nearestTo = kX6_nearestTo_7 := rfl
theorem cutX6_nearestTo_7 : cutX6_nearestTo 7 = some [true, true, true, true, true, false] := by decide
set_option maxRecDepth 100000 in
theorem sfxX6_nearestTo_28 : mSfx 28 kX6_nearestTo = kX6_nearestTo_28 := rfl
theorem cutX6_nearestTo_28 : cutX6_nearestTo 28 = none := by decide
set_option maxRecDepth 100000 in
theorem sfxX6_nearestTo_52 : mSfx 52 kX6_nearestTo = kX6_nearestTo_52 := rfl
theorem cutX6_nearestTo_52 : cutX6_nearestTo 52 = none := by decide
set_option maxRecDepth 100000 in
theorem sfxX6_nearestTo_58 : mSfx 58 kX6_nearestTo = kX6_nearestTo_58 := rfl
theorem cutX6_nearestTo_58 : cutX6_nearestTo 58 = none := by decide
set_option maxRecDepth 100000 in
theorem sfxX6_nearestTo_64 : mSfx 64 kX6_nearestTo = kX6_nearestTo_64 := rfl
theorem cutX6_nearestTo_64 : cutX6_nearestTo 64 = none := by decide
def kX7_copyFrom_0 : List mIn := (0, 4, 0, 0, 1, 0, []) :: (1, 24, 0, 7, 0, 10, [295]) :: (4, 4, 0, 1, 1, 0, []) :: (5, 24, 0, 7, 0, 10, [295]) :: (8, 32, 0, 0, 2, 30, [3, 936, 937, 938, 107, 939]) :: (11, 4, 0, 0, 1, 0, []) :: (12, 24, 0, 7, 1, 19, [297]) :: (15, 4, 0, 1, 1, 0, []) :: (16, 24, 0, 7, 1, 19, [297]) :: (19, 32, 0, 1, 2, 34, [6, 1548, 1549, 1550, 109, 1551]) :: (22, 4, 0, 0, 1, 0, []) :: (23, 24, 0, 7, 2, 26, [299]) :: (26, 4, 0, 1, 1, 0, []) :: (27, 24, 0, 7, 2, 26, [299]) :: (30, 32, 0, 2, 2, 37, [1, 1553, 1554, 1555, 110, 1556]) :: (33, 33, 0, 0, 0, 0, []) :: []
def kX7_copyFrom : List mIn := kX7_copyFrom_0
def TX7_copyFrom : Nat → mCal := fun a => match a with
  | 0 => calX3_copyFrom
  | 1 => calX6_copyFrom
  | 2 => calX1_copyFrom
  | _ => (yX7_copyFrom, cX7_copyFrom, 2, none, (0, 0, 0, 0))
def calX7_copyFrom : mCal := (yX7_copyFrom, cX7_copyFrom, 2, none, (3, 102, 0, 0))
def cutX7_copyFrom : Nat → Option (List Bool) := fun t => mLk t []
theorem okX7_copyFrom : mOK (yX7_copyFrom.cls, cX7_copyFrom, TX7_copyFrom, none, (3, 102, 0, 0), 2, mAcf [], mAcf []) kX7_copyFrom = true := by decide +kernel
def kX7_begin_0 : List mIn := (0, 4, 0, 0, 1, 0, []) :: (1, 24, 0, 7, 0, 10, [295]) :: (4, 4, 0, 1, 1, 0, []) :: (5, 32, 0, 0, 2, 30, [3, 936, 937, 938, 107, 939]) :: (8, 4, 0, 0, 1, 0, []) :: (9, 24, 0, 7, 1, 19, [297]) :: (12, 32, 0, 1, 1, 40, [6, 947, 948, 949, 109, 950]) :: (15, 4, 0, 0, 1, 0, []) :: (16, 24, 0, 7, 2, 26, [299]) :: (19, 32, 0, 2, 1, 43, [1, 951, 952, 953, 110, 954]) :: (22, 33, 0, 0, 0, 0, []) :: []
def kX7_begin : List mIn := kX7_begin_0
def TX7_begin : Nat → mCal := fun a => match a with
  | 0 => calX3_copyFrom
  | 1 => calX6_leave
  | 2 => calX1_forget
  | _ => (yX7_begin, cX7_begin, 2, none, (0, 0, 0, 0))
def calX7_begin : mCal := (yX7_begin, cX7_begin, 2, none, (3, 102, 0, 0))
def cutX7_begin : Nat → Option (List Bool) := fun t => mLk t []
theorem okX7_begin : mOK (yX7_begin.cls, cX7_begin, TX7_begin, none, (3, 102, 0, 0), 2, mAcf [], mAcf []) kX7_begin = true := by decide +kernel
def kJ7_fill_d0a16_22 : List mIn := (22, 33, 0, 0, 0, 0, []) :: []
def kJ7_fill_d0a16_6 : List mIn := (6, 2, 0, 3, 1, 0, []) :: (7, 2, 0, 4, 2, 0, []) :: (9, 19, 0, 3, 22, 0, []) :: (12, 4, 0, 0, 1, 0, []) :: (13, 2, 0, 3, 1, 0, []) :: (14, 3, 0, 1, 1, 0, []) :: (15, 27, 0, 23, 0, 0, []) :: (16, 8, 1, 3, 0, 0, []) :: (19, 22, 0, 0, 6, 0, []) :: kJ7_fill_d0a16_22
def kJ7_fill_d0a16_0 : List mIn := (0, 0, 0, 0, 0, 0, []) :: (1, 5, 0, 3, 1, 0, []) :: (2, 4, 0, 0, 1, 0, []) :: (3, 28, 0, 0, 0, 0, []) :: (4, 5, 0, 4, 2, 0, []) :: (6, 43, 0, 0, 6, 0, []) :: kJ7_fill_d0a16_6
def kJ7_fill_d0a16 : List mIn := kJ7_fill_d0a16_0
def TJ7_fill_d0a16 : Nat → mCal := fun a => match a with
  | _ => (yJ7_fill_d0a16, cJ7_fill_d0a16, 5, none, (0, 0, 0, 0))
def calJ7_fill_d0a16 : mCal := (yJ7_fill_d0a16, cJ7_fill_d0a16, 5, none, (0, 0, 0, 0))
def cutJ7_fill_d0a16 : Nat → Option (List Bool) := fun t => mLk t [(6, [true, true, false, true, true])]
theorem okJ7_fill_d0a16 : mOK (yJ7_fill_d0a16.cls, cJ7_fill_d0a16, TJ7_fill_d0a16, none, (0, 0, 0, 0), 5, mAcf [], mAcf []) kJ7_fill_d0a16 = true := by decide +kernel
set_option maxRecDepth 100000 in
theorem sfxJ7_fill_d0a16_6 : mSfx 6 kJ7_fill_d0a16 = kJ7_fill_d0a16_6 := rfl
theorem cutJ7_fill_d0a16_6 : cutJ7_fill_d0a16 6 = some [true, true, false, true, true] := by decide
set_option maxRecDepth 100000 in
theorem sfxJ7_fill_d0a16_22 : mSfx 22 kJ7_fill_d0a16 = kJ7_fill_d0a16_22 := rfl
theorem cutJ7_fill_d0a16_22 : cutJ7_fill_d0a16 22 = none := by decide
def kX8_empty_0 : List mIn := (0, 4, 0, 0, 1, 0, []) :: (1, 2, 0, 1, 1, 0, []) :: (2, 25, 0, 8, 0, 15, [1493]) :: (5, 4, 0, 0, 1, 0, []) :: (6, 2, 0, 2, 1, 0, []) :: (7, 25, 0, 8, 1, 19, [1494]) :: (10, 4, 0, 0, 1, 0, []) :: (11, 24, 0, 8, 2, 11, [1496]) :: (14, 1, 0, 0, 0, 0, []) :: (15, 32, 1, 0, 2, 22, [1510, 1511, 108, 1512]) :: (18, 33, 0, 0, 0, 0, []) :: []
def kX8_empty : List mIn := kX8_empty_0
def TX8_empty : Nat → mCal := fun a => match a with
  | 0 => calJ7_fill_d0a16
  | _ => (yX8_empty, cX8_empty, 3, none, (0, 0, 0, 0))
def calX8_empty : mCal := (yX8_empty, cX8_empty, 3, none, (1, 24, 0, 0))
def cutX8_empty : Nat → Option (List Bool) := fun t => mLk t []
theorem okX8_empty : mOK (yX8_empty.cls, cX8_empty, TX8_empty, none, (1, 24, 0, 0), 3, mAcf [], mAcf []) kX8_empty = true := by decide +kernel
def kX8_cut_46 : List mIn := (46, 3, 0, 1, 1, 0, []) :: (47, 33, 0, 2, 0, 0, []) :: []
def kX8_cut_42 : List mIn := (42, 3, 0, 1, 1, 0, []) :: (43, 14, 0, 0, 0, 0, []) :: (44, 13, 0, 0, 0, 0, []) :: (45, 33, 0, 2, 0, 0, []) :: kX8_cut_46
def kX8_cut_37 : List mIn := (37, 3, 0, 1, 1, 0, []) :: (38, 14, 0, 0, 0, 0, []) :: (39, 15, 0, 1, 0, 0, []) :: (40, 13, 0, 0, 0, 0, []) :: (41, 33, 0, 2, 0, 0, []) :: kX8_cut_42
def kX8_cut_32 : List mIn := (32, 3, 0, 1, 1, 0, []) :: (33, 14, 0, 0, 0, 0, []) :: (34, 15, 0, 0, 0, 0, []) :: (35, 13, 0, 0, 0, 0, []) :: (36, 33, 0, 2, 0, 0, []) :: kX8_cut_37
def kX8_cut_0 : List mIn := (0, 4, 0, 0, 1, 0, []) :: (1, 24, 0, 8, 0, 15, [1493]) :: (4, 34, 0, 3, 46, 28, [32, 37, 42]) :: kX8_cut_32
def kX8_cut : List mIn := kX8_cut_0
def TX8_cut : Nat → mCal := fun a => match a with
  | _ => (yX8_cut, cX8_cut, 3, (some .long), (0, 0, 0, 0))
def calX8_cut : mCal := (yX8_cut, cX8_cut, 3, (some .long), (0, 0, 0, 0))
def cutX8_cut : Nat → Option (List Bool) := fun t => mLk t []
theorem okX8_cut : mOK (yX8_cut.cls, cX8_cut, TX8_cut, (some .long), (0, 0, 0, 0), 3, mAcf [], mAcf []) kX8_cut = true := by decide +kernel
set_option maxRecDepth 100000 in
theorem sfxX8_cut_32 : mSfx 32 kX8_cut = kX8_cut_32 := rfl
theorem cutX8_cut_32 : cutX8_cut 32 = none := by decide
set_option maxRecDepth 100000 in
theorem sfxX8_cut_37 : mSfx 37 kX8_cut = kX8_cut_37 := rfl
theorem cutX8_cut_37 : cutX8_cut 37 = none := by decide
set_option maxRecDepth 100000 in
theorem sfxX8_cut_42 : mSfx 42 kX8_cut = kX8_cut_42 := rfl
theorem cutX8_cut_42 : cutX8_cut 42 = none := by decide
set_option maxRecDepth 100000 in
theorem sfxX8_cut_46 : mSfx 46 kX8_cut = kX8_cut_46 := rfl
theorem cutX8_cut_46 : cutX8_cut 46 = none := by decide
def kX8_holdsOnly_48 : List mIn := (48, 0, 1, 0, 0, 0, []) :: (49, 33, 0, 4, 0, 0, []) :: []
def kX8_holdsOnly_42 : List mIn := (42, 8, 1, 3, 0, 0, []) :: (45, 22, 0, 0, 2, 0, []) :: kX8_holdsOnly_48
def kX8_holdsOnly_40 : List mIn := (40, 0, 0, 0, 0, 0, []) :: (41, 33, 0, 4, 0, 0, []) :: kX8_holdsOnly_42
def kX8_holdsOnly_2 : List mIn := (2, 2, 0, 3, 1, 0, []) :: (3, 2, 0, 2, 1, 0, []) :: (4, 19, 0, 3, 48, 0, []) :: (7, 2, 0, 3, 1, 0, []) :: (8, 4, 0, 0, 1, 0, []) :: (9, 24, 0, 8, 1, 19, [1494]) :: (12, 19, 0, 3, 48, 0, []) :: (15, 4, 0, 0, 1, 0, []) :: (16, 24, 0, 8, 2, 11, [1496]) :: (19, 2, 0, 3, 1, 0, []) :: (20, 26, 0, 23, 0, 0, []) :: (21, 2, 0, 1, 1, 0, []) :: (22, 13, 0, 0, 0, 0, []) :: (23, 21, 0, 2, 40, 0, []) :: (27, 4, 0, 0, 1, 0, []) :: (28, 24, 0, 8, 2, 11, [1496]) :: (31, 2, 0, 3, 1, 0, []) :: (32, 26, 0, 23, 0, 0, []) :: (33, 1, 289, 1, 28, 1342, []) :: (36, 21, 0, 2, 42, 0, []) :: kX8_holdsOnly_40
def kX8_holdsOnly_0 : List mIn := (0, 0, 0, 0, 0, 0, []) :: (1, 5, 0, 3, 1, 0, []) :: (2, 43, 0, 0, 2, 0, []) :: kX8_holdsOnly_2
def kX8_holdsOnly : List mIn := kX8_holdsOnly_0
def TX8_holdsOnly : Nat → mCal := fun a => match a with
  | _ => (yX8_holdsOnly, cX8_holdsOnly, 4, (some .boolean), (0, 0, 0, 0))
def calX8_holdsOnly : mCal := (yX8_holdsOnly, cX8_holdsOnly, 4, (some .boolean), (0, 0, 0, 0))
def cutX8_holdsOnly : Nat → Option (List Bool) := fun t => mLk t [(2, [true, true, true, true])]
theorem okX8_holdsOnly : mOK (yX8_holdsOnly.cls, cX8_holdsOnly, TX8_holdsOnly, (some .boolean), (0, 0, 0, 0), 4, mAcf [], mAcf []) kX8_holdsOnly = true := by decide +kernel
set_option maxRecDepth 100000 in
theorem sfxX8_holdsOnly_2 : mSfx 2 kX8_holdsOnly = kX8_holdsOnly_2 := rfl
theorem cutX8_holdsOnly_2 : cutX8_holdsOnly 2 = some [true, true, true, true] := by decide
set_option maxRecDepth 100000 in
theorem sfxX8_holdsOnly_40 : mSfx 40 kX8_holdsOnly = kX8_holdsOnly_40 := rfl
theorem cutX8_holdsOnly_40 : cutX8_holdsOnly 40 = none := by decide
set_option maxRecDepth 100000 in
theorem sfxX8_holdsOnly_42 : mSfx 42 kX8_holdsOnly = kX8_holdsOnly_42 := rfl
theorem cutX8_holdsOnly_42 : cutX8_holdsOnly 42 = none := by decide
set_option maxRecDepth 100000 in
theorem sfxX8_holdsOnly_48 : mSfx 48 kX8_holdsOnly = kX8_holdsOnly_48 := rfl
theorem cutX8_holdsOnly_48 : cutX8_holdsOnly 48 = none := by decide
def kX9_meanTop_76 : List mIn := (76, 4, 0, 0, 1, 0, []) :: (77, 24, 0, 9, 2, 19, [368]) :: (80, 3, 0, 2, 1, 0, []) :: (81, 2, 0, 4, 2, 0, []) :: (83, 13, 0, 0, 0, 0, []) :: (84, 32, 0, 1, 3, 140, [0, 715, 716, 717, 111, 718]) :: (87, 33, 0, 2, 0, 0, []) :: []
def kX9_meanTop_68 : List mIn := (68, 5, 0, 4, 2, 0, []) :: (70, 8, 1, 5, 0, 0, []) :: (73, 22, 0, 0, 8, 0, []) :: kX9_meanTop_76
def kX9_meanTop_59 : List mIn := (59, 2, 0, 4, 2, 0, []) :: (61, 4, 0, 0, 1, 0, []) :: (62, 24, 0, 9, 8, 89, [384]) :: (65, 40, 0, 0, 0, 109, [695, 656, 121, 657]) :: kX9_meanTop_68
def kX9_meanTop_8 : List mIn := (8, 2, 0, 5, 2, 0, []) :: (10, 4, 0, 0, 1, 0, []) :: (11, 24, 0, 9, 2, 19, [368]) :: (14, 24, 0, 0, 0, 130, [316]) :: (17, 19, 0, 3, 76, 0, []) :: (20, 4, 0, 0, 1, 0, []) :: (21, 2, 0, 5, 2, 0, []) :: (23, 4, 0, 1, 1, 0, []) :: (24, 32, 0, 0, 3, 133, [9, 671, 672, 673, 112, 674]) :: (27, 3, 0, 2, 1, 0, []) :: (28, 4, 0, 0, 1, 0, []) :: (29, 24, 0, 9, 2, 19, [368]) :: (32, 24, 0, 0, 6, 137, [332]) :: (35, 2, 0, 5, 2, 0, []) :: (37, 26, 0, 20, 0, 0, []) :: (38, 13, 0, 0, 0, 0, []) :: (39, 4, 0, 0, 1, 0, []) :: (40, 24, 0, 9, 8, 89, [384]) :: (43, 13, 0, 0, 0, 0, []) :: (44, 11, 0, 2, 0, 0, []) :: (45, 11, 0, 0, 0, 0, []) :: (46, 6, 0, 2, 1, 0, []) :: (47, 2, 0, 5, 2, 0, []) :: (49, 20, 0, 1, 59, 0, []) :: (52, 4, 0, 0, 1, 0, []) :: (53, 24, 0, 9, 8, 89, [384]) :: (56, 22, 0, 0, 68, 0, []) :: kX9_meanTop_59
def kX9_meanTop_0 : List mIn := (0, 1, 0, 0, 0, 0, []) :: (1, 6, 0, 2, 1, 0, []) :: (2, 0, 0, 0, 0, 0, []) :: (3, 5, 0, 4, 2, 0, []) :: (5, 0, 0, 0, 0, 0, []) :: (6, 5, 0, 5, 2, 0, []) :: (8, 43, 0, 0, 8, 0, []) :: kX9_meanTop_8
def kX9_meanTop : List mIn := kX9_meanTop_0
def TX9_meanTop : Nat → mCal := fun a => match a with
  | 0 => calX9_weigh
  | 1 => calX0_blend
  | _ => (yX9_meanTop, cX9_meanTop, 6, (some .long), (0, 0, 0, 0))
def calX9_meanTop : mCal := (yX9_meanTop, cX9_meanTop, 6, (some .long), (4, 102, 0, 0))
def cutX9_meanTop : Nat → Option (List Bool) := fun t => mLk t [(8, [true, true, true, false, true, true])]
theorem okX9_meanTop : mOK (yX9_meanTop.cls, cX9_meanTop, TX9_meanTop, (some .long), (4, 102, 0, 0), 6, mAcf [], mAcf []) kX9_meanTop = true := by decide +kernel
set_option maxRecDepth 100000 in
theorem sfxX9_meanTop_8 : mSfx 8 kX9_meanTop = kX9_meanTop_8 := rfl
theorem cutX9_meanTop_8 : cutX9_meanTop 8 = some [true, true, true, false, true, true] := by decide
set_option maxRecDepth 100000 in
theorem sfxX9_meanTop_59 : mSfx 59 kX9_meanTop = kX9_meanTop_59 := rfl
theorem cutX9_meanTop_59 : cutX9_meanTop 59 = none := by decide
set_option maxRecDepth 100000 in
theorem sfxX9_meanTop_68 : mSfx 68 kX9_meanTop = kX9_meanTop_68 := rfl
theorem cutX9_meanTop_68 : cutX9_meanTop 68 = none := by decide
set_option maxRecDepth 100000 in
theorem sfxX9_meanTop_76 : mSfx 76 kX9_meanTop = kX9_meanTop_76 := rfl
theorem cutX9_meanTop_76 : cutX9_meanTop 76 = none := by decide
def kX9_costsInto_32 : List mIn := (32, 33, 0, 0, 0, 0, []) :: []
def kX9_costsInto_2 : List mIn := (2, 2, 0, 3, 1, 0, []) :: (3, 4, 0, 0, 1, 0, []) :: (4, 24, 0, 9, 2, 19, [368]) :: (7, 24, 0, 0, 0, 130, [316]) :: (10, 19, 0, 3, 32, 0, []) :: (13, 4, 0, 0, 1, 0, []) :: (14, 2, 0, 3, 1, 0, []) :: (15, 4, 0, 1, 1, 0, []) :: (16, 32, 0, 0, 3, 133, [9, 671, 672, 673, 112, 674]) :: (19, 4, 0, 2, 1, 0, []) :: (20, 2, 0, 3, 1, 0, []) :: (21, 4, 0, 0, 1, 0, []) :: (22, 24, 0, 9, 8, 89, [384]) :: (25, 27, 0, 20, 0, 0, []) :: (26, 8, 1, 3, 0, 0, []) :: (29, 22, 0, 0, 2, 0, []) :: kX9_costsInto_32
def kX9_costsInto_0 : List mIn := (0, 0, 0, 0, 0, 0, []) :: (1, 5, 0, 3, 1, 0, []) :: (2, 43, 0, 0, 2, 0, []) :: kX9_costsInto_2
def kX9_costsInto : List mIn := kX9_costsInto_0
def TX9_costsInto : Nat → mCal := fun a => match a with
  | 0 => calX9_weigh
  | _ => (yX9_costsInto, cX9_costsInto, 4, none, (0, 0, 0, 0))
def calX9_costsInto : mCal := (yX9_costsInto, cX9_costsInto, 4, none, (4, 102, 0, 0))
def cutX9_costsInto : Nat → Option (List Bool) := fun t => mLk t [(2, [true, true, true, true])]
theorem okX9_costsInto : mOK (yX9_costsInto.cls, cX9_costsInto, TX9_costsInto, none, (4, 102, 0, 0), 4, mAcf [], mAcf []) kX9_costsInto = true := by decide +kernel
set_option maxRecDepth 100000 in
theorem sfxX9_costsInto_2 : mSfx 2 kX9_costsInto = kX9_costsInto_2 := rfl
theorem cutX9_costsInto_2 : cutX9_costsInto 2 = some [true, true, true, true] := by decide
set_option maxRecDepth 100000 in
theorem sfxX9_costsInto_32 : mSfx 32 kX9_costsInto = kX9_costsInto_32 := rfl
theorem cutX9_costsInto_32 : cutX9_costsInto 32 = none := by decide
def kX9_dearest_53 : List mIn := (53, 2, 0, 2, 1, 0, []) :: (54, 33, 0, 1, 0, 0, []) :: []
def kX9_dearest_47 : List mIn := (47, 8, 1, 4, 0, 0, []) :: (50, 22, 0, 0, 7, 0, []) :: kX9_dearest_53
def kX9_dearest_39 : List mIn := (39, 2, 0, 4, 2, 0, []) :: (41, 5, 0, 2, 1, 0, []) :: (42, 4, 0, 0, 1, 0, []) :: (43, 24, 0, 9, 8, 89, [384]) :: (46, 5, 0, 3, 1, 0, []) :: kX9_dearest_47
def kX9_dearest_7 : List mIn := (7, 2, 0, 4, 2, 0, []) :: (9, 4, 0, 0, 1, 0, []) :: (10, 24, 0, 9, 2, 19, [368]) :: (13, 24, 0, 0, 0, 130, [316]) :: (16, 19, 0, 3, 53, 0, []) :: (19, 4, 0, 0, 1, 0, []) :: (20, 2, 0, 4, 2, 0, []) :: (22, 4, 0, 1, 1, 0, []) :: (23, 32, 0, 0, 3, 133, [9, 671, 672, 673, 112, 674]) :: (26, 2, 0, 4, 2, 0, []) :: (28, 20, 0, 0, 39, 0, []) :: (31, 4, 0, 0, 1, 0, []) :: (32, 24, 0, 9, 8, 89, [384]) :: (35, 2, 0, 3, 1, 0, []) :: (36, 19, 0, 5, 47, 0, []) :: kX9_dearest_39
def kX9_dearest_0 : List mIn := (0, 0, 0, 0, 0, 0, []) :: (1, 5, 0, 2, 1, 0, []) :: (2, 0, 0, 0, 0, 0, []) :: (3, 5, 0, 3, 1, 0, []) :: (4, 0, 0, 0, 0, 0, []) :: (5, 5, 0, 4, 2, 0, []) :: (7, 43, 0, 0, 7, 0, []) :: kX9_dearest_7
def kX9_dearest : List mIn := kX9_dearest_0
def TX9_dearest : Nat → mCal := fun a => match a with
  | 0 => calX9_weigh
  | _ => (yX9_dearest, cX9_dearest, 5, (some .int), (0, 0, 0, 0))
def calX9_dearest : mCal := (yX9_dearest, cX9_dearest, 5, (some .int), (4, 102, 0, 0))
def cutX9_dearest : Nat → Option (List Bool) := fun t => mLk t [(7, [true, true, true, true, true])]
theorem okX9_dearest : mOK (yX9_dearest.cls, cX9_dearest, TX9_dearest, (some .int), (4, 102, 0, 0), 5, mAcf [], mAcf []) kX9_dearest = true := by decide +kernel
set_option maxRecDepth 100000 in
theorem sfxX9_dearest_7 : mSfx 7 kX9_dearest = kX9_dearest_7 := rfl
theorem cutX9_dearest_7 : cutX9_dearest 7 = some [true, true, true, true, true] := by decide
set_option maxRecDepth 100000 in
theorem sfxX9_dearest_39 : mSfx 39 kX9_dearest = kX9_dearest_39 := rfl
theorem cutX9_dearest_39 : cutX9_dearest 39 = none := by decide
set_option maxRecDepth 100000 in
theorem sfxX9_dearest_47 : mSfx 47 kX9_dearest = kX9_dearest_47 := rfl
theorem cutX9_dearest_47 : cutX9_dearest 47 = none := by decide
set_option maxRecDepth 100000 in
theorem sfxX9_dearest_53 : mSfx 53 kX9_dearest = kX9_dearest_53 := rfl
theorem cutX9_dearest_53 : cutX9_dearest 53 = none := by decide
def kX10_feed_15 : List mIn := (15, 4, 0, 0, 1, 0, []) :: (16, 24, 0, 10, 3, 62, [544]) :: (19, 2, 0, 1, 1, 0, []) :: (20, 32, 0, 0, 2, 93, [5, 594, 595, 596, 114, 597]) :: (23, 4, 0, 0, 1, 0, []) :: (24, 24, 0, 10, 3, 62, [544]) :: (27, 2, 0, 2, 1, 0, []) :: (28, 32, 0, 0, 2, 93, [5, 594, 595, 596, 114, 597]) :: (31, 4, 0, 0, 1, 0, []) :: (32, 24, 0, 10, 3, 62, [544]) :: (35, 2, 0, 3, 1, 0, []) :: (36, 32, 0, 0, 2, 93, [5, 594, 595, 596, 114, 597]) :: (39, 4, 0, 0, 1, 0, []) :: (40, 24, 0, 10, 3, 62, [544]) :: (43, 2, 0, 4, 2, 0, []) :: (45, 32, 0, 0, 2, 93, [5, 594, 595, 596, 114, 597]) :: (48, 4, 0, 0, 1, 0, []) :: (49, 24, 0, 10, 3, 62, [544]) :: (52, 2, 0, 5, 2, 0, []) :: (54, 32, 0, 0, 2, 93, [5, 594, 595, 596, 114, 597]) :: (57, 4, 0, 0, 1, 0, []) :: (58, 24, 0, 10, 3, 62, [544]) :: (61, 24, 0, 5, 1, 89, [473]) :: (64, 33, 0, 1, 0, 0, []) :: []
def kX10_feed_0 : List mIn := (0, 4, 0, 0, 1, 0, []) :: (1, 24, 0, 10, 3, 62, [544]) :: (4, 24, 0, 5, 1, 89, [473]) :: (7, 0, 780, 2, 0, 0, []) :: (10, 19, 0, 5, 15, 0, []) :: (13, 0, (-1), 0, 0, 0, []) :: (14, 33, 0, 1, 0, 0, []) :: kX10_feed_15
def kX10_feed : List mIn := kX10_feed_0
def TX10_feed : Nat → mCal := fun a => match a with
  | 0 => calX5_append
  | _ => (yX10_feed, cX10_feed, 6, (some .int), (0, 0, 0, 0))
def calX10_feed : mCal := (yX10_feed, cX10_feed, 6, (some .int), (1, 22, 0, 0))
def cutX10_feed : Nat → Option (List Bool) := fun t => mLk t []
theorem okX10_feed : mOK (yX10_feed.cls, cX10_feed, TX10_feed, (some .int), (1, 22, 0, 0), 6, mAcf [], mAcf []) kX10_feed = true := by decide +kernel
set_option maxRecDepth 100000 in
theorem sfxX10_feed_15 : mSfx 15 kX10_feed = kX10_feed_15 := rfl
theorem cutX10_feed_15 : cutX10_feed 15 = none := by decide
def kX10_field_57 : List mIn := (57, 4, 0, 0, 1, 0, []) :: (58, 24, 0, 10, 0, 28, [541]) :: (61, 4, 0, 0, 1, 0, []) :: (62, 24, 0, 10, 3, 62, [544]) :: (65, 24, 0, 5, 2, 111, [476]) :: (68, 32, 0, 1, 2, 114, [7, 932, 933, 934, 106, 935]) :: (71, 4, 0, 0, 1, 0, []) :: (72, 24, 0, 10, 0, 28, [541]) :: (75, 24, 0, 7, 0, 17, [296]) :: (78, 24, 0, 3, 0, 118, [161]) :: (81, 33, 0, 1, 0, 0, []) :: []
def kX10_field_25 : List mIn := (25, 4, 0, 0, 1, 0, []) :: (26, 24, 0, 10, 3, 62, [544]) :: (29, 2, 0, 1, 1, 0, []) :: (30, 32, 0, 0, 2, 104, [5, 811, 812, 813, 114, 814]) :: (33, 5, 0, 2, 1, 0, []) :: (34, 4, 0, 0, 1, 0, []) :: (35, 24, 0, 10, 3, 62, [544]) :: (38, 0, 0, 0, 0, 0, []) :: (39, 25, 0, 5, 1, 89, [473]) :: (42, 2, 0, 2, 1, 0, []) :: (43, 20, 0, 1, 57, 0, []) :: (46, 0, (-10), 1, 0, 0, []) :: (48, 4, 0, 0, 1, 0, []) :: (49, 24, 0, 10, 3, 62, [544]) :: (52, 24, 0, 5, 3, 108, [478]) :: (55, 9, 0, 1, 0, 0, []) :: (56, 33, 0, 1, 0, 0, []) :: kX10_field_57
def kX10_field_15 : List mIn := (15, 35, 0, 1, 97, 99, [101, 0, 743, 120]) :: kX10_field_25
def kX10_field_0 : List mIn := (0, 2, 0, 1, 1, 0, []) :: (1, 20, 0, 2, 15, 0, []) :: (4, 2, 0, 1, 1, 0, []) :: (5, 4, 0, 0, 1, 0, []) :: (6, 24, 0, 10, 3, 62, [544]) :: (9, 24, 0, 5, 1, 89, [473]) :: (12, 19, 0, 5, 25, 0, []) :: kX10_field_15
def kX10_field : List mIn := kX10_field_0
def TX10_field : Nat → mCal := fun a => match a with
  | 0 => calX5_readField
  | 1 => calX7_begin
  | _ => (yX10_field, cX10_field, 3, (some .int), (0, 0, 0, 0))
def calX10_field : mCal := (yX10_field, cX10_field, 3, (some .int), (10, 252, 1, 6))
def cutX10_field : Nat → Option (List Bool) := fun t => mLk t []
theorem okX10_field : mOK (yX10_field.cls, cX10_field, TX10_field, (some .int), (10, 252, 1, 6), 3, mAcf [], mAcf []) kX10_field = true := by decide +kernel
set_option maxRecDepth 100000 in
theorem sfxX10_field_15 : mSfx 15 kX10_field = kX10_field_15 := rfl
theorem cutX10_field_15 : cutX10_field 15 = none := by decide
set_option maxRecDepth 100000 in
theorem sfxX10_field_25 : mSfx 25 kX10_field = kX10_field_25 := rfl
theorem cutX10_field_25 : cutX10_field 25 = none := by decide
set_option maxRecDepth 100000 in
theorem sfxX10_field_57 : mSfx 57 kX10_field = kX10_field_57 := rfl
theorem cutX10_field_57 : cutX10_field 57 = none := by decide
def kX10_fault_28 : List mIn := (28, 33, 0, 1, 0, 0, []) :: []
def kX10_fault_27 : List mIn := (27, 0, (-1), 0, 0, 0, []) :: kX10_fault_28
def kX10_fault_12 : List mIn := (12, 2, 0, 1, 1, 0, []) :: (13, 0, 1, 0, 0, 0, []) :: (14, 19, 0, 1, 27, 0, []) :: (17, 4, 0, 0, 1, 0, []) :: (18, 24, 0, 10, 3, 62, [544]) :: (21, 24, 0, 5, 4, 123, [480]) :: (24, 22, 0, 0, 28, 0, []) :: kX10_fault_27
def kX10_fault_0 : List mIn := (0, 2, 0, 1, 1, 0, []) :: (1, 20, 0, 1, 12, 0, []) :: (4, 4, 0, 0, 1, 0, []) :: (5, 24, 0, 10, 3, 62, [544]) :: (8, 24, 0, 5, 3, 108, [478]) :: (11, 33, 0, 1, 0, 0, []) :: kX10_fault_12
def kX10_fault : List mIn := kX10_fault_0
def TX10_fault : Nat → mCal := fun a => match a with
  | _ => (yX10_fault, cX10_fault, 2, (some .int), (0, 0, 0, 0))
def calX10_fault : mCal := (yX10_fault, cX10_fault, 2, (some .int), (0, 0, 0, 0))
def cutX10_fault : Nat → Option (List Bool) := fun t => mLk t []
theorem okX10_fault : mOK (yX10_fault.cls, cX10_fault, TX10_fault, (some .int), (0, 0, 0, 0), 2, mAcf [], mAcf []) kX10_fault = true := by decide +kernel
set_option maxRecDepth 100000 in
theorem sfxX10_fault_12 : mSfx 12 kX10_fault = kX10_fault_12 := rfl
theorem cutX10_fault_12 : cutX10_fault 12 = none := by decide
set_option maxRecDepth 100000 in
theorem sfxX10_fault_27 : mSfx 27 kX10_fault = kX10_fault_27 := rfl
theorem cutX10_fault_27 : cutX10_fault 27 = none := by decide
set_option maxRecDepth 100000 in
theorem sfxX10_fault_28 : mSfx 28 kX10_fault = kX10_fault_28 := rfl
theorem cutX10_fault_28 : cutX10_fault 28 = none := by decide
def kX10_needBall_21 : List mIn := (21, 33, 0, 0, 0, 0, []) :: []
def kX10_needBall_10 : List mIn := (10, 35, 0, 0, 426, 428, [430, 1, 967, 127]) :: kX10_needBall_21
def kX10_needBall_0 : List mIn := (0, 2, 0, 0, 1, 0, []) :: (1, 20, 0, 2, 10, 0, []) :: (4, 2, 0, 0, 1, 0, []) :: (5, 0, 6, 1, 0, 0, []) :: (7, 19, 0, 2, 21, 0, []) :: kX10_needBall_10
def kX10_needBall : List mIn := kX10_needBall_0
def TX10_needBall : Nat → mCal := fun a => match a with
  | _ => (yX10_needBall, cX10_needBall, 1, none, (0, 0, 0, 0))
def calX10_needBall : mCal := (yX10_needBall, cX10_needBall, 1, none, (6, 90, 1, 6))
def cutX10_needBall : Nat → Option (List Bool) := fun t => mLk t []
theorem okX10_needBall : mOK (yX10_needBall.cls, cX10_needBall, TX10_needBall, none, (6, 90, 1, 6), 1, mAcf [], mAcf []) kX10_needBall = true := by decide +kernel
set_option maxRecDepth 100000 in
theorem sfxX10_needBall_10 : mSfx 10 kX10_needBall = kX10_needBall_10 := rfl
theorem cutX10_needBall_10 : cutX10_needBall 10 = none := by decide
set_option maxRecDepth 100000 in
theorem sfxX10_needBall_21 : mSfx 21 kX10_needBall = kX10_needBall_21 := rfl
theorem cutX10_needBall_21 : cutX10_needBall 21 = none := by decide
def kX10_hits_0 : List mIn := (0, 2, 0, 1, 1, 0, []) :: (1, 32, 1, 0, 1, 126, [964, 965, 105, 966]) :: (4, 4, 0, 0, 1, 0, []) :: (5, 24, 0, 10, 0, 28, [541]) :: (8, 24, 0, 7, 0, 17, [296]) :: (11, 2, 0, 1, 1, 0, []) :: (12, 32, 0, 1, 2, 129, [3, 983, 646, 647, 107, 648]) :: (15, 33, 0, 1, 0, 0, []) :: []
def kX10_hits : List mIn := kX10_hits_0
def TX10_hits : Nat → mCal := fun a => match a with
  | 0 => calX10_needBall
  | 1 => calX3_hitsOf
  | _ => (yX10_hits, cX10_hits, 2, (some .int), (0, 0, 0, 0))
def calX10_hits : mCal := (yX10_hits, cX10_hits, 2, (some .int), (7, 110, 1, 6))
def cutX10_hits : Nat → Option (List Bool) := fun t => mLk t []
theorem okX10_hits : mOK (yX10_hits.cls, cX10_hits, TX10_hits, (some .int), (7, 110, 1, 6), 2, mAcf [(1, 1)], mAcf [(1, 6)]) kX10_hits = true := by decide +kernel
def kX10_needHit_34 : List mIn := (34, 33, 0, 0, 0, 0, []) :: []
def kX10_needHit_23 : List mIn := (23, 35, 0, 0, 426, 431, [430, 1, 967, 127]) :: kX10_needHit_34
def kX10_needHit_0 : List mIn := (0, 2, 0, 1, 1, 0, []) :: (1, 32, 1, 0, 1, 126, [964, 965, 105, 966]) :: (4, 2, 0, 2, 1, 0, []) :: (5, 20, 0, 2, 23, 0, []) :: (8, 2, 0, 2, 1, 0, []) :: (9, 4, 0, 0, 1, 0, []) :: (10, 24, 0, 10, 0, 28, [541]) :: (13, 24, 0, 7, 0, 17, [296]) :: (16, 2, 0, 1, 1, 0, []) :: (17, 32, 0, 1, 2, 129, [3, 983, 646, 647, 107, 648]) :: (20, 19, 0, 2, 34, 0, []) :: kX10_needHit_23
def kX10_needHit : List mIn := kX10_needHit_0
def TX10_needHit : Nat → mCal := fun a => match a with
  | 0 => calX10_needBall
  | 1 => calX3_hitsOf
  | _ => (yX10_needHit, cX10_needHit, 3, none, (0, 0, 0, 0))
def calX10_needHit : mCal := (yX10_needHit, cX10_needHit, 3, none, (7, 110, 2, 12))
def cutX10_needHit : Nat → Option (List Bool) := fun t => mLk t []
theorem okX10_needHit : mOK (yX10_needHit.cls, cX10_needHit, TX10_needHit, none, (7, 110, 2, 12), 3, mAcf [(1, 1)], mAcf [(1, 6)]) kX10_needHit = true := by decide +kernel
set_option maxRecDepth 100000 in
theorem sfxX10_needHit_23 : mSfx 23 kX10_needHit = kX10_needHit_23 := rfl
theorem cutX10_needHit_23 : cutX10_needHit 23 = none := by decide
set_option maxRecDepth 100000 in
theorem sfxX10_needHit_34 : mSfx 34 kX10_needHit = kX10_needHit_34 := rfl
theorem cutX10_needHit_34 : cutX10_needHit 34 = none := by decide
def kX10_lay_0 : List mIn := (0, 4, 0, 0, 1, 0, []) :: (1, 24, 0, 10, 4, 32, [545]) :: (4, 4, 0, 0, 1, 0, []) :: (5, 24, 0, 10, 0, 28, [541]) :: (8, 24, 0, 7, 0, 17, [296]) :: (11, 2, 0, 1, 1, 0, []) :: (12, 4, 0, 0, 1, 0, []) :: (13, 24, 0, 10, 0, 28, [541]) :: (16, 24, 0, 7, 2, 157, [300]) :: (19, 24, 0, 1, 0, 198, [275]) :: (22, 4, 0, 0, 1, 0, []) :: (23, 24, 0, 10, 0, 28, [541]) :: (26, 24, 0, 7, 2, 157, [300]) :: (29, 24, 0, 1, 1, 201, [277]) :: (32, 32, 0, 0, 5, 340, [0, 641, 642, 643, 111, 644]) :: (35, 33, 0, 0, 0, 0, []) :: []
def kX10_lay : List mIn := kX10_lay_0
def TX10_lay : Nat → mCal := fun a => match a with
  | 0 => calX0_lay
  | _ => (yX10_lay, cX10_lay, 2, none, (0, 0, 0, 0))
def calX10_lay : mCal := (yX10_lay, cX10_lay, 2, none, (3, 78, 0, 0))
def cutX10_lay : Nat → Option (List Bool) := fun t => mLk t []
theorem okX10_lay : mOK (yX10_lay.cls, cX10_lay, TX10_lay, none, (3, 78, 0, 0), 2, mAcf [], mAcf []) kX10_lay = true := by decide +kernel
def kX10_hit_114 : List mIn := (114, 4, 0, 0, 1, 0, []) :: (115, 24, 0, 10, 0, 28, [541]) :: (118, 24, 0, 7, 2, 157, [300]) :: (121, 24, 0, 1, 3, 161, [281]) :: (124, 2, 0, 1, 1, 0, []) :: (125, 0, 8, 1, 0, 0, []) :: (127, 9, 0, 2, 0, 0, []) :: (128, 2, 0, 2, 1, 0, []) :: (129, 9, 0, 0, 0, 0, []) :: (130, 26, 0, 20, 0, 0, []) :: (131, 33, 0, 1, 0, 0, []) :: []
def kX10_hit_104 : List mIn := (104, 4, 0, 0, 1, 0, []) :: (105, 24, 0, 10, 4, 32, [545]) :: (108, 24, 0, 0, 7, 154, [335]) :: (111, 2, 0, 2, 1, 0, []) :: (112, 26, 0, 20, 0, 0, []) :: (113, 33, 0, 1, 0, 0, []) :: kX10_hit_114
def kX10_hit_94 : List mIn := (94, 4, 0, 0, 1, 0, []) :: (95, 24, 0, 10, 4, 32, [545]) :: (98, 24, 0, 0, 6, 151, [331]) :: (101, 2, 0, 2, 1, 0, []) :: (102, 26, 0, 20, 0, 0, []) :: (103, 33, 0, 1, 0, 0, []) :: kX10_hit_104
def kX10_hit_84 : List mIn := (84, 4, 0, 0, 1, 0, []) :: (85, 24, 0, 10, 4, 32, [545]) :: (88, 24, 0, 0, 5, 148, [328]) :: (91, 2, 0, 2, 1, 0, []) :: (92, 26, 0, 20, 0, 0, []) :: (93, 33, 0, 1, 0, 0, []) :: kX10_hit_94
def kX10_hit_74 : List mIn := (74, 4, 0, 0, 1, 0, []) :: (75, 24, 0, 10, 4, 32, [545]) :: (78, 24, 0, 0, 4, 145, [324]) :: (81, 2, 0, 2, 1, 0, []) :: (82, 26, 0, 20, 0, 0, []) :: (83, 33, 0, 1, 0, 0, []) :: kX10_hit_84
def kX10_hit_64 : List mIn := (64, 4, 0, 0, 1, 0, []) :: (65, 24, 0, 10, 4, 32, [545]) :: (68, 24, 0, 0, 3, 142, [322]) :: (71, 2, 0, 2, 1, 0, []) :: (72, 26, 0, 20, 0, 0, []) :: (73, 33, 0, 1, 0, 0, []) :: kX10_hit_74
def kX10_hit_25 : List mIn := (25, 4, 0, 0, 1, 0, []) :: (26, 2, 0, 1, 1, 0, []) :: (27, 32, 0, 1, 2, 139, [10, 637, 639, 1, 105, 640]) :: (30, 2, 0, 3, 1, 0, []) :: (31, 34, 0, 5, 114, 33, [64, 74, 84, 94, 104]) :: kX10_hit_64
def kX10_hit_15 : List mIn := (15, 35, 0, 1, 97, 137, [101, 0, 743, 120]) :: kX10_hit_25
def kX10_hit_0 : List mIn := (0, 4, 0, 0, 1, 0, []) :: (1, 2, 0, 1, 1, 0, []) :: (2, 2, 0, 2, 1, 0, []) :: (3, 32, 0, 0, 3, 133, [10, 991, 993, 17, 105, 994]) :: (6, 2, 0, 3, 1, 0, []) :: (7, 20, 0, 2, 15, 0, []) :: (10, 2, 0, 3, 1, 0, []) :: (11, 0, 5, 0, 0, 0, []) :: (12, 19, 0, 5, 25, 0, []) :: kX10_hit_15
def kX10_hit : List mIn := kX10_hit_0
def TX10_hit : Nat → mCal := fun a => match a with
  | 0 => calX10_needHit
  | 1 => calX10_lay
  | _ => (yX10_hit, cX10_hit, 4, (some .int), (0, 0, 0, 0))
def calX10_hit : mCal := (yX10_hit, cX10_hit, 4, (some .int), (8, 132, 3, 18))
def cutX10_hit : Nat → Option (List Bool) := fun t => mLk t []
theorem okX10_hit : mOK (yX10_hit.cls, cX10_hit, TX10_hit, (some .int), (8, 132, 3, 18), 4, mAcf [(3, 2)], mAcf [(3, 12)]) kX10_hit = true := by decide +kernel
set_option maxRecDepth 100000 in
theorem sfxX10_hit_15 : mSfx 15 kX10_hit = kX10_hit_15 := rfl
theorem cutX10_hit_15 : cutX10_hit 15 = none := by decide
set_option maxRecDepth 100000 in
theorem sfxX10_hit_25 : mSfx 25 kX10_hit = kX10_hit_25 := rfl
theorem cutX10_hit_25 : cutX10_hit 25 = none := by decide
set_option maxRecDepth 100000 in
theorem sfxX10_hit_64 : mSfx 64 kX10_hit = kX10_hit_64 := rfl
theorem cutX10_hit_64 : cutX10_hit 64 = none := by decide
set_option maxRecDepth 100000 in
theorem sfxX10_hit_74 : mSfx 74 kX10_hit = kX10_hit_74 := rfl
theorem cutX10_hit_74 : cutX10_hit 74 = none := by decide
set_option maxRecDepth 100000 in
theorem sfxX10_hit_84 : mSfx 84 kX10_hit = kX10_hit_84 := rfl
theorem cutX10_hit_84 : cutX10_hit 84 = none := by decide
set_option maxRecDepth 100000 in
theorem sfxX10_hit_94 : mSfx 94 kX10_hit = kX10_hit_94 := rfl
theorem cutX10_hit_94 : cutX10_hit 94 = none := by decide
set_option maxRecDepth 100000 in
theorem sfxX10_hit_104 : mSfx 104 kX10_hit = kX10_hit_104 := rfl
theorem cutX10_hit_104 : cutX10_hit 104 = none := by decide
set_option maxRecDepth 100000 in
theorem sfxX10_hit_114 : mSfx 114 kX10_hit = kX10_hit_114 := rfl
theorem cutX10_hit_114 : cutX10_hit 114 = none := by decide
def kX10_tick_39 : List mIn := (39, 4, 0, 0, 1, 0, []) :: (40, 24, 0, 10, 4, 32, [545]) :: (43, 2, 0, 2, 1, 0, []) :: (44, 2, 0, 3, 1, 0, []) :: (45, 32, 0, 2, 3, 168, [0, 1005, 688, 689, 111, 690]) :: (48, 33, 0, 1, 0, 0, []) :: []
def kX10_tick_29 : List mIn := (29, 35, 0, 1, 97, 166, [101, 0, 743, 120]) :: kX10_tick_39
def kX10_tick_0 : List mIn := (0, 4, 0, 0, 1, 0, []) :: (1, 2, 0, 1, 1, 0, []) :: (2, 2, 0, 2, 1, 0, []) :: (3, 32, 0, 0, 3, 133, [10, 991, 993, 17, 105, 994]) :: (6, 4, 0, 0, 1, 0, []) :: (7, 2, 0, 1, 1, 0, []) :: (8, 32, 0, 1, 2, 139, [10, 637, 639, 1, 105, 640]) :: (11, 2, 0, 3, 1, 0, []) :: (12, 0, 1, 0, 0, 0, []) :: (13, 19, 0, 2, 29, 0, []) :: (16, 2, 0, 3, 1, 0, []) :: (17, 4, 0, 0, 1, 0, []) :: (18, 24, 0, 10, 4, 32, [545]) :: (21, 24, 0, 0, 7, 154, [335]) :: (24, 2, 0, 2, 1, 0, []) :: (25, 26, 0, 20, 0, 0, []) :: (26, 19, 0, 5, 39, 0, []) :: kX10_tick_29
def kX10_tick : List mIn := kX10_tick_0
def TX10_tick : Nat → mCal := fun a => match a with
  | 0 => calX10_needHit
  | 1 => calX10_lay
  | 2 => calX0_tickAt
  | _ => (yX10_tick, cX10_tick, 4, (some .int), (0, 0, 0, 0))
def calX10_tick : mCal := (yX10_tick, cX10_tick, 4, (some .int), (8, 132, 3, 18))
def cutX10_tick : Nat → Option (List Bool) := fun t => mLk t []
theorem okX10_tick : mOK (yX10_tick.cls, cX10_tick, TX10_tick, (some .int), (8, 132, 3, 18), 4, mAcf [(3, 2)], mAcf [(3, 12)]) kX10_tick = true := by decide +kernel
set_option maxRecDepth 100000 in
theorem sfxX10_tick_29 : mSfx 29 kX10_tick = kX10_tick_29 := rfl
theorem cutX10_tick_29 : cutX10_tick 29 = none := by decide
set_option maxRecDepth 100000 in
theorem sfxX10_tick_39 : mSfx 39 kX10_tick = kX10_tick_39 := rfl
theorem cutX10_tick_39 : cutX10_tick 39 = none := by decide
