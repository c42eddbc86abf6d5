def kX10_needFielder_21 : List mIn := (21, 33, 0, 0, 0, 0, []) :: []
def kX10_needFielder_10 : List mIn := (10, 35, 0, 0, 426, 433, [430, 1, 967, 127]) :: kX10_needFielder_21
def kX10_needFielder_0 : List mIn := (0, 2, 0, 0, 1, 0, []) :: (1, 20, 0, 2, 10, 0, []) :: (4, 2, 0, 0, 1, 0, []) :: (5, 0, 9, 1, 0, 0, []) :: (7, 19, 0, 2, 21, 0, []) :: kX10_needFielder_10
def kX10_needFielder : List mIn := kX10_needFielder_0
def TX10_needFielder : Nat → mCal := fun a => match a with
  | _ => (yX10_needFielder, cX10_needFielder, 1, none, (0, 0, 0, 0))
def calX10_needFielder : mCal := (yX10_needFielder, cX10_needFielder, 1, none, (6, 90, 1, 6))
def cutX10_needFielder : Nat → Option (List Bool) := fun t => mLk t []
theorem okX10_needFielder : mOK (yX10_needFielder.cls, cX10_needFielder, TX10_needFielder, none, (6, 90, 1, 6), 1, mAcf [], mAcf []) kX10_needFielder = true := by decide +kernel
set_option maxRecDepth 100000 in
theorem sfxX10_needFielder_10 : mSfx 10 kX10_needFielder = kX10_needFielder_10 := rfl
theorem cutX10_needFielder_10 : cutX10_needFielder 10 = none := by decide
set_option maxRecDepth 100000 in
theorem sfxX10_needFielder_21 : mSfx 21 kX10_needFielder = kX10_needFielder_21 := rfl
theorem cutX10_needFielder_21 : cutX10_needFielder 21 = none := by decide
def kX10_needNumber_21 : List mIn := (21, 33, 0, 0, 0, 0, []) :: []
def kX10_needNumber_10 : List mIn := (10, 35, 0, 1, 97, 435, [101, 1, 743, 120]) :: kX10_needNumber_21
def kX10_needNumber_0 : List mIn := (0, 2, 0, 0, 1, 0, []) :: (1, 2, 0, 1, 1, 0, []) :: (2, 19, 0, 2, 10, 0, []) :: (5, 2, 0, 0, 1, 0, []) :: (6, 2, 0, 2, 1, 0, []) :: (7, 19, 0, 5, 21, 0, []) :: kX10_needNumber_10
def kX10_needNumber : List mIn := kX10_needNumber_0
def TX10_needNumber : Nat → mCal := fun a => match a with
  | _ => (yX10_needNumber, cX10_needNumber, 3, none, (0, 0, 0, 0))
def calX10_needNumber : mCal := (yX10_needNumber, cX10_needNumber, 3, none, (6, 90, 1, 6))
def cutX10_needNumber : Nat → Option (List Bool) := fun t => mLk t []
theorem okX10_needNumber : mOK (yX10_needNumber.cls, cX10_needNumber, TX10_needNumber, none, (6, 90, 1, 6), 3, mAcf [], mAcf []) kX10_needNumber = true := by decide +kernel
set_option maxRecDepth 100000 in
theorem sfxX10_needNumber_10 : mSfx 10 kX10_needNumber = kX10_needNumber_10 := rfl
theorem cutX10_needNumber_10 : cutX10_needNumber 10 = none := by decide
set_option maxRecDepth 100000 in
theorem sfxX10_needNumber_21 : mSfx 21 kX10_needNumber = kX10_needNumber_21 := rfl
theorem cutX10_needNumber_21 : cutX10_needNumber 21 = none := by decide
def kX10_fielder_0 : List mIn := (0, 2, 0, 1, 1, 0, []) :: (1, 32, 1, 0, 1, 172, [1013, 1014, 105, 1015]) :: (4, 2, 0, 2, 1, 0, []) :: (5, 0, 1, 0, 0, 0, []) :: (6, 0, 9, 1, 0, 0, []) :: (8, 32, 1, 1, 3, 175, [1017, 1018, 105, 1019]) :: (11, 2, 0, 3, 1, 0, []) :: (12, 0, 0, 0, 0, 0, []) :: (13, 0, 100, 1, 0, 0, []) :: (15, 32, 1, 1, 3, 175, [1017, 1018, 105, 1019]) :: (18, 2, 0, 4, 2, 0, []) :: (20, 0, 0, 0, 0, 0, []) :: (21, 0, 50, 1, 0, 0, []) :: (23, 32, 1, 1, 3, 175, [1017, 1018, 105, 1019]) :: (26, 2, 0, 5, 2, 0, []) :: (28, 0, 0, 0, 0, 0, []) :: (29, 0, 9, 1, 0, 0, []) :: (31, 32, 1, 1, 3, 175, [1017, 1018, 105, 1019]) :: (34, 4, 0, 0, 1, 0, []) :: (35, 24, 0, 10, 0, 28, [541]) :: (38, 24, 0, 7, 1, 21, [298]) :: (41, 24, 0, 6, 1, 179, [240]) :: (44, 2, 0, 1, 1, 0, []) :: (45, 2, 0, 2, 1, 0, []) :: (46, 27, 0, 20, 0, 0, []) :: (47, 4, 0, 0, 1, 0, []) :: (48, 24, 0, 10, 0, 28, [541]) :: (51, 24, 0, 7, 1, 21, [298]) :: (54, 24, 0, 6, 2, 182, [243]) :: (57, 2, 0, 1, 1, 0, []) :: (58, 2, 0, 3, 1, 0, []) :: (59, 27, 0, 20, 0, 0, []) :: (60, 4, 0, 0, 1, 0, []) :: (61, 24, 0, 10, 0, 28, [541]) :: (64, 24, 0, 7, 1, 21, [298]) :: (67, 24, 0, 6, 3, 185, [246]) :: (70, 2, 0, 1, 1, 0, []) :: (71, 2, 0, 4, 2, 0, []) :: (73, 27, 0, 20, 0, 0, []) :: (74, 4, 0, 0, 1, 0, []) :: (75, 24, 0, 10, 0, 28, [541]) :: (78, 24, 0, 7, 1, 21, [298]) :: (81, 24, 0, 6, 4, 188, [248]) :: (84, 2, 0, 1, 1, 0, []) :: (85, 2, 0, 5, 2, 0, []) :: (87, 27, 0, 20, 0, 0, []) :: (88, 33, 0, 0, 0, 0, []) :: []
def kX10_fielder : List mIn := kX10_fielder_0
def TX10_fielder : Nat → mCal := fun a => match a with
  | 0 => calX10_needFielder
  | 1 => calX10_needNumber
  | _ => (yX10_fielder, cX10_fielder, 6, none, (0, 0, 0, 0))
def calX10_fielder : mCal := (yX10_fielder, cX10_fielder, 6, none, (7, 112, 5, 30))
def cutX10_fielder : Nat → Option (List Bool) := fun t => mLk t []
theorem okX10_fielder : mOK (yX10_fielder.cls, cX10_fielder, TX10_fielder, none, (7, 112, 5, 30), 6, mAcf [(1, 1), (8, 1), (15, 1), (23, 1), (31, 1)], mAcf [(1, 6), (8, 6), (15, 6), (23, 6), (31, 6)]) kX10_fielder = true := by decide +kernel
def kX10_stand_0 : List mIn := (0, 2, 0, 1, 1, 0, []) :: (1, 32, 1, 0, 1, 172, [1013, 1014, 105, 1015]) :: (4, 2, 0, 2, 1, 0, []) :: (5, 0, (-1), 0, 0, 0, []) :: (6, 0, 288, 2, 0, 0, []) :: (9, 32, 1, 1, 3, 175, [1017, 1018, 105, 1019]) :: (12, 4, 0, 0, 1, 0, []) :: (13, 24, 0, 10, 0, 28, [541]) :: (16, 24, 0, 7, 1, 21, [298]) :: (19, 24, 0, 6, 0, 191, [236]) :: (22, 2, 0, 1, 1, 0, []) :: (23, 26, 0, 20, 0, 0, []) :: (24, 5, 0, 3, 1, 0, []) :: (25, 4, 0, 0, 1, 0, []) :: (26, 24, 0, 10, 0, 28, [541]) :: (29, 24, 0, 7, 1, 21, [298]) :: (32, 24, 0, 6, 0, 191, [236]) :: (35, 2, 0, 1, 1, 0, []) :: (36, 2, 0, 2, 1, 0, []) :: (37, 27, 0, 20, 0, 0, []) :: (38, 2, 0, 3, 1, 0, []) :: (39, 33, 0, 1, 0, 0, []) :: []
def kX10_stand : List mIn := kX10_stand_0
def TX10_stand : Nat → mCal := fun a => match a with
  | 0 => calX10_needFielder
  | 1 => calX10_needNumber
  | _ => (yX10_stand, cX10_stand, 4, (some .int), (0, 0, 0, 0))
def calX10_stand : mCal := (yX10_stand, cX10_stand, 4, (some .int), (7, 112, 2, 12))
def cutX10_stand : Nat → Option (List Bool) := fun t => mLk t []
theorem okX10_stand : mOK (yX10_stand.cls, cX10_stand, TX10_stand, (some .int), (7, 112, 2, 12), 4, mAcf [(1, 1), (9, 1)], mAcf [(1, 6), (9, 6)]) kX10_stand = true := by decide +kernel
def kX10_of_105 : List mIn := (105, 35, 0, 1, 97, 137, [101, 0, 743, 120]) :: []
def kX10_of_92 : List mIn := (92, 4, 0, 0, 1, 0, []) :: (93, 24, 0, 10, 0, 28, [541]) :: (96, 24, 0, 7, 1, 21, [298]) :: (99, 24, 0, 6, 4, 188, [248]) :: (102, 2, 0, 1, 1, 0, []) :: (103, 26, 0, 20, 0, 0, []) :: (104, 33, 0, 1, 0, 0, []) :: kX10_of_105
def kX10_of_79 : List mIn := (79, 4, 0, 0, 1, 0, []) :: (80, 24, 0, 10, 0, 28, [541]) :: (83, 24, 0, 7, 1, 21, [298]) :: (86, 24, 0, 6, 3, 185, [246]) :: (89, 2, 0, 1, 1, 0, []) :: (90, 26, 0, 20, 0, 0, []) :: (91, 33, 0, 1, 0, 0, []) :: kX10_of_92
def kX10_of_66 : List mIn := (66, 4, 0, 0, 1, 0, []) :: (67, 24, 0, 10, 0, 28, [541]) :: (70, 24, 0, 7, 1, 21, [298]) :: (73, 24, 0, 6, 2, 182, [243]) :: (76, 2, 0, 1, 1, 0, []) :: (77, 26, 0, 20, 0, 0, []) :: (78, 33, 0, 1, 0, 0, []) :: kX10_of_79
def kX10_of_53 : List mIn := (53, 4, 0, 0, 1, 0, []) :: (54, 24, 0, 10, 0, 28, [541]) :: (57, 24, 0, 7, 1, 21, [298]) :: (60, 24, 0, 6, 1, 179, [240]) :: (63, 2, 0, 1, 1, 0, []) :: (64, 26, 0, 20, 0, 0, []) :: (65, 33, 0, 1, 0, 0, []) :: kX10_of_66
def kX10_of_40 : List mIn := (40, 4, 0, 0, 1, 0, []) :: (41, 24, 0, 10, 0, 28, [541]) :: (44, 24, 0, 7, 1, 21, [298]) :: (47, 24, 0, 6, 0, 191, [236]) :: (50, 2, 0, 1, 1, 0, []) :: (51, 26, 0, 20, 0, 0, []) :: (52, 33, 0, 1, 0, 0, []) :: kX10_of_53
def kX10_of_0 : List mIn := (0, 2, 0, 1, 1, 0, []) :: (1, 32, 1, 0, 1, 172, [1013, 1014, 105, 1015]) :: (4, 2, 0, 2, 1, 0, []) :: (5, 34, 0, 5, 105, 35, [40, 53, 66, 79, 92]) :: kX10_of_40
def kX10_of : List mIn := kX10_of_0
def TX10_of : Nat → mCal := fun a => match a with
  | 0 => calX10_needFielder
  | _ => (yX10_of, cX10_of, 3, (some .int), (0, 0, 0, 0))
def calX10_of : mCal := (yX10_of, cX10_of, 3, (some .int), (7, 110, 2, 12))
def cutX10_of : Nat → Option (List Bool) := fun t => mLk t []
theorem okX10_of : mOK (yX10_of.cls, cX10_of, TX10_of, (some .int), (7, 110, 2, 12), 3, mAcf [(1, 1)], mAcf [(1, 6)]) kX10_of = true := by decide +kernel
set_option maxRecDepth 100000 in
theorem sfxX10_of_40 : mSfx 40 kX10_of = kX10_of_40 := rfl
theorem cutX10_of_40 : cutX10_of 40 = none := by decide
set_option maxRecDepth 100000 in
theorem sfxX10_of_53 : mSfx 53 kX10_of = kX10_of_53 := rfl
theorem cutX10_of_53 : cutX10_of 53 = none := by decide
set_option maxRecDepth 100000 in
theorem sfxX10_of_66 : mSfx 66 kX10_of = kX10_of_66 := rfl
theorem cutX10_of_66 : cutX10_of 66 = none := by decide
set_option maxRecDepth 100000 in
theorem sfxX10_of_79 : mSfx 79 kX10_of = kX10_of_79 := rfl
theorem cutX10_of_79 : cutX10_of 79 = none := by decide
set_option maxRecDepth 100000 in
theorem sfxX10_of_92 : mSfx 92 kX10_of = kX10_of_92 := rfl
theorem cutX10_of_92 : cutX10_of 92 = none := by decide
set_option maxRecDepth 100000 in
theorem sfxX10_of_105 : mSfx 105 kX10_of = kX10_of_105 := rfl
theorem cutX10_of_105 : cutX10_of 105 = none := by decide
def kX10_judge_0 : List mIn := (0, 4, 0, 0, 1, 0, []) :: (1, 24, 0, 10, 5, 36, [546]) :: (4, 4, 0, 0, 1, 0, []) :: (5, 24, 0, 10, 0, 28, [541]) :: (8, 24, 0, 7, 1, 21, [298]) :: (11, 24, 0, 6, 0, 191, [236]) :: (14, 32, 0, 0, 2, 194, [9, 606, 607, 608, 112, 609]) :: (17, 33, 0, 1, 0, 0, []) :: []
def kX10_judge : List mIn := kX10_judge_0
def TX10_judge : Nat → mCal := fun a => match a with
  | 0 => calX9_verdict
  | _ => (yX10_judge, cX10_judge, 1, (some .int), (0, 0, 0, 0))
def calX10_judge : mCal := (yX10_judge, cX10_judge, 1, (some .int), (4, 93, 0, 0))
def cutX10_judge : Nat → Option (List Bool) := fun t => mLk t []
theorem okX10_judge : mOK (yX10_judge.cls, cX10_judge, TX10_judge, (some .int), (4, 93, 0, 0), 1, mAcf [], mAcf []) kX10_judge = true := by decide +kernel
def kX10_batter_0 : List mIn := (0, 2, 0, 1, 1, 0, []) :: (1, 0, 0, 0, 0, 0, []) :: (2, 0, 4, 0, 0, 0, []) :: (3, 32, 1, 0, 3, 175, [1017, 1018, 105, 1019]) :: (6, 2, 0, 2, 1, 0, []) :: (7, 0, 0, 0, 0, 0, []) :: (8, 0, 100, 1, 0, 0, []) :: (10, 32, 1, 0, 3, 175, [1017, 1018, 105, 1019]) :: (13, 4, 0, 0, 1, 0, []) :: (14, 24, 0, 10, 0, 28, [541]) :: (17, 24, 0, 7, 2, 157, [300]) :: (20, 2, 0, 1, 1, 0, []) :: (21, 25, 0, 1, 0, 198, [275]) :: (24, 4, 0, 0, 1, 0, []) :: (25, 24, 0, 10, 0, 28, [541]) :: (28, 24, 0, 7, 2, 157, [300]) :: (31, 2, 0, 2, 1, 0, []) :: (32, 25, 0, 1, 1, 201, [277]) :: (35, 33, 0, 0, 0, 0, []) :: []
def kX10_batter : List mIn := kX10_batter_0
def TX10_batter : Nat → mCal := fun a => match a with
  | 0 => calX10_needNumber
  | _ => (yX10_batter, cX10_batter, 3, none, (0, 0, 0, 0))
def calX10_batter : mCal := (yX10_batter, cX10_batter, 3, none, (7, 112, 2, 12))
def cutX10_batter : Nat → Option (List Bool) := fun t => mLk t []
theorem okX10_batter : mOK (yX10_batter.cls, cX10_batter, TX10_batter, none, (7, 112, 2, 12), 3, mAcf [(3, 1), (10, 1)], mAcf [(3, 6), (10, 6)]) kX10_batter = true := by decide +kernel
def kX10_weighNow_0 : List mIn := (0, 4, 0, 0, 1, 0, []) :: (1, 2, 0, 1, 1, 0, []) :: (2, 2, 0, 2, 1, 0, []) :: (3, 32, 0, 0, 3, 133, [10, 991, 993, 17, 105, 994]) :: (6, 4, 0, 0, 1, 0, []) :: (7, 2, 0, 1, 1, 0, []) :: (8, 32, 0, 1, 2, 139, [10, 637, 639, 1, 105, 640]) :: (11, 4, 0, 0, 1, 0, []) :: (12, 24, 0, 10, 5, 36, [546]) :: (15, 2, 0, 2, 1, 0, []) :: (16, 4, 0, 0, 1, 0, []) :: (17, 24, 0, 10, 0, 28, [541]) :: (20, 24, 0, 7, 1, 21, [298]) :: (23, 24, 0, 6, 0, 191, [236]) :: (26, 32, 0, 2, 3, 453, [9, 1053, 672, 673, 112, 674]) :: (29, 33, 0, 0, 0, 0, []) :: []
def kX10_weighNow : List mIn := kX10_weighNow_0
def TX10_weighNow : Nat → mCal := fun a => match a with
  | 0 => calX10_needHit
  | 1 => calX10_lay
  | 2 => calX9_weigh
  | _ => (yX10_weighNow, cX10_weighNow, 3, none, (0, 0, 0, 0))
def calX10_weighNow : mCal := (yX10_weighNow, cX10_weighNow, 3, none, (8, 132, 2, 12))
def cutX10_weighNow : Nat → Option (List Bool) := fun t => mLk t []
theorem okX10_weighNow : mOK (yX10_weighNow.cls, cX10_weighNow, TX10_weighNow, none, (8, 132, 2, 12), 3, mAcf [(3, 2)], mAcf [(3, 12)]) kX10_weighNow = true := by decide +kernel
def kX10_catcher_0 : List mIn := (0, 4, 0, 0, 1, 0, []) :: (1, 2, 0, 1, 1, 0, []) :: (2, 2, 0, 2, 1, 0, []) :: (3, 32, 0, 0, 3, 204, [10, 1049, 1051, 18, 105, 1052]) :: (6, 4, 0, 0, 1, 0, []) :: (7, 24, 0, 10, 5, 36, [546]) :: (10, 24, 0, 9, 3, 207, [371]) :: (13, 33, 0, 1, 0, 0, []) :: []
def kX10_catcher : List mIn := kX10_catcher_0
def TX10_catcher : Nat → mCal := fun a => match a with
  | 0 => calX10_weighNow
  | _ => (yX10_catcher, cX10_catcher, 3, (some .int), (0, 0, 0, 0))
def calX10_catcher : mCal := (yX10_catcher, cX10_catcher, 3, (some .int), (9, 154, 2, 12))
def cutX10_catcher : Nat → Option (List Bool) := fun t => mLk t []
theorem okX10_catcher : mOK (yX10_catcher.cls, cX10_catcher, TX10_catcher, (some .int), (9, 154, 2, 12), 3, mAcf [(3, 2)], mAcf [(3, 12)]) kX10_catcher = true := by decide +kernel
def kX10_caught_0 : List mIn := (0, 4, 0, 0, 1, 0, []) :: (1, 2, 0, 1, 1, 0, []) :: (2, 2, 0, 2, 1, 0, []) :: (3, 32, 0, 0, 3, 204, [10, 1049, 1051, 18, 105, 1052]) :: (6, 4, 0, 0, 1, 0, []) :: (7, 24, 0, 10, 5, 36, [546]) :: (10, 24, 0, 9, 4, 210, [374]) :: (13, 33, 0, 1, 0, 0, []) :: []
def kX10_caught : List mIn := kX10_caught_0
def TX10_caught : Nat → mCal := fun a => match a with
  | 0 => calX10_weighNow
  | _ => (yX10_caught, cX10_caught, 3, (some .int), (0, 0, 0, 0))
def calX10_caught : mCal := (yX10_caught, cX10_caught, 3, (some .int), (9, 154, 2, 12))
def cutX10_caught : Nat → Option (List Bool) := fun t => mLk t []
theorem okX10_caught : mOK (yX10_caught.cls, cX10_caught, TX10_caught, (some .int), (9, 154, 2, 12), 3, mAcf [(3, 2)], mAcf [(3, 12)]) kX10_caught = true := by decide +kernel
def kX10_stopper_0 : List mIn := (0, 4, 0, 0, 1, 0, []) :: (1, 2, 0, 1, 1, 0, []) :: (2, 2, 0, 2, 1, 0, []) :: (3, 32, 0, 0, 3, 204, [10, 1049, 1051, 18, 105, 1052]) :: (6, 4, 0, 0, 1, 0, []) :: (7, 24, 0, 10, 5, 36, [546]) :: (10, 24, 0, 9, 5, 213, [377]) :: (13, 33, 0, 1, 0, 0, []) :: []
def kX10_stopper : List mIn := kX10_stopper_0
def TX10_stopper : Nat → mCal := fun a => match a with
  | 0 => calX10_weighNow
  | _ => (yX10_stopper, cX10_stopper, 3, (some .int), (0, 0, 0, 0))
def calX10_stopper : mCal := (yX10_stopper, cX10_stopper, 3, (some .int), (9, 154, 2, 12))
def cutX10_stopper : Nat → Option (List Bool) := fun t => mLk t []
theorem okX10_stopper : mOK (yX10_stopper.cls, cX10_stopper, TX10_stopper, (some .int), (9, 154, 2, 12), 3, mAcf [(3, 2)], mAcf [(3, 12)]) kX10_stopper = true := by decide +kernel
def kX10_stops_0 : List mIn := (0, 4, 0, 0, 1, 0, []) :: (1, 2, 0, 1, 1, 0, []) :: (2, 2, 0, 2, 1, 0, []) :: (3, 32, 0, 0, 3, 204, [10, 1049, 1051, 18, 105, 1052]) :: (6, 4, 0, 0, 1, 0, []) :: (7, 24, 0, 10, 5, 36, [546]) :: (10, 24, 0, 9, 6, 216, [380]) :: (13, 33, 0, 1, 0, 0, []) :: []
def kX10_stops : List mIn := kX10_stops_0
def TX10_stops : Nat → mCal := fun a => match a with
  | 0 => calX10_weighNow
  | _ => (yX10_stops, cX10_stops, 3, (some .int), (0, 0, 0, 0))
def calX10_stops : mCal := (yX10_stops, cX10_stops, 3, (some .int), (9, 154, 2, 12))
def cutX10_stops : Nat → Option (List Bool) := fun t => mLk t []
theorem okX10_stops : mOK (yX10_stops.cls, cX10_stops, TX10_stops, (some .int), (9, 154, 2, 12), 3, mAcf [(3, 2)], mAcf [(3, 12)]) kX10_stops = true := by decide +kernel
def kX10_runs_0 : List mIn := (0, 4, 0, 0, 1, 0, []) :: (1, 2, 0, 1, 1, 0, []) :: (2, 2, 0, 2, 1, 0, []) :: (3, 32, 0, 0, 3, 204, [10, 1049, 1051, 18, 105, 1052]) :: (6, 4, 0, 0, 1, 0, []) :: (7, 24, 0, 10, 5, 36, [546]) :: (10, 24, 0, 9, 7, 219, [383]) :: (13, 33, 0, 1, 0, 0, []) :: []
def kX10_runs : List mIn := kX10_runs_0
def TX10_runs : Nat → mCal := fun a => match a with
  | 0 => calX10_weighNow
  | _ => (yX10_runs, cX10_runs, 3, (some .int), (0, 0, 0, 0))
def calX10_runs : mCal := (yX10_runs, cX10_runs, 3, (some .int), (9, 154, 2, 12))
def cutX10_runs : Nat → Option (List Bool) := fun t => mLk t []
theorem okX10_runs : mOK (yX10_runs.cls, cX10_runs, TX10_runs, (some .int), (9, 154, 2, 12), 3, mAcf [(3, 2)], mAcf [(3, 12)]) kX10_runs = true := by decide +kernel
def kX10_cost_0 : List mIn := (0, 4, 0, 0, 1, 0, []) :: (1, 2, 0, 1, 1, 0, []) :: (2, 2, 0, 2, 1, 0, []) :: (3, 32, 0, 0, 3, 204, [10, 1049, 1051, 18, 105, 1052]) :: (6, 4, 0, 0, 1, 0, []) :: (7, 24, 0, 10, 5, 36, [546]) :: (10, 24, 0, 9, 8, 222, [385]) :: (13, 33, 0, 1, 0, 0, []) :: []
def kX10_cost : List mIn := kX10_cost_0
def TX10_cost : Nat → mCal := fun a => match a with
  | 0 => calX10_weighNow
  | _ => (yX10_cost, cX10_cost, 3, (some .int), (0, 0, 0, 0))
def calX10_cost : mCal := (yX10_cost, cX10_cost, 3, (some .int), (9, 154, 2, 12))
def cutX10_cost : Nat → Option (List Bool) := fun t => mLk t []
theorem okX10_cost : mOK (yX10_cost.cls, cX10_cost, TX10_cost, (some .int), (9, 154, 2, 12), 3, mAcf [(3, 2)], mAcf [(3, 12)]) kX10_cost = true := by decide +kernel
def kX10_commonDivisor_45 : List mIn := (45, 3, 0, 4, 2, 0, []) :: (47, 33, 0, 2, 0, 0, []) :: []
def kX10_commonDivisor_9 : List mIn := (9, 2, 0, 8, 2, 0, []) :: (11, 0, 200, 2, 0, 0, []) :: (14, 19, 0, 3, 45, 0, []) :: (17, 3, 0, 6, 2, 0, []) :: (19, 1, 0, 0, 0, 0, []) :: (20, 21, 0, 0, 45, 0, []) :: (24, 3, 0, 4, 2, 0, []) :: (26, 3, 0, 6, 2, 0, []) :: (28, 17, 0, 1, 0, 0, []) :: (29, 6, 0, 9, 2, 0, []) :: (31, 3, 0, 6, 2, 0, []) :: (33, 6, 0, 4, 2, 0, []) :: (35, 3, 0, 9, 2, 0, []) :: (37, 6, 0, 6, 2, 0, []) :: (39, 8, 1, 8, 0, 0, []) :: (42, 22, 0, 0, 9, 0, []) :: kX10_commonDivisor_45
def kX10_commonDivisor_0 : List mIn := (0, 3, 0, 0, 1, 0, []) :: (1, 6, 0, 4, 2, 0, []) :: (3, 3, 0, 2, 1, 0, []) :: (4, 6, 0, 6, 2, 0, []) :: (6, 0, 0, 0, 0, 0, []) :: (7, 5, 0, 8, 2, 0, []) :: (9, 43, 0, 0, 9, 0, []) :: kX10_commonDivisor_9
def kX10_commonDivisor : List mIn := kX10_commonDivisor_0
def TX10_commonDivisor : Nat → mCal := fun a => match a with
  | _ => (yX10_commonDivisor, cX10_commonDivisor, 11, (some .long), (0, 0, 0, 0))
def calX10_commonDivisor : mCal := (yX10_commonDivisor, cX10_commonDivisor, 11, (some .long), (0, 0, 0, 0))
def cutX10_commonDivisor : Nat → Option (List Bool) := fun t => mLk t [(9, [false, false, false, false, true, false, true, false, true, false, false])]
theorem okX10_commonDivisor : mOK (yX10_commonDivisor.cls, cX10_commonDivisor, TX10_commonDivisor, (some .long), (0, 0, 0, 0), 11, mAcf [], mAcf []) kX10_commonDivisor = true := by decide +kernel
set_option maxRecDepth 100000 in
theorem sfxX10_commonDivisor_9 : mSfx 9 kX10_commonDivisor = kX10_commonDivisor_9 := rfl
theorem cutX10_commonDivisor_9 : cutX10_commonDivisor 9 = some [false, false, false, false, true, false, true, false, true, false, false] := by decide
set_option maxRecDepth 100000 in
theorem sfxX10_commonDivisor_45 : mSfx 45 kX10_commonDivisor = kX10_commonDivisor_45 := rfl
theorem cutX10_commonDivisor_45 : cutX10_commonDivisor 45 = none := by decide
def kX10_tell_46 : List mIn := (46, 4, 0, 0, 1, 0, []) :: (47, 3, 0, 1, 1, 0, []) :: (48, 3, 0, 5, 2, 0, []) :: (50, 17, 0, 0, 0, 0, []) :: (51, 25, 0, 10, 13, 237, [554]) :: (54, 4, 0, 0, 1, 0, []) :: (55, 3, 0, 3, 1, 0, []) :: (56, 3, 0, 5, 2, 0, []) :: (58, 17, 0, 0, 0, 0, []) :: (59, 25, 0, 10, 14, 241, [555]) :: (62, 0, 1, 0, 0, 0, []) :: (63, 33, 0, 4, 0, 0, []) :: []
def kX10_tell_30 : List mIn := (30, 3, 0, 3, 1, 0, []) :: (31, 32, 1, 0, 2, 456, [1105, 1106, 105, 1107]) :: (34, 6, 0, 5, 2, 0, []) :: (36, 3, 0, 5, 2, 0, []) :: (38, 1, 0, 0, 0, 0, []) :: (39, 21, 0, 4, 46, 0, []) :: (43, 1, 1, 0, 1, 0, []) :: (44, 6, 0, 5, 2, 0, []) :: kX10_tell_46
def kX10_tell_29 : List mIn := (29, 3, 0, 1, 1, 0, []) :: kX10_tell_30
def kX10_tell_18 : List mIn := (18, 3, 0, 1, 1, 0, []) :: (19, 1, 0, 0, 0, 0, []) :: (20, 21, 0, 3, 29, 0, []) :: (24, 3, 0, 1, 1, 0, []) :: (25, 12, 0, 0, 0, 0, []) :: (26, 22, 0, 0, 30, 0, []) :: kX10_tell_29
def kX10_tell_0 : List mIn := (0, 3, 0, 3, 1, 0, []) :: (1, 1, 0, 0, 0, 0, []) :: (2, 21, 0, 4, 18, 0, []) :: (6, 4, 0, 0, 1, 0, []) :: (7, 1, 0, 0, 0, 0, []) :: (8, 25, 0, 10, 13, 237, [554]) :: (11, 4, 0, 0, 1, 0, []) :: (12, 1, 0, 0, 0, 0, []) :: (13, 25, 0, 10, 14, 241, [555]) :: (16, 0, 0, 0, 0, 0, []) :: (17, 33, 0, 4, 0, 0, []) :: kX10_tell_18
def kX10_tell : List mIn := kX10_tell_0
def TX10_tell : Nat → mCal := fun a => match a with
  | 0 => calX10_commonDivisor
  | _ => (yX10_tell, cX10_tell, 7, (some .boolean), (0, 0, 0, 0))
def calX10_tell : mCal := (yX10_tell, cX10_tell, 7, (some .boolean), (1, 30, 0, 0))
def cutX10_tell : Nat → Option (List Bool) := fun t => mLk t []
theorem okX10_tell : mOK (yX10_tell.cls, cX10_tell, TX10_tell, (some .boolean), (1, 30, 0, 0), 7, mAcf [], mAcf []) kX10_tell = true := by decide +kernel
set_option maxRecDepth 100000 in
theorem sfxX10_tell_18 : mSfx 18 kX10_tell = kX10_tell_18 := rfl
theorem cutX10_tell_18 : cutX10_tell 18 = none := by decide
set_option maxRecDepth 100000 in
theorem sfxX10_tell_29 : mSfx 29 kX10_tell = kX10_tell_29 := rfl
theorem cutX10_tell_29 : cutX10_tell 29 = none := by decide
set_option maxRecDepth 100000 in
theorem sfxX10_tell_30 : mSfx 30 kX10_tell = kX10_tell_30 := rfl
theorem cutX10_tell_30 : cutX10_tell 30 = none := by decide
set_option maxRecDepth 100000 in
theorem sfxX10_tell_46 : mSfx 46 kX10_tell = kX10_tell_46 := rfl
theorem cutX10_tell_46 : cutX10_tell 46 = none := by decide
def kX10_mean_0 : List mIn := (0, 2, 0, 1, 1, 0, []) :: (1, 32, 1, 0, 1, 126, [964, 965, 105, 966]) :: (4, 4, 0, 0, 1, 0, []) :: (5, 2, 0, 1, 1, 0, []) :: (6, 32, 0, 1, 2, 139, [10, 637, 639, 1, 105, 640]) :: (9, 4, 0, 0, 1, 0, []) :: (10, 4, 0, 0, 1, 0, []) :: (11, 24, 0, 10, 5, 36, [546]) :: (14, 4, 0, 0, 1, 0, []) :: (15, 24, 0, 10, 0, 28, [541]) :: (18, 24, 0, 7, 1, 21, [298]) :: (21, 24, 0, 6, 0, 191, [236]) :: (24, 32, 0, 2, 2, 225, [9, 667, 668, 669, 112, 670]) :: (27, 4, 0, 0, 1, 0, []) :: (28, 24, 0, 10, 4, 32, [545]) :: (31, 32, 0, 3, 1, 229, [0, 1096, 1097, 1098, 111, 1099]) :: (34, 32, 0, 4, 3, 233, [10, 1101, 1103, 19, 105, 1104]) :: (37, 33, 0, 4, 0, 0, []) :: []
def kX10_mean : List mIn := kX10_mean_0
def TX10_mean : Nat → mCal := fun a => match a with
  | 0 => calX10_needBall
  | 1 => calX10_lay
  | 2 => calX9_meanTop
  | 3 => calX0_meanBase
  | 4 => calX10_tell
  | _ => (yX10_mean, cX10_mean, 2, (some .boolean), (0, 0, 0, 0))
def calX10_mean : mCal := (yX10_mean, cX10_mean, 2, (some .boolean), (7, 127, 1, 6))
def cutX10_mean : Nat → Option (List Bool) := fun t => mLk t []
theorem okX10_mean : mOK (yX10_mean.cls, cX10_mean, TX10_mean, (some .boolean), (7, 127, 1, 6), 2, mAcf [(1, 1)], mAcf [(1, 6)]) kX10_mean = true := by decide +kernel
def kX10_upper_0 : List mIn := (0, 4, 0, 0, 1, 0, []) :: (1, 24, 0, 10, 13, 237, [554]) :: (4, 33, 0, 2, 0, 0, []) :: []
def kX10_upper : List mIn := kX10_upper_0
def TX10_upper : Nat → mCal := fun a => match a with
  | _ => (yX10_upper, cX10_upper, 1, (some .long), (0, 0, 0, 0))
def calX10_upper : mCal := (yX10_upper, cX10_upper, 1, (some .long), (0, 0, 0, 0))
def cutX10_upper : Nat → Option (List Bool) := fun t => mLk t []
theorem okX10_upper : mOK (yX10_upper.cls, cX10_upper, TX10_upper, (some .long), (0, 0, 0, 0), 1, mAcf [], mAcf []) kX10_upper = true := by decide +kernel
def kX10_lower_0 : List mIn := (0, 4, 0, 0, 1, 0, []) :: (1, 24, 0, 10, 14, 241, [555]) :: (4, 33, 0, 2, 0, 0, []) :: []
def kX10_lower : List mIn := kX10_lower_0
def TX10_lower : Nat → mCal := fun a => match a with
  | _ => (yX10_lower, cX10_lower, 1, (some .long), (0, 0, 0, 0))
def calX10_lower : mCal := (yX10_lower, cX10_lower, 1, (some .long), (0, 0, 0, 0))
def cutX10_lower : Nat → Option (List Bool) := fun t => mLk t []
theorem okX10_lower : mOK (yX10_lower.cls, cX10_lower, TX10_lower, (some .long), (0, 0, 0, 0), 1, mAcf [], mAcf []) kX10_lower = true := by decide +kernel
def kX10_needThere_27 : List mIn := (27, 33, 0, 0, 0, 0, []) :: []
def kX10_needThere_0 : List mIn := (0, 4, 0, 0, 1, 0, []) :: (1, 24, 0, 10, 0, 28, [541]) :: (4, 24, 0, 7, 1, 21, [298]) :: (7, 24, 0, 6, 0, 191, [236]) :: (10, 2, 0, 1, 1, 0, []) :: (11, 26, 0, 20, 0, 0, []) :: (12, 0, (-1), 0, 0, 0, []) :: (13, 19, 0, 1, 27, 0, []) :: (16, 35, 0, 2, 314, 437, [318, 1, 1120, 128]) :: kX10_needThere_27
def kX10_needThere : List mIn := kX10_needThere_0
def TX10_needThere : Nat → mCal := fun a => match a with
  | _ => (yX10_needThere, cX10_needThere, 2, none, (0, 0, 0, 0))
def calX10_needThere : mCal := (yX10_needThere, cX10_needThere, 2, none, (6, 90, 1, 6))
def cutX10_needThere : Nat → Option (List Bool) := fun t => mLk t []
theorem okX10_needThere : mOK (yX10_needThere.cls, cX10_needThere, TX10_needThere, none, (6, 90, 1, 6), 2, mAcf [], mAcf []) kX10_needThere = true := by decide +kernel
set_option maxRecDepth 100000 in
theorem sfxX10_needThere_27 : mSfx 27 kX10_needThere = kX10_needThere_27 := rfl
theorem cutX10_needThere_27 : cutX10_needThere 27 = none := by decide
def kX10_one_0 : List mIn := (0, 2, 0, 1, 1, 0, []) :: (1, 32, 1, 0, 1, 172, [1013, 1014, 105, 1015]) :: (4, 2, 0, 2, 1, 0, []) :: (5, 32, 1, 1, 1, 126, [964, 965, 105, 966]) :: (8, 4, 0, 0, 1, 0, []) :: (9, 2, 0, 1, 1, 0, []) :: (10, 32, 0, 2, 2, 244, [10, 1116, 1118, 20, 105, 1119]) :: (13, 4, 0, 0, 1, 0, []) :: (14, 2, 0, 2, 1, 0, []) :: (15, 32, 0, 3, 2, 139, [10, 637, 639, 1, 105, 640]) :: (18, 4, 0, 0, 1, 0, []) :: (19, 24, 0, 10, 6, 45, [547]) :: (22, 2, 0, 1, 1, 0, []) :: (23, 32, 0, 4, 2, 247, [2, 1136, 1137, 1138, 113, 1139]) :: (26, 33, 0, 1, 0, 0, []) :: []
def kX10_one : List mIn := kX10_one_0
def TX10_one : Nat → mCal := fun a => match a with
  | 0 => calX10_needFielder
  | 1 => calX10_needBall
  | 2 => calX10_needThere
  | 3 => calX10_lay
  | 4 => calX2_bestCell
  | _ => (yX10_one, cX10_one, 3, (some .int), (0, 0, 0, 0))
def calX10_one : mCal := (yX10_one, cX10_one, 3, (some .int), (7, 154, 3, 18))
def cutX10_one : Nat → Option (List Bool) := fun t => mLk t []
theorem okX10_one : mOK (yX10_one.cls, cX10_one, TX10_one, (some .int), (7, 154, 3, 18), 3, mAcf [(1, 1), (5, 1), (10, 1)], mAcf [(1, 6), (5, 6), (10, 6)]) kX10_one = true := by decide +kernel
def kX10_settle_166 : List mIn := (166, 2, 0, 3, 1, 0, []) :: (167, 33, 0, 1, 0, 0, []) :: []
def kX10_settle_160 : List mIn := (160, 8, 1, 5, 0, 0, []) :: (163, 22, 0, 0, 24, 0, []) :: kX10_settle_166
def kX10_settle_150 : List mIn := (150, 2, 0, 4, 2, 0, []) :: (152, 0, 9, 1, 0, 0, []) :: (154, 19, 0, 1, 160, 0, []) :: (157, 22, 0, 0, 166, 0, []) :: kX10_settle_160
def kX10_settle_147 : List mIn := (147, 8, 1, 4, 0, 0, []) :: kX10_settle_150
def kX10_settle_90 : List mIn := (90, 5, 0, 7, 2, 0, []) :: (92, 2, 0, 7, 2, 0, []) :: (94, 0, (-1), 0, 0, 0, []) :: (95, 19, 0, 0, 147, 0, []) :: (98, 4, 0, 0, 1, 0, []) :: (99, 24, 0, 10, 6, 45, [547]) :: (102, 24, 0, 2, 15, 250, [427]) :: (105, 4, 0, 0, 1, 0, []) :: (106, 24, 0, 10, 5, 36, [546]) :: (109, 4, 0, 0, 1, 0, []) :: (110, 24, 0, 10, 0, 28, [541]) :: (113, 24, 0, 7, 1, 21, [298]) :: (116, 24, 0, 6, 0, 191, [236]) :: (119, 32, 0, 4, 2, 225, [9, 667, 668, 669, 112, 670]) :: (122, 21, 0, 3, 147, 0, []) :: (126, 4, 0, 0, 1, 0, []) :: (127, 24, 0, 10, 0, 28, [541]) :: (130, 24, 0, 7, 1, 21, [298]) :: (133, 24, 0, 6, 0, 191, [236]) :: (136, 2, 0, 6, 2, 0, []) :: (138, 2, 0, 7, 2, 0, []) :: (140, 27, 0, 20, 0, 0, []) :: (141, 8, 1, 3, 0, 0, []) :: (144, 22, 0, 0, 150, 0, []) :: kX10_settle_147
def kX10_settle_81 : List mIn := (81, 4, 0, 0, 1, 0, []) :: (82, 24, 0, 10, 6, 45, [547]) :: (85, 2, 0, 6, 2, 0, []) :: (87, 32, 0, 3, 2, 247, [2, 1136, 1137, 1138, 113, 1139]) :: kX10_settle_90
def kX10_settle_58 : List mIn := (58, 5, 0, 4, 2, 0, []) :: (60, 4, 0, 0, 1, 0, []) :: (61, 24, 0, 10, 0, 28, [541]) :: (64, 24, 0, 7, 1, 21, [298]) :: (67, 24, 0, 6, 0, 191, [236]) :: (70, 2, 0, 6, 2, 0, []) :: (72, 26, 0, 20, 0, 0, []) :: (73, 0, (-1), 0, 0, 0, []) :: (74, 19, 0, 1, 81, 0, []) :: (77, 0, (-1), 0, 0, 0, []) :: (78, 22, 0, 0, 90, 0, []) :: kX10_settle_81
def kX10_settle_56 : List mIn := (56, 2, 0, 4, 2, 0, []) :: kX10_settle_58
def kX10_settle_24 : List mIn := (24, 2, 0, 5, 2, 0, []) :: (26, 2, 0, 2, 1, 0, []) :: (27, 0, 1, 0, 0, 0, []) :: (28, 9, 0, 0, 0, 0, []) :: (29, 0, 9, 1, 0, 0, []) :: (31, 9, 0, 2, 0, 0, []) :: (32, 19, 0, 3, 166, 0, []) :: (35, 2, 0, 3, 1, 0, []) :: (36, 2, 0, 2, 1, 0, []) :: (37, 19, 0, 3, 166, 0, []) :: (40, 2, 0, 5, 2, 0, []) :: (42, 0, 9, 1, 0, 0, []) :: (44, 16, 0, 1, 0, 0, []) :: (45, 5, 0, 6, 2, 0, []) :: (47, 2, 0, 6, 2, 0, []) :: (49, 20, 0, 1, 56, 0, []) :: (52, 0, 0, 0, 0, 0, []) :: (53, 22, 0, 0, 58, 0, []) :: kX10_settle_56
def kX10_settle_0 : List mIn := (0, 2, 0, 1, 1, 0, []) :: (1, 32, 1, 0, 1, 126, [964, 965, 105, 966]) :: (4, 2, 0, 2, 1, 0, []) :: (5, 0, 0, 0, 0, 0, []) :: (6, 0, 50, 1, 0, 0, []) :: (8, 32, 1, 1, 3, 175, [1017, 1018, 105, 1019]) :: (11, 4, 0, 0, 1, 0, []) :: (12, 2, 0, 1, 1, 0, []) :: (13, 32, 0, 2, 2, 139, [10, 637, 639, 1, 105, 640]) :: (16, 0, 0, 0, 0, 0, []) :: (17, 5, 0, 3, 1, 0, []) :: (18, 0, 0, 0, 0, 0, []) :: (19, 5, 0, 4, 2, 0, []) :: (21, 0, 0, 0, 0, 0, []) :: (22, 5, 0, 5, 2, 0, []) :: (24, 43, 0, 0, 24, 0, []) :: kX10_settle_24
def kX10_settle : List mIn := kX10_settle_0
def TX10_settle : Nat → mCal := fun a => match a with
  | 0 => calX10_needBall
  | 1 => calX10_needNumber
  | 2 => calX10_lay
  | 3 => calX2_bestCell
  | 4 => calX9_meanTop
  | _ => (yX10_settle, cX10_settle, 8, (some .int), (0, 0, 0, 0))
def calX10_settle : mCal := (yX10_settle, cX10_settle, 8, (some .int), (7, 154, 2, 12))
def cutX10_settle : Nat → Option (List Bool) := fun t => mLk t [(24, [true, false, true, true, true, true, false, false])]
theorem okX10_settle : mOK (yX10_settle.cls, cX10_settle, TX10_settle, (some .int), (7, 154, 2, 12), 8, mAcf [(1, 1), (8, 1)], mAcf [(1, 6), (8, 6)]) kX10_settle = true := by decide +kernel
set_option maxRecDepth 100000 in
theorem sfxX10_settle_24 : mSfx 24 kX10_settle = kX10_settle_24 := rfl
theorem cutX10_settle_24 : cutX10_settle 24 = some [true, false, true, true, true, true, false, false] := by decide
set_option maxRecDepth 100000 in
theorem sfxX10_settle_56 : mSfx 56 kX10_settle = kX10_settle_56 := rfl
theorem cutX10_settle_56 : cutX10_settle 56 = none := by decide
set_option maxRecDepth 100000 in
theorem sfxX10_settle_58 : mSfx 58 kX10_settle = kX10_settle_58 := rfl
theorem cutX10_settle_58 : cutX10_settle 58 = none := by decide
set_option maxRecDepth 100000 in
theorem sfxX10_settle_81 : mSfx 81 kX10_settle = kX10_settle_81 := rfl
theorem cutX10_settle_81 : cutX10_settle 81 = none := by decide
set_option maxRecDepth 100000 in
theorem sfxX10_settle_90 : mSfx 90 kX10_settle = kX10_settle_90 := rfl
theorem cutX10_settle_90 : cutX10_settle 90 = none := by decide
set_option maxRecDepth 100000 in
theorem sfxX10_settle_147 : mSfx 147 kX10_settle = kX10_settle_147 := rfl
theorem cutX10_settle_147 : cutX10_settle 147 = none := by decide
set_option maxRecDepth 100000 in
theorem sfxX10_settle_150 : mSfx 150 kX10_settle = kX10_settle_150 := rfl
theorem cutX10_settle_150 : cutX10_settle 150 = none := by decide
set_option maxRecDepth 100000 in
theorem sfxX10_settle_160 : mSfx 160 kX10_settle = kX10_settle_160 := rfl
theorem cutX10_settle_160 : cutX10_settle 160 = none := by decide
set_option maxRecDepth 100000 in
theorem sfxX10_settle_166 : mSfx 166 kX10_settle = kX10_settle_166 := rfl
theorem cutX10_settle_166 : cutX10_settle 166 = none := by decide
def kX10_bound_0 : List mIn := (0, 2, 0, 1, 1, 0, []) :: (1, 32, 1, 0, 1, 126, [964, 965, 105, 966]) :: (4, 4, 0, 0, 1, 0, []) :: (5, 2, 0, 1, 1, 0, []) :: (6, 32, 0, 1, 2, 139, [10, 637, 639, 1, 105, 640]) :: (9, 4, 0, 0, 1, 0, []) :: (10, 4, 0, 0, 1, 0, []) :: (11, 24, 0, 10, 6, 45, [547]) :: (14, 32, 0, 2, 1, 253, [2, 1204, 1205, 1206, 113, 1207]) :: (17, 4, 0, 0, 1, 0, []) :: (18, 24, 0, 10, 4, 32, [545]) :: (21, 32, 0, 3, 1, 229, [0, 1096, 1097, 1098, 111, 1099]) :: (24, 32, 0, 4, 3, 233, [10, 1101, 1103, 19, 105, 1104]) :: (27, 33, 0, 4, 0, 0, []) :: []
def kX10_bound : List mIn := kX10_bound_0
def TX10_bound : Nat → mCal := fun a => match a with
  | 0 => calX10_needBall
  | 1 => calX10_lay
  | 2 => calX2_boundTop
  | 3 => calX0_meanBase
  | 4 => calX10_tell
  | _ => (yX10_bound, cX10_bound, 2, (some .boolean), (0, 0, 0, 0))
def calX10_bound : mCal := (yX10_bound, cX10_bound, 2, (some .boolean), (7, 136, 1, 6))
def cutX10_bound : Nat → Option (List Bool) := fun t => mLk t []
theorem okX10_bound : mOK (yX10_bound.cls, cX10_bound, TX10_bound, (some .boolean), (7, 136, 1, 6), 2, mAcf [(1, 1)], mAcf [(1, 6)]) kX10_bound = true := by decide +kernel
def kX10_gap_0 : List mIn := (0, 2, 0, 1, 1, 0, []) :: (1, 32, 1, 0, 1, 126, [964, 965, 105, 966]) :: (4, 4, 0, 0, 1, 0, []) :: (5, 2, 0, 1, 1, 0, []) :: (6, 32, 0, 1, 2, 139, [10, 637, 639, 1, 105, 640]) :: (9, 4, 0, 0, 1, 0, []) :: (10, 4, 0, 0, 1, 0, []) :: (11, 24, 0, 10, 5, 36, [546]) :: (14, 4, 0, 0, 1, 0, []) :: (15, 24, 0, 10, 0, 28, [541]) :: (18, 24, 0, 7, 1, 21, [298]) :: (21, 24, 0, 6, 0, 191, [236]) :: (24, 32, 0, 2, 2, 225, [9, 667, 668, 669, 112, 670]) :: (27, 4, 0, 0, 1, 0, []) :: (28, 24, 0, 10, 6, 45, [547]) :: (31, 32, 0, 3, 1, 253, [2, 1204, 1205, 1206, 113, 1207]) :: (34, 11, 0, 1, 0, 0, []) :: (35, 4, 0, 0, 1, 0, []) :: (36, 24, 0, 10, 4, 32, [545]) :: (39, 32, 0, 4, 1, 229, [0, 1096, 1097, 1098, 111, 1099]) :: (42, 32, 0, 5, 3, 233, [10, 1101, 1103, 19, 105, 1104]) :: (45, 33, 0, 4, 0, 0, []) :: []
def kX10_gap : List mIn := kX10_gap_0
def TX10_gap : Nat → mCal := fun a => match a with
  | 0 => calX10_needBall
  | 1 => calX10_lay
  | 2 => calX9_meanTop
  | 3 => calX2_boundTop
  | 4 => calX0_meanBase
  | 5 => calX10_tell
  | _ => (yX10_gap, cX10_gap, 2, (some .boolean), (0, 0, 0, 0))
def calX10_gap : mCal := (yX10_gap, cX10_gap, 2, (some .boolean), (7, 136, 1, 6))
def cutX10_gap : Nat → Option (List Bool) := fun t => mLk t []
theorem okX10_gap : mOK (yX10_gap.cls, cX10_gap, TX10_gap, (some .boolean), (7, 136, 1, 6), 2, mAcf [(1, 1)], mAcf [(1, 6)]) kX10_gap = true := by decide +kernel
def kX10_needWay_20 : List mIn := (20, 33, 0, 0, 0, 0, []) :: []
def kX10_needWay_9 : List mIn := (9, 35, 0, 0, 426, 439, [430, 1, 967, 127]) :: kX10_needWay_20
def kX10_needWay_0 : List mIn := (0, 2, 0, 0, 1, 0, []) :: (1, 20, 0, 2, 9, 0, []) :: (4, 2, 0, 0, 1, 0, []) :: (5, 0, 4, 0, 0, 0, []) :: (6, 19, 0, 2, 20, 0, []) :: kX10_needWay_9
def kX10_needWay : List mIn := kX10_needWay_0
def TX10_needWay : Nat → mCal := fun a => match a with
  | _ => (yX10_needWay, cX10_needWay, 1, none, (0, 0, 0, 0))
def calX10_needWay : mCal := (yX10_needWay, cX10_needWay, 1, none, (6, 90, 1, 6))
def cutX10_needWay : Nat → Option (List Bool) := fun t => mLk t []
theorem okX10_needWay : mOK (yX10_needWay.cls, cX10_needWay, TX10_needWay, none, (6, 90, 1, 6), 1, mAcf [], mAcf []) kX10_needWay = true := by decide +kernel
set_option maxRecDepth 100000 in
theorem sfxX10_needWay_9 : mSfx 9 kX10_needWay = kX10_needWay_9 := rfl
theorem cutX10_needWay_9 : cutX10_needWay 9 = none := by decide
set_option maxRecDepth 100000 in
theorem sfxX10_needWay_20 : mSfx 20 kX10_needWay = kX10_needWay_20 := rfl
theorem cutX10_needWay_20 : cutX10_needWay 20 = none := by decide
def kX10_needKept_28 : List mIn := (28, 33, 0, 0, 0, 0, []) :: []
def kX10_needKept_0 : List mIn := (0, 4, 0, 0, 1, 0, []) :: (1, 24, 0, 10, 0, 28, [541]) :: (4, 24, 0, 7, 1, 21, [298]) :: (7, 24, 0, 6, 6, 423, [252]) :: (10, 2, 0, 1, 1, 0, []) :: (11, 9, 0, 7, 0, 0, []) :: (12, 0, 1, 0, 0, 0, []) :: (13, 9, 0, 3, 0, 0, []) :: (14, 20, 0, 1, 28, 0, []) :: (17, 35, 0, 2, 314, 441, [318, 1, 1120, 128]) :: kX10_needKept_28
def kX10_needKept : List mIn := kX10_needKept_0
def TX10_needKept : Nat → mCal := fun a => match a with
  | _ => (yX10_needKept, cX10_needKept, 2, none, (0, 0, 0, 0))
def calX10_needKept : mCal := (yX10_needKept, cX10_needKept, 2, none, (6, 90, 1, 6))
def cutX10_needKept : Nat → Option (List Bool) := fun t => mLk t []
theorem okX10_needKept : mOK (yX10_needKept.cls, cX10_needKept, TX10_needKept, none, (6, 90, 1, 6), 2, mAcf [], mAcf []) kX10_needKept = true := by decide +kernel
set_option maxRecDepth 100000 in
theorem sfxX10_needKept_28 : mSfx 28 kX10_needKept = kX10_needKept_28 := rfl
theorem cutX10_needKept_28 : cutX10_needKept 28 = none := by decide
def kX10_way_26 : List mIn := (26, 4, 0, 0, 1, 0, []) :: (27, 2, 0, 1, 1, 0, []) :: (28, 32, 0, 3, 2, 262, [10, 1254, 1256, 32, 105, 1257]) :: (31, 4, 0, 0, 1, 0, []) :: (32, 24, 0, 10, 0, 28, [541]) :: (35, 24, 0, 7, 1, 21, [298]) :: (38, 2, 0, 1, 1, 0, []) :: (39, 4, 0, 0, 1, 0, []) :: (40, 24, 0, 10, 0, 28, [541]) :: (43, 24, 0, 7, 1, 21, [298]) :: (46, 24, 0, 6, 0, 191, [236]) :: (49, 32, 0, 4, 3, 265, [6, 1259, 1260, 1261, 109, 1262]) :: (52, 33, 0, 0, 0, 0, []) :: []
def kX10_way_0 : List mIn := (0, 2, 0, 1, 1, 0, []) :: (1, 32, 1, 0, 1, 256, [1245, 1246, 105, 1247]) :: (4, 2, 0, 2, 1, 0, []) :: (5, 0, 0, 0, 0, 0, []) :: (6, 0, 1, 0, 0, 0, []) :: (7, 32, 1, 1, 3, 175, [1017, 1018, 105, 1019]) :: (10, 2, 0, 2, 1, 0, []) :: (11, 20, 0, 1, 26, 0, []) :: (14, 4, 0, 0, 1, 0, []) :: (15, 24, 0, 10, 0, 28, [541]) :: (18, 24, 0, 7, 1, 21, [298]) :: (21, 2, 0, 1, 1, 0, []) :: (22, 32, 0, 2, 2, 259, [6, 1249, 1250, 1251, 109, 1252]) :: (25, 33, 0, 0, 0, 0, []) :: kX10_way_26
def kX10_way : List mIn := kX10_way_0
def TX10_way : Nat → mCal := fun a => match a with
  | 0 => calX10_needWay
  | 1 => calX10_needNumber
  | 2 => calX6_keep
  | 3 => calX10_needKept
  | 4 => calX6_standAs
  | _ => (yX10_way, cX10_way, 3, none, (0, 0, 0, 0))
def calX10_way : mCal := (yX10_way, cX10_way, 3, none, (7, 112, 3, 18))
def cutX10_way : Nat → Option (List Bool) := fun t => mLk t []
theorem okX10_way : mOK (yX10_way.cls, cX10_way, TX10_way, none, (7, 112, 3, 18), 3, mAcf [(1, 1), (7, 1), (28, 1)], mAcf [(1, 6), (7, 6), (28, 6)]) kX10_way = true := by decide +kernel
set_option maxRecDepth 100000 in
theorem sfxX10_way_26 : mSfx 26 kX10_way = kX10_way_26 := rfl
theorem cutX10_way_26 : cutX10_way 26 = none := by decide
def kX10_rest_162 : List mIn := (162, 33, 0, 4, 0, 0, []) :: []
def kX10_rest_140 : List mIn := (140, 4, 0, 0, 1, 0, []) :: (141, 4, 0, 0, 1, 0, []) :: (142, 24, 0, 10, 7, 69, [548]) :: (145, 24, 0, 4, 5, 291, [527]) :: (148, 1, 100, 1, 294, 1289, []) :: (151, 4, 0, 0, 1, 0, []) :: (152, 24, 0, 10, 7, 69, [548]) :: (155, 24, 0, 4, 4, 288, [525]) :: (158, 11, 0, 2, 0, 0, []) :: (159, 32, 0, 8, 3, 233, [10, 1101, 1103, 19, 105, 1104]) :: kX10_rest_162
def kX10_rest_0 : List mIn := (0, 2, 0, 1, 1, 0, []) :: (1, 32, 1, 0, 1, 256, [1245, 1246, 105, 1247]) :: (4, 2, 0, 2, 1, 0, []) :: (5, 32, 1, 0, 1, 256, [1245, 1246, 105, 1247]) :: (8, 2, 0, 3, 1, 0, []) :: (9, 32, 1, 1, 1, 126, [964, 965, 105, 966]) :: (12, 2, 0, 4, 2, 0, []) :: (14, 0, 0, 0, 0, 0, []) :: (15, 0, 1, 0, 0, 0, []) :: (16, 32, 1, 2, 3, 175, [1017, 1018, 105, 1019]) :: (19, 4, 0, 0, 1, 0, []) :: (20, 2, 0, 1, 1, 0, []) :: (21, 32, 0, 3, 2, 262, [10, 1254, 1256, 32, 105, 1257]) :: (24, 4, 0, 0, 1, 0, []) :: (25, 2, 0, 2, 1, 0, []) :: (26, 32, 0, 3, 2, 262, [10, 1254, 1256, 32, 105, 1257]) :: (29, 4, 0, 0, 1, 0, []) :: (30, 2, 0, 3, 1, 0, []) :: (31, 32, 0, 4, 2, 139, [10, 637, 639, 1, 105, 640]) :: (34, 4, 0, 0, 1, 0, []) :: (35, 24, 0, 10, 0, 28, [541]) :: (38, 24, 0, 7, 1, 21, [298]) :: (41, 2, 0, 1, 1, 0, []) :: (42, 4, 0, 0, 1, 0, []) :: (43, 24, 0, 10, 8, 73, [549]) :: (46, 32, 0, 5, 3, 265, [6, 1259, 1260, 1261, 109, 1262]) :: (49, 4, 0, 0, 1, 0, []) :: (50, 24, 0, 10, 5, 36, [546]) :: (53, 4, 0, 0, 1, 0, []) :: (54, 24, 0, 10, 8, 73, [549]) :: (57, 4, 0, 0, 1, 0, []) :: (58, 24, 0, 10, 7, 69, [548]) :: (61, 24, 0, 4, 0, 269, [518]) :: (64, 32, 0, 6, 3, 272, [9, 1270, 1271, 1272, 112, 1273]) :: (67, 4, 0, 0, 1, 0, []) :: (68, 24, 0, 10, 0, 28, [541]) :: (71, 24, 0, 7, 1, 21, [298]) :: (74, 2, 0, 2, 1, 0, []) :: (75, 4, 0, 0, 1, 0, []) :: (76, 24, 0, 10, 8, 73, [549]) :: (79, 32, 0, 5, 3, 265, [6, 1259, 1260, 1261, 109, 1262]) :: (82, 4, 0, 0, 1, 0, []) :: (83, 24, 0, 10, 5, 36, [546]) :: (86, 4, 0, 0, 1, 0, []) :: (87, 24, 0, 10, 8, 73, [549]) :: (90, 4, 0, 0, 1, 0, []) :: (91, 24, 0, 10, 7, 69, [548]) :: (94, 24, 0, 4, 1, 276, [520]) :: (97, 32, 0, 6, 3, 272, [9, 1270, 1271, 1272, 112, 1273]) :: (100, 4, 0, 0, 1, 0, []) :: (101, 24, 0, 10, 7, 69, [548]) :: (104, 4, 0, 0, 1, 0, []) :: (105, 24, 0, 10, 4, 32, [545]) :: (108, 24, 0, 0, 0, 279, [317]) :: (111, 32, 0, 7, 2, 282, [4, 1274, 1275, 1276, 115, 1277]) :: (114, 2, 0, 4, 2, 0, []) :: (116, 20, 0, 1, 140, 0, []) :: (119, 4, 0, 0, 1, 0, []) :: (120, 4, 0, 0, 1, 0, []) :: (121, 24, 0, 10, 7, 69, [548]) :: (124, 24, 0, 4, 3, 285, [523]) :: (127, 4, 0, 0, 1, 0, []) :: (128, 24, 0, 10, 7, 69, [548]) :: (131, 24, 0, 4, 4, 288, [525]) :: (134, 32, 0, 8, 3, 233, [10, 1101, 1103, 19, 105, 1104]) :: (137, 22, 0, 0, 162, 0, []) :: kX10_rest_140
def kX10_rest : List mIn := kX10_rest_0
def TX10_rest : Nat → mCal := fun a => match a with
  | 0 => calX10_needWay
  | 1 => calX10_needBall
  | 2 => calX10_needNumber
  | 3 => calX10_needKept
  | 4 => calX10_lay
  | 5 => calX6_standAs
  | 6 => calX9_costsInto
  | 7 => calX4_solve
  | 8 => calX10_tell
  | _ => (yX10_rest, cX10_rest, 5, (some .boolean), (0, 0, 0, 0))
def calX10_rest : mCal := (yX10_rest, cX10_rest, 5, (some .boolean), (7, 125, 6, 36))
def cutX10_rest : Nat → Option (List Bool) := fun t => mLk t []
theorem okX10_rest : mOK (yX10_rest.cls, cX10_rest, TX10_rest, (some .boolean), (7, 125, 6, 36), 5, mAcf [(1, 1), (5, 1), (9, 1), (16, 1), (21, 1), (26, 1)], mAcf [(1, 6), (5, 6), (9, 6), (16, 6), (21, 6), (26, 6)]) kX10_rest = true := by decide +kernel
set_option maxRecDepth 100000 in
theorem sfxX10_rest_140 : mSfx 140 kX10_rest = kX10_rest_140 := rfl
theorem cutX10_rest_140 : cutX10_rest 140 = none := by decide
set_option maxRecDepth 100000 in
theorem sfxX10_rest_162 : mSfx 162 kX10_rest = kX10_rest_162 := rfl
theorem cutX10_rest_162 : cutX10_rest 162 = none := by decide
def kX10_gather_57 : List mIn := (57, 2, 0, 3, 1, 0, []) :: (58, 33, 0, 1, 0, 0, []) :: []
def kX10_gather_51 : List mIn := (51, 8, 1, 4, 0, 0, []) :: (54, 22, 0, 0, 20, 0, []) :: kX10_gather_57
def kX10_gather_20 : List mIn := (20, 2, 0, 4, 2, 0, []) :: (22, 0, 9, 1, 0, 0, []) :: (24, 19, 0, 3, 57, 0, []) :: (27, 4, 0, 0, 1, 0, []) :: (28, 24, 0, 10, 8, 73, [549]) :: (31, 2, 0, 4, 2, 0, []) :: (33, 26, 0, 20, 0, 0, []) :: (34, 0, (-1), 0, 0, 0, []) :: (35, 19, 0, 0, 51, 0, []) :: (38, 4, 0, 2, 1, 0, []) :: (39, 2, 0, 3, 1, 0, []) :: (40, 4, 0, 0, 1, 0, []) :: (41, 24, 0, 10, 8, 73, [549]) :: (44, 2, 0, 4, 2, 0, []) :: (46, 26, 0, 20, 0, 0, []) :: (47, 27, 0, 20, 0, 0, []) :: (48, 8, 1, 3, 0, 0, []) :: kX10_gather_51
def kX10_gather_0 : List mIn := (0, 4, 0, 0, 1, 0, []) :: (1, 24, 0, 10, 0, 28, [541]) :: (4, 24, 0, 7, 1, 21, [298]) :: (7, 2, 0, 1, 1, 0, []) :: (8, 4, 0, 0, 1, 0, []) :: (9, 24, 0, 10, 8, 73, [549]) :: (12, 32, 0, 0, 3, 265, [6, 1259, 1260, 1261, 109, 1262]) :: (15, 0, 0, 0, 0, 0, []) :: (16, 5, 0, 3, 1, 0, []) :: (17, 0, 0, 0, 0, 0, []) :: (18, 5, 0, 4, 2, 0, []) :: (20, 43, 0, 0, 20, 0, []) :: kX10_gather_20
def kX10_gather : List mIn := kX10_gather_0
def TX10_gather : Nat → mCal := fun a => match a with
  | 0 => calX6_standAs
  | _ => (yX10_gather, cX10_gather, 5, (some .int), (0, 0, 0, 0))
def calX10_gather : mCal := (yX10_gather, cX10_gather, 5, (some .int), (2, 82, 0, 0))
def cutX10_gather : Nat → Option (List Bool) := fun t => mLk t [(20, [true, false, true, true, true])]
theorem okX10_gather : mOK (yX10_gather.cls, cX10_gather, TX10_gather, (some .int), (2, 82, 0, 0), 5, mAcf [], mAcf []) kX10_gather = true := by decide +kernel
set_option maxRecDepth 100000 in
theorem sfxX10_gather_20 : mSfx 20 kX10_gather = kX10_gather_20 := rfl
theorem cutX10_gather_20 : cutX10_gather 20 = some [true, false, true, true, true] := by decide
set_option maxRecDepth 100000 in
theorem sfxX10_gather_51 : mSfx 51 kX10_gather = kX10_gather_51 := rfl
theorem cutX10_gather_51 : cutX10_gather 51 = none := by decide
set_option maxRecDepth 100000 in
theorem sfxX10_gather_57 : mSfx 57 kX10_gather = kX10_gather_57 := rfl
theorem cutX10_gather_57 : cutX10_gather 57 = none := by decide
def kJ6_bitCount_0f7a4_0 : List mIn := (0, 2, 0, 0, 1, 0, []) :: (1, 2, 0, 0, 1, 0, []) :: (2, 0, 1, 0, 0, 0, []) :: (3, 9, 0, 8, 0, 0, []) :: (4, 0, 1431655765, 4, 265, 1309, []) :: (7, 9, 0, 3, 0, 0, []) :: (8, 9, 0, 1, 0, 0, []) :: (9, 5, 0, 0, 1, 0, []) :: (10, 2, 0, 0, 1, 0, []) :: (11, 0, 858993459, 4, 266, 1310, []) :: (14, 9, 0, 3, 0, 0, []) :: (15, 2, 0, 0, 1, 0, []) :: (16, 0, 2, 0, 0, 0, []) :: (17, 9, 0, 8, 0, 0, []) :: (18, 0, 858993459, 4, 266, 1310, []) :: (21, 9, 0, 3, 0, 0, []) :: (22, 9, 0, 0, 0, 0, []) :: (23, 5, 0, 0, 1, 0, []) :: (24, 2, 0, 0, 1, 0, []) :: (25, 2, 0, 0, 1, 0, []) :: (26, 0, 4, 0, 0, 0, []) :: (27, 9, 0, 8, 0, 0, []) :: (28, 9, 0, 0, 0, 0, []) :: (29, 0, 252645135, 4, 267, 1311, []) :: (32, 9, 0, 3, 0, 0, []) :: (33, 5, 0, 0, 1, 0, []) :: (34, 2, 0, 0, 1, 0, []) :: (35, 2, 0, 0, 1, 0, []) :: (36, 0, 8, 1, 0, 0, []) :: (38, 9, 0, 8, 0, 0, []) :: (39, 9, 0, 0, 0, 0, []) :: (40, 5, 0, 0, 1, 0, []) :: (41, 2, 0, 0, 1, 0, []) :: (42, 2, 0, 0, 1, 0, []) :: (43, 0, 16, 1, 0, 0, []) :: (45, 9, 0, 8, 0, 0, []) :: (46, 9, 0, 0, 0, 0, []) :: (47, 5, 0, 0, 1, 0, []) :: (48, 2, 0, 0, 1, 0, []) :: (49, 0, 63, 1, 0, 0, []) :: (51, 9, 0, 3, 0, 0, []) :: (52, 33, 0, 1, 0, 0, []) :: []
def kJ6_bitCount_0f7a4 : List mIn := kJ6_bitCount_0f7a4_0
def TJ6_bitCount_0f7a4 : Nat → mCal := fun a => match a with
  | _ => (yJ6_bitCount_0f7a4, cJ6_bitCount_0f7a4, 1, (some .int), (0, 0, 0, 0))
def calJ6_bitCount_0f7a4 : mCal := (yJ6_bitCount_0f7a4, cJ6_bitCount_0f7a4, 1, (some .int), (0, 0, 0, 0))
def cutJ6_bitCount_0f7a4 : Nat → Option (List Bool) := fun t => mLk t []
theorem okJ6_bitCount_0f7a4 : mOK (yJ6_bitCount_0f7a4.cls, cJ6_bitCount_0f7a4, TJ6_bitCount_0f7a4, (some .int), (0, 0, 0, 0), 1, mAcf [], mAcf []) kJ6_bitCount_0f7a4 = true := by decide +kernel
def kX10_leastWalk_112 : List mIn := (112, 4, 0, 0, 1, 0, []) :: (113, 24, 0, 10, 12, 86, [553]) :: (116, 2, 0, 2, 1, 0, []) :: (117, 26, 0, 20, 0, 0, []) :: (118, 33, 0, 1, 0, 0, []) :: []
def kX10_leastWalk_106 : List mIn := (106, 8, 1, 3, 0, 0, []) :: (109, 22, 0, 0, 25, 0, []) :: kX10_leastWalk_112
def kX10_leastWalk_100 : List mIn := (100, 8, 1, 5, 0, 0, []) :: (103, 22, 0, 0, 39, 0, []) :: kX10_leastWalk_106
def kX10_leastWalk_39 : List mIn := (39, 2, 0, 5, 2, 0, []) :: (41, 2, 0, 1, 1, 0, []) :: (42, 19, 0, 3, 106, 0, []) :: (45, 2, 0, 3, 1, 0, []) :: (46, 0, 1, 0, 0, 0, []) :: (47, 2, 0, 5, 2, 0, []) :: (49, 9, 0, 6, 0, 0, []) :: (50, 9, 0, 4, 0, 0, []) :: (51, 5, 0, 6, 2, 0, []) :: (53, 2, 0, 6, 2, 0, []) :: (55, 2, 0, 3, 1, 0, []) :: (56, 19, 0, 0, 100, 0, []) :: (59, 4, 0, 0, 1, 0, []) :: (60, 24, 0, 10, 12, 86, [553]) :: (63, 2, 0, 6, 2, 0, []) :: (65, 4, 0, 0, 1, 0, []) :: (66, 24, 0, 10, 12, 86, [553]) :: (69, 2, 0, 6, 2, 0, []) :: (71, 26, 0, 20, 0, 0, []) :: (72, 4, 0, 0, 1, 0, []) :: (73, 24, 0, 10, 12, 86, [553]) :: (76, 2, 0, 3, 1, 0, []) :: (77, 26, 0, 20, 0, 0, []) :: (78, 4, 0, 0, 1, 0, []) :: (79, 24, 0, 10, 10, 80, [551]) :: (82, 2, 0, 4, 2, 0, []) :: (84, 26, 0, 20, 0, 0, []) :: (85, 4, 0, 0, 1, 0, []) :: (86, 24, 0, 10, 11, 83, [552]) :: (89, 2, 0, 5, 2, 0, []) :: (91, 26, 0, 20, 0, 0, []) :: (92, 32, 1, 2, 2, 471, [1312, 623, 105, 624]) :: (95, 9, 0, 0, 0, 0, []) :: (96, 40, 0, 1, 0, 343, [943, 709, 121, 710]) :: (99, 27, 0, 20, 0, 0, []) :: kX10_leastWalk_100
def kX10_leastWalk_25 : List mIn := (25, 2, 0, 3, 1, 0, []) :: (26, 2, 0, 2, 1, 0, []) :: (27, 19, 0, 3, 112, 0, []) :: (30, 2, 0, 3, 1, 0, []) :: (31, 32, 1, 1, 1, 466, [1306, 1307, 129, 1308]) :: (34, 5, 0, 4, 2, 0, []) :: (36, 0, 0, 0, 0, 0, []) :: (37, 5, 0, 5, 2, 0, []) :: (39, 43, 0, 0, 39, 0, []) :: kX10_leastWalk_39
def kX10_leastWalk_0 : List mIn := (0, 0, 1, 0, 0, 0, []) :: (1, 2, 0, 1, 1, 0, []) :: (2, 9, 0, 6, 0, 0, []) :: (3, 0, 1, 0, 0, 0, []) :: (4, 9, 0, 1, 0, 0, []) :: (5, 5, 0, 2, 1, 0, []) :: (6, 4, 0, 0, 1, 0, []) :: (7, 24, 0, 10, 12, 86, [553]) :: (10, 0, 153, 2, 0, 0, []) :: (13, 32, 1, 0, 2, 460, [1305, 157, 108, 158]) :: (16, 4, 0, 0, 1, 0, []) :: (17, 24, 0, 10, 12, 86, [553]) :: (20, 0, 0, 0, 0, 0, []) :: (21, 0, 0, 0, 0, 0, []) :: (22, 27, 0, 20, 0, 0, []) :: (23, 0, 0, 0, 0, 0, []) :: (24, 5, 0, 3, 1, 0, []) :: (25, 43, 0, 0, 25, 0, []) :: kX10_leastWalk_25
def kX10_leastWalk : List mIn := kX10_leastWalk_0
def TX10_leastWalk : Nat → mCal := fun a => match a with
  | 0 => calJ7_fill_53178
  | 1 => calJ6_bitCount_0f7a4
  | 2 => calX10_apart
  | _ => (yX10_leastWalk, cX10_leastWalk, 7, (some .int), (0, 0, 0, 0))
def calX10_leastWalk : mCal := (yX10_leastWalk, cX10_leastWalk, 7, (some .int), (1, 25, 0, 0))
def cutX10_leastWalk : Nat → Option (List Bool) := fun t => mLk t [(25, [true, true, true, true, false, false, false]), (39, [true, true, true, true, true, true, false])]
theorem okX10_leastWalk : mOK (yX10_leastWalk.cls, cX10_leastWalk, TX10_leastWalk, (some .int), (1, 25, 0, 0), 7, mAcf [], mAcf []) kX10_leastWalk = true := by decide +kernel
set_option maxRecDepth 100000 in
theorem sfxX10_leastWalk_25 : mSfx 25 kX10_leastWalk = kX10_leastWalk_25 := rfl
theorem cutX10_leastWalk_25 : cutX10_leastWalk 25 = some [true, true, true, true, false, false, false] := by decide
set_option maxRecDepth 100000 in
theorem sfxX10_leastWalk_39 : mSfx 39 kX10_leastWalk = kX10_leastWalk_39 := rfl
theorem cutX10_leastWalk_39 : cutX10_leastWalk 39 = some [true, true, true, true, true, true, false] := by decide
set_option maxRecDepth 100000 in
theorem sfxX10_leastWalk_100 : mSfx 100 kX10_leastWalk = kX10_leastWalk_100 := rfl
theorem cutX10_leastWalk_100 : cutX10_leastWalk 100 = none := by decide
set_option maxRecDepth 100000 in
theorem sfxX10_leastWalk_106 : mSfx 106 kX10_leastWalk = kX10_leastWalk_106 := rfl
theorem cutX10_leastWalk_106 : cutX10_leastWalk 106 = none := by decide
set_option maxRecDepth 100000 in
theorem sfxX10_leastWalk_112 : mSfx 112 kX10_leastWalk = kX10_leastWalk_112 := rfl
theorem cutX10_leastWalk_112 : cutX10_leastWalk 112 = none := by decide
def kX10_walk_50 : List mIn := (50, 33, 0, 1, 0, 0, []) :: []
def kX10_walk_49 : List mIn := (49, 0, (-1), 0, 0, 0, []) :: kX10_walk_50
def kX10_walk_0 : List mIn := (0, 2, 0, 1, 1, 0, []) :: (1, 32, 1, 0, 1, 256, [1245, 1246, 105, 1247]) :: (4, 2, 0, 2, 1, 0, []) :: (5, 32, 1, 0, 1, 256, [1245, 1246, 105, 1247]) :: (8, 4, 0, 0, 1, 0, []) :: (9, 2, 0, 1, 1, 0, []) :: (10, 32, 0, 1, 2, 262, [10, 1254, 1256, 32, 105, 1257]) :: (13, 4, 0, 0, 1, 0, []) :: (14, 2, 0, 2, 1, 0, []) :: (15, 32, 0, 1, 2, 262, [10, 1254, 1256, 32, 105, 1257]) :: (18, 4, 0, 0, 1, 0, []) :: (19, 2, 0, 1, 1, 0, []) :: (20, 4, 0, 0, 1, 0, []) :: (21, 24, 0, 10, 10, 80, [551]) :: (24, 32, 0, 2, 3, 296, [10, 1297, 1299, 35, 105, 1300]) :: (27, 5, 0, 3, 1, 0, []) :: (28, 4, 0, 0, 1, 0, []) :: (29, 2, 0, 2, 1, 0, []) :: (30, 4, 0, 0, 1, 0, []) :: (31, 24, 0, 10, 11, 83, [552]) :: (34, 32, 0, 2, 3, 296, [10, 1297, 1299, 35, 105, 1300]) :: (37, 2, 0, 3, 1, 0, []) :: (38, 19, 0, 1, 49, 0, []) :: (41, 4, 0, 0, 1, 0, []) :: (42, 2, 0, 3, 1, 0, []) :: (43, 32, 0, 3, 2, 300, [10, 1301, 1303, 36, 105, 1304]) :: (46, 22, 0, 0, 50, 0, []) :: kX10_walk_49
def kX10_walk : List mIn := kX10_walk_0
def TX10_walk : Nat → mCal := fun a => match a with
  | 0 => calX10_needWay
  | 1 => calX10_needKept
  | 2 => calX10_gather
  | 3 => calX10_leastWalk
  | _ => (yX10_walk, cX10_walk, 4, (some .int), (0, 0, 0, 0))
def calX10_walk : mCal := (yX10_walk, cX10_walk, 4, (some .int), (7, 111, 4, 24))
def cutX10_walk : Nat → Option (List Bool) := fun t => mLk t []
theorem okX10_walk : mOK (yX10_walk.cls, cX10_walk, TX10_walk, (some .int), (7, 111, 4, 24), 4, mAcf [(1, 1), (5, 1), (10, 1), (15, 1)], mAcf [(1, 6), (5, 6), (10, 6), (15, 6)]) kX10_walk = true := by decide +kernel
set_option maxRecDepth 100000 in
theorem sfxX10_walk_49 : mSfx 49 kX10_walk = kX10_walk_49 := rfl
theorem cutX10_walk_49 : cutX10_walk 49 = none := by decide
set_option maxRecDepth 100000 in
theorem sfxX10_walk_50 : mSfx 50 kX10_walk = kX10_walk_50 := rfl
theorem cutX10_walk_50 : cutX10_walk 50 = none := by decide
def kX10_riseBetween_0 : List mIn := (0, 4, 0, 0, 1, 0, []) :: (1, 24, 0, 10, 0, 28, [541]) :: (4, 24, 0, 7, 1, 21, [298]) :: (7, 2, 0, 1, 1, 0, []) :: (8, 4, 0, 0, 1, 0, []) :: (9, 24, 0, 10, 8, 73, [549]) :: (12, 32, 0, 0, 3, 265, [6, 1259, 1260, 1261, 109, 1262]) :: (15, 4, 0, 0, 1, 0, []) :: (16, 24, 0, 10, 5, 36, [546]) :: (19, 4, 0, 0, 1, 0, []) :: (20, 24, 0, 10, 8, 73, [549]) :: (23, 32, 0, 1, 2, 225, [9, 667, 668, 669, 112, 670]) :: (26, 6, 0, 3, 1, 0, []) :: (27, 4, 0, 0, 1, 0, []) :: (28, 24, 0, 10, 0, 28, [541]) :: (31, 24, 0, 7, 1, 21, [298]) :: (34, 2, 0, 2, 1, 0, []) :: (35, 4, 0, 0, 1, 0, []) :: (36, 24, 0, 10, 8, 73, [549]) :: (39, 32, 0, 0, 3, 265, [6, 1259, 1260, 1261, 109, 1262]) :: (42, 3, 0, 3, 1, 0, []) :: (43, 4, 0, 0, 1, 0, []) :: (44, 24, 0, 10, 5, 36, [546]) :: (47, 4, 0, 0, 1, 0, []) :: (48, 24, 0, 10, 8, 73, [549]) :: (51, 32, 0, 1, 2, 225, [9, 667, 668, 669, 112, 670]) :: (54, 11, 0, 1, 0, 0, []) :: (55, 33, 0, 2, 0, 0, []) :: []
def kX10_riseBetween : List mIn := kX10_riseBetween_0
def TX10_riseBetween : Nat → mCal := fun a => match a with
  | 0 => calX6_standAs
  | 1 => calX9_meanTop
  | _ => (yX10_riseBetween, cX10_riseBetween, 5, (some .long), (0, 0, 0, 0))
def calX10_riseBetween : mCal := (yX10_riseBetween, cX10_riseBetween, 5, (some .long), (5, 127, 0, 0))
def cutX10_riseBetween : Nat → Option (List Bool) := fun t => mLk t []
theorem okX10_riseBetween : mOK (yX10_riseBetween.cls, cX10_riseBetween, TX10_riseBetween, (some .long), (5, 127, 0, 0), 5, mAcf [], mAcf []) kX10_riseBetween = true := by decide +kernel
def kX10_tells_93 : List mIn := (93, 2, 0, 3, 1, 0, []) :: (94, 33, 0, 1, 0, 0, []) :: []
def kX10_tells_87 : List mIn := (87, 8, 1, 8, 0, 0, []) :: (90, 22, 0, 0, 29, 0, []) :: kX10_tells_93
def kX10_tells_29 : List mIn := (29, 2, 0, 8, 2, 0, []) :: (31, 0, 6, 1, 0, 0, []) :: (33, 19, 0, 3, 93, 0, []) :: (36, 4, 0, 0, 1, 0, []) :: (37, 2, 0, 8, 2, 0, []) :: (39, 32, 0, 2, 2, 139, [10, 637, 639, 1, 105, 640]) :: (42, 4, 0, 0, 1, 0, []) :: (43, 2, 0, 1, 1, 0, []) :: (44, 2, 0, 2, 1, 0, []) :: (45, 32, 0, 3, 3, 303, [10, 1320, 1322, 37, 105, 1323]) :: (48, 6, 0, 9, 2, 0, []) :: (50, 3, 0, 9, 2, 0, []) :: (52, 3, 0, 6, 2, 0, []) :: (54, 11, 0, 2, 0, 0, []) :: (55, 3, 0, 4, 2, 0, []) :: (57, 4, 0, 0, 1, 0, []) :: (58, 24, 0, 10, 4, 32, [545]) :: (61, 24, 0, 0, 1, 307, [319]) :: (64, 13, 0, 0, 0, 0, []) :: (65, 11, 0, 2, 0, 0, []) :: (66, 21, 0, 5, 87, 0, []) :: (70, 2, 0, 8, 2, 0, []) :: (72, 5, 0, 3, 1, 0, []) :: (73, 3, 0, 9, 2, 0, []) :: (75, 6, 0, 4, 2, 0, []) :: (77, 4, 0, 0, 1, 0, []) :: (78, 24, 0, 10, 4, 32, [545]) :: (81, 24, 0, 0, 1, 307, [319]) :: (84, 13, 0, 0, 0, 0, []) :: (85, 6, 0, 6, 2, 0, []) :: kX10_tells_87
def kX10_tells_0 : List mIn := (0, 2, 0, 1, 1, 0, []) :: (1, 32, 1, 0, 1, 256, [1245, 1246, 105, 1247]) :: (4, 2, 0, 2, 1, 0, []) :: (5, 32, 1, 0, 1, 256, [1245, 1246, 105, 1247]) :: (8, 4, 0, 0, 1, 0, []) :: (9, 2, 0, 1, 1, 0, []) :: (10, 32, 0, 1, 2, 262, [10, 1254, 1256, 32, 105, 1257]) :: (13, 4, 0, 0, 1, 0, []) :: (14, 2, 0, 2, 1, 0, []) :: (15, 32, 0, 1, 2, 262, [10, 1254, 1256, 32, 105, 1257]) :: (18, 0, (-1), 0, 0, 0, []) :: (19, 5, 0, 3, 1, 0, []) :: (20, 1, 0, 0, 0, 0, []) :: (21, 6, 0, 4, 2, 0, []) :: (23, 1, 1, 0, 1, 0, []) :: (24, 6, 0, 6, 2, 0, []) :: (26, 0, 0, 0, 0, 0, []) :: (27, 5, 0, 8, 2, 0, []) :: (29, 43, 0, 0, 29, 0, []) :: kX10_tells_29
def kX10_tells : List mIn := kX10_tells_0
def TX10_tells : Nat → mCal := fun a => match a with
  | 0 => calX10_needWay
  | 1 => calX10_needKept
  | 2 => calX10_lay
  | 3 => calX10_riseBetween
  | _ => (yX10_tells, cX10_tells, 11, (some .int), (0, 0, 0, 0))
def calX10_tells : mCal := (yX10_tells, cX10_tells, 11, (some .int), (7, 151, 4, 24))
def cutX10_tells : Nat → Option (List Bool) := fun t => mLk t [(29, [true, true, true, true, true, false, true, false, true, false, false])]
theorem okX10_tells : mOK (yX10_tells.cls, cX10_tells, TX10_tells, (some .int), (7, 151, 4, 24), 11, mAcf [(1, 1), (5, 1), (10, 1), (15, 1)], mAcf [(1, 6), (5, 6), (10, 6), (15, 6)]) kX10_tells = true := by decide +kernel
set_option maxRecDepth 100000 in
theorem sfxX10_tells_29 : mSfx 29 kX10_tells = kX10_tells_29 := rfl
theorem cutX10_tells_29 : cutX10_tells 29 = some [true, true, true, true, true, false, true, false, true, false, false] := by decide
set_option maxRecDepth 100000 in
theorem sfxX10_tells_87 : mSfx 87 kX10_tells = kX10_tells_87 := rfl
theorem cutX10_tells_87 : cutX10_tells 87 = none := by decide
set_option maxRecDepth 100000 in
theorem sfxX10_tells_93 : mSfx 93 kX10_tells = kX10_tells_93 := rfl
theorem cutX10_tells_93 : cutX10_tells 93 = none := by decide
def kX10_bowl_101 : List mIn := (101, 2, 0, 1, 1, 0, []) :: (102, 33, 0, 1, 0, 0, []) :: []
def kX10_bowl_95 : List mIn := (95, 8, 1, 6, 0, 0, []) :: (98, 22, 0, 0, 10, 0, []) :: kX10_bowl_101
def kX10_bowl_79 : List mIn := (79, 2, 0, 6, 2, 0, []) :: (81, 5, 0, 1, 1, 0, []) :: (82, 3, 0, 7, 2, 0, []) :: (84, 6, 0, 2, 1, 0, []) :: (85, 4, 0, 0, 1, 0, []) :: (86, 24, 0, 10, 4, 32, [545]) :: (89, 24, 0, 0, 1, 307, [319]) :: (92, 13, 0, 0, 0, 0, []) :: (93, 6, 0, 4, 2, 0, []) :: kX10_bowl_95
def kX10_bowl_36 : List mIn := (36, 4, 0, 0, 1, 0, []) :: (37, 24, 0, 10, 5, 36, [546]) :: (40, 4, 0, 0, 1, 0, []) :: (41, 24, 0, 10, 0, 28, [541]) :: (44, 24, 0, 7, 1, 21, [298]) :: (47, 24, 0, 6, 0, 191, [236]) :: (50, 32, 0, 1, 2, 225, [9, 667, 668, 669, 112, 670]) :: (53, 6, 0, 7, 2, 0, []) :: (55, 2, 0, 1, 1, 0, []) :: (56, 0, (-1), 0, 0, 0, []) :: (57, 19, 0, 0, 79, 0, []) :: (60, 3, 0, 7, 2, 0, []) :: (62, 3, 0, 4, 2, 0, []) :: (64, 11, 0, 2, 0, 0, []) :: (65, 3, 0, 2, 1, 0, []) :: (66, 4, 0, 0, 1, 0, []) :: (67, 24, 0, 10, 4, 32, [545]) :: (70, 24, 0, 0, 1, 307, [319]) :: (73, 13, 0, 0, 0, 0, []) :: (74, 11, 0, 2, 0, 0, []) :: (75, 21, 0, 3, 95, 0, []) :: kX10_bowl_79
def kX10_bowl_10 : List mIn := (10, 2, 0, 6, 2, 0, []) :: (12, 0, 6, 1, 0, 0, []) :: (14, 19, 0, 3, 101, 0, []) :: (17, 4, 0, 0, 1, 0, []) :: (18, 2, 0, 6, 2, 0, []) :: (20, 32, 0, 0, 2, 139, [10, 637, 639, 1, 105, 640]) :: (23, 4, 0, 0, 1, 0, []) :: (24, 24, 0, 10, 4, 32, [545]) :: (27, 24, 0, 0, 0, 279, [317]) :: (30, 20, 0, 1, 36, 0, []) :: (33, 22, 0, 0, 95, 0, []) :: kX10_bowl_36
def kX10_bowl_0 : List mIn := (0, 0, (-1), 0, 0, 0, []) :: (1, 5, 0, 1, 1, 0, []) :: (2, 1, 0, 0, 0, 0, []) :: (3, 6, 0, 2, 1, 0, []) :: (4, 1, 1, 0, 1, 0, []) :: (5, 6, 0, 4, 2, 0, []) :: (7, 0, 0, 0, 0, 0, []) :: (8, 5, 0, 6, 2, 0, []) :: (10, 43, 0, 0, 10, 0, []) :: kX10_bowl_10
def kX10_bowl : List mIn := kX10_bowl_0
def TX10_bowl : Nat → mCal := fun a => match a with
  | 0 => calX10_lay
  | 1 => calX9_meanTop
  | _ => (yX10_bowl, cX10_bowl, 9, (some .int), (0, 0, 0, 0))
def calX10_bowl : mCal := (yX10_bowl, cX10_bowl, 9, (some .int), (5, 127, 0, 0))
def cutX10_bowl : Nat → Option (List Bool) := fun t => mLk t [(10, [true, true, true, false, true, false, true, false, false])]
theorem okX10_bowl : mOK (yX10_bowl.cls, cX10_bowl, TX10_bowl, (some .int), (5, 127, 0, 0), 9, mAcf [], mAcf []) kX10_bowl = true := by decide +kernel
set_option maxRecDepth 100000 in
theorem sfxX10_bowl_10 : mSfx 10 kX10_bowl = kX10_bowl_10 := rfl
theorem cutX10_bowl_10 : cutX10_bowl 10 = some [true, true, true, false, true, false, true, false, false] := by decide
set_option maxRecDepth 100000 in
theorem sfxX10_bowl_36 : mSfx 36 kX10_bowl = kX10_bowl_36 := rfl
theorem cutX10_bowl_36 : cutX10_bowl 36 = none := by decide
set_option maxRecDepth 100000 in
theorem sfxX10_bowl_79 : mSfx 79 kX10_bowl = kX10_bowl_79 := rfl
theorem cutX10_bowl_79 : cutX10_bowl 79 = none := by decide
set_option maxRecDepth 100000 in
theorem sfxX10_bowl_95 : mSfx 95 kX10_bowl = kX10_bowl_95 := rfl
theorem cutX10_bowl_95 : cutX10_bowl 95 = none := by decide
set_option maxRecDepth 100000 in
theorem sfxX10_bowl_101 : mSfx 101 kX10_bowl = kX10_bowl_101 := rfl
theorem cutX10_bowl_101 : cutX10_bowl 101 = none := by decide
def kX10_trayAt_20 : List mIn := (20, 4, 0, 0, 1, 0, []) :: (21, 24, 0, 10, 2, 55, [543]) :: (24, 2, 0, 1, 1, 0, []) :: (25, 26, 0, 25, 0, 0, []) :: (26, 33, 0, 3, 0, 0, []) :: []
def kX10_trayAt_9 : List mIn := (9, 35, 0, 0, 426, 445, [430, 1, 967, 127]) :: kX10_trayAt_20
def kX10_trayAt_0 : List mIn := (0, 2, 0, 1, 1, 0, []) :: (1, 20, 0, 2, 9, 0, []) :: (4, 2, 0, 1, 1, 0, []) :: (5, 0, 4, 0, 0, 0, []) :: (6, 19, 0, 2, 20, 0, []) :: kX10_trayAt_9
def kX10_trayAt : List mIn := kX10_trayAt_0
def TX10_trayAt : Nat → mCal := fun a => match a with
  | _ => (yX10_trayAt, cX10_trayAt, 2, (some (.object "NineOnGrass$Tray")), (0, 0, 0, 0))
def calX10_trayAt : mCal := (yX10_trayAt, cX10_trayAt, 2, (some (.object "NineOnGrass$Tray")), (6, 90, 1, 6))
def cutX10_trayAt : Nat → Option (List Bool) := fun t => mLk t []
theorem okX10_trayAt : mOK (yX10_trayAt.cls, cX10_trayAt, TX10_trayAt, (some (.object "NineOnGrass$Tray")), (6, 90, 1, 6), 2, mAcf [], mAcf []) kX10_trayAt = true := by decide +kernel
set_option maxRecDepth 100000 in
theorem sfxX10_trayAt_9 : mSfx 9 kX10_trayAt = kX10_trayAt_9 := rfl
theorem cutX10_trayAt_9 : cutX10_trayAt 9 = none := by decide
set_option maxRecDepth 100000 in
theorem sfxX10_trayAt_20 : mSfx 20 kX10_trayAt = kX10_trayAt_20 := rfl
theorem cutX10_trayAt_20 : cutX10_trayAt 20 = none := by decide
def kX10_seat_31 : List mIn := (31, 33, 0, 0, 0, 0, []) :: []
def kX10_seat_2 : List mIn := (2, 2, 0, 3, 1, 0, []) :: (3, 2, 0, 2, 1, 0, []) :: (4, 19, 0, 3, 31, 0, []) :: (7, 4, 0, 0, 1, 0, []) :: (8, 24, 0, 10, 8, 73, [549]) :: (11, 2, 0, 3, 1, 0, []) :: (12, 4, 0, 1, 1, 0, []) :: (13, 24, 0, 8, 2, 383, [1497]) :: (16, 4, 0, 0, 1, 0, []) :: (17, 24, 0, 10, 9, 77, [550]) :: (20, 2, 0, 3, 1, 0, []) :: (21, 26, 0, 20, 0, 0, []) :: (22, 26, 0, 23, 0, 0, []) :: (23, 14, 0, 0, 0, 0, []) :: (24, 27, 0, 20, 0, 0, []) :: (25, 8, 1, 3, 0, 0, []) :: (28, 22, 0, 0, 2, 0, []) :: kX10_seat_31
def kX10_seat_0 : List mIn := (0, 0, 0, 0, 0, 0, []) :: (1, 5, 0, 3, 1, 0, []) :: (2, 43, 0, 0, 2, 0, []) :: kX10_seat_2
def kX10_seat : List mIn := kX10_seat_0
def TX10_seat : Nat → mCal := fun a => match a with
  | _ => (yX10_seat, cX10_seat, 4, none, (0, 0, 0, 0))
def calX10_seat : mCal := (yX10_seat, cX10_seat, 4, none, (0, 0, 0, 0))
def cutX10_seat : Nat → Option (List Bool) := fun t => mLk t [(2, [true, true, true, true])]
theorem okX10_seat : mOK (yX10_seat.cls, cX10_seat, TX10_seat, none, (0, 0, 0, 0), 4, mAcf [], mAcf []) kX10_seat = true := by decide +kernel
set_option maxRecDepth 100000 in
theorem sfxX10_seat_2 : mSfx 2 kX10_seat = kX10_seat_2 := rfl
theorem cutX10_seat_2 : cutX10_seat 2 = some [true, true, true, true] := by decide
set_option maxRecDepth 100000 in
theorem sfxX10_seat_31 : mSfx 31 kX10_seat = kX10_seat_31 := rfl
theorem cutX10_seat_31 : cutX10_seat 31 = none := by decide
def kX10_swapOrder_0 : List mIn := (0, 4, 0, 0, 1, 0, []) :: (1, 24, 0, 10, 9, 77, [550]) :: (4, 2, 0, 1, 1, 0, []) :: (5, 26, 0, 20, 0, 0, []) :: (6, 5, 0, 3, 1, 0, []) :: (7, 4, 0, 0, 1, 0, []) :: (8, 24, 0, 10, 9, 77, [550]) :: (11, 2, 0, 1, 1, 0, []) :: (12, 4, 0, 0, 1, 0, []) :: (13, 24, 0, 10, 9, 77, [550]) :: (16, 2, 0, 2, 1, 0, []) :: (17, 26, 0, 20, 0, 0, []) :: (18, 27, 0, 20, 0, 0, []) :: (19, 4, 0, 0, 1, 0, []) :: (20, 24, 0, 10, 9, 77, [550]) :: (23, 2, 0, 2, 1, 0, []) :: (24, 2, 0, 3, 1, 0, []) :: (25, 27, 0, 20, 0, 0, []) :: (26, 33, 0, 0, 0, 0, []) :: []
def kX10_swapOrder : List mIn := kX10_swapOrder_0
def TX10_swapOrder : Nat → mCal := fun a => match a with
  | _ => (yX10_swapOrder, cX10_swapOrder, 4, none, (0, 0, 0, 0))
def calX10_swapOrder : mCal := (yX10_swapOrder, cX10_swapOrder, 4, none, (0, 0, 0, 0))
def cutX10_swapOrder : Nat → Option (List Bool) := fun t => mLk t []
theorem okX10_swapOrder : mOK (yX10_swapOrder.cls, cX10_swapOrder, TX10_swapOrder, none, (0, 0, 0, 0), 4, mAcf [], mAcf []) kX10_swapOrder = true := by decide +kernel
def kX10_nextOrder_107 : List mIn := (107, 0, 1, 0, 0, 0, []) :: (108, 33, 0, 4, 0, 0, []) :: []
def kX10_nextOrder_83 : List mIn := (83, 2, 0, 4, 2, 0, []) :: (85, 2, 0, 5, 2, 0, []) :: (87, 19, 0, 3, 107, 0, []) :: (90, 4, 0, 0, 1, 0, []) :: (91, 2, 0, 4, 2, 0, []) :: (93, 2, 0, 5, 2, 0, []) :: (95, 32, 0, 0, 3, 484, [10, 1373, 1375, 42, 105, 1376]) :: (98, 8, 1, 4, 0, 0, []) :: (101, 8, (-1), 5, 0, 0, []) :: (104, 22, 0, 0, 83, 0, []) :: kX10_nextOrder_107
def kX10_nextOrder_67 : List mIn := (67, 4, 0, 0, 1, 0, []) :: (68, 2, 0, 2, 1, 0, []) :: (69, 2, 0, 3, 1, 0, []) :: (70, 32, 0, 0, 3, 484, [10, 1373, 1375, 42, 105, 1376]) :: (73, 2, 0, 2, 1, 0, []) :: (74, 0, 1, 0, 0, 0, []) :: (75, 9, 0, 0, 0, 0, []) :: (76, 5, 0, 4, 2, 0, []) :: (78, 2, 0, 1, 1, 0, []) :: (79, 0, 1, 0, 0, 0, []) :: (80, 9, 0, 1, 0, 0, []) :: (81, 5, 0, 5, 2, 0, []) :: (83, 43, 0, 0, 83, 0, []) :: kX10_nextOrder_83
def kX10_nextOrder_41 : List mIn := (41, 2, 0, 3, 1, 0, []) :: (42, 2, 0, 2, 1, 0, []) :: (43, 19, 0, 5, 67, 0, []) :: (46, 4, 0, 0, 1, 0, []) :: (47, 24, 0, 10, 9, 77, [550]) :: (50, 2, 0, 3, 1, 0, []) :: (51, 26, 0, 20, 0, 0, []) :: (52, 4, 0, 0, 1, 0, []) :: (53, 24, 0, 10, 9, 77, [550]) :: (56, 2, 0, 2, 1, 0, []) :: (57, 26, 0, 20, 0, 0, []) :: (58, 19, 0, 3, 67, 0, []) :: (61, 8, (-1), 3, 0, 0, []) :: (64, 22, 0, 0, 41, 0, []) :: kX10_nextOrder_67
def kX10_nextOrder_37 : List mIn := (37, 2, 0, 1, 1, 0, []) :: (38, 0, 1, 0, 0, 0, []) :: (39, 9, 0, 1, 0, 0, []) :: (40, 5, 0, 3, 1, 0, []) :: (41, 43, 0, 0, 41, 0, []) :: kX10_nextOrder_41
def kX10_nextOrder_31 : List mIn := (31, 2, 0, 2, 1, 0, []) :: (32, 20, 0, 3, 37, 0, []) :: (35, 0, 0, 0, 0, 0, []) :: (36, 33, 0, 4, 0, 0, []) :: kX10_nextOrder_37
def kX10_nextOrder_4 : List mIn := (4, 2, 0, 2, 1, 0, []) :: (5, 20, 0, 2, 31, 0, []) :: (8, 4, 0, 0, 1, 0, []) :: (9, 24, 0, 10, 9, 77, [550]) :: (12, 2, 0, 2, 1, 0, []) :: (13, 26, 0, 20, 0, 0, []) :: (14, 4, 0, 0, 1, 0, []) :: (15, 24, 0, 10, 9, 77, [550]) :: (18, 2, 0, 2, 1, 0, []) :: (19, 0, 1, 0, 0, 0, []) :: (20, 9, 0, 0, 0, 0, []) :: (21, 26, 0, 20, 0, 0, []) :: (22, 19, 0, 5, 31, 0, []) :: (25, 8, (-1), 2, 0, 0, []) :: (28, 22, 0, 0, 4, 0, []) :: kX10_nextOrder_31
def kX10_nextOrder_0 : List mIn := (0, 2, 0, 1, 1, 0, []) :: (1, 0, 2, 0, 0, 0, []) :: (2, 9, 0, 1, 0, 0, []) :: (3, 5, 0, 2, 1, 0, []) :: (4, 43, 0, 0, 4, 0, []) :: kX10_nextOrder_4
def kX10_nextOrder : List mIn := kX10_nextOrder_0
def TX10_nextOrder : Nat → mCal := fun a => match a with
  | 0 => calX10_swapOrder
  | _ => (yX10_nextOrder, cX10_nextOrder, 6, (some .boolean), (0, 0, 0, 0))
def calX10_nextOrder : mCal := (yX10_nextOrder, cX10_nextOrder, 6, (some .boolean), (1, 23, 0, 0))
def cutX10_nextOrder : Nat → Option (List Bool) := fun t => mLk t [(4, [true, true, true, false, false, false]), (41, [true, true, true, true, false, false]), (83, [true, false, false, false, true, true])]
theorem okX10_nextOrder : mOK (yX10_nextOrder.cls, cX10_nextOrder, TX10_nextOrder, (some .boolean), (1, 23, 0, 0), 6, mAcf [], mAcf []) kX10_nextOrder = true := by decide +kernel
set_option maxRecDepth 100000 in
theorem sfxX10_nextOrder_4 : mSfx 4 kX10_nextOrder = kX10_nextOrder_4 := rfl
theorem cutX10_nextOrder_4 : cutX10_nextOrder 4 = some [true, true, true, false, false, false] := by decide
set_option maxRecDepth 100000 in
theorem sfxX10_nextOrder_31 : mSfx 31 kX10_nextOrder = kX10_nextOrder_31 := rfl
theorem cutX10_nextOrder_31 : cutX10_nextOrder 31 = none := by decide
set_option maxRecDepth 100000 in
theorem sfxX10_nextOrder_37 : mSfx 37 kX10_nextOrder = kX10_nextOrder_37 := rfl
theorem cutX10_nextOrder_37 : cutX10_nextOrder 37 = none := by decide
set_option maxRecDepth 100000 in
theorem sfxX10_nextOrder_41 : mSfx 41 kX10_nextOrder = kX10_nextOrder_41 := rfl
theorem cutX10_nextOrder_41 : cutX10_nextOrder 41 = some [true, true, true, true, false, false] := by decide
set_option maxRecDepth 100000 in
theorem sfxX10_nextOrder_67 : mSfx 67 kX10_nextOrder = kX10_nextOrder_67 := rfl
theorem cutX10_nextOrder_67 : cutX10_nextOrder 67 = none := by decide
set_option maxRecDepth 100000 in
theorem sfxX10_nextOrder_83 : mSfx 83 kX10_nextOrder = kX10_nextOrder_83 := rfl
theorem cutX10_nextOrder_83 : cutX10_nextOrder 83 = some [true, false, false, false, true, true] := by decide
set_option maxRecDepth 100000 in
theorem sfxX10_nextOrder_107 : mSfx 107 kX10_nextOrder = kX10_nextOrder_107 := rfl
theorem cutX10_nextOrder_107 : cutX10_nextOrder 107 = none := by decide
def kX10_bestPlace_159 : List mIn := (159, 2, 0, 4, 2, 0, []) :: (161, 33, 0, 1, 0, 0, []) :: []
def kX10_bestPlace_153 : List mIn := (153, 8, 1, 7, 0, 0, []) :: (156, 22, 0, 0, 98, 0, []) :: kX10_bestPlace_159
def kX10_bestPlace_98 : List mIn := (98, 2, 0, 7, 2, 0, []) :: (100, 0, 720, 2, 0, 0, []) :: (103, 19, 0, 3, 159, 0, []) :: (106, 4, 0, 0, 1, 0, []) :: (107, 2, 0, 2, 1, 0, []) :: (108, 32, 0, 4, 2, 481, [10, 1369, 1371, 41, 105, 1372]) :: (111, 20, 0, 0, 159, 0, []) :: (114, 4, 0, 0, 1, 0, []) :: (115, 4, 0, 1, 1, 0, []) :: (116, 2, 0, 2, 1, 0, []) :: (117, 32, 0, 1, 3, 477, [10, 1365, 1367, 40, 105, 1368]) :: (120, 4, 0, 0, 1, 0, []) :: (121, 24, 0, 10, 5, 36, [546]) :: (124, 4, 0, 0, 1, 0, []) :: (125, 24, 0, 10, 8, 73, [549]) :: (128, 32, 0, 3, 2, 225, [9, 667, 668, 669, 112, 670]) :: (131, 6, 0, 8, 2, 0, []) :: (133, 3, 0, 8, 2, 0, []) :: (135, 3, 0, 5, 2, 0, []) :: (137, 21, 0, 3, 153, 0, []) :: (141, 3, 0, 8, 2, 0, []) :: (143, 6, 0, 5, 2, 0, []) :: (145, 4, 0, 0, 1, 0, []) :: (146, 24, 0, 10, 9, 77, [550]) :: (149, 2, 0, 3, 1, 0, []) :: (150, 26, 0, 20, 0, 0, []) :: (151, 5, 0, 4, 2, 0, []) :: kX10_bestPlace_153
def kX10_bestPlace_74 : List mIn := (74, 4, 0, 0, 1, 0, []) :: (75, 24, 0, 10, 9, 77, [550]) :: (78, 2, 0, 3, 1, 0, []) :: (79, 26, 0, 20, 0, 0, []) :: (80, 5, 0, 4, 2, 0, []) :: (82, 4, 0, 0, 1, 0, []) :: (83, 24, 0, 10, 5, 36, [546]) :: (86, 4, 0, 0, 1, 0, []) :: (87, 24, 0, 10, 8, 73, [549]) :: (90, 32, 0, 3, 2, 225, [9, 667, 668, 669, 112, 670]) :: (93, 6, 0, 5, 2, 0, []) :: (95, 0, 0, 0, 0, 0, []) :: (96, 5, 0, 7, 2, 0, []) :: (98, 43, 0, 0, 98, 0, []) :: kX10_bestPlace_98
def kX10_bestPlace_72 : List mIn := (72, 0, (-1), 0, 0, 0, []) :: (73, 33, 0, 1, 0, 0, []) :: kX10_bestPlace_74
def kX10_bestPlace_41 : List mIn := (41, 4, 0, 0, 1, 0, []) :: (42, 4, 0, 1, 1, 0, []) :: (43, 2, 0, 2, 1, 0, []) :: (44, 32, 0, 1, 3, 477, [10, 1365, 1367, 40, 105, 1368]) :: (47, 4, 0, 0, 1, 0, []) :: (48, 24, 0, 10, 4, 32, [545]) :: (51, 24, 0, 0, 0, 279, [317]) :: (54, 20, 0, 0, 72, 0, []) :: (57, 4, 0, 0, 1, 0, []) :: (58, 24, 0, 10, 5, 36, [546]) :: (61, 4, 0, 0, 1, 0, []) :: (62, 24, 0, 10, 8, 73, [549]) :: (65, 32, 0, 2, 2, 194, [9, 606, 607, 608, 112, 609]) :: (68, 0, (-1), 0, 0, 0, []) :: (69, 19, 0, 0, 74, 0, []) :: kX10_bestPlace_72
def kX10_bestPlace_20 : List mIn := (20, 2, 0, 4, 2, 0, []) :: (22, 2, 0, 2, 1, 0, []) :: (23, 19, 0, 3, 41, 0, []) :: (26, 4, 0, 0, 1, 0, []) :: (27, 24, 0, 10, 9, 77, [550]) :: (30, 2, 0, 4, 2, 0, []) :: (32, 2, 0, 4, 2, 0, []) :: (34, 27, 0, 20, 0, 0, []) :: (35, 8, 1, 4, 0, 0, []) :: (38, 22, 0, 0, 20, 0, []) :: kX10_bestPlace_41
def kX10_bestPlace_0 : List mIn := (0, 4, 0, 0, 1, 0, []) :: (1, 24, 0, 10, 0, 28, [541]) :: (4, 24, 0, 7, 1, 21, [298]) :: (7, 24, 0, 6, 0, 191, [236]) :: (10, 4, 0, 0, 1, 0, []) :: (11, 24, 0, 10, 8, 73, [549]) :: (14, 32, 1, 0, 2, 474, [1364, 941, 105, 942]) :: (17, 0, 0, 0, 0, 0, []) :: (18, 5, 0, 4, 2, 0, []) :: (20, 43, 0, 0, 20, 0, []) :: kX10_bestPlace_20
def kX10_bestPlace : List mIn := kX10_bestPlace_0
def TX10_bestPlace : Nat → mCal := fun a => match a with
  | 0 => calX10_copyRow
  | 1 => calX10_seat
  | 2 => calX9_verdict
  | 3 => calX9_meanTop
  | 4 => calX10_nextOrder
  | _ => (yX10_bestPlace, cX10_bestPlace, 10, (some .int), (0, 0, 0, 0))
def calX10_bestPlace : mCal := (yX10_bestPlace, cX10_bestPlace, 10, (some .int), (5, 127, 0, 0))
def cutX10_bestPlace : Nat → Option (List Bool) := fun t => mLk t [(20, [true, true, true, true, true, false, false, false, false, false]), (98, [true, true, true, true, true, true, false, true, false, false])]
theorem okX10_bestPlace : mOK (yX10_bestPlace.cls, cX10_bestPlace, TX10_bestPlace, (some .int), (5, 127, 0, 0), 10, mAcf [], mAcf []) kX10_bestPlace = true := by decide +kernel
set_option maxRecDepth 100000 in
theorem sfxX10_bestPlace_20 : mSfx 20 kX10_bestPlace = kX10_bestPlace_20 := rfl
theorem cutX10_bestPlace_20 : cutX10_bestPlace 20 = some [true, true, true, true, true, false, false, false, false, false] := by decide
set_option maxRecDepth 100000 in
theorem sfxX10_bestPlace_41 : mSfx 41 kX10_bestPlace = kX10_bestPlace_41 := rfl
theorem cutX10_bestPlace_41 : cutX10_bestPlace 41 = none := by decide
set_option maxRecDepth 100000 in
theorem sfxX10_bestPlace_72 : mSfx 72 kX10_bestPlace = kX10_bestPlace_72 := rfl
theorem cutX10_bestPlace_72 : cutX10_bestPlace 72 = none := by decide
set_option maxRecDepth 100000 in
theorem sfxX10_bestPlace_74 : mSfx 74 kX10_bestPlace = kX10_bestPlace_74 := rfl
theorem cutX10_bestPlace_74 : cutX10_bestPlace 74 = none := by decide
set_option maxRecDepth 100000 in
theorem sfxX10_bestPlace_98 : mSfx 98 kX10_bestPlace = kX10_bestPlace_98 := rfl
theorem cutX10_bestPlace_98 : cutX10_bestPlace 98 = some [true, true, true, true, true, true, false, true, false, false] := by decide
set_option maxRecDepth 100000 in
theorem sfxX10_bestPlace_153 : mSfx 153 kX10_bestPlace = kX10_bestPlace_153 := rfl
theorem cutX10_bestPlace_153 : cutX10_bestPlace 153 = none := by decide
set_option maxRecDepth 100000 in
theorem sfxX10_bestPlace_159 : mSfx 159 kX10_bestPlace = kX10_bestPlace_159 := rfl
theorem cutX10_bestPlace_159 : cutX10_bestPlace 159 = none := by decide
def kX10_match_84 : List mIn := (84, 4, 0, 0, 1, 0, []) :: (85, 2, 0, 1, 1, 0, []) :: (86, 32, 0, 4, 2, 139, [10, 637, 639, 1, 105, 640]) :: (89, 4, 0, 0, 1, 0, []) :: (90, 4, 0, 5, 2, 0, []) :: (92, 2, 0, 3, 1, 0, []) :: (93, 2, 0, 4, 2, 0, []) :: (95, 32, 0, 5, 4, 333, [10, 1360, 1362, 39, 105, 1363]) :: (98, 33, 0, 1, 0, 0, []) :: []
def kX10_match_64 : List mIn := (64, 4, 0, 5, 2, 0, []) :: (66, 24, 0, 8, 1, 325, [1495]) :: (69, 2, 0, 3, 1, 0, []) :: (70, 19, 0, 3, 84, 0, []) :: (73, 35, 0, 3, 328, 330, [332, 1, 1344, 130]) :: kX10_match_84
def kX10_match_27 : List mIn := (27, 2, 0, 3, 1, 0, []) :: (28, 0, 1, 0, 0, 0, []) :: (29, 0, 6, 1, 0, 0, []) :: (31, 32, 1, 2, 3, 175, [1017, 1018, 105, 1019]) :: (34, 2, 0, 4, 2, 0, []) :: (36, 0, 0, 0, 0, 0, []) :: (37, 2, 0, 3, 1, 0, []) :: (38, 0, 1, 0, 0, 0, []) :: (39, 9, 0, 1, 0, 0, []) :: (40, 32, 1, 2, 3, 175, [1017, 1018, 105, 1019]) :: (43, 4, 0, 5, 2, 0, []) :: (45, 0, 0, 0, 0, 0, []) :: (46, 2, 0, 3, 1, 0, []) :: (47, 32, 0, 3, 3, 319, [8, 1338, 1339, 1340, 131, 1341]) :: (50, 20, 0, 1, 64, 0, []) :: (53, 35, 0, 1, 97, 323, [101, 1, 743, 120]) :: kX10_match_64
def kX10_match_0 : List mIn := (0, 2, 0, 1, 1, 0, []) :: (1, 32, 1, 0, 1, 126, [964, 965, 105, 966]) :: (4, 4, 0, 0, 1, 0, []) :: (5, 2, 0, 2, 1, 0, []) :: (6, 32, 0, 1, 2, 310, [10, 1332, 1334, 38, 105, 1335]) :: (9, 7, 0, 5, 2, 0, []) :: (11, 4, 0, 5, 2, 0, []) :: (13, 23, 0, 1, 27, 0, []) :: (16, 35, 0, 2, 314, 316, [318, 1, 1120, 128]) :: kX10_match_27
def kX10_match : List mIn := kX10_match_0
def TX10_match : Nat → mCal := fun a => match a with
  | 0 => calX10_needBall
  | 1 => calX10_trayAt
  | 2 => calX10_needNumber
  | 3 => calX8_holdsOnly
  | 4 => calX10_lay
  | 5 => calX10_bestPlace
  | _ => (yX10_match, cX10_match, 6, (some .int), (0, 0, 0, 0))
def calX10_match : mCal := (yX10_match, cX10_match, 6, (some .int), (7, 156, 5, 30))
def cutX10_match : Nat → Option (List Bool) := fun t => mLk t []
theorem okX10_match : mOK (yX10_match.cls, cX10_match, TX10_match, (some .int), (7, 156, 5, 30), 6, mAcf [(1, 1), (6, 1), (31, 1), (40, 1)], mAcf [(1, 6), (6, 6), (31, 6), (40, 6)]) kX10_match = true := by decide +kernel
set_option maxRecDepth 100000 in
theorem sfxX10_match_27 : mSfx 27 kX10_match = kX10_match_27 := rfl
theorem cutX10_match_27 : cutX10_match 27 = none := by decide
set_option maxRecDepth 100000 in
theorem sfxX10_match_64 : mSfx 64 kX10_match = kX10_match_64 := rfl
theorem cutX10_match_64 : cutX10_match 64 = none := by decide
set_option maxRecDepth 100000 in
theorem sfxX10_match_84 : mSfx 84 kX10_match = kX10_match_84 := rfl
theorem cutX10_match_84 : cutX10_match 84 = none := by decide
def kX10_changeBy_0 : List mIn := (0, 4, 0, 0, 1, 0, []) :: (1, 24, 0, 10, 0, 28, [541]) :: (4, 24, 0, 7, 1, 21, [298]) :: (7, 24, 0, 6, 0, 191, [236]) :: (10, 4, 0, 0, 1, 0, []) :: (11, 24, 0, 10, 8, 73, [549]) :: (14, 32, 1, 0, 2, 474, [1364, 941, 105, 942]) :: (17, 4, 0, 0, 1, 0, []) :: (18, 24, 0, 10, 8, 73, [549]) :: (21, 2, 0, 1, 1, 0, []) :: (22, 2, 0, 2, 1, 0, []) :: (23, 27, 0, 20, 0, 0, []) :: (24, 4, 0, 0, 1, 0, []) :: (25, 24, 0, 10, 5, 36, [546]) :: (28, 4, 0, 0, 1, 0, []) :: (29, 24, 0, 10, 8, 73, [549]) :: (32, 32, 0, 1, 2, 225, [9, 667, 668, 669, 112, 670]) :: (35, 4, 0, 0, 1, 0, []) :: (36, 24, 0, 10, 5, 36, [546]) :: (39, 4, 0, 0, 1, 0, []) :: (40, 24, 0, 10, 0, 28, [541]) :: (43, 24, 0, 7, 1, 21, [298]) :: (46, 24, 0, 6, 0, 191, [236]) :: (49, 32, 0, 1, 2, 225, [9, 667, 668, 669, 112, 670]) :: (52, 11, 0, 1, 0, 0, []) :: (53, 33, 0, 2, 0, 0, []) :: []
def kX10_changeBy : List mIn := kX10_changeBy_0
def TX10_changeBy : Nat → mCal := fun a => match a with
  | 0 => calX10_copyRow
  | 1 => calX9_meanTop
  | _ => (yX10_changeBy, cX10_changeBy, 3, (some .long), (0, 0, 0, 0))
def calX10_changeBy : mCal := (yX10_changeBy, cX10_changeBy, 3, (some .long), (5, 127, 0, 0))
def cutX10_changeBy : Nat → Option (List Bool) := fun t => mLk t []
theorem okX10_changeBy : mOK (yX10_changeBy.cls, cX10_changeBy, TX10_changeBy, (some .long), (5, 127, 0, 0), 3, mAcf [], mAcf []) kX10_changeBy = true := by decide +kernel
def kX10_worth_0 : List mIn := (0, 2, 0, 1, 1, 0, []) :: (1, 32, 1, 0, 1, 172, [1013, 1014, 105, 1015]) :: (4, 2, 0, 2, 1, 0, []) :: (5, 32, 1, 1, 1, 126, [964, 965, 105, 966]) :: (8, 4, 0, 0, 1, 0, []) :: (9, 2, 0, 1, 1, 0, []) :: (10, 32, 0, 2, 2, 244, [10, 1116, 1118, 20, 105, 1119]) :: (13, 4, 0, 0, 1, 0, []) :: (14, 2, 0, 2, 1, 0, []) :: (15, 32, 0, 3, 2, 139, [10, 637, 639, 1, 105, 640]) :: (18, 4, 0, 0, 1, 0, []) :: (19, 4, 0, 0, 1, 0, []) :: (20, 2, 0, 1, 1, 0, []) :: (21, 0, (-1), 0, 0, 0, []) :: (22, 32, 0, 4, 3, 337, [10, 1384, 1386, 43, 105, 1387]) :: (25, 4, 0, 0, 1, 0, []) :: (26, 24, 0, 10, 4, 32, [545]) :: (29, 32, 0, 5, 1, 229, [0, 1096, 1097, 1098, 111, 1099]) :: (32, 32, 0, 6, 3, 233, [10, 1101, 1103, 19, 105, 1104]) :: (35, 33, 0, 4, 0, 0, []) :: []
def kX10_worth : List mIn := kX10_worth_0
def TX10_worth : Nat → mCal := fun a => match a with
  | 0 => calX10_needFielder
  | 1 => calX10_needBall
  | 2 => calX10_needThere
  | 3 => calX10_lay
  | 4 => calX10_changeBy
  | 5 => calX0_meanBase
  | 6 => calX10_tell
  | _ => (yX10_worth, cX10_worth, 3, (some .boolean), (0, 0, 0, 0))
def calX10_worth : mCal := (yX10_worth, cX10_worth, 3, (some .boolean), (7, 149, 3, 18))
def cutX10_worth : Nat → Option (List Bool) := fun t => mLk t []
theorem okX10_worth : mOK (yX10_worth.cls, cX10_worth, TX10_worth, (some .boolean), (7, 149, 3, 18), 3, mAcf [(1, 1), (5, 1), (10, 1)], mAcf [(1, 6), (5, 6), (10, 6)]) kX10_worth = true := by decide +kernel
def kX10_brave_0 : List mIn := (0, 2, 0, 1, 1, 0, []) :: (1, 32, 1, 0, 1, 172, [1013, 1014, 105, 1015]) :: (4, 2, 0, 2, 1, 0, []) :: (5, 32, 1, 1, 1, 126, [964, 965, 105, 966]) :: (8, 4, 0, 0, 1, 0, []) :: (9, 2, 0, 1, 1, 0, []) :: (10, 32, 0, 2, 2, 244, [10, 1116, 1118, 20, 105, 1119]) :: (13, 2, 0, 3, 1, 0, []) :: (14, 0, 0, 0, 0, 0, []) :: (15, 0, 288, 2, 0, 0, []) :: (18, 32, 1, 3, 3, 175, [1017, 1018, 105, 1019]) :: (21, 4, 0, 0, 1, 0, []) :: (22, 2, 0, 2, 1, 0, []) :: (23, 32, 0, 4, 2, 139, [10, 637, 639, 1, 105, 640]) :: (26, 4, 0, 0, 1, 0, []) :: (27, 4, 0, 0, 1, 0, []) :: (28, 2, 0, 1, 1, 0, []) :: (29, 2, 0, 3, 1, 0, []) :: (30, 32, 0, 5, 3, 337, [10, 1384, 1386, 43, 105, 1387]) :: (33, 4, 0, 0, 1, 0, []) :: (34, 24, 0, 10, 4, 32, [545]) :: (37, 32, 0, 6, 1, 229, [0, 1096, 1097, 1098, 111, 1099]) :: (40, 32, 0, 7, 3, 233, [10, 1101, 1103, 19, 105, 1104]) :: (43, 33, 0, 4, 0, 0, []) :: []
def kX10_brave : List mIn := kX10_brave_0
def TX10_brave : Nat → mCal := fun a => match a with
  | 0 => calX10_needFielder
  | 1 => calX10_needBall
  | 2 => calX10_needThere
  | 3 => calX10_needNumber
  | 4 => calX10_lay
  | 5 => calX10_changeBy
  | 6 => calX0_meanBase
  | 7 => calX10_tell
  | _ => (yX10_brave, cX10_brave, 4, (some .boolean), (0, 0, 0, 0))
def calX10_brave : mCal := (yX10_brave, cX10_brave, 4, (some .boolean), (7, 149, 4, 24))
def cutX10_brave : Nat → Option (List Bool) := fun t => mLk t []
theorem okX10_brave : mOK (yX10_brave.cls, cX10_brave, TX10_brave, (some .boolean), (7, 149, 4, 24), 4, mAcf [(1, 1), (5, 1), (10, 1), (18, 1)], mAcf [(1, 6), (5, 6), (10, 6), (18, 6)]) kX10_brave = true := by decide +kernel
def kX10_both_0 : List mIn := (0, 2, 0, 1, 1, 0, []) :: (1, 32, 1, 0, 1, 126, [964, 965, 105, 966]) :: (4, 2, 0, 2, 1, 0, []) :: (5, 0, 0, 0, 0, 0, []) :: (6, 0, 100, 1, 0, 0, []) :: (8, 32, 1, 1, 3, 175, [1017, 1018, 105, 1019]) :: (11, 4, 0, 0, 1, 0, []) :: (12, 24, 0, 10, 4, 32, [545]) :: (15, 4, 0, 0, 1, 0, []) :: (16, 24, 0, 10, 0, 28, [541]) :: (19, 24, 0, 7, 0, 17, [296]) :: (22, 2, 0, 1, 1, 0, []) :: (23, 0, 4, 0, 0, 0, []) :: (24, 0, 0, 0, 0, 0, []) :: (25, 32, 0, 2, 5, 340, [0, 641, 642, 643, 111, 644]) :: (28, 4, 0, 0, 1, 0, []) :: (29, 24, 0, 10, 5, 36, [546]) :: (32, 4, 0, 0, 1, 0, []) :: (33, 24, 0, 10, 0, 28, [541]) :: (36, 24, 0, 7, 1, 21, [298]) :: (39, 24, 0, 6, 0, 191, [236]) :: (42, 32, 0, 3, 2, 225, [9, 667, 668, 669, 112, 670]) :: (45, 6, 0, 3, 1, 0, []) :: (46, 4, 0, 0, 1, 0, []) :: (47, 24, 0, 10, 4, 32, [545]) :: (50, 4, 0, 0, 1, 0, []) :: (51, 24, 0, 10, 0, 28, [541]) :: (54, 24, 0, 7, 0, 17, [296]) :: (57, 2, 0, 1, 1, 0, []) :: (58, 0, 0, 0, 0, 0, []) :: (59, 0, 0, 0, 0, 0, []) :: (60, 32, 0, 2, 5, 340, [0, 641, 642, 643, 111, 644]) :: (63, 4, 0, 0, 1, 0, []) :: (64, 24, 0, 10, 5, 36, [546]) :: (67, 4, 0, 0, 1, 0, []) :: (68, 24, 0, 10, 0, 28, [541]) :: (71, 24, 0, 7, 1, 21, [298]) :: (74, 24, 0, 6, 0, 191, [236]) :: (77, 32, 0, 3, 2, 225, [9, 667, 668, 669, 112, 670]) :: (80, 6, 0, 5, 2, 0, []) :: (82, 4, 0, 0, 1, 0, []) :: (83, 2, 0, 2, 1, 0, []) :: (84, 13, 0, 0, 0, 0, []) :: (85, 3, 0, 3, 1, 0, []) :: (86, 11, 0, 2, 0, 0, []) :: (87, 0, 100, 1, 0, 0, []) :: (89, 2, 0, 2, 1, 0, []) :: (90, 9, 0, 1, 0, 0, []) :: (91, 13, 0, 0, 0, 0, []) :: (92, 3, 0, 5, 2, 0, []) :: (94, 11, 0, 2, 0, 0, []) :: (95, 11, 0, 0, 0, 0, []) :: (96, 1, 100, 1, 294, 1289, []) :: (99, 4, 0, 0, 1, 0, []) :: (100, 24, 0, 10, 4, 32, [545]) :: (103, 32, 0, 4, 1, 229, [0, 1096, 1097, 1098, 111, 1099]) :: (106, 11, 0, 2, 0, 0, []) :: (107, 32, 0, 5, 3, 233, [10, 1101, 1103, 19, 105, 1104]) :: (110, 33, 0, 4, 0, 0, []) :: []
def kX10_both : List mIn := kX10_both_0
def TX10_both : Nat → mCal := fun a => match a with
  | 0 => calX10_needBall
  | 1 => calX10_needNumber
  | 2 => calX0_lay
  | 3 => calX9_meanTop
  | 4 => calX0_meanBase
  | 5 => calX10_tell
  | _ => (yX10_both, cX10_both, 7, (some .boolean), (0, 0, 0, 0))
def calX10_both : mCal := (yX10_both, cX10_both, 7, (some .boolean), (7, 127, 2, 12))
def cutX10_both : Nat → Option (List Bool) := fun t => mLk t []
theorem okX10_both : mOK (yX10_both.cls, cX10_both, TX10_both, (some .boolean), (7, 127, 2, 12), 7, mAcf [(1, 1), (8, 1)], mAcf [(1, 6), (8, 6)]) kX10_both = true := by decide +kernel
