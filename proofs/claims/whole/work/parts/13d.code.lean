def kX10_book_0 : List mIn := (0, 4, 0, 0, 1, 0, []) :: (1, 2, 0, 1, 1, 0, []) :: (2, 2, 0, 2, 1, 0, []) :: (3, 32, 0, 0, 3, 133, [10, 991, 993, 17, 105, 994]) :: (6, 2, 0, 3, 1, 0, []) :: (7, 0, 0, 0, 0, 0, []) :: (8, 0, 9999, 2, 0, 0, []) :: (11, 32, 1, 1, 3, 175, [1017, 1018, 105, 1019]) :: (14, 2, 0, 1, 1, 0, []) :: (15, 0, 8, 1, 0, 0, []) :: (17, 9, 0, 2, 0, 0, []) :: (18, 2, 0, 2, 1, 0, []) :: (19, 9, 0, 0, 0, 0, []) :: (20, 5, 0, 4, 2, 0, []) :: (22, 4, 0, 0, 1, 0, []) :: (23, 24, 0, 10, 0, 28, [541]) :: (26, 24, 0, 7, 2, 157, [300]) :: (29, 24, 0, 1, 3, 161, [281]) :: (32, 2, 0, 4, 2, 0, []) :: (34, 0, 9999, 2, 0, 0, []) :: (37, 4, 0, 0, 1, 0, []) :: (38, 24, 0, 10, 0, 28, [541]) :: (41, 24, 0, 7, 2, 157, [300]) :: (44, 24, 0, 1, 3, 161, [281]) :: (47, 2, 0, 4, 2, 0, []) :: (49, 26, 0, 20, 0, 0, []) :: (50, 2, 0, 3, 1, 0, []) :: (51, 9, 0, 0, 0, 0, []) :: (52, 40, 0, 1, 0, 343, [943, 709, 121, 710]) :: (55, 27, 0, 20, 0, 0, []) :: (56, 4, 0, 0, 1, 0, []) :: (57, 24, 0, 10, 0, 28, [541]) :: (60, 24, 0, 7, 2, 157, [300]) :: (63, 24, 0, 1, 3, 161, [281]) :: (66, 2, 0, 4, 2, 0, []) :: (68, 26, 0, 20, 0, 0, []) :: (69, 33, 0, 1, 0, 0, []) :: []
def kX10_book : List mIn := kX10_book_0
def TX10_book : Nat → mCal := fun a => match a with
  | 0 => calX10_needHit
  | 1 => calX10_needNumber
  | _ => (yX10_book, cX10_book, 5, (some .int), (0, 0, 0, 0))
def calX10_book : mCal := (yX10_book, cX10_book, 5, (some .int), (8, 132, 3, 18))
def cutX10_book : Nat → Option (List Bool) := fun t => mLk t []
theorem okX10_book : mOK (yX10_book.cls, cX10_book, TX10_book, (some .int), (8, 132, 3, 18), 5, mAcf [(3, 2), (11, 1)], mAcf [(3, 12), (11, 6)]) kX10_book = true := by decide +kernel
def kX10_seenOf_50 : List mIn := (50, 2, 0, 2, 1, 0, []) :: (51, 33, 0, 1, 0, 0, []) :: []
def kX10_seenOf_17 : List mIn := (17, 2, 0, 4, 2, 0, []) :: (19, 2, 0, 3, 1, 0, []) :: (20, 19, 0, 3, 50, 0, []) :: (23, 2, 0, 2, 1, 0, []) :: (24, 4, 0, 0, 1, 0, []) :: (25, 24, 0, 10, 0, 28, [541]) :: (28, 24, 0, 7, 2, 157, [300]) :: (31, 24, 0, 1, 3, 161, [281]) :: (34, 2, 0, 1, 1, 0, []) :: (35, 0, 8, 1, 0, 0, []) :: (37, 9, 0, 2, 0, 0, []) :: (38, 2, 0, 4, 2, 0, []) :: (40, 9, 0, 0, 0, 0, []) :: (41, 26, 0, 20, 0, 0, []) :: (42, 9, 0, 0, 0, 0, []) :: (43, 5, 0, 2, 1, 0, []) :: (44, 8, 1, 4, 0, 0, []) :: (47, 22, 0, 0, 17, 0, []) :: kX10_seenOf_50
def kX10_seenOf_0 : List mIn := (0, 0, 0, 0, 0, 0, []) :: (1, 5, 0, 2, 1, 0, []) :: (2, 4, 0, 0, 1, 0, []) :: (3, 24, 0, 10, 0, 28, [541]) :: (6, 24, 0, 7, 0, 17, [296]) :: (9, 2, 0, 1, 1, 0, []) :: (10, 32, 0, 0, 2, 129, [3, 983, 646, 647, 107, 648]) :: (13, 5, 0, 3, 1, 0, []) :: (14, 0, 0, 0, 0, 0, []) :: (15, 5, 0, 4, 2, 0, []) :: (17, 43, 0, 0, 17, 0, []) :: kX10_seenOf_17
def kX10_seenOf : List mIn := kX10_seenOf_0
def TX10_seenOf : Nat → mCal := fun a => match a with
  | 0 => calX3_hitsOf
  | _ => (yX10_seenOf, cX10_seenOf, 5, (some .int), (0, 0, 0, 0))
def calX10_seenOf : mCal := (yX10_seenOf, cX10_seenOf, 5, (some .int), (1, 21, 0, 0))
def cutX10_seenOf : Nat → Option (List Bool) := fun t => mLk t [(17, [true, true, true, true, true])]
theorem okX10_seenOf : mOK (yX10_seenOf.cls, cX10_seenOf, TX10_seenOf, (some .int), (1, 21, 0, 0), 5, mAcf [], mAcf []) kX10_seenOf = true := by decide +kernel
set_option maxRecDepth 100000 in
theorem sfxX10_seenOf_17 : mSfx 17 kX10_seenOf = kX10_seenOf_17 := rfl
theorem cutX10_seenOf_17 : cutX10_seenOf 17 = some [true, true, true, true, true] := by decide
set_option maxRecDepth 100000 in
theorem sfxX10_seenOf_50 : mSfx 50 kX10_seenOf = kX10_seenOf_50 := rfl
theorem cutX10_seenOf_50 : cutX10_seenOf 50 = none := by decide
def kX10_learn_72 : List mIn := (72, 4, 0, 0, 1, 0, []) :: (73, 2, 0, 1, 1, 0, []) :: (74, 32, 0, 2, 2, 352, [10, 1417, 1419, 44, 105, 1420]) :: (77, 33, 0, 1, 0, 0, []) :: []
def kX10_learn_18 : List mIn := (18, 2, 0, 3, 1, 0, []) :: (19, 2, 0, 2, 1, 0, []) :: (20, 19, 0, 3, 72, 0, []) :: (23, 2, 0, 1, 1, 0, []) :: (24, 0, 8, 1, 0, 0, []) :: (26, 9, 0, 2, 0, 0, []) :: (27, 2, 0, 3, 1, 0, []) :: (28, 9, 0, 0, 0, 0, []) :: (29, 5, 0, 4, 2, 0, []) :: (31, 4, 0, 0, 1, 0, []) :: (32, 24, 0, 10, 0, 28, [541]) :: (35, 24, 0, 7, 0, 17, [296]) :: (38, 24, 0, 3, 11, 348, [200]) :: (41, 2, 0, 4, 2, 0, []) :: (43, 0, 1, 0, 0, 0, []) :: (44, 0, 99, 1, 0, 0, []) :: (46, 4, 0, 0, 1, 0, []) :: (47, 24, 0, 10, 0, 28, [541]) :: (50, 24, 0, 7, 2, 157, [300]) :: (53, 24, 0, 1, 3, 161, [281]) :: (56, 2, 0, 4, 2, 0, []) :: (58, 26, 0, 20, 0, 0, []) :: (59, 40, 0, 1, 0, 343, [943, 709, 121, 710]) :: (62, 40, 0, 0, 0, 349, [1416, 656, 121, 657]) :: (65, 27, 0, 20, 0, 0, []) :: (66, 8, 1, 3, 0, 0, []) :: (69, 22, 0, 0, 18, 0, []) :: kX10_learn_72
def kX10_learn_0 : List mIn := (0, 2, 0, 1, 1, 0, []) :: (1, 32, 1, 0, 1, 126, [964, 965, 105, 966]) :: (4, 4, 0, 0, 1, 0, []) :: (5, 24, 0, 10, 0, 28, [541]) :: (8, 24, 0, 7, 0, 17, [296]) :: (11, 2, 0, 1, 1, 0, []) :: (12, 32, 0, 1, 2, 129, [3, 983, 646, 647, 107, 648]) :: (15, 5, 0, 2, 1, 0, []) :: (16, 0, 0, 0, 0, 0, []) :: (17, 5, 0, 3, 1, 0, []) :: (18, 43, 0, 0, 18, 0, []) :: kX10_learn_18
def kX10_learn : List mIn := kX10_learn_0
def TX10_learn : Nat → mCal := fun a => match a with
  | 0 => calX10_needBall
  | 1 => calX3_hitsOf
  | 2 => calX10_seenOf
  | _ => (yX10_learn, cX10_learn, 5, (some .int), (0, 0, 0, 0))
def calX10_learn : mCal := (yX10_learn, cX10_learn, 5, (some .int), (7, 110, 1, 6))
def cutX10_learn : Nat → Option (List Bool) := fun t => mLk t [(18, [true, true, true, true, false])]
theorem okX10_learn : mOK (yX10_learn.cls, cX10_learn, TX10_learn, (some .int), (7, 110, 1, 6), 5, mAcf [(1, 1)], mAcf [(1, 6)]) kX10_learn = true := by decide +kernel
set_option maxRecDepth 100000 in
theorem sfxX10_learn_18 : mSfx 18 kX10_learn = kX10_learn_18 := rfl
theorem cutX10_learn_18 : cutX10_learn 18 = some [true, true, true, true, false] := by decide
set_option maxRecDepth 100000 in
theorem sfxX10_learn_72 : mSfx 72 kX10_learn = kX10_learn_72 := rfl
theorem cutX10_learn_72 : cutX10_learn 72 = none := by decide
def kX10_leeway_32 : List mIn := (32, 2, 0, 1, 1, 0, []) :: (33, 0, 1, 0, 0, 0, []) :: (34, 9, 0, 0, 0, 0, []) :: (35, 33, 0, 1, 0, 0, []) :: []
def kX10_leeway_25 : List mIn := (25, 2, 0, 2, 1, 0, []) :: (26, 0, 1, 0, 0, 0, []) :: (27, 9, 0, 7, 0, 0, []) :: (28, 5, 0, 2, 1, 0, []) :: (29, 22, 0, 0, 6, 0, []) :: kX10_leeway_32
def kX10_leeway_6 : List mIn := (6, 2, 0, 2, 1, 0, []) :: (7, 20, 0, 5, 32, 0, []) :: (10, 2, 0, 1, 1, 0, []) :: (11, 2, 0, 2, 1, 0, []) :: (12, 9, 0, 0, 0, 0, []) :: (13, 2, 0, 1, 1, 0, []) :: (14, 2, 0, 2, 1, 0, []) :: (15, 9, 0, 0, 0, 0, []) :: (16, 9, 0, 2, 0, 0, []) :: (17, 2, 0, 0, 1, 0, []) :: (18, 19, 0, 4, 25, 0, []) :: (21, 2, 0, 1, 1, 0, []) :: (22, 2, 0, 2, 1, 0, []) :: (23, 9, 0, 0, 0, 0, []) :: (24, 5, 0, 1, 1, 0, []) :: kX10_leeway_25
def kX10_leeway_0 : List mIn := (0, 0, 0, 0, 0, 0, []) :: (1, 5, 0, 1, 1, 0, []) :: (2, 0, 512, 2, 0, 0, []) :: (5, 5, 0, 2, 1, 0, []) :: (6, 43, 0, 0, 6, 0, []) :: kX10_leeway_6
def kX10_leeway : List mIn := kX10_leeway_0
def TX10_leeway : Nat → mCal := fun a => match a with
  | _ => (yX10_leeway, cX10_leeway, 3, (some .int), (0, 0, 0, 0))
def calX10_leeway : mCal := (yX10_leeway, cX10_leeway, 3, (some .int), (0, 0, 0, 0))
def cutX10_leeway : Nat → Option (List Bool) := fun t => mLk t [(6, [true, true, true])]
theorem okX10_leeway : mOK (yX10_leeway.cls, cX10_leeway, TX10_leeway, (some .int), (0, 0, 0, 0), 3, mAcf [], mAcf []) kX10_leeway = true := by decide +kernel
set_option maxRecDepth 100000 in
theorem sfxX10_leeway_6 : mSfx 6 kX10_leeway = kX10_leeway_6 := rfl
theorem cutX10_leeway_6 : cutX10_leeway 6 = some [true, true, true] := by decide
set_option maxRecDepth 100000 in
theorem sfxX10_leeway_25 : mSfx 25 kX10_leeway = kX10_leeway_25 := rfl
theorem cutX10_leeway_25 : cutX10_leeway 25 = none := by decide
set_option maxRecDepth 100000 in
theorem sfxX10_leeway_32 : mSfx 32 kX10_leeway = kX10_leeway_32 := rfl
theorem cutX10_leeway_32 : cutX10_leeway 32 = none := by decide
def kX10_ends_55 : List mIn := (55, 5, 0, 6, 2, 0, []) :: (57, 4, 0, 0, 1, 0, []) :: (58, 0, 0, 0, 0, 0, []) :: (59, 2, 0, 5, 2, 0, []) :: (61, 2, 0, 6, 2, 0, []) :: (63, 40, 0, 1, 0, 343, [943, 709, 121, 710]) :: (66, 40, 0, 0, 0, 349, [1416, 656, 121, 657]) :: (69, 13, 0, 0, 0, 0, []) :: (70, 2, 0, 5, 2, 0, []) :: (72, 13, 0, 0, 0, 0, []) :: (73, 32, 0, 3, 3, 233, [10, 1101, 1103, 19, 105, 1104]) :: (76, 33, 0, 4, 0, 0, []) :: []
def kX10_ends_47 : List mIn := (47, 2, 0, 4, 2, 0, []) :: (49, 2, 0, 4, 2, 0, []) :: (51, 32, 1, 2, 1, 355, [1428, 1429, 105, 1430]) :: (54, 9, 0, 1, 0, 0, []) :: kX10_ends_55
def kX10_ends_0 : List mIn := (0, 4, 0, 0, 1, 0, []) :: (1, 2, 0, 1, 1, 0, []) :: (2, 2, 0, 2, 1, 0, []) :: (3, 32, 0, 0, 3, 133, [10, 991, 993, 17, 105, 994]) :: (6, 4, 0, 0, 1, 0, []) :: (7, 24, 0, 10, 0, 28, [541]) :: (10, 24, 0, 7, 2, 157, [300]) :: (13, 24, 0, 1, 3, 161, [281]) :: (16, 2, 0, 1, 1, 0, []) :: (17, 0, 8, 1, 0, 0, []) :: (19, 9, 0, 2, 0, 0, []) :: (20, 2, 0, 2, 1, 0, []) :: (21, 9, 0, 0, 0, 0, []) :: (22, 26, 0, 20, 0, 0, []) :: (23, 5, 0, 4, 2, 0, []) :: (25, 4, 0, 0, 1, 0, []) :: (26, 2, 0, 1, 1, 0, []) :: (27, 32, 0, 1, 2, 352, [10, 1417, 1419, 44, 105, 1420]) :: (30, 5, 0, 5, 2, 0, []) :: (32, 2, 0, 3, 1, 0, []) :: (33, 20, 0, 0, 47, 0, []) :: (36, 2, 0, 4, 2, 0, []) :: (38, 2, 0, 4, 2, 0, []) :: (40, 32, 1, 2, 1, 355, [1428, 1429, 105, 1430]) :: (43, 9, 0, 0, 0, 0, []) :: (44, 22, 0, 0, 55, 0, []) :: kX10_ends_47
def kX10_ends : List mIn := kX10_ends_0
def TX10_ends : Nat → mCal := fun a => match a with
  | 0 => calX10_needHit
  | 1 => calX10_seenOf
  | 2 => calX10_leeway
  | 3 => calX10_tell
  | _ => (yX10_ends, cX10_ends, 7, (some .boolean), (0, 0, 0, 0))
def calX10_ends : mCal := (yX10_ends, cX10_ends, 7, (some .boolean), (8, 132, 2, 12))
def cutX10_ends : Nat → Option (List Bool) := fun t => mLk t []
theorem okX10_ends : mOK (yX10_ends.cls, cX10_ends, TX10_ends, (some .boolean), (8, 132, 2, 12), 7, mAcf [(3, 2)], mAcf [(3, 12)]) kX10_ends = true := by decide +kernel
set_option maxRecDepth 100000 in
theorem sfxX10_ends_47 : mSfx 47 kX10_ends = kX10_ends_47 := rfl
theorem cutX10_ends_47 : cutX10_ends 47 = none := by decide
set_option maxRecDepth 100000 in
theorem sfxX10_ends_55 : mSfx 55 kX10_ends = kX10_ends_55 := rfl
theorem cutX10_ends_55 : cutX10_ends 55 = none := by decide
def kX10_enough_92 : List mIn := (92, 0, (-1), 0, 0, 0, []) :: (93, 33, 0, 1, 0, 0, []) :: []
def kX10_enough_86 : List mIn := (86, 8, 1, 6, 0, 0, []) :: (89, 22, 0, 0, 49, 0, []) :: kX10_enough_92
def kX10_enough_49 : List mIn := (49, 2, 0, 6, 2, 0, []) :: (51, 0, 100, 1, 0, 0, []) :: (53, 19, 0, 4, 92, 0, []) :: (56, 1, 200, 1, 358, 1438, []) :: (59, 2, 0, 6, 2, 0, []) :: (61, 2, 0, 4, 2, 0, []) :: (63, 9, 0, 2, 0, 0, []) :: (64, 32, 1, 3, 1, 355, [1428, 1429, 105, 1430]) :: (67, 13, 0, 0, 0, 0, []) :: (68, 11, 0, 2, 0, 0, []) :: (69, 2, 0, 3, 1, 0, []) :: (70, 13, 0, 0, 0, 0, []) :: (71, 2, 0, 6, 2, 0, []) :: (73, 13, 0, 0, 0, 0, []) :: (74, 11, 0, 2, 0, 0, []) :: (75, 2, 0, 5, 2, 0, []) :: (77, 13, 0, 0, 0, 0, []) :: (78, 11, 0, 2, 0, 0, []) :: (79, 21, 0, 4, 86, 0, []) :: (83, 2, 0, 6, 2, 0, []) :: (85, 33, 0, 1, 0, 0, []) :: kX10_enough_86
def kX10_enough_46 : List mIn := (46, 0, 1, 0, 0, 0, []) :: (47, 5, 0, 6, 2, 0, []) :: (49, 43, 0, 0, 49, 0, []) :: kX10_enough_49
def kX10_enough_0 : List mIn := (0, 4, 0, 0, 1, 0, []) :: (1, 2, 0, 1, 1, 0, []) :: (2, 2, 0, 2, 1, 0, []) :: (3, 32, 0, 0, 3, 133, [10, 991, 993, 17, 105, 994]) :: (6, 2, 0, 3, 1, 0, []) :: (7, 0, 1, 0, 0, 0, []) :: (8, 0, 100, 1, 0, 0, []) :: (10, 32, 1, 1, 3, 175, [1017, 1018, 105, 1019]) :: (13, 4, 0, 0, 1, 0, []) :: (14, 24, 0, 10, 0, 28, [541]) :: (17, 24, 0, 7, 2, 157, [300]) :: (20, 24, 0, 1, 3, 161, [281]) :: (23, 2, 0, 1, 1, 0, []) :: (24, 0, 8, 1, 0, 0, []) :: (26, 9, 0, 2, 0, 0, []) :: (27, 2, 0, 2, 1, 0, []) :: (28, 9, 0, 0, 0, 0, []) :: (29, 26, 0, 20, 0, 0, []) :: (30, 5, 0, 4, 2, 0, []) :: (32, 4, 0, 0, 1, 0, []) :: (33, 2, 0, 1, 1, 0, []) :: (34, 32, 0, 2, 2, 352, [10, 1417, 1419, 44, 105, 1420]) :: (37, 5, 0, 5, 2, 0, []) :: (39, 2, 0, 5, 2, 0, []) :: (41, 20, 0, 1, 46, 0, []) :: (44, 0, (-1), 0, 0, 0, []) :: (45, 33, 0, 1, 0, 0, []) :: kX10_enough_46
def kX10_enough : List mIn := kX10_enough_0
def TX10_enough : Nat → mCal := fun a => match a with
  | 0 => calX10_needHit
  | 1 => calX10_needNumber
  | 2 => calX10_seenOf
  | 3 => calX10_leeway
  | _ => (yX10_enough, cX10_enough, 7, (some .int), (0, 0, 0, 0))
def calX10_enough : mCal := (yX10_enough, cX10_enough, 7, (some .int), (8, 132, 3, 18))
def cutX10_enough : Nat → Option (List Bool) := fun t => mLk t [(49, [false, false, false, true, true, true, true])]
theorem okX10_enough : mOK (yX10_enough.cls, cX10_enough, TX10_enough, (some .int), (8, 132, 3, 18), 7, mAcf [(3, 2), (10, 1)], mAcf [(3, 12), (10, 6)]) kX10_enough = true := by decide +kernel
set_option maxRecDepth 100000 in
theorem sfxX10_enough_46 : mSfx 46 kX10_enough = kX10_enough_46 := rfl
theorem cutX10_enough_46 : cutX10_enough 46 = none := by decide
set_option maxRecDepth 100000 in
theorem sfxX10_enough_49 : mSfx 49 kX10_enough = kX10_enough_49 := rfl
theorem cutX10_enough_49 : cutX10_enough 49 = some [false, false, false, true, true, true, true] := by decide
set_option maxRecDepth 100000 in
theorem sfxX10_enough_86 : mSfx 86 kX10_enough = kX10_enough_86 := rfl
theorem cutX10_enough_86 : cutX10_enough 86 = none := by decide
set_option maxRecDepth 100000 in
theorem sfxX10_enough_92 : mSfx 92 kX10_enough = kX10_enough_92 := rfl
theorem cutX10_enough_92 : cutX10_enough 92 = none := by decide
def kX10_chase_0 : List mIn := (0, 4, 0, 0, 1, 0, []) :: (1, 24, 0, 10, 0, 28, [541]) :: (4, 24, 0, 7, 2, 157, [300]) :: (7, 24, 0, 1, 2, 360, [279]) :: (10, 5, 0, 2, 1, 0, []) :: (11, 4, 0, 0, 1, 0, []) :: (12, 24, 0, 10, 0, 28, [541]) :: (15, 24, 0, 7, 2, 157, [300]) :: (18, 2, 0, 1, 1, 0, []) :: (19, 25, 0, 1, 2, 360, [279]) :: (22, 2, 0, 2, 1, 0, []) :: (23, 33, 0, 4, 0, 0, []) :: []
def kX10_chase : List mIn := kX10_chase_0
def TX10_chase : Nat → mCal := fun a => match a with
  | _ => (yX10_chase, cX10_chase, 3, (some .boolean), (0, 0, 0, 0))
def calX10_chase : mCal := (yX10_chase, cX10_chase, 3, (some .boolean), (0, 0, 0, 0))
def cutX10_chase : Nat → Option (List Bool) := fun t => mLk t []
theorem okX10_chase : mOK (yX10_chase.cls, cX10_chase, TX10_chase, (some .boolean), (0, 0, 0, 0), 3, mAcf [], mAcf []) kX10_chase = true := by decide +kernel
def kX10_draw_0 : List mIn := (0, 4, 0, 0, 1, 0, []) :: (1, 0, 1103515245, 4, 487, 1454, []) :: (4, 4, 0, 0, 1, 0, []) :: (5, 24, 0, 10, 15, 364, [556]) :: (8, 9, 0, 2, 0, 0, []) :: (9, 0, 12345, 2, 0, 0, []) :: (12, 9, 0, 0, 0, 0, []) :: (13, 25, 0, 10, 15, 364, [556]) :: (16, 4, 0, 0, 1, 0, []) :: (17, 24, 0, 10, 15, 364, [556]) :: (20, 0, 16, 1, 0, 0, []) :: (22, 9, 0, 8, 0, 0, []) :: (23, 33, 0, 1, 0, 0, []) :: []
def kX10_draw : List mIn := kX10_draw_0
def TX10_draw : Nat → mCal := fun a => match a with
  | _ => (yX10_draw, cX10_draw, 1, (some .int), (0, 0, 0, 0))
def calX10_draw : mCal := (yX10_draw, cX10_draw, 1, (some .int), (0, 0, 0, 0))
def cutX10_draw : Nat → Option (List Bool) := fun t => mLk t []
theorem okX10_draw : mOK (yX10_draw.cls, cX10_draw, TX10_draw, (some .int), (0, 0, 0, 0), 1, mAcf [], mAcf []) kX10_draw = true := by decide +kernel
def kX10_drawHit_85 : List mIn := (85, 33, 0, 1, 0, 0, []) :: []
def kX10_drawHit_84 : List mIn := (84, 0, 0, 0, 0, 0, []) :: kX10_drawHit_85
def kX10_drawHit_52 : List mIn := (52, 4, 0, 0, 1, 0, []) :: (53, 24, 0, 10, 4, 32, [545]) :: (56, 24, 0, 0, 1, 307, [319]) :: (59, 20, 0, 5, 84, 0, []) :: (62, 4, 0, 0, 1, 0, []) :: (63, 24, 0, 10, 4, 32, [545]) :: (66, 4, 0, 0, 1, 0, []) :: (67, 32, 0, 0, 1, 488, [10, 1450, 1452, 46, 105, 1453]) :: (70, 4, 0, 0, 1, 0, []) :: (71, 24, 0, 10, 4, 32, [545]) :: (74, 24, 0, 0, 1, 307, [319]) :: (77, 16, 0, 1, 0, 0, []) :: (78, 32, 0, 2, 2, 501, [0, 1459, 1460, 1461, 111, 1462]) :: (81, 22, 0, 0, 85, 0, []) :: kX10_drawHit_84
def kX10_drawHit_0 : List mIn := (0, 4, 0, 0, 1, 0, []) :: (1, 24, 0, 10, 0, 28, [541]) :: (4, 24, 0, 7, 2, 157, [300]) :: (7, 24, 0, 1, 0, 198, [275]) :: (10, 0, 1, 0, 0, 0, []) :: (11, 19, 0, 1, 52, 0, []) :: (14, 4, 0, 0, 1, 0, []) :: (15, 32, 0, 0, 1, 488, [10, 1450, 1452, 46, 105, 1453]) :: (18, 0, 100, 1, 0, 0, []) :: (20, 16, 0, 1, 0, 0, []) :: (21, 4, 0, 0, 1, 0, []) :: (22, 24, 0, 10, 0, 28, [541]) :: (25, 24, 0, 7, 2, 157, [300]) :: (28, 24, 0, 1, 1, 201, [277]) :: (31, 19, 0, 3, 52, 0, []) :: (34, 4, 0, 0, 1, 0, []) :: (35, 24, 0, 10, 5, 36, [546]) :: (38, 4, 0, 0, 1, 0, []) :: (39, 24, 0, 10, 0, 28, [541]) :: (42, 24, 0, 7, 1, 21, [298]) :: (45, 24, 0, 6, 0, 191, [236]) :: (48, 32, 0, 1, 2, 498, [9, 1455, 1456, 1457, 112, 1458]) :: (51, 33, 0, 1, 0, 0, []) :: kX10_drawHit_52
def kX10_drawHit : List mIn := kX10_drawHit_0
def TX10_drawHit : Nat → mCal := fun a => match a with
  | 0 => calX10_draw
  | 1 => calX9_dearest
  | 2 => calX0_hitAt
  | _ => (yX10_drawHit, cX10_drawHit, 1, (some .int), (0, 0, 0, 0))
def calX10_drawHit : mCal := (yX10_drawHit, cX10_drawHit, 1, (some .int), (5, 126, 0, 0))
def cutX10_drawHit : Nat → Option (List Bool) := fun t => mLk t []
theorem okX10_drawHit : mOK (yX10_drawHit.cls, cX10_drawHit, TX10_drawHit, (some .int), (5, 126, 0, 0), 1, mAcf [], mAcf []) kX10_drawHit = true := by decide +kernel
set_option maxRecDepth 100000 in
theorem sfxX10_drawHit_52 : mSfx 52 kX10_drawHit = kX10_drawHit_52 := rfl
theorem cutX10_drawHit_52 : cutX10_drawHit 52 = none := by decide
set_option maxRecDepth 100000 in
theorem sfxX10_drawHit_84 : mSfx 84 kX10_drawHit = kX10_drawHit_84 := rfl
theorem cutX10_drawHit_84 : cutX10_drawHit 84 = none := by decide
set_option maxRecDepth 100000 in
theorem sfxX10_drawHit_85 : mSfx 85 kX10_drawHit = kX10_drawHit_85 := rfl
theorem cutX10_drawHit_85 : cutX10_drawHit 85 = none := by decide
def kX10_chaseAfter_88 : List mIn := (88, 33, 0, 0, 0, 0, []) :: []
def kX10_chaseAfter_58 : List mIn := (58, 4, 0, 3, 1, 0, []) :: (59, 2, 0, 5, 2, 0, []) :: (61, 26, 0, 20, 0, 0, []) :: (62, 5, 0, 6, 2, 0, []) :: (64, 4, 0, 3, 1, 0, []) :: (65, 2, 0, 5, 2, 0, []) :: (67, 2, 0, 4, 2, 0, []) :: (69, 27, 0, 20, 0, 0, []) :: (70, 4, 0, 0, 1, 0, []) :: (71, 24, 0, 10, 5, 36, [546]) :: (74, 4, 0, 3, 1, 0, []) :: (75, 32, 0, 2, 2, 194, [9, 606, 607, 608, 112, 609]) :: (78, 0, (-1), 0, 0, 0, []) :: (79, 19, 0, 0, 88, 0, []) :: (82, 4, 0, 3, 1, 0, []) :: (83, 2, 0, 5, 2, 0, []) :: (85, 2, 0, 6, 2, 0, []) :: (87, 27, 0, 20, 0, 0, []) :: kX10_chaseAfter_88
def kX10_chaseAfter_15 : List mIn := (15, 4, 0, 0, 1, 0, []) :: (16, 24, 0, 10, 0, 28, [541]) :: (19, 24, 0, 7, 1, 21, [298]) :: (22, 24, 0, 6, 0, 191, [236]) :: (25, 7, 0, 3, 1, 0, []) :: (26, 4, 0, 0, 1, 0, []) :: (27, 24, 0, 10, 4, 32, [545]) :: (30, 2, 0, 1, 1, 0, []) :: (31, 2, 0, 2, 1, 0, []) :: (32, 32, 0, 0, 3, 504, [0, 1475, 676, 677, 111, 678]) :: (35, 5, 0, 4, 2, 0, []) :: (37, 4, 0, 0, 1, 0, []) :: (38, 24, 0, 10, 0, 28, [541]) :: (41, 24, 0, 7, 1, 21, [298]) :: (44, 2, 0, 4, 2, 0, []) :: (46, 32, 0, 1, 2, 507, [6, 1476, 1477, 1478, 109, 1479]) :: (49, 5, 0, 5, 2, 0, []) :: (51, 2, 0, 5, 2, 0, []) :: (53, 0, (-1), 0, 0, 0, []) :: (54, 19, 0, 1, 58, 0, []) :: (57, 33, 0, 0, 0, 0, []) :: kX10_chaseAfter_58
def kX10_chaseAfter_0 : List mIn := (0, 4, 0, 0, 1, 0, []) :: (1, 24, 0, 10, 4, 32, [545]) :: (4, 24, 0, 0, 7, 154, [335]) :: (7, 2, 0, 1, 1, 0, []) :: (8, 26, 0, 20, 0, 0, []) :: (9, 5, 0, 2, 1, 0, []) :: (10, 2, 0, 2, 1, 0, []) :: (11, 20, 0, 1, 15, 0, []) :: (14, 33, 0, 0, 0, 0, []) :: kX10_chaseAfter_15
def kX10_chaseAfter : List mIn := kX10_chaseAfter_0
def TX10_chaseAfter : Nat → mCal := fun a => match a with
  | 0 => calX0_cellAt
  | 1 => calX6_nearestTo
  | 2 => calX9_verdict
  | _ => (yX10_chaseAfter, cX10_chaseAfter, 7, none, (0, 0, 0, 0))
def calX10_chaseAfter : mCal := (yX10_chaseAfter, cX10_chaseAfter, 7, none, (4, 93, 0, 0))
def cutX10_chaseAfter : Nat → Option (List Bool) := fun t => mLk t []
theorem okX10_chaseAfter : mOK (yX10_chaseAfter.cls, cX10_chaseAfter, TX10_chaseAfter, none, (4, 93, 0, 0), 7, mAcf [], mAcf []) kX10_chaseAfter = true := by decide +kernel
set_option maxRecDepth 100000 in
theorem sfxX10_chaseAfter_15 : mSfx 15 kX10_chaseAfter = kX10_chaseAfter_15 := rfl
theorem cutX10_chaseAfter_15 : cutX10_chaseAfter 15 = none := by decide
set_option maxRecDepth 100000 in
theorem sfxX10_chaseAfter_58 : mSfx 58 kX10_chaseAfter = kX10_chaseAfter_58 := rfl
theorem cutX10_chaseAfter_58 : cutX10_chaseAfter 58 = none := by decide
set_option maxRecDepth 100000 in
theorem sfxX10_chaseAfter_88 : mSfx 88 kX10_chaseAfter = kX10_chaseAfter_88 := rfl
theorem cutX10_chaseAfter_88 : cutX10_chaseAfter 88 = none := by decide
def kX10_playHit_102 : List mIn := (102, 2, 0, 3, 1, 0, []) :: (103, 33, 0, 1, 0, 0, []) :: []
def kX10_playHit_66 : List mIn := (66, 5, 0, 3, 1, 0, []) :: (67, 4, 0, 0, 1, 0, []) :: (68, 24, 0, 10, 0, 28, [541]) :: (71, 24, 0, 7, 2, 157, [300]) :: (74, 2, 0, 3, 1, 0, []) :: (75, 2, 0, 2, 1, 0, []) :: (76, 32, 0, 2, 3, 491, [1, 1467, 1468, 1469, 110, 1470]) :: (79, 2, 0, 3, 1, 0, []) :: (80, 0, 4, 0, 0, 0, []) :: (81, 19, 0, 2, 102, 0, []) :: (84, 4, 0, 0, 1, 0, []) :: (85, 24, 0, 10, 0, 28, [541]) :: (88, 24, 0, 7, 2, 157, [300]) :: (91, 24, 0, 1, 2, 360, [279]) :: (94, 20, 0, 0, 102, 0, []) :: (97, 4, 0, 0, 1, 0, []) :: (98, 2, 0, 1, 1, 0, []) :: (99, 32, 0, 3, 2, 495, [10, 1471, 1473, 48, 105, 1474]) :: kX10_playHit_102
def kX10_playHit_59 : List mIn := (59, 4, 0, 0, 1, 0, []) :: (60, 24, 0, 10, 5, 36, [546]) :: (63, 24, 0, 9, 7, 219, [383]) :: kX10_playHit_66
def kX10_playHit_50 : List mIn := (50, 5, 0, 2, 1, 0, []) :: (51, 2, 0, 2, 1, 0, []) :: (52, 20, 0, 0, 59, 0, []) :: (55, 0, 0, 0, 0, 0, []) :: (56, 22, 0, 0, 66, 0, []) :: kX10_playHit_59
def kX10_playHit_49 : List mIn := (49, 0, 0, 0, 0, 0, []) :: kX10_playHit_50
def kX10_playHit_0 : List mIn := (0, 4, 0, 0, 1, 0, []) :: (1, 24, 0, 10, 5, 36, [546]) :: (4, 2, 0, 1, 1, 0, []) :: (5, 4, 0, 0, 1, 0, []) :: (6, 24, 0, 10, 0, 28, [541]) :: (9, 24, 0, 7, 1, 21, [298]) :: (12, 24, 0, 6, 0, 191, [236]) :: (15, 32, 0, 0, 3, 453, [9, 1053, 672, 673, 112, 674]) :: (18, 4, 0, 0, 1, 0, []) :: (19, 24, 0, 10, 5, 36, [546]) :: (22, 24, 0, 9, 4, 210, [374]) :: (25, 20, 0, 5, 49, 0, []) :: (28, 4, 0, 0, 1, 0, []) :: (29, 32, 0, 1, 1, 488, [10, 1450, 1452, 46, 105, 1453]) :: (32, 0, 100, 1, 0, 0, []) :: (34, 16, 0, 1, 0, 0, []) :: (35, 4, 0, 0, 1, 0, []) :: (36, 24, 0, 10, 5, 36, [546]) :: (39, 24, 0, 9, 4, 210, [374]) :: (42, 19, 0, 3, 49, 0, []) :: (45, 0, 1, 0, 0, 0, []) :: (46, 22, 0, 0, 50, 0, []) :: kX10_playHit_49
def kX10_playHit : List mIn := kX10_playHit_0
def TX10_playHit : Nat → mCal := fun a => match a with
  | 0 => calX9_weigh
  | 1 => calX10_draw
  | 2 => calX1_note
  | 3 => calX10_chaseAfter
  | _ => (yX10_playHit, cX10_playHit, 4, (some .int), (0, 0, 0, 0))
def calX10_playHit : mCal := (yX10_playHit, cX10_playHit, 4, (some .int), (5, 119, 0, 0))
def cutX10_playHit : Nat → Option (List Bool) := fun t => mLk t []
theorem okX10_playHit : mOK (yX10_playHit.cls, cX10_playHit, TX10_playHit, (some .int), (5, 119, 0, 0), 4, mAcf [], mAcf []) kX10_playHit = true := by decide +kernel
set_option maxRecDepth 100000 in
theorem sfxX10_playHit_49 : mSfx 49 kX10_playHit = kX10_playHit_49 := rfl
theorem cutX10_playHit_49 : cutX10_playHit 49 = none := by decide
set_option maxRecDepth 100000 in
theorem sfxX10_playHit_50 : mSfx 50 kX10_playHit = kX10_playHit_50 := rfl
theorem cutX10_playHit_50 : cutX10_playHit 50 = none := by decide
set_option maxRecDepth 100000 in
theorem sfxX10_playHit_59 : mSfx 59 kX10_playHit = kX10_playHit_59 := rfl
theorem cutX10_playHit_59 : cutX10_playHit 59 = none := by decide
set_option maxRecDepth 100000 in
theorem sfxX10_playHit_66 : mSfx 66 kX10_playHit = kX10_playHit_66 := rfl
theorem cutX10_playHit_66 : cutX10_playHit 66 = none := by decide
set_option maxRecDepth 100000 in
theorem sfxX10_playHit_102 : mSfx 102 kX10_playHit = kX10_playHit_102 := rfl
theorem cutX10_playHit_102 : cutX10_playHit 102 = none := by decide
def kX10_play_64 : List mIn := (64, 2, 0, 4, 2, 0, []) :: (66, 33, 0, 1, 0, 0, []) :: []
def kX10_play_39 : List mIn := (39, 2, 0, 5, 2, 0, []) :: (41, 2, 0, 2, 1, 0, []) :: (42, 19, 0, 3, 64, 0, []) :: (45, 2, 0, 4, 2, 0, []) :: (47, 4, 0, 0, 1, 0, []) :: (48, 4, 0, 0, 1, 0, []) :: (49, 32, 0, 3, 1, 367, [10, 1446, 1448, 45, 105, 1449]) :: (52, 32, 0, 4, 2, 371, [10, 1463, 1465, 47, 105, 1466]) :: (55, 9, 0, 0, 0, 0, []) :: (56, 5, 0, 4, 2, 0, []) :: (58, 8, 1, 5, 0, 0, []) :: (61, 22, 0, 0, 39, 0, []) :: kX10_play_64
def kX10_play_28 : List mIn := (28, 4, 0, 0, 1, 0, []) :: (29, 2, 0, 3, 1, 0, []) :: (30, 25, 0, 10, 15, 364, [556]) :: (33, 0, 0, 0, 0, 0, []) :: (34, 5, 0, 4, 2, 0, []) :: (36, 0, 0, 0, 0, 0, []) :: (37, 5, 0, 5, 2, 0, []) :: (39, 43, 0, 0, 39, 0, []) :: kX10_play_39
def kX10_play_0 : List mIn := (0, 2, 0, 1, 1, 0, []) :: (1, 32, 1, 0, 1, 126, [964, 965, 105, 966]) :: (4, 2, 0, 2, 1, 0, []) :: (5, 0, 1, 0, 0, 0, []) :: (6, 0, 60, 1, 0, 0, []) :: (8, 32, 1, 1, 3, 175, [1017, 1018, 105, 1019]) :: (11, 4, 0, 0, 1, 0, []) :: (12, 2, 0, 1, 1, 0, []) :: (13, 32, 0, 2, 2, 139, [10, 637, 639, 1, 105, 640]) :: (16, 4, 0, 0, 1, 0, []) :: (17, 24, 0, 10, 4, 32, [545]) :: (20, 24, 0, 0, 0, 279, [317]) :: (23, 20, 0, 1, 28, 0, []) :: (26, 0, (-1), 0, 0, 0, []) :: (27, 33, 0, 1, 0, 0, []) :: kX10_play_28
def kX10_play : List mIn := kX10_play_0
def TX10_play : Nat → mCal := fun a => match a with
  | 0 => calX10_needBall
  | 1 => calX10_needNumber
  | 2 => calX10_lay
  | 3 => calX10_drawHit
  | 4 => calX10_playHit
  | _ => (yX10_play, cX10_play, 6, (some .int), (0, 0, 0, 0))
def calX10_play : mCal := (yX10_play, cX10_play, 6, (some .int), (7, 146, 2, 12))
def cutX10_play : Nat → Option (List Bool) := fun t => mLk t [(39, [true, false, true, false, true, true])]
theorem okX10_play : mOK (yX10_play.cls, cX10_play, TX10_play, (some .int), (7, 146, 2, 12), 6, mAcf [(1, 1), (8, 1)], mAcf [(1, 6), (8, 6)]) kX10_play = true := by decide +kernel
set_option maxRecDepth 100000 in
theorem sfxX10_play_28 : mSfx 28 kX10_play = kX10_play_28 := rfl
theorem cutX10_play_28 : cutX10_play 28 = none := by decide
set_option maxRecDepth 100000 in
theorem sfxX10_play_39 : mSfx 39 kX10_play = kX10_play_39 := rfl
theorem cutX10_play_39 : cutX10_play 39 = some [true, false, true, false, true, true] := by decide
set_option maxRecDepth 100000 in
theorem sfxX10_play_64 : mSfx 64 kX10_play = kX10_play_64 := rfl
theorem cutX10_play_64 : cutX10_play 64 = none := by decide
def kX10_score_35 : List mIn := (35, 33, 0, 1, 0, 0, []) :: []
def kX10_score_34 : List mIn := (34, 0, (-1), 0, 0, 0, []) :: kX10_score_35
def kX10_score_0 : List mIn := (0, 2, 0, 1, 1, 0, []) :: (1, 20, 0, 2, 34, 0, []) :: (4, 2, 0, 1, 1, 0, []) :: (5, 4, 0, 0, 1, 0, []) :: (6, 24, 0, 10, 0, 28, [541]) :: (9, 24, 0, 7, 2, 157, [300]) :: (12, 24, 0, 1, 4, 374, [283]) :: (15, 28, 0, 0, 0, 0, []) :: (16, 19, 0, 3, 34, 0, []) :: (19, 4, 0, 0, 1, 0, []) :: (20, 24, 0, 10, 0, 28, [541]) :: (23, 24, 0, 7, 2, 157, [300]) :: (26, 24, 0, 1, 4, 374, [283]) :: (29, 2, 0, 1, 1, 0, []) :: (30, 26, 0, 20, 0, 0, []) :: (31, 22, 0, 0, 35, 0, []) :: kX10_score_34
def kX10_score : List mIn := kX10_score_0
def TX10_score : Nat → mCal := fun a => match a with
  | _ => (yX10_score, cX10_score, 2, (some .int), (0, 0, 0, 0))
def calX10_score : mCal := (yX10_score, cX10_score, 2, (some .int), (0, 0, 0, 0))
def cutX10_score : Nat → Option (List Bool) := fun t => mLk t []
theorem okX10_score : mOK (yX10_score.cls, cX10_score, TX10_score, (some .int), (0, 0, 0, 0), 2, mAcf [], mAcf []) kX10_score = true := by decide +kernel
set_option maxRecDepth 100000 in
theorem sfxX10_score_34 : mSfx 34 kX10_score = kX10_score_34 := rfl
theorem cutX10_score_34 : cutX10_score 34 = none := by decide
set_option maxRecDepth 100000 in
theorem sfxX10_score_35 : mSfx 35 kX10_score = kX10_score_35 := rfl
theorem cutX10_score_35 : cutX10_score 35 = none := by decide
def kX10_write_47 : List mIn := (47, 4, 0, 5, 2, 0, []) :: (49, 24, 0, 8, 2, 383, [1497]) :: (52, 2, 0, 2, 1, 0, []) :: (53, 4, 0, 5, 2, 0, []) :: (55, 3, 0, 3, 1, 0, []) :: (56, 32, 0, 1, 2, 387, [8, 1521, 1522, 1523, 131, 1524]) :: (59, 27, 0, 23, 0, 0, []) :: (60, 4, 0, 5, 2, 0, []) :: (62, 24, 0, 8, 2, 383, [1497]) :: (65, 2, 0, 2, 1, 0, []) :: (66, 26, 0, 23, 0, 0, []) :: (67, 33, 0, 2, 0, 0, []) :: []
def kX10_write_36 : List mIn := (36, 35, 0, 3, 328, 381, [332, 1, 1344, 130]) :: kX10_write_47
def kX10_write_23 : List mIn := (23, 2, 0, 2, 1, 0, []) :: (24, 20, 0, 2, 36, 0, []) :: (27, 2, 0, 2, 1, 0, []) :: (28, 4, 0, 5, 2, 0, []) :: (30, 24, 0, 8, 1, 325, [1495]) :: (33, 19, 0, 2, 47, 0, []) :: kX10_write_36
def kX10_write_0 : List mIn := (0, 4, 0, 0, 1, 0, []) :: (1, 2, 0, 1, 1, 0, []) :: (2, 32, 0, 0, 2, 310, [10, 1332, 1334, 38, 105, 1335]) :: (5, 7, 0, 5, 2, 0, []) :: (7, 4, 0, 5, 2, 0, []) :: (9, 23, 0, 1, 23, 0, []) :: (12, 35, 0, 2, 314, 316, [318, 1, 1120, 128]) :: kX10_write_23
def kX10_write : List mIn := kX10_write_0
def TX10_write : Nat → mCal := fun a => match a with
  | 0 => calX10_trayAt
  | 1 => calX8_cut
  | _ => (yX10_write, cX10_write, 6, (some .long), (0, 0, 0, 0))
def calX10_write : mCal := (yX10_write, cX10_write, 6, (some .long), (7, 111, 2, 12))
def cutX10_write : Nat → Option (List Bool) := fun t => mLk t []
theorem okX10_write : mOK (yX10_write.cls, cX10_write, TX10_write, (some .long), (7, 111, 2, 12), 6, mAcf [(2, 1)], mAcf [(2, 6)]) kX10_write = true := by decide +kernel
set_option maxRecDepth 100000 in
theorem sfxX10_write_23 : mSfx 23 kX10_write = kX10_write_23 := rfl
theorem cutX10_write_23 : cutX10_write 23 = none := by decide
set_option maxRecDepth 100000 in
theorem sfxX10_write_36 : mSfx 36 kX10_write = kX10_write_36 := rfl
theorem cutX10_write_36 : cutX10_write 36 = none := by decide
set_option maxRecDepth 100000 in
theorem sfxX10_write_47 : mSfx 47 kX10_write = kX10_write_47 := rfl
theorem cutX10_write_47 : cutX10_write 47 = none := by decide
def kX10_pour_88 : List mIn := (88, 4, 0, 2, 1, 0, []) :: (89, 24, 0, 8, 1, 325, [1495]) :: (92, 33, 0, 1, 0, 0, []) :: []
def kX10_pour_55 : List mIn := (55, 2, 0, 3, 1, 0, []) :: (56, 4, 0, 2, 1, 0, []) :: (57, 24, 0, 8, 1, 325, [1495]) :: (60, 19, 0, 3, 88, 0, []) :: (63, 4, 0, 0, 1, 0, []) :: (64, 24, 0, 10, 0, 28, [541]) :: (67, 24, 0, 7, 1, 21, [298]) :: (70, 24, 0, 6, 0, 191, [236]) :: (73, 2, 0, 3, 1, 0, []) :: (74, 4, 0, 2, 1, 0, []) :: (75, 24, 0, 8, 2, 383, [1497]) :: (78, 2, 0, 3, 1, 0, []) :: (79, 26, 0, 23, 0, 0, []) :: (80, 14, 0, 0, 0, 0, []) :: (81, 27, 0, 20, 0, 0, []) :: (82, 8, 1, 3, 0, 0, []) :: (85, 22, 0, 0, 55, 0, []) :: kX10_pour_88
def kX10_pour_53 : List mIn := (53, 0, 0, 0, 0, 0, []) :: (54, 5, 0, 3, 1, 0, []) :: (55, 43, 0, 0, 55, 0, []) :: kX10_pour_55
def kX10_pour_42 : List mIn := (42, 35, 0, 1, 97, 391, [101, 1, 743, 120]) :: kX10_pour_53
def kX10_pour_21 : List mIn := (21, 4, 0, 2, 1, 0, []) :: (22, 24, 0, 8, 1, 325, [1495]) :: (25, 0, 9, 1, 0, 0, []) :: (27, 19, 0, 4, 42, 0, []) :: (30, 4, 0, 2, 1, 0, []) :: (31, 0, (-1), 0, 0, 0, []) :: (32, 4, 0, 2, 1, 0, []) :: (33, 24, 0, 8, 1, 325, [1495]) :: (36, 32, 0, 1, 3, 319, [8, 1338, 1339, 1340, 131, 1341]) :: (39, 20, 0, 1, 53, 0, []) :: kX10_pour_42
def kX10_pour_0 : List mIn := (0, 4, 0, 0, 1, 0, []) :: (1, 2, 0, 1, 1, 0, []) :: (2, 32, 0, 0, 2, 310, [10, 1332, 1334, 38, 105, 1335]) :: (5, 7, 0, 2, 1, 0, []) :: (6, 4, 0, 2, 1, 0, []) :: (7, 23, 0, 1, 21, 0, []) :: (10, 35, 0, 2, 314, 316, [318, 1, 1120, 128]) :: kX10_pour_21
def kX10_pour : List mIn := kX10_pour_0
def TX10_pour : Nat → mCal := fun a => match a with
  | 0 => calX10_trayAt
  | 1 => calX8_holdsOnly
  | _ => (yX10_pour, cX10_pour, 4, (some .int), (0, 0, 0, 0))
def calX10_pour : mCal := (yX10_pour, cX10_pour, 4, (some .int), (7, 111, 2, 12))
def cutX10_pour : Nat → Option (List Bool) := fun t => mLk t [(55, [true, false, true, true])]
theorem okX10_pour : mOK (yX10_pour.cls, cX10_pour, TX10_pour, (some .int), (7, 111, 2, 12), 4, mAcf [(2, 1)], mAcf [(2, 6)]) kX10_pour = true := by decide +kernel
set_option maxRecDepth 100000 in
theorem sfxX10_pour_21 : mSfx 21 kX10_pour = kX10_pour_21 := rfl
theorem cutX10_pour_21 : cutX10_pour 21 = none := by decide
set_option maxRecDepth 100000 in
theorem sfxX10_pour_42 : mSfx 42 kX10_pour = kX10_pour_42 := rfl
theorem cutX10_pour_42 : cutX10_pour 42 = none := by decide
set_option maxRecDepth 100000 in
theorem sfxX10_pour_53 : mSfx 53 kX10_pour = kX10_pour_53 := rfl
theorem cutX10_pour_53 : cutX10_pour 53 = none := by decide
set_option maxRecDepth 100000 in
theorem sfxX10_pour_55 : mSfx 55 kX10_pour = kX10_pour_55 := rfl
theorem cutX10_pour_55 : cutX10_pour 55 = some [true, false, true, true] := by decide
set_option maxRecDepth 100000 in
theorem sfxX10_pour_88 : mSfx 88 kX10_pour = kX10_pour_88 := rfl
theorem cutX10_pour_88 : cutX10_pour 88 = none := by decide
def kX10_needImage_20 : List mIn := (20, 33, 0, 0, 0, 0, []) :: []
def kX10_needImage_9 : List mIn := (9, 35, 0, 0, 426, 443, [430, 1, 967, 127]) :: kX10_needImage_20
def kX10_needImage_0 : List mIn := (0, 2, 0, 0, 1, 0, []) :: (1, 20, 0, 2, 9, 0, []) :: (4, 2, 0, 0, 1, 0, []) :: (5, 0, 3, 0, 0, 0, []) :: (6, 19, 0, 2, 20, 0, []) :: kX10_needImage_9
def kX10_needImage : List mIn := kX10_needImage_0
def TX10_needImage : Nat → mCal := fun a => match a with
  | _ => (yX10_needImage, cX10_needImage, 1, none, (0, 0, 0, 0))
def calX10_needImage : mCal := (yX10_needImage, cX10_needImage, 1, none, (6, 90, 1, 6))
def cutX10_needImage : Nat → Option (List Bool) := fun t => mLk t []
theorem okX10_needImage : mOK (yX10_needImage.cls, cX10_needImage, TX10_needImage, none, (6, 90, 1, 6), 1, mAcf [], mAcf []) kX10_needImage = true := by decide +kernel
set_option maxRecDepth 100000 in
theorem sfxX10_needImage_9 : mSfx 9 kX10_needImage = kX10_needImage_9 := rfl
theorem cutX10_needImage_9 : cutX10_needImage 9 = none := by decide
set_option maxRecDepth 100000 in
theorem sfxX10_needImage_20 : mSfx 20 kX10_needImage = kX10_needImage_20 := rfl
theorem cutX10_needImage_20 : cutX10_needImage 20 = none := by decide
def kX10_restore_26 : List mIn := (26, 4, 0, 0, 1, 0, []) :: (27, 24, 0, 10, 0, 28, [541]) :: (30, 4, 0, 2, 1, 0, []) :: (31, 32, 0, 1, 2, 396, [7, 1544, 1545, 1546, 106, 1547]) :: (34, 33, 0, 0, 0, 0, []) :: []
def kX10_restore_0 : List mIn := (0, 2, 0, 1, 1, 0, []) :: (1, 32, 1, 0, 1, 393, [1540, 1541, 105, 1542]) :: (4, 4, 0, 0, 1, 0, []) :: (5, 24, 0, 10, 1, 49, [542]) :: (8, 2, 0, 1, 1, 0, []) :: (9, 26, 0, 24, 0, 0, []) :: (10, 7, 0, 2, 1, 0, []) :: (11, 4, 0, 2, 1, 0, []) :: (12, 23, 0, 1, 26, 0, []) :: (15, 35, 0, 2, 314, 400, [318, 1, 1120, 128]) :: kX10_restore_26
def kX10_restore : List mIn := kX10_restore_0
def TX10_restore : Nat → mCal := fun a => match a with
  | 0 => calX10_needImage
  | 1 => calX7_copyFrom
  | _ => (yX10_restore, cX10_restore, 3, none, (0, 0, 0, 0))
def calX10_restore : mCal := (yX10_restore, cX10_restore, 3, none, (7, 123, 2, 12))
def cutX10_restore : Nat → Option (List Bool) := fun t => mLk t []
theorem okX10_restore : mOK (yX10_restore.cls, cX10_restore, TX10_restore, none, (7, 123, 2, 12), 3, mAcf [(1, 1)], mAcf [(1, 6)]) kX10_restore = true := by decide +kernel
set_option maxRecDepth 100000 in
theorem sfxX10_restore_26 : mSfx 26 kX10_restore = kX10_restore_26 := rfl
theorem cutX10_restore_26 : cutX10_restore 26 = none := by decide
def kX10_count_229 : List mIn := (229, 0, (-1), 0, 0, 0, []) :: (230, 33, 0, 1, 0, 0, []) :: []
def kX10_count_218 : List mIn := (218, 4, 0, 0, 1, 0, []) :: (219, 24, 0, 10, 0, 28, [541]) :: (222, 24, 0, 7, 1, 21, [298]) :: (225, 24, 0, 6, 6, 423, [252]) :: (228, 33, 0, 1, 0, 0, []) :: kX10_count_229
def kX10_count_217 : List mIn := (217, 33, 0, 1, 0, 0, []) :: kX10_count_218
def kX10_count_216 : List mIn := (216, 0, 0, 0, 0, 0, []) :: kX10_count_217
def kX10_count_199 : List mIn := (199, 4, 0, 0, 1, 0, []) :: (200, 24, 0, 10, 0, 28, [541]) :: (203, 24, 0, 7, 2, 157, [300]) :: (206, 24, 0, 1, 2, 360, [279]) :: (209, 20, 0, 0, 216, 0, []) :: (212, 0, 1, 0, 0, 0, []) :: (213, 22, 0, 0, 217, 0, []) :: kX10_count_216
def kX10_count_188 : List mIn := (188, 4, 0, 0, 1, 0, []) :: (189, 24, 0, 10, 0, 28, [541]) :: (192, 24, 0, 7, 2, 157, [300]) :: (195, 24, 0, 1, 1, 201, [277]) :: (198, 33, 0, 1, 0, 0, []) :: kX10_count_199
def kX10_count_177 : List mIn := (177, 4, 0, 0, 1, 0, []) :: (178, 24, 0, 10, 0, 28, [541]) :: (181, 24, 0, 7, 2, 157, [300]) :: (184, 24, 0, 1, 0, 198, [275]) :: (187, 33, 0, 1, 0, 0, []) :: kX10_count_188
def kX10_count_169 : List mIn := (169, 4, 0, 0, 1, 0, []) :: (170, 24, 0, 10, 3, 62, [544]) :: (173, 24, 0, 5, 1, 89, [473]) :: (176, 33, 0, 1, 0, 0, []) :: kX10_count_177
def kX10_count_158 : List mIn := (158, 4, 0, 0, 1, 0, []) :: (159, 24, 0, 10, 0, 28, [541]) :: (162, 24, 0, 7, 1, 21, [298]) :: (165, 32, 0, 0, 1, 420, [6, 731, 732, 733, 109, 734]) :: (168, 33, 0, 1, 0, 0, []) :: kX10_count_169
def kX10_count_147 : List mIn := (147, 4, 0, 0, 1, 0, []) :: (148, 24, 0, 10, 0, 28, [541]) :: (151, 24, 0, 7, 0, 17, [296]) :: (154, 24, 0, 3, 5, 417, [181]) :: (157, 33, 0, 1, 0, 0, []) :: kX10_count_158
def kX10_count_136 : List mIn := (136, 4, 0, 0, 1, 0, []) :: (137, 24, 0, 10, 0, 28, [541]) :: (140, 24, 0, 7, 0, 17, [296]) :: (143, 24, 0, 3, 4, 414, [177]) :: (146, 33, 0, 1, 0, 0, []) :: kX10_count_147
def kX10_count_125 : List mIn := (125, 4, 0, 0, 1, 0, []) :: (126, 24, 0, 10, 0, 28, [541]) :: (129, 24, 0, 7, 0, 17, [296]) :: (132, 24, 0, 3, 3, 411, [172]) :: (135, 33, 0, 1, 0, 0, []) :: kX10_count_136
def kX10_count_114 : List mIn := (114, 4, 0, 0, 1, 0, []) :: (115, 24, 0, 10, 0, 28, [541]) :: (118, 24, 0, 7, 0, 17, [296]) :: (121, 24, 0, 3, 2, 408, [168]) :: (124, 33, 0, 1, 0, 0, []) :: kX10_count_125
def kX10_count_103 : List mIn := (103, 4, 0, 0, 1, 0, []) :: (104, 24, 0, 10, 0, 28, [541]) :: (107, 24, 0, 7, 0, 17, [296]) :: (110, 24, 0, 3, 1, 405, [164]) :: (113, 33, 0, 1, 0, 0, []) :: kX10_count_114
def kX10_count_92 : List mIn := (92, 4, 0, 0, 1, 0, []) :: (93, 24, 0, 10, 0, 28, [541]) :: (96, 24, 0, 7, 0, 17, [296]) :: (99, 24, 0, 3, 0, 118, [161]) :: (102, 33, 0, 1, 0, 0, []) :: kX10_count_103
def kX10_count_29 : List mIn := (29, 2, 0, 1, 1, 0, []) :: (30, 34, 0, 12, 229, 62, [92, 103, 114, 125, 136, 147, 158, 169, 177, 188, 199, 218]) :: kX10_count_92
def kX10_count_0 : List mIn := (0, 2, 0, 1, 1, 0, []) :: (1, 0, 100, 1, 0, 0, []) :: (3, 19, 0, 2, 29, 0, []) :: (6, 2, 0, 1, 1, 0, []) :: (7, 0, 389, 2, 0, 0, []) :: (10, 19, 0, 3, 29, 0, []) :: (13, 4, 0, 0, 1, 0, []) :: (14, 24, 0, 10, 0, 28, [541]) :: (17, 24, 0, 7, 0, 17, [296]) :: (20, 24, 0, 3, 6, 402, [185]) :: (23, 2, 0, 1, 1, 0, []) :: (24, 0, 100, 1, 0, 0, []) :: (26, 9, 0, 1, 0, 0, []) :: (27, 26, 0, 20, 0, 0, []) :: (28, 33, 0, 1, 0, 0, []) :: kX10_count_29
def kX10_count : List mIn := kX10_count_0
def TX10_count : Nat → mCal := fun a => match a with
  | 0 => calX6_manyThere
  | _ => (yX10_count, cX10_count, 2, (some .int), (0, 0, 0, 0))
def calX10_count : mCal := (yX10_count, cX10_count, 2, (some .int), (1, 22, 0, 0))
def cutX10_count : Nat → Option (List Bool) := fun t => mLk t []
theorem okX10_count : mOK (yX10_count.cls, cX10_count, TX10_count, (some .int), (1, 22, 0, 0), 2, mAcf [], mAcf []) kX10_count = true := by decide +kernel
set_option maxRecDepth 100000 in
theorem sfxX10_count_29 : mSfx 29 kX10_count = kX10_count_29 := rfl
theorem cutX10_count_29 : cutX10_count 29 = none := by decide
set_option maxRecDepth 100000 in
theorem sfxX10_count_92 : mSfx 92 kX10_count = kX10_count_92 := rfl
theorem cutX10_count_92 : cutX10_count 92 = none := by decide
set_option maxRecDepth 100000 in
theorem sfxX10_count_103 : mSfx 103 kX10_count = kX10_count_103 := rfl
theorem cutX10_count_103 : cutX10_count 103 = none := by decide
set_option maxRecDepth 100000 in
theorem sfxX10_count_114 : mSfx 114 kX10_count = kX10_count_114 := rfl
theorem cutX10_count_114 : cutX10_count 114 = none := by decide
set_option maxRecDepth 100000 in
theorem sfxX10_count_125 : mSfx 125 kX10_count = kX10_count_125 := rfl
theorem cutX10_count_125 : cutX10_count 125 = none := by decide
set_option maxRecDepth 100000 in
theorem sfxX10_count_136 : mSfx 136 kX10_count = kX10_count_136 := rfl
theorem cutX10_count_136 : cutX10_count 136 = none := by decide
set_option maxRecDepth 100000 in
theorem sfxX10_count_147 : mSfx 147 kX10_count = kX10_count_147 := rfl
theorem cutX10_count_147 : cutX10_count 147 = none := by decide
set_option maxRecDepth 100000 in
theorem sfxX10_count_158 : mSfx 158 kX10_count = kX10_count_158 := rfl
theorem cutX10_count_158 : cutX10_count 158 = none := by decide
set_option maxRecDepth 100000 in
theorem sfxX10_count_169 : mSfx 169 kX10_count = kX10_count_169 := rfl
theorem cutX10_count_169 : cutX10_count 169 = none := by decide
set_option maxRecDepth 100000 in
theorem sfxX10_count_177 : mSfx 177 kX10_count = kX10_count_177 := rfl
theorem cutX10_count_177 : cutX10_count 177 = none := by decide
set_option maxRecDepth 100000 in
theorem sfxX10_count_188 : mSfx 188 kX10_count = kX10_count_188 := rfl
theorem cutX10_count_188 : cutX10_count 188 = none := by decide
set_option maxRecDepth 100000 in
theorem sfxX10_count_199 : mSfx 199 kX10_count = kX10_count_199 := rfl
theorem cutX10_count_199 : cutX10_count 199 = none := by decide
set_option maxRecDepth 100000 in
theorem sfxX10_count_216 : mSfx 216 kX10_count = kX10_count_216 := rfl
theorem cutX10_count_216 : cutX10_count 216 = none := by decide
set_option maxRecDepth 100000 in
theorem sfxX10_count_217 : mSfx 217 kX10_count = kX10_count_217 := rfl
theorem cutX10_count_217 : cutX10_count 217 = none := by decide
set_option maxRecDepth 100000 in
theorem sfxX10_count_218 : mSfx 218 kX10_count = kX10_count_218 := rfl
theorem cutX10_count_218 : cutX10_count 218 = none := by decide
set_option maxRecDepth 100000 in
theorem sfxX10_count_229 : mSfx 229 kX10_count = kX10_count_229 := rfl
theorem cutX10_count_229 : cutX10_count 229 = none := by decide
def kX11_begins_0 : List mIn := (0, 4, 0, 0, 1, 0, []) :: (1, 0, 1, 0, 0, 0, []) :: (2, 0, 8, 1, 0, 0, []) :: (4, 27, 0, 20, 0, 0, []) :: (5, 4, 0, 0, 1, 0, []) :: (6, 0, 2, 0, 0, 0, []) :: (7, 0, 9, 1, 0, 0, []) :: (9, 27, 0, 20, 0, 0, []) :: (10, 4, 0, 0, 1, 0, []) :: (11, 0, 3, 0, 0, 0, []) :: (12, 0, 20, 1, 0, 0, []) :: (14, 27, 0, 20, 0, 0, []) :: (15, 4, 0, 0, 1, 0, []) :: (16, 0, 4, 0, 0, 0, []) :: (17, 0, 9, 1, 0, 0, []) :: (19, 27, 0, 20, 0, 0, []) :: (20, 4, 0, 0, 1, 0, []) :: (21, 0, 5, 0, 0, 0, []) :: (22, 0, 1, 0, 0, 0, []) :: (23, 27, 0, 20, 0, 0, []) :: (24, 33, 0, 0, 0, 0, []) :: []
def kX11_begins : List mIn := kX11_begins_0
def TX11_begins : Nat → mCal := fun a => match a with
  | _ => (yX11_begins, cX11_begins, 1, none, (0, 0, 0, 0))
def calX11_begins : mCal := (yX11_begins, cX11_begins, 1, none, (0, 0, 0, 0))
def cutX11_begins : Nat → Option (List Bool) := fun t => mLk t []
theorem okX11_begins : mOK (yX11_begins.cls, cX11_begins, TX11_begins, none, (0, 0, 0, 0), 1, mAcf [], mAcf []) kX11_begins = true := by decide +kernel
def kX11_thrown_0 : List mIn := (0, 4, 0, 0, 1, 0, []) :: (1, 24, 0, 11, 3, 74, [1578]) :: (4, 33, 0, 1, 0, 0, []) :: []
def kX11_thrown : List mIn := kX11_thrown_0
def TX11_thrown : Nat → mCal := fun a => match a with
  | _ => (yX11_thrown, cX11_thrown, 1, (some .int), (0, 0, 0, 0))
def calX11_thrown : mCal := (yX11_thrown, cX11_thrown, 1, (some .int), (0, 0, 0, 0))
def cutX11_thrown : Nat → Option (List Bool) := fun t => mLk t []
theorem okX11_thrown : mOK (yX11_thrown.cls, cX11_thrown, TX11_thrown, (some .int), (0, 0, 0, 0), 1, mAcf [], mAcf []) kX11_thrown = true := by decide +kernel
def kX11_fails_0 : List mIn := (0, 4, 0, 0, 1, 0, []) :: (1, 2, 0, 1, 1, 0, []) :: (2, 25, 0, 11, 3, 74, [1578]) :: (5, 0, 0, 0, 0, 0, []) :: (6, 33, 0, 1, 0, 0, []) :: []
def kX11_fails : List mIn := kX11_fails_0
def TX11_fails : Nat → mCal := fun a => match a with
  | _ => (yX11_fails, cX11_fails, 2, (some .int), (0, 0, 0, 0))
def calX11_fails : mCal := (yX11_fails, cX11_fails, 2, (some .int), (0, 0, 0, 0))
def cutX11_fails : Nat → Option (List Bool) := fun t => mLk t []
theorem okX11_fails : mOK (yX11_fails.cls, cX11_fails, TX11_fails, (some .int), (0, 0, 0, 0), 2, mAcf [], mAcf []) kX11_fails = true := by decide +kernel
def kX11_within_18 : List mIn := (18, 33, 0, 4, 0, 0, []) :: []
def kX11_within_17 : List mIn := (17, 0, 0, 0, 0, 0, []) :: kX11_within_18
def kX11_within_0 : List mIn := (0, 3, 0, 0, 1, 0, []) :: (1, 3, 0, 2, 1, 0, []) :: (2, 21, 0, 2, 17, 0, []) :: (6, 3, 0, 0, 1, 0, []) :: (7, 3, 0, 4, 2, 0, []) :: (9, 21, 0, 4, 17, 0, []) :: (13, 0, 1, 0, 0, 0, []) :: (14, 22, 0, 0, 18, 0, []) :: kX11_within_17
def kX11_within : List mIn := kX11_within_0
def TX11_within : Nat → mCal := fun a => match a with
  | _ => (yX11_within, cX11_within, 6, (some .boolean), (0, 0, 0, 0))
def calX11_within : mCal := (yX11_within, cX11_within, 6, (some .boolean), (0, 0, 0, 0))
def cutX11_within : Nat → Option (List Bool) := fun t => mLk t []
theorem okX11_within : mOK (yX11_within.cls, cX11_within, TX11_within, (some .boolean), (0, 0, 0, 0), 6, mAcf [], mAcf []) kX11_within = true := by decide +kernel
set_option maxRecDepth 100000 in
theorem sfxX11_within_17 : mSfx 17 kX11_within = kX11_within_17 := rfl
theorem cutX11_within_17 : cutX11_within 17 = none := by decide
set_option maxRecDepth 100000 in
theorem sfxX11_within_18 : mSfx 18 kX11_within = kX11_within_18 := rfl
theorem cutX11_within_18 : cutX11_within 18 = none := by decide
def kX11_isCell_0 : List mIn := (0, 3, 0, 0, 1, 0, []) :: (1, 1, 0, 0, 0, 0, []) :: (2, 1, 288, 1, 77, 1841, []) :: (5, 32, 1, 0, 3, 79, [1697, 1698, 116, 1699]) :: (8, 33, 0, 4, 0, 0, []) :: []
def kX11_isCell : List mIn := kX11_isCell_0
def TX11_isCell : Nat → mCal := fun a => match a with
  | 0 => calX11_within
  | _ => (yX11_isCell, cX11_isCell, 2, (some .boolean), (0, 0, 0, 0))
def calX11_isCell : mCal := (yX11_isCell, cX11_isCell, 2, (some .boolean), (1, 25, 0, 0))
def cutX11_isCell : Nat → Option (List Bool) := fun t => mLk t []
theorem okX11_isCell : mOK (yX11_isCell.cls, cX11_isCell, TX11_isCell, (some .boolean), (1, 25, 0, 0), 2, mAcf [], mAcf []) kX11_isCell = true := by decide +kernel
def kX11_feed_120 : List mIn := (120, 4, 0, 0, 1, 0, []) :: (121, 24, 0, 11, 6, 83, [1581]) :: (124, 33, 0, 1, 0, 0, []) :: []
def kX11_feed_76 : List mIn := (76, 5, 0, 7, 2, 0, []) :: (78, 4, 0, 0, 1, 0, []) :: (79, 24, 0, 11, 4, 20, [1579]) :: (82, 4, 0, 0, 1, 0, []) :: (83, 24, 0, 11, 6, 83, [1581]) :: (86, 2, 0, 7, 2, 0, []) :: (88, 0, 24, 1, 0, 0, []) :: (90, 0, 8, 1, 0, 0, []) :: (92, 2, 0, 6, 2, 0, []) :: (94, 0, 3, 0, 0, 0, []) :: (95, 9, 0, 3, 0, 0, []) :: (96, 9, 0, 2, 0, 0, []) :: (97, 9, 0, 1, 0, 0, []) :: (98, 9, 0, 8, 0, 0, []) :: (99, 0, 255, 2, 0, 0, []) :: (102, 9, 0, 3, 0, 0, []) :: (103, 27, 0, 20, 0, 0, []) :: (104, 4, 0, 0, 1, 0, []) :: (105, 29, 0, 0, 0, 0, []) :: (106, 24, 0, 11, 6, 83, [1581]) :: (109, 0, 1, 0, 0, 0, []) :: (110, 9, 0, 0, 0, 0, []) :: (111, 25, 0, 11, 6, 83, [1581]) :: (114, 8, 1, 6, 0, 0, []) :: (117, 22, 0, 0, 23, 0, []) :: kX11_feed_120
def kX11_feed_74 : List mIn := (74, 2, 0, 5, 2, 0, []) :: kX11_feed_76
def kX11_feed_62 : List mIn := (62, 2, 0, 6, 2, 0, []) :: (64, 0, 16, 1, 0, 0, []) :: (66, 19, 0, 3, 74, 0, []) :: (69, 2, 0, 4, 2, 0, []) :: (71, 22, 0, 0, 76, 0, []) :: kX11_feed_74
def kX11_feed_51 : List mIn := (51, 2, 0, 6, 2, 0, []) :: (53, 0, 12, 1, 0, 0, []) :: (55, 19, 0, 3, 62, 0, []) :: (58, 2, 0, 3, 1, 0, []) :: (59, 22, 0, 0, 76, 0, []) :: kX11_feed_62
def kX11_feed_40 : List mIn := (40, 2, 0, 6, 2, 0, []) :: (42, 0, 8, 1, 0, 0, []) :: (44, 19, 0, 3, 51, 0, []) :: (47, 2, 0, 2, 1, 0, []) :: (48, 22, 0, 0, 76, 0, []) :: kX11_feed_51
def kX11_feed_23 : List mIn := (23, 2, 0, 6, 2, 0, []) :: (25, 0, 20, 1, 0, 0, []) :: (27, 19, 0, 3, 120, 0, []) :: (30, 2, 0, 6, 2, 0, []) :: (32, 0, 4, 0, 0, 0, []) :: (33, 19, 0, 3, 40, 0, []) :: (36, 2, 0, 1, 1, 0, []) :: (37, 22, 0, 0, 76, 0, []) :: kX11_feed_40
def kX11_feed_20 : List mIn := (20, 0, 0, 0, 0, 0, []) :: (21, 5, 0, 6, 2, 0, []) :: (23, 43, 0, 0, 23, 0, []) :: kX11_feed_23
def kX11_feed_0 : List mIn := (0, 4, 0, 0, 1, 0, []) :: (1, 0, 0, 0, 0, 0, []) :: (2, 25, 0, 11, 3, 74, [1578]) :: (5, 4, 0, 0, 1, 0, []) :: (6, 24, 0, 11, 6, 83, [1581]) :: (9, 0, 20, 1, 0, 0, []) :: (11, 9, 0, 0, 0, 0, []) :: (12, 0, 800, 2, 0, 0, []) :: (15, 19, 0, 5, 20, 0, []) :: (18, 0, (-1), 0, 0, 0, []) :: (19, 33, 0, 1, 0, 0, []) :: kX11_feed_20
def kX11_feed : List mIn := kX11_feed_0
def TX11_feed : Nat → mCal := fun a => match a with
  | _ => (yX11_feed, cX11_feed, 8, (some .int), (0, 0, 0, 0))
def calX11_feed : mCal := (yX11_feed, cX11_feed, 8, (some .int), (0, 0, 0, 0))
def cutX11_feed : Nat → Option (List Bool) := fun t => mLk t [(23, [true, true, true, true, true, true, true, false])]
theorem okX11_feed : mOK (yX11_feed.cls, cX11_feed, TX11_feed, (some .int), (0, 0, 0, 0), 8, mAcf [], mAcf []) kX11_feed = true := by decide +kernel
set_option maxRecDepth 100000 in
theorem sfxX11_feed_20 : mSfx 20 kX11_feed = kX11_feed_20 := rfl
theorem cutX11_feed_20 : cutX11_feed 20 = none := by decide
set_option maxRecDepth 100000 in
theorem sfxX11_feed_23 : mSfx 23 kX11_feed = kX11_feed_23 := rfl
theorem cutX11_feed_23 : cutX11_feed 23 = some [true, true, true, true, true, true, true, false] := by decide
set_option maxRecDepth 100000 in
theorem sfxX11_feed_40 : mSfx 40 kX11_feed = kX11_feed_40 := rfl
theorem cutX11_feed_40 : cutX11_feed 40 = none := by decide
set_option maxRecDepth 100000 in
theorem sfxX11_feed_51 : mSfx 51 kX11_feed = kX11_feed_51 := rfl
theorem cutX11_feed_51 : cutX11_feed 51 = none := by decide
set_option maxRecDepth 100000 in
theorem sfxX11_feed_62 : mSfx 62 kX11_feed = kX11_feed_62 := rfl
theorem cutX11_feed_62 : cutX11_feed 62 = none := by decide
set_option maxRecDepth 100000 in
theorem sfxX11_feed_74 : mSfx 74 kX11_feed = kX11_feed_74 := rfl
theorem cutX11_feed_74 : cutX11_feed 74 = none := by decide
set_option maxRecDepth 100000 in
theorem sfxX11_feed_76 : mSfx 76 kX11_feed = kX11_feed_76 := rfl
theorem cutX11_feed_76 : cutX11_feed 76 = none := by decide
set_option maxRecDepth 100000 in
theorem sfxX11_feed_120 : mSfx 120 kX11_feed = kX11_feed_120 := rfl
theorem cutX11_feed_120 : cutX11_feed 120 = none := by decide
def kX11_see_18 : List mIn := (18, 33, 0, 1, 0, 0, []) :: []
def kX11_see_17 : List mIn := (17, 0, 0, 0, 0, 0, []) :: kX11_see_18
def kX11_see_0 : List mIn := (0, 2, 0, 1, 1, 0, []) :: (1, 4, 0, 0, 1, 0, []) :: (2, 24, 0, 11, 7, 86, [1582]) :: (5, 19, 0, 3, 17, 0, []) :: (8, 4, 0, 0, 1, 0, []) :: (9, 24, 0, 11, 4, 20, [1579]) :: (12, 2, 0, 1, 1, 0, []) :: (13, 26, 0, 20, 0, 0, []) :: (14, 22, 0, 0, 18, 0, []) :: kX11_see_17
def kX11_see : List mIn := kX11_see_0
def TX11_see : Nat → mCal := fun a => match a with
  | _ => (yX11_see, cX11_see, 2, (some .int), (0, 0, 0, 0))
def calX11_see : mCal := (yX11_see, cX11_see, 2, (some .int), (0, 0, 0, 0))
def cutX11_see : Nat → Option (List Bool) := fun t => mLk t []
theorem okX11_see : mOK (yX11_see.cls, cX11_see, TX11_see, (some .int), (0, 0, 0, 0), 2, mAcf [], mAcf []) kX11_see = true := by decide +kernel
set_option maxRecDepth 100000 in
theorem sfxX11_see_17 : mSfx 17 kX11_see = kX11_see_17 := rfl
theorem cutX11_see_17 : cutX11_see 17 = none := by decide
set_option maxRecDepth 100000 in
theorem sfxX11_see_18 : mSfx 18 kX11_see = kX11_see_18 := rfl
theorem cutX11_see_18 : cutX11_see 18 = none := by decide
def kX11_isLetter_17 : List mIn := (17, 33, 0, 4, 0, 0, []) :: []
def kX11_isLetter_16 : List mIn := (16, 0, 0, 0, 0, 0, []) :: kX11_isLetter_17
def kX11_isLetter_0 : List mIn := (0, 2, 0, 0, 1, 0, []) :: (1, 0, 97, 1, 0, 0, []) :: (3, 19, 0, 2, 16, 0, []) :: (6, 2, 0, 0, 1, 0, []) :: (7, 0, 122, 1, 0, 0, []) :: (9, 19, 0, 4, 16, 0, []) :: (12, 0, 1, 0, 0, 0, []) :: (13, 22, 0, 0, 17, 0, []) :: kX11_isLetter_16
def kX11_isLetter : List mIn := kX11_isLetter_0
def TX11_isLetter : Nat → mCal := fun a => match a with
  | _ => (yX11_isLetter, cX11_isLetter, 1, (some .boolean), (0, 0, 0, 0))
def calX11_isLetter : mCal := (yX11_isLetter, cX11_isLetter, 1, (some .boolean), (0, 0, 0, 0))
def cutX11_isLetter : Nat → Option (List Bool) := fun t => mLk t []
theorem okX11_isLetter : mOK (yX11_isLetter.cls, cX11_isLetter, TX11_isLetter, (some .boolean), (0, 0, 0, 0), 1, mAcf [], mAcf []) kX11_isLetter = true := by decide +kernel
set_option maxRecDepth 100000 in
theorem sfxX11_isLetter_16 : mSfx 16 kX11_isLetter = kX11_isLetter_16 := rfl
theorem cutX11_isLetter_16 : cutX11_isLetter 16 = none := by decide
set_option maxRecDepth 100000 in
theorem sfxX11_isLetter_17 : mSfx 17 kX11_isLetter = kX11_isLetter_17 := rfl
theorem cutX11_isLetter_17 : cutX11_isLetter 17 = none := by decide
def kX11_isDigit_17 : List mIn := (17, 33, 0, 4, 0, 0, []) :: []
def kX11_isDigit_16 : List mIn := (16, 0, 0, 0, 0, 0, []) :: kX11_isDigit_17
def kX11_isDigit_0 : List mIn := (0, 2, 0, 0, 1, 0, []) :: (1, 0, 48, 1, 0, 0, []) :: (3, 19, 0, 2, 16, 0, []) :: (6, 2, 0, 0, 1, 0, []) :: (7, 0, 57, 1, 0, 0, []) :: (9, 19, 0, 4, 16, 0, []) :: (12, 0, 1, 0, 0, 0, []) :: (13, 22, 0, 0, 17, 0, []) :: kX11_isDigit_16
def kX11_isDigit : List mIn := kX11_isDigit_0
def TX11_isDigit : Nat → mCal := fun a => match a with
  | _ => (yX11_isDigit, cX11_isDigit, 1, (some .boolean), (0, 0, 0, 0))
def calX11_isDigit : mCal := (yX11_isDigit, cX11_isDigit, 1, (some .boolean), (0, 0, 0, 0))
def cutX11_isDigit : Nat → Option (List Bool) := fun t => mLk t []
theorem okX11_isDigit : mOK (yX11_isDigit.cls, cX11_isDigit, TX11_isDigit, (some .boolean), (0, 0, 0, 0), 1, mAcf [], mAcf []) kX11_isDigit = true := by decide +kernel
set_option maxRecDepth 100000 in
theorem sfxX11_isDigit_16 : mSfx 16 kX11_isDigit = kX11_isDigit_16 := rfl
theorem cutX11_isDigit_16 : cutX11_isDigit 16 = none := by decide
set_option maxRecDepth 100000 in
theorem sfxX11_isDigit_17 : mSfx 17 kX11_isDigit = kX11_isDigit_17 := rfl
theorem cutX11_isDigit_17 : cutX11_isDigit 17 = none := by decide
def kX11_reads_262 : List mIn := (262, 33, 0, 0, 0, 0, []) :: []
def kX11_reads_249 : List mIn := (249, 25, 0, 11, 10, 95, [1585]) :: (252, 4, 0, 0, 1, 0, []) :: (253, 29, 0, 0, 0, 0, []) :: (254, 24, 0, 11, 8, 89, [1583]) :: (257, 0, 1, 0, 0, 0, []) :: (258, 9, 0, 0, 0, 0, []) :: (259, 25, 0, 11, 8, 89, [1583]) :: kX11_reads_262
def kX11_reads_248 : List mIn := (248, 0, 4, 0, 0, 0, []) :: kX11_reads_249
def kX11_reads_237 : List mIn := (237, 4, 0, 0, 1, 0, []) :: (238, 2, 0, 1, 1, 0, []) :: (239, 0, 59, 1, 0, 0, []) :: (241, 19, 0, 1, 248, 0, []) :: (244, 0, 3, 0, 0, 0, []) :: (245, 22, 0, 0, 249, 0, []) :: kX11_reads_248
def kX11_reads_231 : List mIn := (231, 25, 0, 11, 10, 95, [1585]) :: (234, 22, 0, 0, 262, 0, []) :: kX11_reads_237
def kX11_reads_230 : List mIn := (230, 0, 2, 0, 0, 0, []) :: kX11_reads_231
def kX11_reads_212 : List mIn := (212, 4, 0, 0, 1, 0, []) :: (213, 4, 0, 0, 1, 0, []) :: (214, 24, 0, 11, 8, 89, [1583]) :: (217, 4, 0, 0, 1, 0, []) :: (218, 24, 0, 11, 9, 92, [1584]) :: (221, 9, 0, 1, 0, 0, []) :: (222, 0, 3, 0, 0, 0, []) :: (223, 19, 0, 5, 230, 0, []) :: (226, 0, 4, 0, 0, 0, []) :: (227, 22, 0, 0, 231, 0, []) :: kX11_reads_230
def kX11_reads_196 : List mIn := (196, 25, 0, 11, 11, 109, [1586]) :: (199, 4, 0, 0, 1, 0, []) :: (200, 29, 0, 0, 0, 0, []) :: (201, 24, 0, 11, 8, 89, [1583]) :: (204, 0, 1, 0, 0, 0, []) :: (205, 9, 0, 0, 0, 0, []) :: (206, 25, 0, 11, 8, 89, [1583]) :: (209, 22, 0, 0, 141, 0, []) :: kX11_reads_212
def kX11_reads_192 : List mIn := (192, 4, 0, 0, 1, 0, []) :: (193, 24, 0, 11, 11, 109, [1586]) :: kX11_reads_196
def kX11_reads_141 : List mIn := (141, 4, 0, 0, 1, 0, []) :: (142, 4, 0, 0, 1, 0, []) :: (143, 24, 0, 11, 8, 89, [1583]) :: (146, 32, 0, 1, 2, 102, [11, 1711, 1713, 51, 116, 1714]) :: (149, 32, 1, 2, 1, 106, [1715, 1716, 116, 1717]) :: (152, 20, 0, 0, 212, 0, []) :: (155, 4, 0, 0, 1, 0, []) :: (156, 4, 0, 0, 1, 0, []) :: (157, 24, 0, 11, 8, 89, [1583]) :: (160, 4, 0, 0, 1, 0, []) :: (161, 24, 0, 11, 9, 92, [1584]) :: (164, 9, 0, 1, 0, 0, []) :: (165, 0, 3, 0, 0, 0, []) :: (166, 19, 0, 3, 192, 0, []) :: (169, 0, 10, 1, 0, 0, []) :: (171, 4, 0, 0, 1, 0, []) :: (172, 24, 0, 11, 11, 109, [1586]) :: (175, 9, 0, 2, 0, 0, []) :: (176, 4, 0, 0, 1, 0, []) :: (177, 24, 0, 11, 4, 20, [1579]) :: (180, 4, 0, 0, 1, 0, []) :: (181, 24, 0, 11, 8, 89, [1583]) :: (184, 26, 0, 20, 0, 0, []) :: (185, 9, 0, 0, 0, 0, []) :: (186, 0, 48, 1, 0, 0, []) :: (188, 9, 0, 1, 0, 0, []) :: (189, 22, 0, 0, 196, 0, []) :: kX11_reads_192
def kX11_reads_129 : List mIn := (129, 2, 0, 1, 1, 0, []) :: (130, 32, 1, 2, 1, 106, [1715, 1716, 116, 1717]) :: (133, 20, 0, 0, 237, 0, []) :: (136, 4, 0, 0, 1, 0, []) :: (137, 0, 0, 0, 0, 0, []) :: (138, 25, 0, 11, 11, 109, [1586]) :: (141, 43, 0, 0, 141, 0, []) :: kX11_reads_141
def kX11_reads_121 : List mIn := (121, 4, 0, 0, 1, 0, []) :: (122, 0, 1, 0, 0, 0, []) :: (123, 25, 0, 11, 10, 95, [1585]) :: (126, 22, 0, 0, 262, 0, []) :: kX11_reads_129
def kX11_reads_94 : List mIn := (94, 4, 0, 0, 1, 0, []) :: (95, 4, 0, 0, 1, 0, []) :: (96, 24, 0, 11, 8, 89, [1583]) :: (99, 32, 0, 1, 2, 102, [11, 1711, 1713, 51, 116, 1714]) :: (102, 32, 1, 0, 1, 98, [1708, 1709, 116, 1710]) :: (105, 20, 0, 0, 121, 0, []) :: (108, 4, 0, 0, 1, 0, []) :: (109, 29, 0, 0, 0, 0, []) :: (110, 24, 0, 11, 8, 89, [1583]) :: (113, 0, 1, 0, 0, 0, []) :: (114, 9, 0, 0, 0, 0, []) :: (115, 25, 0, 11, 8, 89, [1583]) :: (118, 22, 0, 0, 94, 0, []) :: kX11_reads_121
def kX11_reads_77 : List mIn := (77, 4, 0, 0, 1, 0, []) :: (78, 24, 0, 11, 4, 20, [1579]) :: (81, 4, 0, 0, 1, 0, []) :: (82, 24, 0, 11, 8, 89, [1583]) :: (85, 26, 0, 20, 0, 0, []) :: (86, 5, 0, 1, 1, 0, []) :: (87, 2, 0, 1, 1, 0, []) :: (88, 32, 1, 0, 1, 98, [1708, 1709, 116, 1710]) :: (91, 20, 0, 0, 129, 0, []) :: (94, 43, 0, 0, 94, 0, []) :: kX11_reads_94
def kX11_reads_52 : List mIn := (52, 4, 0, 0, 1, 0, []) :: (53, 4, 0, 0, 1, 0, []) :: (54, 24, 0, 11, 8, 89, [1583]) :: (57, 25, 0, 11, 9, 92, [1584]) :: (60, 4, 0, 0, 1, 0, []) :: (61, 24, 0, 11, 8, 89, [1583]) :: (64, 4, 0, 0, 1, 0, []) :: (65, 24, 0, 11, 7, 86, [1582]) :: (68, 19, 0, 2, 77, 0, []) :: (71, 4, 0, 0, 1, 0, []) :: (72, 0, 0, 0, 0, 0, []) :: (73, 25, 0, 11, 10, 95, [1585]) :: (76, 33, 0, 0, 0, 0, []) :: kX11_reads_77
def kX11_reads_39 : List mIn := (39, 4, 0, 0, 1, 0, []) :: (40, 29, 0, 0, 0, 0, []) :: (41, 24, 0, 11, 8, 89, [1583]) :: (44, 0, 1, 0, 0, 0, []) :: (45, 9, 0, 0, 0, 0, []) :: (46, 25, 0, 11, 8, 89, [1583]) :: (49, 22, 0, 0, 0, 0, []) :: kX11_reads_52
def kX11_reads_0 : List mIn := (0, 4, 0, 0, 1, 0, []) :: (1, 24, 0, 11, 8, 89, [1583]) :: (4, 4, 0, 0, 1, 0, []) :: (5, 24, 0, 11, 7, 86, [1582]) :: (8, 19, 0, 3, 52, 0, []) :: (11, 4, 0, 0, 1, 0, []) :: (12, 24, 0, 11, 4, 20, [1579]) :: (15, 4, 0, 0, 1, 0, []) :: (16, 24, 0, 11, 8, 89, [1583]) :: (19, 26, 0, 20, 0, 0, []) :: (20, 0, 32, 1, 0, 0, []) :: (22, 19, 0, 0, 39, 0, []) :: (25, 4, 0, 0, 1, 0, []) :: (26, 24, 0, 11, 4, 20, [1579]) :: (29, 4, 0, 0, 1, 0, []) :: (30, 24, 0, 11, 8, 89, [1583]) :: (33, 26, 0, 20, 0, 0, []) :: (34, 0, 10, 1, 0, 0, []) :: (36, 19, 0, 1, 52, 0, []) :: kX11_reads_39
def kX11_reads : List mIn := kX11_reads_0
def TX11_reads : Nat → mCal := fun a => match a with
  | 0 => calX11_isLetter
  | 1 => calX11_see
  | 2 => calX11_isDigit
  | _ => (yX11_reads, cX11_reads, 2, none, (0, 0, 0, 0))
def calX11_reads : mCal := (yX11_reads, cX11_reads, 2, none, (1, 21, 0, 0))
def cutX11_reads : Nat → Option (List Bool) := fun t => mLk t [(0, [true, false]), (94, [true, false]), (141, [true, false])]
theorem okX11_reads : mOK (yX11_reads.cls, cX11_reads, TX11_reads, none, (1, 21, 0, 0), 2, mAcf [], mAcf []) kX11_reads = true := by decide +kernel
set_option maxRecDepth 100000 in
theorem sfxX11_reads_0 : mSfx 0 kX11_reads = kX11_reads_0 := rfl
theorem cutX11_reads_0 : cutX11_reads 0 = some [true, false] := by decide
set_option maxRecDepth 100000 in
theorem sfxX11_reads_39 : mSfx 39 kX11_reads = kX11_reads_39 := rfl
theorem cutX11_reads_39 : cutX11_reads 39 = none := by decide
set_option maxRecDepth 100000 in
theorem sfxX11_reads_52 : mSfx 52 kX11_reads = kX11_reads_52 := rfl
theorem cutX11_reads_52 : cutX11_reads 52 = none := by decide
set_option maxRecDepth 100000 in
theorem sfxX11_reads_77 : mSfx 77 kX11_reads = kX11_reads_77 := rfl
theorem cutX11_reads_77 : cutX11_reads 77 = none := by decide
set_option maxRecDepth 100000 in
theorem sfxX11_reads_94 : mSfx 94 kX11_reads = kX11_reads_94 := rfl
theorem cutX11_reads_94 : cutX11_reads 94 = some [true, false] := by decide
set_option maxRecDepth 100000 in
theorem sfxX11_reads_121 : mSfx 121 kX11_reads = kX11_reads_121 := rfl
theorem cutX11_reads_121 : cutX11_reads 121 = none := by decide
set_option maxRecDepth 100000 in
theorem sfxX11_reads_129 : mSfx 129 kX11_reads = kX11_reads_129 := rfl
theorem cutX11_reads_129 : cutX11_reads 129 = none := by decide
set_option maxRecDepth 100000 in
theorem sfxX11_reads_141 : mSfx 141 kX11_reads = kX11_reads_141 := rfl
theorem cutX11_reads_141 : cutX11_reads 141 = some [true, false] := by decide
set_option maxRecDepth 100000 in
theorem sfxX11_reads_192 : mSfx 192 kX11_reads = kX11_reads_192 := rfl
theorem cutX11_reads_192 : cutX11_reads 192 = none := by decide
set_option maxRecDepth 100000 in
theorem sfxX11_reads_196 : mSfx 196 kX11_reads = kX11_reads_196 := rfl
theorem cutX11_reads_196 : cutX11_reads 196 = none := by decide
set_option maxRecDepth 100000 in
theorem sfxX11_reads_212 : mSfx 212 kX11_reads = kX11_reads_212 := rfl
theorem cutX11_reads_212 : cutX11_reads 212 = none := by decide
set_option maxRecDepth 100000 in
theorem sfxX11_reads_230 : mSfx 230 kX11_reads = kX11_reads_230 := rfl
theorem cutX11_reads_230 : cutX11_reads 230 = none := by decide
set_option maxRecDepth 100000 in
theorem sfxX11_reads_231 : mSfx 231 kX11_reads = kX11_reads_231 := rfl
theorem cutX11_reads_231 : cutX11_reads 231 = none := by decide
set_option maxRecDepth 100000 in
theorem sfxX11_reads_237 : mSfx 237 kX11_reads = kX11_reads_237 := rfl
theorem cutX11_reads_237 : cutX11_reads 237 = none := by decide
set_option maxRecDepth 100000 in
theorem sfxX11_reads_248 : mSfx 248 kX11_reads = kX11_reads_248 := rfl
theorem cutX11_reads_248 : cutX11_reads 248 = none := by decide
set_option maxRecDepth 100000 in
theorem sfxX11_reads_249 : mSfx 249 kX11_reads = kX11_reads_249 := rfl
theorem cutX11_reads_249 : cutX11_reads 249 = none := by decide
set_option maxRecDepth 100000 in
theorem sfxX11_reads_262 : mSfx 262 kX11_reads = kX11_reads_262 := rfl
theorem cutX11_reads_262 : cutX11_reads 262 = none := by decide
def kX11_blames_22 : List mIn := (22, 25, 0, 11, 12, 112, [1587]) :: (25, 4, 0, 0, 1, 0, []) :: (26, 4, 0, 0, 1, 0, []) :: (27, 24, 0, 11, 9, 92, [1584]) :: (30, 25, 0, 11, 13, 115, [1588]) :: (33, 33, 0, 0, 0, 0, []) :: []
def kX11_blames_21 : List mIn := (21, 2, 0, 1, 1, 0, []) :: kX11_blames_22
def kX11_blames_8 : List mIn := (8, 4, 0, 0, 1, 0, []) :: (9, 4, 0, 0, 1, 0, []) :: (10, 24, 0, 11, 10, 95, [1585]) :: (13, 0, 4, 0, 0, 0, []) :: (14, 19, 0, 1, 21, 0, []) :: (17, 0, 1, 0, 0, 0, []) :: (18, 22, 0, 0, 22, 0, []) :: kX11_blames_21
def kX11_blames_0 : List mIn := (0, 4, 0, 0, 1, 0, []) :: (1, 24, 0, 11, 12, 112, [1587]) :: (4, 20, 0, 0, 8, 0, []) :: (7, 33, 0, 0, 0, 0, []) :: kX11_blames_8
def kX11_blames : List mIn := kX11_blames_0
def TX11_blames : Nat → mCal := fun a => match a with
  | _ => (yX11_blames, cX11_blames, 2, none, (0, 0, 0, 0))
def calX11_blames : mCal := (yX11_blames, cX11_blames, 2, none, (0, 0, 0, 0))
def cutX11_blames : Nat → Option (List Bool) := fun t => mLk t []
theorem okX11_blames : mOK (yX11_blames.cls, cX11_blames, TX11_blames, none, (0, 0, 0, 0), 2, mAcf [], mAcf []) kX11_blames = true := by decide +kernel
set_option maxRecDepth 100000 in
theorem sfxX11_blames_8 : mSfx 8 kX11_blames = kX11_blames_8 := rfl
theorem cutX11_blames_8 : cutX11_blames 8 = none := by decide
set_option maxRecDepth 100000 in
theorem sfxX11_blames_21 : mSfx 21 kX11_blames = kX11_blames_21 := rfl
theorem cutX11_blames_21 : cutX11_blames 21 = none := by decide
set_option maxRecDepth 100000 in
theorem sfxX11_blames_22 : mSfx 22 kX11_blames = kX11_blames_22 := rfl
theorem cutX11_blames_22 : cutX11_blames 22 = none := by decide
def kX11_isWord_82 : List mIn := (82, 2, 0, 2, 1, 0, []) :: (83, 33, 0, 4, 0, 0, []) :: []
def kX11_isWord_75 : List mIn := (75, 5, 0, 2, 1, 0, []) :: (76, 8, 1, 3, 0, 0, []) :: (79, 22, 0, 0, 39, 0, []) :: kX11_isWord_82
def kX11_isWord_74 : List mIn := (74, 0, 0, 0, 0, 0, []) :: kX11_isWord_75
def kX11_isWord_39 : List mIn := (39, 2, 0, 2, 1, 0, []) :: (40, 20, 0, 0, 82, 0, []) :: (43, 2, 0, 3, 1, 0, []) :: (44, 4, 0, 1, 1, 0, []) :: (45, 38, 0, 0, 0, 118, [1727, 841, 842, 122, 843]) :: (48, 19, 0, 3, 82, 0, []) :: (51, 4, 0, 0, 1, 0, []) :: (52, 24, 0, 11, 4, 20, [1579]) :: (55, 4, 0, 0, 1, 0, []) :: (56, 24, 0, 11, 9, 92, [1584]) :: (59, 2, 0, 3, 1, 0, []) :: (60, 9, 0, 0, 0, 0, []) :: (61, 26, 0, 20, 0, 0, []) :: (62, 4, 0, 1, 1, 0, []) :: (63, 2, 0, 3, 1, 0, []) :: (64, 39, 0, 0, 0, 124, [1728, 851, 852, 122, 853]) :: (67, 19, 0, 1, 74, 0, []) :: (70, 0, 1, 0, 0, 0, []) :: (71, 22, 0, 0, 75, 0, []) :: kX11_isWord_74
def kX11_isWord_36 : List mIn := (36, 5, 0, 2, 1, 0, []) :: (37, 0, 0, 0, 0, 0, []) :: (38, 5, 0, 3, 1, 0, []) :: (39, 43, 0, 0, 39, 0, []) :: kX11_isWord_39
def kX11_isWord_35 : List mIn := (35, 0, 0, 0, 0, 0, []) :: kX11_isWord_36
def kX11_isWord_0 : List mIn := (0, 4, 0, 0, 1, 0, []) :: (1, 24, 0, 11, 12, 112, [1587]) :: (4, 20, 0, 1, 35, 0, []) :: (7, 4, 0, 0, 1, 0, []) :: (8, 24, 0, 11, 10, 95, [1585]) :: (11, 0, 1, 0, 0, 0, []) :: (12, 19, 0, 1, 35, 0, []) :: (15, 4, 0, 0, 1, 0, []) :: (16, 24, 0, 11, 8, 89, [1583]) :: (19, 4, 0, 0, 1, 0, []) :: (20, 24, 0, 11, 9, 92, [1584]) :: (23, 9, 0, 1, 0, 0, []) :: (24, 4, 0, 1, 1, 0, []) :: (25, 38, 0, 0, 0, 118, [1727, 841, 842, 122, 843]) :: (28, 19, 0, 1, 35, 0, []) :: (31, 0, 1, 0, 0, 0, []) :: (32, 22, 0, 0, 36, 0, []) :: kX11_isWord_35
def kX11_isWord : List mIn := kX11_isWord_0
def TX11_isWord : Nat → mCal := fun a => match a with
  | _ => (yX11_isWord, cX11_isWord, 4, (some .boolean), (0, 0, 0, 0))
def calX11_isWord : mCal := (yX11_isWord, cX11_isWord, 4, (some .boolean), (5, 141, 0, 0))
def cutX11_isWord : Nat → Option (List Bool) := fun t => mLk t [(39, [true, true, true, true])]
theorem okX11_isWord : mOK (yX11_isWord.cls, cX11_isWord, TX11_isWord, (some .boolean), (5, 141, 0, 0), 4, mAcf [], mAcf []) kX11_isWord = true := by decide +kernel
set_option maxRecDepth 100000 in
theorem sfxX11_isWord_35 : mSfx 35 kX11_isWord = kX11_isWord_35 := rfl
theorem cutX11_isWord_35 : cutX11_isWord 35 = none := by decide
set_option maxRecDepth 100000 in
theorem sfxX11_isWord_36 : mSfx 36 kX11_isWord = kX11_isWord_36 := rfl
theorem cutX11_isWord_36 : cutX11_isWord 36 = none := by decide
set_option maxRecDepth 100000 in
theorem sfxX11_isWord_39 : mSfx 39 kX11_isWord = kX11_isWord_39 := rfl
theorem cutX11_isWord_39 : cutX11_isWord 39 = some [true, true, true, true] := by decide
set_option maxRecDepth 100000 in
theorem sfxX11_isWord_74 : mSfx 74 kX11_isWord = kX11_isWord_74 := rfl
theorem cutX11_isWord_74 : cutX11_isWord 74 = none := by decide
set_option maxRecDepth 100000 in
theorem sfxX11_isWord_75 : mSfx 75 kX11_isWord = kX11_isWord_75 := rfl
theorem cutX11_isWord_75 : cutX11_isWord 75 = none := by decide
set_option maxRecDepth 100000 in
theorem sfxX11_isWord_82 : mSfx 82 kX11_isWord = kX11_isWord_82 := rfl
theorem cutX11_isWord_82 : cutX11_isWord 82 = none := by decide
def kX11_number_64 : List mIn := (64, 33, 0, 1, 0, 0, []) :: []
def kX11_number_63 : List mIn := (63, 2, 0, 1, 1, 0, []) :: kX11_number_64
def kX11_number_52 : List mIn := (52, 4, 0, 0, 1, 0, []) :: (53, 24, 0, 11, 12, 112, [1587]) :: (56, 20, 0, 1, 63, 0, []) :: (59, 2, 0, 3, 1, 0, []) :: (60, 22, 0, 0, 64, 0, []) :: kX11_number_63
def kX11_number_36 : List mIn := (36, 4, 0, 0, 1, 0, []) :: (37, 24, 0, 11, 11, 109, [1586]) :: (40, 5, 0, 3, 1, 0, []) :: (41, 4, 0, 0, 1, 0, []) :: (42, 24, 0, 11, 12, 112, [1587]) :: (45, 20, 0, 1, 52, 0, []) :: (48, 4, 0, 0, 1, 0, []) :: (49, 32, 0, 2, 1, 132, [11, 1704, 1706, 50, 116, 1707]) :: kX11_number_52
def kX11_number_16 : List mIn := (16, 4, 0, 0, 1, 0, []) :: (17, 24, 0, 11, 11, 109, [1586]) :: (20, 13, 0, 0, 0, 0, []) :: (21, 2, 0, 1, 1, 0, []) :: (22, 13, 0, 0, 0, 0, []) :: (23, 2, 0, 2, 1, 0, []) :: (24, 13, 0, 0, 0, 0, []) :: (25, 32, 1, 1, 3, 79, [1697, 1698, 116, 1699]) :: (28, 20, 0, 1, 36, 0, []) :: (31, 4, 0, 0, 1, 0, []) :: (32, 0, 3, 0, 0, 0, []) :: (33, 32, 0, 0, 2, 128, [11, 1735, 1737, 54, 116, 1738]) :: kX11_number_36
def kX11_number_0 : List mIn := (0, 4, 0, 0, 1, 0, []) :: (1, 24, 0, 11, 10, 95, [1585]) :: (4, 0, 2, 0, 0, 0, []) :: (5, 19, 0, 0, 16, 0, []) :: (8, 4, 0, 0, 1, 0, []) :: (9, 0, 2, 0, 0, 0, []) :: (10, 32, 0, 0, 2, 128, [11, 1735, 1737, 54, 116, 1738]) :: (13, 22, 0, 0, 36, 0, []) :: kX11_number_16
def kX11_number : List mIn := kX11_number_0
def TX11_number : Nat → mCal := fun a => match a with
  | 0 => calX11_blames
  | 1 => calX11_within
  | 2 => calX11_reads
  | _ => (yX11_number, cX11_number, 4, (some .int), (0, 0, 0, 0))
def calX11_number : mCal := (yX11_number, cX11_number, 4, (some .int), (2, 42, 0, 0))
def cutX11_number : Nat → Option (List Bool) := fun t => mLk t []
theorem okX11_number : mOK (yX11_number.cls, cX11_number, TX11_number, (some .int), (2, 42, 0, 0), 4, mAcf [], mAcf []) kX11_number = true := by decide +kernel
set_option maxRecDepth 100000 in
theorem sfxX11_number_16 : mSfx 16 kX11_number = kX11_number_16 := rfl
theorem cutX11_number_16 : cutX11_number 16 = none := by decide
set_option maxRecDepth 100000 in
theorem sfxX11_number_36 : mSfx 36 kX11_number = kX11_number_36 := rfl
theorem cutX11_number_36 : cutX11_number 36 = none := by decide
set_option maxRecDepth 100000 in
theorem sfxX11_number_52 : mSfx 52 kX11_number = kX11_number_52 := rfl
theorem cutX11_number_52 : cutX11_number 52 = none := by decide
set_option maxRecDepth 100000 in
theorem sfxX11_number_63 : mSfx 63 kX11_number = kX11_number_63 := rfl
theorem cutX11_number_63 : cutX11_number 63 = none := by decide
set_option maxRecDepth 100000 in
theorem sfxX11_number_64 : mSfx 64 kX11_number = kX11_number_64 := rfl
theorem cutX11_number_64 : cutX11_number 64 = none := by decide
def kX11_told_24 : List mIn := (24, 4, 0, 0, 1, 0, []) :: (25, 2, 0, 2, 1, 0, []) :: (26, 2, 0, 3, 1, 0, []) :: (27, 32, 0, 3, 3, 139, [11, 1747, 1749, 57, 116, 1750]) :: (30, 33, 0, 1, 0, 0, []) :: []
def kX11_told_13 : List mIn := (13, 4, 0, 0, 1, 0, []) :: (14, 24, 0, 11, 12, 112, [1587]) :: (17, 20, 0, 1, 24, 0, []) :: (20, 4, 0, 0, 1, 0, []) :: (21, 32, 0, 2, 1, 132, [11, 1704, 1706, 50, 116, 1707]) :: kX11_told_24
def kX11_told_0 : List mIn := (0, 4, 0, 0, 1, 0, []) :: (1, 4, 0, 1, 1, 0, []) :: (2, 32, 0, 0, 2, 135, [11, 1723, 1725, 53, 116, 1726]) :: (5, 20, 0, 1, 13, 0, []) :: (8, 4, 0, 0, 1, 0, []) :: (9, 0, 2, 0, 0, 0, []) :: (10, 32, 0, 1, 2, 128, [11, 1735, 1737, 54, 116, 1738]) :: kX11_told_13
def kX11_told : List mIn := kX11_told_0
def TX11_told : Nat → mCal := fun a => match a with
  | 0 => calX11_isWord
  | 1 => calX11_blames
  | 2 => calX11_reads
  | 3 => calX11_number
  | _ => (yX11_told, cX11_told, 4, (some .int), (0, 0, 0, 0))
def calX11_told : mCal := (yX11_told, cX11_told, 4, (some .int), (6, 164, 0, 0))
def cutX11_told : Nat → Option (List Bool) := fun t => mLk t []
theorem okX11_told : mOK (yX11_told.cls, cX11_told, TX11_told, (some .int), (6, 164, 0, 0), 4, mAcf [], mAcf []) kX11_told = true := by decide +kernel
set_option maxRecDepth 100000 in
theorem sfxX11_told_13 : mSfx 13 kX11_told = kX11_told_13 := rfl
theorem cutX11_told_13 : cutX11_told 13 = none := by decide
set_option maxRecDepth 100000 in
theorem sfxX11_told_24 : mSfx 24 kX11_told = kX11_told_24 := rfl
theorem cutX11_told_24 : cutX11_told 24 = none := by decide
def kX11_readSlow_82 : List mIn := (82, 33, 0, 0, 0, 0, []) :: []
def kX11_readSlow_38 : List mIn := (38, 4, 0, 0, 1, 0, []) :: (39, 24, 0, 11, 12, 112, [1587]) :: (42, 20, 0, 1, 82, 0, []) :: (45, 4, 0, 0, 1, 0, []) :: (46, 24, 0, 11, 10, 95, [1585]) :: (49, 0, 2, 0, 0, 0, []) :: (50, 19, 0, 1, 82, 0, []) :: (53, 4, 0, 0, 1, 0, []) :: (54, 0, 0, 0, 0, 0, []) :: (55, 0, 288, 2, 0, 0, []) :: (58, 32, 0, 1, 3, 139, [11, 1747, 1749, 57, 116, 1750]) :: (61, 5, 0, 2, 1, 0, []) :: (62, 4, 0, 0, 1, 0, []) :: (63, 24, 0, 11, 12, 112, [1587]) :: (66, 20, 0, 1, 38, 0, []) :: (69, 4, 0, 0, 1, 0, []) :: (70, 24, 0, 11, 5, 23, [1580]) :: (73, 0, 20, 1, 0, 0, []) :: (75, 2, 0, 2, 1, 0, []) :: (76, 9, 0, 0, 0, 0, []) :: (77, 2, 0, 1, 1, 0, []) :: (78, 27, 0, 20, 0, 0, []) :: (79, 22, 0, 0, 38, 0, []) :: kX11_readSlow_82
def kX11_readSlow_0 : List mIn := (0, 4, 0, 0, 1, 0, []) :: (1, 37, 0, 1, 2, 143, []) :: (3, 0, 0, 0, 0, 0, []) :: (4, 0, 20, 1, 0, 0, []) :: (6, 32, 0, 0, 4, 145, [11, 1743, 1745, 56, 116, 1746]) :: (9, 5, 0, 1, 1, 0, []) :: (10, 4, 0, 0, 1, 0, []) :: (11, 37, 0, 7, 2, 148, []) :: (13, 0, 0, 0, 0, 0, []) :: (14, 0, 288, 2, 0, 0, []) :: (17, 32, 0, 0, 4, 145, [11, 1743, 1745, 56, 116, 1746]) :: (20, 5, 0, 2, 1, 0, []) :: (21, 4, 0, 0, 1, 0, []) :: (22, 24, 0, 11, 12, 112, [1587]) :: (25, 20, 0, 1, 38, 0, []) :: (28, 4, 0, 0, 1, 0, []) :: (29, 24, 0, 11, 5, 23, [1580]) :: (32, 0, 20, 1, 0, 0, []) :: (34, 2, 0, 2, 1, 0, []) :: (35, 9, 0, 0, 0, 0, []) :: (36, 2, 0, 1, 1, 0, []) :: (37, 27, 0, 20, 0, 0, []) :: (38, 43, 0, 0, 38, 0, []) :: kX11_readSlow_38
def kX11_readSlow : List mIn := kX11_readSlow_0
def TX11_readSlow : Nat → mCal := fun a => match a with
  | 0 => calX11_told
  | 1 => calX11_number
  | _ => (yX11_readSlow, cX11_readSlow, 3, none, (0, 0, 0, 0))
def calX11_readSlow : mCal := (yX11_readSlow, cX11_readSlow, 3, none, (7, 187, 0, 0))
def cutX11_readSlow : Nat → Option (List Bool) := fun t => mLk t [(38, [true, true, false])]
theorem okX11_readSlow : mOK (yX11_readSlow.cls, cX11_readSlow, TX11_readSlow, none, (7, 187, 0, 0), 3, mAcf [], mAcf []) kX11_readSlow = true := by decide +kernel
set_option maxRecDepth 100000 in
theorem sfxX11_readSlow_38 : mSfx 38 kX11_readSlow = kX11_readSlow_38 := rfl
theorem cutX11_readSlow_38 : cutX11_readSlow 38 = some [true, true, false] := by decide
set_option maxRecDepth 100000 in
theorem sfxX11_readSlow_82 : mSfx 82 kX11_readSlow = kX11_readSlow_82 := rfl
theorem cutX11_readSlow_82 : cutX11_readSlow 82 = none := by decide
def kX11_readHit_91 : List mIn := (91, 0, 310, 2, 0, 0, []) :: (94, 0, 5, 0, 0, 0, []) :: (95, 0, 8, 1, 0, 0, []) :: (97, 2, 0, 1, 1, 0, []) :: (98, 9, 0, 2, 0, 0, []) :: (99, 4, 0, 0, 1, 0, []) :: (100, 24, 0, 11, 5, 23, [1580]) :: (103, 0, 13, 1, 0, 0, []) :: (105, 2, 0, 1, 1, 0, []) :: (106, 9, 0, 0, 0, 0, []) :: (107, 26, 0, 20, 0, 0, []) :: (108, 9, 0, 0, 0, 0, []) :: (109, 9, 0, 2, 0, 0, []) :: (110, 9, 0, 0, 0, 0, []) :: (111, 5, 0, 6, 2, 0, []) :: (113, 4, 0, 0, 1, 0, []) :: (114, 24, 0, 11, 5, 23, [1580]) :: (117, 2, 0, 6, 2, 0, []) :: (119, 0, 0, 0, 0, 0, []) :: (120, 9, 0, 0, 0, 0, []) :: (121, 2, 0, 2, 1, 0, []) :: (122, 27, 0, 20, 0, 0, []) :: (123, 4, 0, 0, 1, 0, []) :: (124, 24, 0, 11, 5, 23, [1580]) :: (127, 2, 0, 6, 2, 0, []) :: (129, 0, 1, 0, 0, 0, []) :: (130, 9, 0, 0, 0, 0, []) :: (131, 2, 0, 3, 1, 0, []) :: (132, 27, 0, 20, 0, 0, []) :: (133, 4, 0, 0, 1, 0, []) :: (134, 24, 0, 11, 5, 23, [1580]) :: (137, 2, 0, 6, 2, 0, []) :: (139, 0, 2, 0, 0, 0, []) :: (140, 9, 0, 0, 0, 0, []) :: (141, 2, 0, 4, 2, 0, []) :: (143, 27, 0, 20, 0, 0, []) :: (144, 4, 0, 0, 1, 0, []) :: (145, 24, 0, 11, 5, 23, [1580]) :: (148, 2, 0, 6, 2, 0, []) :: (150, 0, 3, 0, 0, 0, []) :: (151, 9, 0, 0, 0, 0, []) :: (152, 2, 0, 5, 2, 0, []) :: (154, 27, 0, 20, 0, 0, []) :: (155, 4, 0, 0, 1, 0, []) :: (156, 24, 0, 11, 5, 23, [1580]) :: (159, 2, 0, 6, 2, 0, []) :: (161, 0, 4, 0, 0, 0, []) :: (162, 9, 0, 0, 0, 0, []) :: (163, 0, 0, 0, 0, 0, []) :: (164, 27, 0, 20, 0, 0, []) :: (165, 4, 0, 0, 1, 0, []) :: (166, 24, 0, 11, 5, 23, [1580]) :: (169, 0, 13, 1, 0, 0, []) :: (171, 2, 0, 1, 1, 0, []) :: (172, 9, 0, 0, 0, 0, []) :: (173, 30, 0, 0, 0, 0, []) :: (174, 26, 0, 20, 0, 0, []) :: (175, 0, 1, 0, 0, 0, []) :: (176, 9, 0, 0, 0, 0, []) :: (177, 27, 0, 20, 0, 0, []) :: (178, 33, 0, 0, 0, 0, []) :: []
def kX11_readHit_70 : List mIn := (70, 5, 0, 4, 2, 0, []) :: (72, 4, 0, 0, 1, 0, []) :: (73, 37, 0, 11, 2, 155, []) :: (75, 0, 1, 0, 0, 0, []) :: (76, 0, 99, 1, 0, 0, []) :: (78, 32, 0, 2, 4, 145, [11, 1743, 1745, 56, 116, 1746]) :: (81, 5, 0, 5, 2, 0, []) :: (83, 4, 0, 0, 1, 0, []) :: (84, 24, 0, 11, 12, 112, [1587]) :: (87, 20, 0, 0, 91, 0, []) :: (90, 33, 0, 0, 0, 0, []) :: kX11_readHit_91
def kX11_readHit_69 : List mIn := (69, 0, 0, 0, 0, 0, []) :: kX11_readHit_70
def kX11_readHit_28 : List mIn := (28, 4, 0, 0, 1, 0, []) :: (29, 37, 0, 8, 2, 149, []) :: (31, 0, 0, 0, 0, 0, []) :: (32, 0, 15, 1, 0, 0, []) :: (34, 32, 0, 2, 4, 145, [11, 1743, 1745, 56, 116, 1746]) :: (37, 5, 0, 2, 1, 0, []) :: (38, 4, 0, 0, 1, 0, []) :: (39, 37, 0, 9, 2, 151, []) :: (41, 0, 1, 0, 0, 0, []) :: (42, 0, 9, 1, 0, 0, []) :: (44, 32, 0, 2, 4, 145, [11, 1743, 1745, 56, 116, 1746]) :: (47, 5, 0, 3, 1, 0, []) :: (48, 4, 0, 0, 1, 0, []) :: (49, 37, 0, 10, 2, 153, []) :: (51, 32, 0, 0, 2, 135, [11, 1723, 1725, 53, 116, 1726]) :: (54, 20, 0, 0, 69, 0, []) :: (57, 4, 0, 0, 1, 0, []) :: (58, 37, 0, 10, 2, 153, []) :: (60, 0, 1, 0, 0, 0, []) :: (61, 0, 8, 1, 0, 0, []) :: (63, 32, 0, 2, 4, 145, [11, 1743, 1745, 56, 116, 1746]) :: (66, 22, 0, 0, 70, 0, []) :: kX11_readHit_69
def kX11_readHit_0 : List mIn := (0, 4, 0, 0, 1, 0, []) :: (1, 37, 0, 8, 2, 149, []) :: (3, 32, 0, 0, 2, 135, [11, 1723, 1725, 53, 116, 1726]) :: (6, 20, 0, 0, 28, 0, []) :: (9, 4, 0, 0, 1, 0, []) :: (10, 24, 0, 11, 5, 23, [1580]) :: (13, 0, 13, 1, 0, 0, []) :: (15, 2, 0, 1, 1, 0, []) :: (16, 9, 0, 0, 0, 0, []) :: (17, 26, 0, 20, 0, 0, []) :: (18, 0, 8, 1, 0, 0, []) :: (20, 19, 0, 1, 28, 0, []) :: (23, 4, 0, 0, 1, 0, []) :: (24, 0, 5, 0, 0, 0, []) :: (25, 32, 0, 1, 2, 128, [11, 1735, 1737, 54, 116, 1738]) :: kX11_readHit_28
def kX11_readHit : List mIn := kX11_readHit_0
def TX11_readHit : Nat → mCal := fun a => match a with
  | 0 => calX11_isWord
  | 1 => calX11_blames
  | 2 => calX11_told
  | _ => (yX11_readHit, cX11_readHit, 7, none, (0, 0, 0, 0))
def calX11_readHit : mCal := (yX11_readHit, cX11_readHit, 7, none, (7, 187, 0, 0))
def cutX11_readHit : Nat → Option (List Bool) := fun t => mLk t []
theorem okX11_readHit : mOK (yX11_readHit.cls, cX11_readHit, TX11_readHit, none, (7, 187, 0, 0), 7, mAcf [], mAcf []) kX11_readHit = true := by decide +kernel
set_option maxRecDepth 100000 in
theorem sfxX11_readHit_28 : mSfx 28 kX11_readHit = kX11_readHit_28 := rfl
theorem cutX11_readHit_28 : cutX11_readHit 28 = none := by decide
set_option maxRecDepth 100000 in
theorem sfxX11_readHit_69 : mSfx 69 kX11_readHit = kX11_readHit_69 := rfl
theorem cutX11_readHit_69 : cutX11_readHit 69 = none := by decide
set_option maxRecDepth 100000 in
theorem sfxX11_readHit_70 : mSfx 70 kX11_readHit = kX11_readHit_70 := rfl
theorem cutX11_readHit_70 : cutX11_readHit 70 = none := by decide
set_option maxRecDepth 100000 in
theorem sfxX11_readHit_91 : mSfx 91 kX11_readHit = kX11_readHit_91 := rfl
theorem cutX11_readHit_91 : cutX11_readHit 91 = none := by decide
def kX11_readBall_38 : List mIn := (38, 33, 0, 0, 0, 0, []) :: []
def kX11_readBall_21 : List mIn := (21, 4, 0, 0, 1, 0, []) :: (22, 37, 0, 8, 2, 149, []) :: (24, 32, 0, 2, 2, 135, [11, 1723, 1725, 53, 116, 1726]) :: (27, 20, 0, 0, 38, 0, []) :: (30, 4, 0, 0, 1, 0, []) :: (31, 2, 0, 1, 1, 0, []) :: (32, 32, 0, 1, 2, 159, [11, 1756, 1758, 59, 116, 1759]) :: (35, 22, 0, 0, 21, 0, []) :: kX11_readBall_38
def kX11_readBall_0 : List mIn := (0, 4, 0, 0, 1, 0, []) :: (1, 37, 0, 0, 2, 157, []) :: (3, 0, 0, 0, 0, 0, []) :: (4, 0, 5, 0, 0, 0, []) :: (5, 32, 0, 0, 4, 145, [11, 1743, 1745, 56, 116, 1746]) :: (8, 5, 0, 1, 1, 0, []) :: (9, 4, 0, 0, 1, 0, []) :: (10, 24, 0, 11, 12, 112, [1587]) :: (13, 20, 0, 1, 21, 0, []) :: (16, 4, 0, 0, 1, 0, []) :: (17, 2, 0, 1, 1, 0, []) :: (18, 32, 0, 1, 2, 159, [11, 1756, 1758, 59, 116, 1759]) :: (21, 43, 0, 0, 21, 0, []) :: kX11_readBall_21
def kX11_readBall : List mIn := kX11_readBall_0
def TX11_readBall : Nat → mCal := fun a => match a with
  | 0 => calX11_told
  | 1 => calX11_readHit
  | 2 => calX11_isWord
  | _ => (yX11_readBall, cX11_readBall, 2, none, (0, 0, 0, 0))
def calX11_readBall : mCal := (yX11_readBall, cX11_readBall, 2, none, (8, 213, 0, 0))
def cutX11_readBall : Nat → Option (List Bool) := fun t => mLk t [(21, [true, true])]
theorem okX11_readBall : mOK (yX11_readBall.cls, cX11_readBall, TX11_readBall, none, (8, 213, 0, 0), 2, mAcf [], mAcf []) kX11_readBall = true := by decide +kernel
set_option maxRecDepth 100000 in
theorem sfxX11_readBall_21 : mSfx 21 kX11_readBall = kX11_readBall_21 := rfl
theorem cutX11_readBall_21 : cutX11_readBall 21 = some [true, true] := by decide
set_option maxRecDepth 100000 in
theorem sfxX11_readBall_38 : mSfx 38 kX11_readBall = kX11_readBall_38 := rfl
theorem cutX11_readBall_38 : cutX11_readBall 38 = none := by decide
def kX11_readLine_247 : List mIn := (247, 4, 0, 0, 1, 0, []) :: (248, 32, 0, 4, 1, 132, [11, 1704, 1706, 50, 116, 1707]) :: (251, 4, 0, 0, 1, 0, []) :: (252, 24, 0, 11, 5, 23, [1580]) :: (255, 0, 0, 0, 0, 0, []) :: (256, 30, 0, 0, 0, 0, []) :: (257, 26, 0, 20, 0, 0, []) :: (258, 0, 1, 0, 0, 0, []) :: (259, 9, 0, 0, 0, 0, []) :: (260, 27, 0, 20, 0, 0, []) :: (261, 33, 0, 0, 0, 0, []) :: []
def kX11_readLine_239 : List mIn := (239, 4, 0, 0, 1, 0, []) :: (240, 24, 0, 11, 12, 112, [1587]) :: (243, 20, 0, 0, 247, 0, []) :: (246, 33, 0, 0, 0, 0, []) :: kX11_readLine_247
def kX11_readLine_226 : List mIn := (226, 4, 0, 0, 1, 0, []) :: (227, 24, 0, 11, 10, 95, [1585]) :: (230, 0, 3, 0, 0, 0, []) :: (231, 19, 0, 0, 239, 0, []) :: (234, 4, 0, 0, 1, 0, []) :: (235, 0, 2, 0, 0, 0, []) :: (236, 32, 0, 1, 2, 128, [11, 1735, 1737, 54, 116, 1738]) :: kX11_readLine_239
def kX11_readLine_222 : List mIn := (222, 32, 0, 5, 3, 139, [11, 1747, 1749, 57, 116, 1750]) :: (225, 27, 0, 20, 0, 0, []) :: kX11_readLine_226
def kX11_readLine_220 : List mIn := (220, 0, 9, 1, 0, 0, []) :: kX11_readLine_222
def kX11_readLine_210 : List mIn := (210, 2, 0, 1, 1, 0, []) :: (211, 0, 2, 0, 0, 0, []) :: (212, 19, 0, 1, 220, 0, []) :: (215, 0, 99, 1, 0, 0, []) :: (217, 22, 0, 0, 222, 0, []) :: kX11_readLine_220
def kX11_readLine_200 : List mIn := (200, 2, 0, 1, 1, 0, []) :: (201, 0, 1, 0, 0, 0, []) :: (202, 19, 0, 1, 210, 0, []) :: (205, 0, 60, 1, 0, 0, []) :: (207, 22, 0, 0, 222, 0, []) :: kX11_readLine_210
def kX11_readLine_195 : List mIn := (195, 0, 8, 1, 0, 0, []) :: (197, 22, 0, 0, 222, 0, []) :: kX11_readLine_200
def kX11_readLine_186 : List mIn := (186, 2, 0, 1, 1, 0, []) :: (187, 20, 0, 0, 195, 0, []) :: (190, 2, 0, 1, 1, 0, []) :: (191, 0, 4, 0, 0, 0, []) :: (192, 19, 0, 1, 200, 0, []) :: kX11_readLine_195
def kX11_readLine_185 : List mIn := (185, 0, 0, 0, 0, 0, []) :: kX11_readLine_186
def kX11_readLine_176 : List mIn := (176, 2, 0, 1, 1, 0, []) :: (177, 0, 1, 0, 0, 0, []) :: (178, 19, 0, 1, 185, 0, []) :: (181, 0, 1, 0, 0, 0, []) :: (182, 22, 0, 0, 186, 0, []) :: kX11_readLine_185
def kX11_readLine_156 : List mIn := (156, 4, 0, 0, 1, 0, []) :: (157, 32, 0, 4, 1, 132, [11, 1704, 1706, 50, 116, 1707]) :: (160, 4, 0, 0, 1, 0, []) :: (161, 24, 0, 11, 5, 23, [1580]) :: (164, 0, 1, 0, 0, 0, []) :: (165, 2, 0, 1, 1, 0, []) :: (166, 9, 0, 0, 0, 0, []) :: (167, 4, 0, 0, 1, 0, []) :: (168, 2, 0, 1, 1, 0, []) :: (169, 20, 0, 1, 176, 0, []) :: (172, 0, 2, 0, 0, 0, []) :: (173, 22, 0, 0, 186, 0, []) :: kX11_readLine_176
def kX11_readLine_143 : List mIn := (143, 2, 0, 1, 1, 0, []) :: (144, 0, 6, 1, 0, 0, []) :: (146, 19, 0, 1, 156, 0, []) :: (149, 4, 0, 0, 1, 0, []) :: (150, 32, 0, 3, 1, 175, [11, 1752, 1754, 58, 116, 1755]) :: (153, 22, 0, 0, 226, 0, []) :: kX11_readLine_156
def kX11_readLine_131 : List mIn := (131, 2, 0, 1, 1, 0, []) :: (132, 0, 5, 0, 0, 0, []) :: (133, 19, 0, 1, 143, 0, []) :: (136, 4, 0, 0, 1, 0, []) :: (137, 32, 0, 2, 1, 172, [11, 1739, 1741, 55, 116, 1742]) :: (140, 22, 0, 0, 226, 0, []) :: kX11_readLine_143
def kX11_readLine_123 : List mIn := (123, 4, 0, 0, 1, 0, []) :: (124, 24, 0, 11, 12, 112, [1587]) :: (127, 20, 0, 0, 131, 0, []) :: (130, 33, 0, 0, 0, 0, []) :: kX11_readLine_131
def kX11_readLine_107 : List mIn := (107, 4, 0, 0, 1, 0, []) :: (108, 24, 0, 11, 5, 23, [1580]) :: (111, 0, 0, 0, 0, 0, []) :: (112, 26, 0, 20, 0, 0, []) :: (113, 0, 30, 1, 0, 0, []) :: (115, 19, 0, 1, 123, 0, []) :: (118, 4, 0, 0, 1, 0, []) :: (119, 0, 4, 0, 0, 0, []) :: (120, 32, 0, 1, 2, 128, [11, 1735, 1737, 54, 116, 1738]) :: kX11_readLine_123
def kX11_readLine_93 : List mIn := (93, 5, 0, 1, 1, 0, []) :: (94, 2, 0, 1, 1, 0, []) :: (95, 0, (-1), 0, 0, 0, []) :: (96, 19, 0, 1, 107, 0, []) :: (99, 4, 0, 0, 1, 0, []) :: (100, 0, 2, 0, 0, 0, []) :: (101, 32, 0, 1, 2, 128, [11, 1735, 1737, 54, 116, 1738]) :: (104, 22, 0, 0, 123, 0, []) :: kX11_readLine_107
def kX11_readLine_92 : List mIn := (92, 0, (-1), 0, 0, 0, []) :: kX11_readLine_93
def kX11_readLine_78 : List mIn := (78, 4, 0, 0, 1, 0, []) :: (79, 37, 0, 0, 2, 157, []) :: (81, 32, 0, 0, 2, 135, [11, 1723, 1725, 53, 116, 1726]) :: (84, 20, 0, 0, 92, 0, []) :: (87, 0, 6, 1, 0, 0, []) :: (89, 22, 0, 0, 93, 0, []) :: kX11_readLine_92
def kX11_readLine_65 : List mIn := (65, 4, 0, 0, 1, 0, []) :: (66, 37, 0, 1, 2, 143, []) :: (68, 32, 0, 0, 2, 135, [11, 1723, 1725, 53, 116, 1726]) :: (71, 20, 0, 0, 78, 0, []) :: (74, 0, 5, 0, 0, 0, []) :: (75, 22, 0, 0, 93, 0, []) :: kX11_readLine_78
def kX11_readLine_52 : List mIn := (52, 4, 0, 0, 1, 0, []) :: (53, 37, 0, 6, 2, 170, []) :: (55, 32, 0, 0, 2, 135, [11, 1723, 1725, 53, 116, 1726]) :: (58, 20, 0, 0, 65, 0, []) :: (61, 0, 4, 0, 0, 0, []) :: (62, 22, 0, 0, 93, 0, []) :: kX11_readLine_65
def kX11_readLine_39 : List mIn := (39, 4, 0, 0, 1, 0, []) :: (40, 37, 0, 5, 2, 168, []) :: (42, 32, 0, 0, 2, 135, [11, 1723, 1725, 53, 116, 1726]) :: (45, 20, 0, 0, 52, 0, []) :: (48, 0, 3, 0, 0, 0, []) :: (49, 22, 0, 0, 93, 0, []) :: kX11_readLine_52
def kX11_readLine_26 : List mIn := (26, 4, 0, 0, 1, 0, []) :: (27, 37, 0, 4, 2, 166, []) :: (29, 32, 0, 0, 2, 135, [11, 1723, 1725, 53, 116, 1726]) :: (32, 20, 0, 0, 39, 0, []) :: (35, 0, 2, 0, 0, 0, []) :: (36, 22, 0, 0, 93, 0, []) :: kX11_readLine_39
def kX11_readLine_13 : List mIn := (13, 4, 0, 0, 1, 0, []) :: (14, 37, 0, 3, 2, 164, []) :: (16, 32, 0, 0, 2, 135, [11, 1723, 1725, 53, 116, 1726]) :: (19, 20, 0, 0, 26, 0, []) :: (22, 0, 1, 0, 0, 0, []) :: (23, 22, 0, 0, 93, 0, []) :: kX11_readLine_26
def kX11_readLine_0 : List mIn := (0, 4, 0, 0, 1, 0, []) :: (1, 37, 0, 2, 2, 162, []) :: (3, 32, 0, 0, 2, 135, [11, 1723, 1725, 53, 116, 1726]) :: (6, 20, 0, 0, 13, 0, []) :: (9, 0, 0, 0, 0, 0, []) :: (10, 22, 0, 0, 93, 0, []) :: kX11_readLine_13
def kX11_readLine : List mIn := kX11_readLine_0
def TX11_readLine : Nat → mCal := fun a => match a with
  | 0 => calX11_isWord
  | 1 => calX11_blames
  | 2 => calX11_readSlow
  | 3 => calX11_readBall
  | 4 => calX11_reads
  | 5 => calX11_number
  | _ => (yX11_readLine, cX11_readLine, 2, none, (0, 0, 0, 0))
def calX11_readLine : mCal := (yX11_readLine, cX11_readLine, 2, none, (9, 234, 0, 0))
def cutX11_readLine : Nat → Option (List Bool) := fun t => mLk t []
theorem okX11_readLine : mOK (yX11_readLine.cls, cX11_readLine, TX11_readLine, none, (9, 234, 0, 0), 2, mAcf [], mAcf []) kX11_readLine = true := by decide +kernel
set_option maxRecDepth 100000 in
theorem sfxX11_readLine_13 : mSfx 13 kX11_readLine = kX11_readLine_13 := rfl
theorem cutX11_readLine_13 : cutX11_readLine 13 = none := by decide
set_option maxRecDepth 100000 in
theorem sfxX11_readLine_26 : mSfx 26 kX11_readLine = kX11_readLine_26 := rfl
theorem cutX11_readLine_26 : cutX11_readLine 26 = none := by decide
set_option maxRecDepth 100000 in
theorem sfxX11_readLine_39 : mSfx 39 kX11_readLine = kX11_readLine_39 := rfl
theorem cutX11_readLine_39 : cutX11_readLine 39 = none := by decide
set_option maxRecDepth 100000 in
theorem sfxX11_readLine_52 : mSfx 52 kX11_readLine = kX11_readLine_52 := rfl
theorem cutX11_readLine_52 : cutX11_readLine 52 = none := by decide
set_option maxRecDepth 100000 in
theorem sfxX11_readLine_65 : mSfx 65 kX11_readLine = kX11_readLine_65 := rfl
theorem cutX11_readLine_65 : cutX11_readLine 65 = none := by decide
set_option maxRecDepth 100000 in
theorem sfxX11_readLine_78 : mSfx 78 kX11_readLine = kX11_readLine_78 := rfl
theorem cutX11_readLine_78 : cutX11_readLine 78 = none := by decide
set_option maxRecDepth 100000 in
theorem sfxX11_readLine_92 : mSfx 92 kX11_readLine = kX11_readLine_92 := rfl
theorem cutX11_readLine_92 : cutX11_readLine 92 = none := by decide
set_option maxRecDepth 100000 in
theorem sfxX11_readLine_93 : mSfx 93 kX11_readLine = kX11_readLine_93 := rfl
theorem cutX11_readLine_93 : cutX11_readLine 93 = none := by decide
set_option maxRecDepth 100000 in
theorem sfxX11_readLine_107 : mSfx 107 kX11_readLine = kX11_readLine_107 := rfl
theorem cutX11_readLine_107 : cutX11_readLine 107 = none := by decide
set_option maxRecDepth 100000 in
theorem sfxX11_readLine_123 : mSfx 123 kX11_readLine = kX11_readLine_123 := rfl
theorem cutX11_readLine_123 : cutX11_readLine 123 = none := by decide
set_option maxRecDepth 100000 in
theorem sfxX11_readLine_131 : mSfx 131 kX11_readLine = kX11_readLine_131 := rfl
theorem cutX11_readLine_131 : cutX11_readLine 131 = none := by decide
set_option maxRecDepth 100000 in
theorem sfxX11_readLine_143 : mSfx 143 kX11_readLine = kX11_readLine_143 := rfl
theorem cutX11_readLine_143 : cutX11_readLine 143 = none := by decide
set_option maxRecDepth 100000 in
theorem sfxX11_readLine_156 : mSfx 156 kX11_readLine = kX11_readLine_156 := rfl
theorem cutX11_readLine_156 : cutX11_readLine 156 = none := by decide
set_option maxRecDepth 100000 in
theorem sfxX11_readLine_176 : mSfx 176 kX11_readLine = kX11_readLine_176 := rfl
theorem cutX11_readLine_176 : cutX11_readLine 176 = none := by decide
set_option maxRecDepth 100000 in
theorem sfxX11_readLine_185 : mSfx 185 kX11_readLine = kX11_readLine_185 := rfl
theorem cutX11_readLine_185 : cutX11_readLine 185 = none := by decide
set_option maxRecDepth 100000 in
theorem sfxX11_readLine_186 : mSfx 186 kX11_readLine = kX11_readLine_186 := rfl
theorem cutX11_readLine_186 : cutX11_readLine 186 = none := by decide
set_option maxRecDepth 100000 in
theorem sfxX11_readLine_195 : mSfx 195 kX11_readLine = kX11_readLine_195 := rfl
theorem cutX11_readLine_195 : cutX11_readLine 195 = none := by decide
set_option maxRecDepth 100000 in
theorem sfxX11_readLine_200 : mSfx 200 kX11_readLine = kX11_readLine_200 := rfl
theorem cutX11_readLine_200 : cutX11_readLine 200 = none := by decide
set_option maxRecDepth 100000 in
theorem sfxX11_readLine_210 : mSfx 210 kX11_readLine = kX11_readLine_210 := rfl
theorem cutX11_readLine_210 : cutX11_readLine 210 = none := by decide
set_option maxRecDepth 100000 in
theorem sfxX11_readLine_220 : mSfx 220 kX11_readLine = kX11_readLine_220 := rfl
theorem cutX11_readLine_220 : cutX11_readLine 220 = none := by decide
set_option maxRecDepth 100000 in
theorem sfxX11_readLine_222 : mSfx 222 kX11_readLine = kX11_readLine_222 := rfl
theorem cutX11_readLine_222 : cutX11_readLine 222 = none := by decide
set_option maxRecDepth 100000 in
theorem sfxX11_readLine_226 : mSfx 226 kX11_readLine = kX11_readLine_226 := rfl
theorem cutX11_readLine_226 : cutX11_readLine 226 = none := by decide
set_option maxRecDepth 100000 in
theorem sfxX11_readLine_239 : mSfx 239 kX11_readLine = kX11_readLine_239 := rfl
theorem cutX11_readLine_239 : cutX11_readLine 239 = none := by decide
set_option maxRecDepth 100000 in
theorem sfxX11_readLine_247 : mSfx 247 kX11_readLine = kX11_readLine_247 := rfl
theorem cutX11_readLine_247 : cutX11_readLine 247 = none := by decide
def kX11_field_245 : List mIn := (245, 4, 0, 0, 1, 0, []) :: (246, 24, 0, 11, 0, 9, [1575]) :: (249, 0, 0, 0, 0, 0, []) :: (250, 26, 0, 20, 0, 0, []) :: (251, 33, 0, 1, 0, 0, []) :: []
def kX11_field_225 : List mIn := (225, 2, 0, 2, 1, 0, []) :: (226, 0, 635, 2, 0, 0, []) :: (229, 19, 0, 3, 245, 0, []) :: (232, 4, 0, 0, 1, 0, []) :: (233, 24, 0, 11, 0, 9, [1575]) :: (236, 2, 0, 2, 1, 0, []) :: (237, 0, 0, 0, 0, 0, []) :: (238, 27, 0, 20, 0, 0, []) :: (239, 8, 1, 2, 0, 0, []) :: (242, 22, 0, 0, 225, 0, []) :: kX11_field_245
def kX11_field_221 : List mIn := (221, 0, 595, 2, 0, 0, []) :: (224, 5, 0, 2, 1, 0, []) :: (225, 43, 0, 0, 225, 0, []) :: kX11_field_225
def kX11_field_196 : List mIn := (196, 2, 0, 2, 1, 0, []) :: (197, 0, 9, 1, 0, 0, []) :: (199, 19, 0, 3, 221, 0, []) :: (202, 4, 0, 0, 1, 0, []) :: (203, 24, 0, 11, 0, 9, [1575]) :: (206, 0, 550, 2, 0, 0, []) :: (209, 0, 5, 0, 0, 0, []) :: (210, 2, 0, 2, 1, 0, []) :: (211, 9, 0, 2, 0, 0, []) :: (212, 9, 0, 0, 0, 0, []) :: (213, 0, (-1), 0, 0, 0, []) :: (214, 27, 0, 20, 0, 0, []) :: (215, 8, 1, 2, 0, 0, []) :: (218, 22, 0, 0, 196, 0, []) :: kX11_field_221
def kX11_field_194 : List mIn := (194, 0, 0, 0, 0, 0, []) :: (195, 5, 0, 2, 1, 0, []) :: (196, 43, 0, 0, 196, 0, []) :: kX11_field_196
def kX11_field_169 : List mIn := (169, 2, 0, 2, 1, 0, []) :: (170, 0, 550, 2, 0, 0, []) :: (173, 19, 0, 3, 194, 0, []) :: (176, 4, 0, 0, 1, 0, []) :: (177, 24, 0, 11, 0, 9, [1575]) :: (180, 2, 0, 2, 1, 0, []) :: (181, 4, 0, 0, 1, 0, []) :: (182, 24, 0, 11, 5, 23, [1580]) :: (185, 2, 0, 2, 1, 0, []) :: (186, 26, 0, 20, 0, 0, []) :: (187, 27, 0, 20, 0, 0, []) :: (188, 8, 1, 2, 0, 0, []) :: (191, 22, 0, 0, 169, 0, []) :: kX11_field_194
def kX11_field_166 : List mIn := (166, 0, 9, 1, 0, 0, []) :: (168, 5, 0, 2, 1, 0, []) :: (169, 43, 0, 0, 169, 0, []) :: kX11_field_169
def kX11_field_143 : List mIn := (143, 2, 0, 2, 1, 0, []) :: (144, 0, 5, 0, 0, 0, []) :: (145, 19, 0, 4, 166, 0, []) :: (148, 4, 0, 0, 1, 0, []) :: (149, 24, 0, 11, 0, 9, [1575]) :: (152, 2, 0, 2, 1, 0, []) :: (153, 4, 0, 0, 1, 0, []) :: (154, 24, 0, 11, 5, 23, [1580]) :: (157, 2, 0, 2, 1, 0, []) :: (158, 26, 0, 20, 0, 0, []) :: (159, 27, 0, 20, 0, 0, []) :: (160, 8, 1, 2, 0, 0, []) :: (163, 22, 0, 0, 143, 0, []) :: kX11_field_166
def kX11_field_141 : List mIn := (141, 0, 0, 0, 0, 0, []) :: (142, 5, 0, 2, 1, 0, []) :: (143, 43, 0, 0, 143, 0, []) :: kX11_field_143
def kX11_field_123 : List mIn := (123, 25, 0, 11, 15, 26, [1590]) :: (126, 4, 0, 0, 1, 0, []) :: (127, 24, 0, 11, 12, 112, [1587]) :: (130, 20, 0, 0, 141, 0, []) :: (133, 0, (-10), 1, 0, 0, []) :: (135, 4, 0, 0, 1, 0, []) :: (136, 24, 0, 11, 12, 112, [1587]) :: (139, 9, 0, 1, 0, 0, []) :: (140, 33, 0, 1, 0, 0, []) :: kX11_field_141
def kX11_field_119 : List mIn := (119, 4, 0, 0, 1, 0, []) :: (120, 24, 0, 11, 13, 115, [1588]) :: kX11_field_123
def kX11_field_99 : List mIn := (99, 4, 0, 0, 1, 0, []) :: (100, 4, 0, 0, 1, 0, []) :: (101, 24, 0, 11, 12, 112, [1587]) :: (104, 25, 0, 11, 14, 184, [1589]) :: (107, 4, 0, 0, 1, 0, []) :: (108, 4, 0, 0, 1, 0, []) :: (109, 24, 0, 11, 12, 112, [1587]) :: (112, 20, 0, 1, 119, 0, []) :: (115, 0, (-1), 0, 0, 0, []) :: (116, 22, 0, 0, 123, 0, []) :: kX11_field_119
def kX11_field_78 : List mIn := (78, 4, 0, 0, 1, 0, []) :: (79, 24, 0, 11, 12, 112, [1587]) :: (82, 20, 0, 1, 99, 0, []) :: (85, 4, 0, 0, 1, 0, []) :: (86, 24, 0, 11, 10, 95, [1585]) :: (89, 20, 0, 0, 99, 0, []) :: (92, 4, 0, 0, 1, 0, []) :: (93, 32, 0, 4, 1, 181, [11, 1718, 1720, 52, 116, 1721]) :: (96, 22, 0, 0, 78, 0, []) :: kX11_field_99
def kX11_field_67 : List mIn := (67, 4, 0, 0, 1, 0, []) :: (68, 24, 0, 11, 5, 23, [1580]) :: (71, 32, 1, 2, 1, 70, [1572, 1573, 116, 1574]) :: (74, 4, 0, 0, 1, 0, []) :: (75, 32, 0, 3, 1, 132, [11, 1704, 1706, 50, 116, 1707]) :: (78, 43, 0, 0, 78, 0, []) :: kX11_field_78
def kX11_field_47 : List mIn := (47, 2, 0, 2, 1, 0, []) :: (48, 0, 550, 2, 0, 0, []) :: (51, 19, 0, 3, 67, 0, []) :: (54, 4, 0, 0, 1, 0, []) :: (55, 24, 0, 11, 5, 23, [1580]) :: (58, 2, 0, 2, 1, 0, []) :: (59, 0, 0, 0, 0, 0, []) :: (60, 27, 0, 20, 0, 0, []) :: (61, 8, 1, 2, 0, 0, []) :: (64, 22, 0, 0, 47, 0, []) :: kX11_field_67
def kX11_field_25 : List mIn := (25, 4, 0, 0, 1, 0, []) :: (26, 2, 0, 1, 1, 0, []) :: (27, 25, 0, 11, 7, 86, [1582]) :: (30, 4, 0, 0, 1, 0, []) :: (31, 0, 0, 0, 0, 0, []) :: (32, 25, 0, 11, 6, 83, [1581]) :: (35, 4, 0, 0, 1, 0, []) :: (36, 0, 0, 0, 0, 0, []) :: (37, 25, 0, 11, 8, 89, [1583]) :: (40, 4, 0, 0, 1, 0, []) :: (41, 0, 0, 0, 0, 0, []) :: (42, 25, 0, 11, 12, 112, [1587]) :: (45, 0, 0, 0, 0, 0, []) :: (46, 5, 0, 2, 1, 0, []) :: (47, 43, 0, 0, 47, 0, []) :: kX11_field_47
def kX11_field_0 : List mIn := (0, 4, 0, 0, 1, 0, []) :: (1, 0, 0, 0, 0, 0, []) :: (2, 25, 0, 11, 3, 74, [1578]) :: (5, 2, 0, 1, 1, 0, []) :: (6, 13, 0, 0, 0, 0, []) :: (7, 1, 0, 0, 0, 0, []) :: (8, 4, 0, 0, 1, 0, []) :: (9, 24, 0, 11, 6, 83, [1581]) :: (12, 13, 0, 0, 0, 0, []) :: (13, 32, 1, 0, 3, 79, [1697, 1698, 116, 1699]) :: (16, 20, 0, 1, 25, 0, []) :: (19, 4, 0, 0, 1, 0, []) :: (20, 0, 1, 0, 0, 0, []) :: (21, 32, 0, 1, 2, 178, [11, 1700, 1702, 49, 116, 1703]) :: (24, 33, 0, 1, 0, 0, []) :: kX11_field_25
def kX11_field : List mIn := kX11_field_0
def TX11_field : Nat → mCal := fun a => match a with
  | 0 => calX11_within
  | 1 => calX11_fails
  | 2 => calX11_begins
  | 3 => calX11_reads
  | 4 => calX11_readLine
  | _ => (yX11_field, cX11_field, 3, (some .int), (0, 0, 0, 0))
def calX11_field : mCal := (yX11_field, cX11_field, 3, (some .int), (10, 255, 0, 0))
def cutX11_field : Nat → Option (List Bool) := fun t => mLk t [(47, [true, false, true]), (78, [true, false, false]), (143, [true, false, true]), (169, [true, false, true]), (196, [true, false, true]), (225, [true, false, true])]
theorem okX11_field : mOK (yX11_field.cls, cX11_field, TX11_field, (some .int), (10, 255, 0, 0), 3, mAcf [], mAcf []) kX11_field = true := by decide +kernel
set_option maxRecDepth 100000 in
theorem sfxX11_field_25 : mSfx 25 kX11_field = kX11_field_25 := rfl
theorem cutX11_field_25 : cutX11_field 25 = none := by decide
set_option maxRecDepth 100000 in
theorem sfxX11_field_47 : mSfx 47 kX11_field = kX11_field_47 := rfl
theorem cutX11_field_47 : cutX11_field 47 = some [true, false, true] := by decide
set_option maxRecDepth 100000 in
theorem sfxX11_field_67 : mSfx 67 kX11_field = kX11_field_67 := rfl
theorem cutX11_field_67 : cutX11_field 67 = none := by decide
set_option maxRecDepth 100000 in
theorem sfxX11_field_78 : mSfx 78 kX11_field = kX11_field_78 := rfl
theorem cutX11_field_78 : cutX11_field 78 = some [true, false, false] := by decide
set_option maxRecDepth 100000 in
theorem sfxX11_field_99 : mSfx 99 kX11_field = kX11_field_99 := rfl
theorem cutX11_field_99 : cutX11_field 99 = none := by decide
set_option maxRecDepth 100000 in
theorem sfxX11_field_119 : mSfx 119 kX11_field = kX11_field_119 := rfl
theorem cutX11_field_119 : cutX11_field 119 = none := by decide
set_option maxRecDepth 100000 in
theorem sfxX11_field_123 : mSfx 123 kX11_field = kX11_field_123 := rfl
theorem cutX11_field_123 : cutX11_field 123 = none := by decide
set_option maxRecDepth 100000 in
theorem sfxX11_field_141 : mSfx 141 kX11_field = kX11_field_141 := rfl
theorem cutX11_field_141 : cutX11_field 141 = none := by decide
set_option maxRecDepth 100000 in
theorem sfxX11_field_143 : mSfx 143 kX11_field = kX11_field_143 := rfl
theorem cutX11_field_143 : cutX11_field 143 = some [true, false, true] := by decide
set_option maxRecDepth 100000 in
theorem sfxX11_field_166 : mSfx 166 kX11_field = kX11_field_166 := rfl
theorem cutX11_field_166 : cutX11_field 166 = none := by decide
set_option maxRecDepth 100000 in
theorem sfxX11_field_169 : mSfx 169 kX11_field = kX11_field_169 := rfl
theorem cutX11_field_169 : cutX11_field 169 = some [true, false, true] := by decide
set_option maxRecDepth 100000 in
theorem sfxX11_field_194 : mSfx 194 kX11_field = kX11_field_194 := rfl
theorem cutX11_field_194 : cutX11_field 194 = none := by decide
set_option maxRecDepth 100000 in
theorem sfxX11_field_196 : mSfx 196 kX11_field = kX11_field_196 := rfl
theorem cutX11_field_196 : cutX11_field 196 = some [true, false, true] := by decide
set_option maxRecDepth 100000 in
theorem sfxX11_field_221 : mSfx 221 kX11_field = kX11_field_221 := rfl
theorem cutX11_field_221 : cutX11_field 221 = none := by decide
set_option maxRecDepth 100000 in
theorem sfxX11_field_225 : mSfx 225 kX11_field = kX11_field_225 := rfl
theorem cutX11_field_225 : cutX11_field 225 = some [true, false, true] := by decide
set_option maxRecDepth 100000 in
theorem sfxX11_field_245 : mSfx 245 kX11_field = kX11_field_245 := rfl
theorem cutX11_field_245 : cutX11_field 245 = none := by decide
def kX11_fault_29 : List mIn := (29, 33, 0, 1, 0, 0, []) :: []
def kX11_fault_28 : List mIn := (28, 0, (-1), 0, 0, 0, []) :: kX11_fault_29
def kX11_fault_16 : List mIn := (16, 2, 0, 1, 1, 0, []) :: (17, 0, 1, 0, 0, 0, []) :: (18, 19, 0, 1, 28, 0, []) :: (21, 4, 0, 0, 1, 0, []) :: (22, 24, 0, 11, 15, 26, [1590]) :: (25, 22, 0, 0, 29, 0, []) :: kX11_fault_28
def kX11_fault_0 : List mIn := (0, 4, 0, 0, 1, 0, []) :: (1, 0, 0, 0, 0, 0, []) :: (2, 25, 0, 11, 3, 74, [1578]) :: (5, 2, 0, 1, 1, 0, []) :: (6, 20, 0, 1, 16, 0, []) :: (9, 4, 0, 0, 1, 0, []) :: (10, 24, 0, 11, 14, 184, [1589]) :: (13, 22, 0, 0, 29, 0, []) :: kX11_fault_16
def kX11_fault : List mIn := kX11_fault_0
def TX11_fault : Nat → mCal := fun a => match a with
  | _ => (yX11_fault, cX11_fault, 2, (some .int), (0, 0, 0, 0))
def calX11_fault : mCal := (yX11_fault, cX11_fault, 2, (some .int), (0, 0, 0, 0))
def cutX11_fault : Nat → Option (List Bool) := fun t => mLk t []
theorem okX11_fault : mOK (yX11_fault.cls, cX11_fault, TX11_fault, (some .int), (0, 0, 0, 0), 2, mAcf [], mAcf []) kX11_fault = true := by decide +kernel
set_option maxRecDepth 100000 in
theorem sfxX11_fault_16 : mSfx 16 kX11_fault = kX11_fault_16 := rfl
theorem cutX11_fault_16 : cutX11_fault 16 = none := by decide
set_option maxRecDepth 100000 in
theorem sfxX11_fault_28 : mSfx 28 kX11_fault = kX11_fault_28 := rfl
theorem cutX11_fault_28 : cutX11_fault 28 = none := by decide
set_option maxRecDepth 100000 in
theorem sfxX11_fault_29 : mSfx 29 kX11_fault = kX11_fault_29 := rfl
theorem cutX11_fault_29 : cutX11_fault 29 = none := by decide
def kX11_isBall_0 : List mIn := (0, 2, 0, 0, 1, 0, []) :: (1, 13, 0, 0, 0, 0, []) :: (2, 1, 0, 0, 0, 0, []) :: (3, 1, 5, 1, 187, 1775, []) :: (6, 32, 1, 0, 3, 79, [1697, 1698, 116, 1699]) :: (9, 33, 0, 4, 0, 0, []) :: []
def kX11_isBall : List mIn := kX11_isBall_0
def TX11_isBall : Nat → mCal := fun a => match a with
  | 0 => calX11_within
  | _ => (yX11_isBall, cX11_isBall, 1, (some .boolean), (0, 0, 0, 0))
def calX11_isBall : mCal := (yX11_isBall, cX11_isBall, 1, (some .boolean), (1, 25, 0, 0))
def cutX11_isBall : Nat → Option (List Bool) := fun t => mLk t []
theorem okX11_isBall : mOK (yX11_isBall.cls, cX11_isBall, TX11_isBall, (some .boolean), (1, 25, 0, 0), 1, mAcf [], mAcf []) kX11_isBall = true := by decide +kernel
def kX11_isHit_33 : List mIn := (33, 33, 0, 4, 0, 0, []) :: []
def kX11_isHit_32 : List mIn := (32, 0, 0, 0, 0, 0, []) :: kX11_isHit_33
def kX11_isHit_0 : List mIn := (0, 2, 0, 1, 1, 0, []) :: (1, 32, 1, 0, 1, 189, [1772, 1773, 116, 1774]) :: (4, 20, 0, 0, 32, 0, []) :: (7, 2, 0, 2, 1, 0, []) :: (8, 13, 0, 0, 0, 0, []) :: (9, 1, 0, 0, 0, 0, []) :: (10, 4, 0, 0, 1, 0, []) :: (11, 24, 0, 11, 0, 9, [1575]) :: (14, 0, 13, 1, 0, 0, []) :: (16, 2, 0, 1, 1, 0, []) :: (17, 9, 0, 0, 0, 0, []) :: (18, 26, 0, 20, 0, 0, []) :: (19, 0, 1, 0, 0, 0, []) :: (20, 9, 0, 1, 0, 0, []) :: (21, 13, 0, 0, 0, 0, []) :: (22, 32, 1, 1, 3, 79, [1697, 1698, 116, 1699]) :: (25, 20, 0, 0, 32, 0, []) :: (28, 0, 1, 0, 0, 0, []) :: (29, 22, 0, 0, 33, 0, []) :: kX11_isHit_32
def kX11_isHit : List mIn := kX11_isHit_0
def TX11_isHit : Nat → mCal := fun a => match a with
  | 0 => calX11_isBall
  | 1 => calX11_within
  | _ => (yX11_isHit, cX11_isHit, 3, (some .boolean), (0, 0, 0, 0))
def calX11_isHit : mCal := (yX11_isHit, cX11_isHit, 3, (some .boolean), (2, 45, 0, 0))
def cutX11_isHit : Nat → Option (List Bool) := fun t => mLk t []
theorem okX11_isHit : mOK (yX11_isHit.cls, cX11_isHit, TX11_isHit, (some .boolean), (2, 45, 0, 0), 3, mAcf [], mAcf []) kX11_isHit = true := by decide +kernel
set_option maxRecDepth 100000 in
theorem sfxX11_isHit_32 : mSfx 32 kX11_isHit = kX11_isHit_32 := rfl
theorem cutX11_isHit_32 : cutX11_isHit 32 = none := by decide
set_option maxRecDepth 100000 in
theorem sfxX11_isHit_33 : mSfx 33 kX11_isHit = kX11_isHit_33 := rfl
theorem cutX11_isHit_33 : cutX11_isHit 33 = none := by decide
def kX11_raw_0 : List mIn := (0, 4, 0, 0, 1, 0, []) :: (1, 24, 0, 11, 0, 9, [1575]) :: (4, 0, 310, 2, 0, 0, []) :: (7, 0, 5, 0, 0, 0, []) :: (8, 0, 8, 1, 0, 0, []) :: (10, 2, 0, 1, 1, 0, []) :: (11, 9, 0, 2, 0, 0, []) :: (12, 2, 0, 2, 1, 0, []) :: (13, 9, 0, 0, 0, 0, []) :: (14, 9, 0, 2, 0, 0, []) :: (15, 9, 0, 0, 0, 0, []) :: (16, 2, 0, 3, 1, 0, []) :: (17, 9, 0, 0, 0, 0, []) :: (18, 26, 0, 20, 0, 0, []) :: (19, 33, 0, 1, 0, 0, []) :: []
def kX11_raw : List mIn := kX11_raw_0
def TX11_raw : Nat → mCal := fun a => match a with
  | _ => (yX11_raw, cX11_raw, 4, (some .int), (0, 0, 0, 0))
def calX11_raw : mCal := (yX11_raw, cX11_raw, 4, (some .int), (0, 0, 0, 0))
def cutX11_raw : Nat → Option (List Bool) := fun t => mLk t []
theorem okX11_raw : mOK (yX11_raw.cls, cX11_raw, TX11_raw, (some .int), (0, 0, 0, 0), 4, mAcf [], mAcf []) kX11_raw = true := by decide +kernel
def kX11_wayOf_34 : List mIn := (34, 33, 0, 1, 0, 0, []) :: []
def kX11_wayOf_27 : List mIn := (27, 4, 0, 0, 1, 0, []) :: (28, 2, 0, 1, 1, 0, []) :: (29, 2, 0, 2, 1, 0, []) :: (30, 0, 0, 0, 0, 0, []) :: (31, 32, 0, 0, 4, 192, [11, 1788, 1790, 62, 116, 1791]) :: kX11_wayOf_34
def kX11_wayOf_0 : List mIn := (0, 4, 0, 0, 1, 0, []) :: (1, 24, 0, 11, 0, 9, [1575]) :: (4, 0, 6, 1, 0, 0, []) :: (6, 26, 0, 20, 0, 0, []) :: (7, 0, 4, 0, 0, 0, []) :: (8, 19, 0, 1, 27, 0, []) :: (11, 0, 16, 1, 0, 0, []) :: (13, 4, 0, 0, 1, 0, []) :: (14, 2, 0, 1, 1, 0, []) :: (15, 2, 0, 2, 1, 0, []) :: (16, 0, 0, 0, 0, 0, []) :: (17, 32, 0, 0, 4, 192, [11, 1788, 1790, 62, 116, 1791]) :: (20, 9, 0, 1, 0, 0, []) :: (21, 0, 16, 1, 0, 0, []) :: (23, 16, 0, 1, 0, 0, []) :: (24, 22, 0, 0, 34, 0, []) :: kX11_wayOf_27
def kX11_wayOf : List mIn := kX11_wayOf_0
def TX11_wayOf : Nat → mCal := fun a => match a with
  | 0 => calX11_raw
  | _ => (yX11_wayOf, cX11_wayOf, 3, (some .int), (0, 0, 0, 0))
def calX11_wayOf : mCal := (yX11_wayOf, cX11_wayOf, 3, (some .int), (1, 23, 0, 0))
def cutX11_wayOf : Nat → Option (List Bool) := fun t => mLk t []
theorem okX11_wayOf : mOK (yX11_wayOf.cls, cX11_wayOf, TX11_wayOf, (some .int), (1, 23, 0, 0), 3, mAcf [], mAcf []) kX11_wayOf = true := by decide +kernel
set_option maxRecDepth 100000 in
theorem sfxX11_wayOf_27 : mSfx 27 kX11_wayOf = kX11_wayOf_27 := rfl
theorem cutX11_wayOf_27 : cutX11_wayOf 27 = none := by decide
set_option maxRecDepth 100000 in
theorem sfxX11_wayOf_34 : mSfx 34 kX11_wayOf = kX11_wayOf_34 := rfl
theorem cutX11_wayOf_34 : cutX11_wayOf 34 = none := by decide
def kX11_airOf_47 : List mIn := (47, 33, 0, 1, 0, 0, []) :: []
def kX11_airOf_40 : List mIn := (40, 4, 0, 0, 1, 0, []) :: (41, 2, 0, 1, 1, 0, []) :: (42, 2, 0, 2, 1, 0, []) :: (43, 0, 2, 0, 0, 0, []) :: (44, 32, 0, 0, 4, 192, [11, 1788, 1790, 62, 116, 1791]) :: kX11_airOf_47
def kX11_airOf_15 : List mIn := (15, 4, 0, 0, 1, 0, []) :: (16, 24, 0, 11, 0, 9, [1575]) :: (19, 0, 6, 1, 0, 0, []) :: (21, 26, 0, 20, 0, 0, []) :: (22, 0, 3, 0, 0, 0, []) :: (23, 19, 0, 1, 40, 0, []) :: (26, 0, 3, 0, 0, 0, []) :: (27, 4, 0, 0, 1, 0, []) :: (28, 2, 0, 1, 1, 0, []) :: (29, 2, 0, 2, 1, 0, []) :: (30, 0, 2, 0, 0, 0, []) :: (31, 32, 0, 0, 4, 192, [11, 1788, 1790, 62, 116, 1791]) :: (34, 40, 0, 0, 0, 196, [1796, 656, 121, 657]) :: (37, 22, 0, 0, 47, 0, []) :: kX11_airOf_40
def kX11_airOf_0 : List mIn := (0, 4, 0, 0, 1, 0, []) :: (1, 24, 0, 11, 0, 9, [1575]) :: (4, 0, 6, 1, 0, 0, []) :: (6, 26, 0, 20, 0, 0, []) :: (7, 0, 2, 0, 0, 0, []) :: (8, 19, 0, 1, 15, 0, []) :: (11, 0, 0, 0, 0, 0, []) :: (12, 22, 0, 0, 47, 0, []) :: kX11_airOf_15
def kX11_airOf : List mIn := kX11_airOf_0
def TX11_airOf : Nat → mCal := fun a => match a with
  | 0 => calX11_raw
  | _ => (yX11_airOf, cX11_airOf, 3, (some .int), (0, 0, 0, 0))
def calX11_airOf : mCal := (yX11_airOf, cX11_airOf, 3, (some .int), (1, 23, 0, 0))
def cutX11_airOf : Nat → Option (List Bool) := fun t => mLk t []
theorem okX11_airOf : mOK (yX11_airOf.cls, cX11_airOf, TX11_airOf, (some .int), (1, 23, 0, 0), 3, mAcf [], mAcf []) kX11_airOf = true := by decide +kernel
set_option maxRecDepth 100000 in
theorem sfxX11_airOf_15 : mSfx 15 kX11_airOf = kX11_airOf_15 := rfl
theorem cutX11_airOf_15 : cutX11_airOf 15 = none := by decide
set_option maxRecDepth 100000 in
theorem sfxX11_airOf_40 : mSfx 40 kX11_airOf = kX11_airOf_40 := rfl
theorem cutX11_airOf_40 : cutX11_airOf 40 = none := by decide
set_option maxRecDepth 100000 in
theorem sfxX11_airOf_47 : mSfx 47 kX11_airOf = kX11_airOf_47 := rfl
theorem cutX11_airOf_47 : cutX11_airOf 47 = none := by decide
def kX11_eastOf_57 : List mIn := (57, 33, 0, 1, 0, 0, []) :: []
def kX11_eastOf_56 : List mIn := (56, 2, 0, 2, 1, 0, []) :: kX11_eastOf_57
def kX11_eastOf_44 : List mIn := (44, 5, 0, 2, 1, 0, []) :: (45, 2, 0, 0, 1, 0, []) :: (46, 0, 8, 1, 0, 0, []) :: (48, 19, 0, 5, 56, 0, []) :: (51, 2, 0, 2, 1, 0, []) :: (52, 10, 0, 0, 0, 0, []) :: (53, 22, 0, 0, 57, 0, []) :: kX11_eastOf_56
def kX11_eastOf_43 : List mIn := (43, 0, 1, 0, 0, 0, []) :: kX11_eastOf_44
def kX11_eastOf_39 : List mIn := (39, 0, 2, 0, 0, 0, []) :: (40, 22, 0, 0, 44, 0, []) :: kX11_eastOf_43
def kX11_eastOf_29 : List mIn := (29, 2, 0, 1, 1, 0, []) :: (30, 0, 3, 0, 0, 0, []) :: (31, 19, 0, 0, 39, 0, []) :: (34, 2, 0, 1, 1, 0, []) :: (35, 0, 5, 0, 0, 0, []) :: (36, 19, 0, 1, 43, 0, []) :: kX11_eastOf_39
def kX11_eastOf_25 : List mIn := (25, 0, 0, 0, 0, 0, []) :: (26, 22, 0, 0, 44, 0, []) :: kX11_eastOf_29
def kX11_eastOf_14 : List mIn := (14, 5, 0, 1, 1, 0, []) :: (15, 2, 0, 1, 1, 0, []) :: (16, 20, 0, 0, 25, 0, []) :: (19, 2, 0, 1, 1, 0, []) :: (20, 0, 8, 1, 0, 0, []) :: (22, 19, 0, 1, 29, 0, []) :: kX11_eastOf_25
def kX11_eastOf_13 : List mIn := (13, 2, 0, 0, 1, 0, []) :: kX11_eastOf_14
def kX11_eastOf_0 : List mIn := (0, 2, 0, 0, 1, 0, []) :: (1, 0, 8, 1, 0, 0, []) :: (3, 19, 0, 5, 13, 0, []) :: (6, 0, 16, 1, 0, 0, []) :: (8, 2, 0, 0, 1, 0, []) :: (9, 9, 0, 1, 0, 0, []) :: (10, 22, 0, 0, 14, 0, []) :: kX11_eastOf_13
def kX11_eastOf : List mIn := kX11_eastOf_0
def TX11_eastOf : Nat → mCal := fun a => match a with
  | _ => (yX11_eastOf, cX11_eastOf, 3, (some .int), (0, 0, 0, 0))
def calX11_eastOf : mCal := (yX11_eastOf, cX11_eastOf, 3, (some .int), (0, 0, 0, 0))
def cutX11_eastOf : Nat → Option (List Bool) := fun t => mLk t []
theorem okX11_eastOf : mOK (yX11_eastOf.cls, cX11_eastOf, TX11_eastOf, (some .int), (0, 0, 0, 0), 3, mAcf [], mAcf []) kX11_eastOf = true := by decide +kernel
set_option maxRecDepth 100000 in
theorem sfxX11_eastOf_13 : mSfx 13 kX11_eastOf = kX11_eastOf_13 := rfl
theorem cutX11_eastOf_13 : cutX11_eastOf 13 = none := by decide
set_option maxRecDepth 100000 in
theorem sfxX11_eastOf_14 : mSfx 14 kX11_eastOf = kX11_eastOf_14 := rfl
theorem cutX11_eastOf_14 : cutX11_eastOf 14 = none := by decide
set_option maxRecDepth 100000 in
theorem sfxX11_eastOf_25 : mSfx 25 kX11_eastOf = kX11_eastOf_25 := rfl
theorem cutX11_eastOf_25 : cutX11_eastOf 25 = none := by decide
set_option maxRecDepth 100000 in
theorem sfxX11_eastOf_29 : mSfx 29 kX11_eastOf = kX11_eastOf_29 := rfl
theorem cutX11_eastOf_29 : cutX11_eastOf 29 = none := by decide
set_option maxRecDepth 100000 in
theorem sfxX11_eastOf_39 : mSfx 39 kX11_eastOf = kX11_eastOf_39 := rfl
theorem cutX11_eastOf_39 : cutX11_eastOf 39 = none := by decide
set_option maxRecDepth 100000 in
theorem sfxX11_eastOf_43 : mSfx 43 kX11_eastOf = kX11_eastOf_43 := rfl
theorem cutX11_eastOf_43 : cutX11_eastOf 43 = none := by decide
set_option maxRecDepth 100000 in
theorem sfxX11_eastOf_44 : mSfx 44 kX11_eastOf = kX11_eastOf_44 := rfl
theorem cutX11_eastOf_44 : cutX11_eastOf 44 = none := by decide
set_option maxRecDepth 100000 in
theorem sfxX11_eastOf_56 : mSfx 56 kX11_eastOf = kX11_eastOf_56 := rfl
theorem cutX11_eastOf_56 : cutX11_eastOf 56 = none := by decide
set_option maxRecDepth 100000 in
theorem sfxX11_eastOf_57 : mSfx 57 kX11_eastOf = kX11_eastOf_57 := rfl
theorem cutX11_eastOf_57 : cutX11_eastOf 57 = none := by decide
