def kX11_southOf_63 : List mIn := (63, 33, 0, 1, 0, 0, []) :: []
def kX11_southOf_62 : List mIn := (62, 0, 1, 0, 0, 0, []) :: kX11_southOf_63
def kX11_southOf_52 : List mIn := (52, 2, 0, 1, 1, 0, []) :: (53, 0, 7, 1, 0, 0, []) :: (55, 19, 0, 1, 62, 0, []) :: (58, 0, 2, 0, 0, 0, []) :: (59, 22, 0, 0, 63, 0, []) :: kX11_southOf_62
def kX11_southOf_43 : List mIn := (43, 2, 0, 1, 1, 0, []) :: (44, 0, 4, 0, 0, 0, []) :: (45, 19, 0, 1, 52, 0, []) :: (48, 0, 0, 0, 0, 0, []) :: (49, 22, 0, 0, 63, 0, []) :: kX11_southOf_52
def kX11_southOf_33 : List mIn := (33, 2, 0, 1, 1, 0, []) :: (34, 0, 1, 0, 0, 0, []) :: (35, 19, 0, 1, 43, 0, []) :: (38, 0, (-2), 1, 0, 0, []) :: (40, 22, 0, 0, 63, 0, []) :: kX11_southOf_43
def kX11_southOf_29 : List mIn := (29, 0, (-1), 0, 0, 0, []) :: (30, 22, 0, 0, 63, 0, []) :: kX11_southOf_33
def kX11_southOf_14 : List mIn := (14, 5, 0, 1, 1, 0, []) :: (15, 2, 0, 1, 1, 0, []) :: (16, 20, 0, 0, 29, 0, []) :: (19, 2, 0, 1, 1, 0, []) :: (20, 0, 2, 0, 0, 0, []) :: (21, 19, 0, 0, 29, 0, []) :: (24, 2, 0, 1, 1, 0, []) :: (25, 0, 3, 0, 0, 0, []) :: (26, 19, 0, 1, 33, 0, []) :: kX11_southOf_29
def kX11_southOf_13 : List mIn := (13, 2, 0, 0, 1, 0, []) :: kX11_southOf_14
def kX11_southOf_0 : List mIn := (0, 2, 0, 0, 1, 0, []) :: (1, 0, 8, 1, 0, 0, []) :: (3, 19, 0, 5, 13, 0, []) :: (6, 0, 16, 1, 0, 0, []) :: (8, 2, 0, 0, 1, 0, []) :: (9, 9, 0, 1, 0, 0, []) :: (10, 22, 0, 0, 14, 0, []) :: kX11_southOf_13
def kX11_southOf : List mIn := kX11_southOf_0
def TX11_southOf : Nat → mCal := fun a => match a with
  | _ => (yX11_southOf, cX11_southOf, 2, (some .int), (0, 0, 0, 0))
def calX11_southOf : mCal := (yX11_southOf, cX11_southOf, 2, (some .int), (0, 0, 0, 0))
def cutX11_southOf : Nat → Option (List Bool) := fun t => mLk t []
theorem okX11_southOf : mOK (yX11_southOf.cls, cX11_southOf, TX11_southOf, (some .int), (0, 0, 0, 0), 2, mAcf [], mAcf []) kX11_southOf = true := by decide +kernel
set_option maxRecDepth 100000 in
theorem sfxX11_southOf_13 : mSfx 13 kX11_southOf = kX11_southOf_13 := rfl
theorem cutX11_southOf_13 : cutX11_southOf 13 = none := by decide
set_option maxRecDepth 100000 in
theorem sfxX11_southOf_14 : mSfx 14 kX11_southOf = kX11_southOf_14 := rfl
theorem cutX11_southOf_14 : cutX11_southOf 14 = none := by decide
set_option maxRecDepth 100000 in
theorem sfxX11_southOf_29 : mSfx 29 kX11_southOf = kX11_southOf_29 := rfl
theorem cutX11_southOf_29 : cutX11_southOf 29 = none := by decide
set_option maxRecDepth 100000 in
theorem sfxX11_southOf_33 : mSfx 33 kX11_southOf = kX11_southOf_33 := rfl
theorem cutX11_southOf_33 : cutX11_southOf 33 = none := by decide
set_option maxRecDepth 100000 in
theorem sfxX11_southOf_43 : mSfx 43 kX11_southOf = kX11_southOf_43 := rfl
theorem cutX11_southOf_43 : cutX11_southOf 43 = none := by decide
set_option maxRecDepth 100000 in
theorem sfxX11_southOf_52 : mSfx 52 kX11_southOf = kX11_southOf_52 := rfl
theorem cutX11_southOf_52 : cutX11_southOf 52 = none := by decide
set_option maxRecDepth 100000 in
theorem sfxX11_southOf_62 : mSfx 62 kX11_southOf = kX11_southOf_62 := rfl
theorem cutX11_southOf_62 : cutX11_southOf 62 = none := by decide
set_option maxRecDepth 100000 in
theorem sfxX11_southOf_63 : mSfx 63 kX11_southOf = kX11_southOf_63 := rfl
theorem cutX11_southOf_63 : cutX11_southOf 63 = none := by decide
def kX11_isInside_40 : List mIn := (40, 33, 0, 4, 0, 0, []) :: []
def kX11_isInside_39 : List mIn := (39, 0, 0, 0, 0, 0, []) :: kX11_isInside_40
def kX11_isInside_0 : List mIn := (0, 2, 0, 1, 1, 0, []) :: (1, 0, 8, 1, 0, 0, []) :: (3, 9, 0, 1, 0, 0, []) :: (4, 2, 0, 1, 1, 0, []) :: (5, 0, 8, 1, 0, 0, []) :: (7, 9, 0, 1, 0, 0, []) :: (8, 9, 0, 2, 0, 0, []) :: (9, 2, 0, 2, 1, 0, []) :: (10, 0, 8, 1, 0, 0, []) :: (12, 9, 0, 1, 0, 0, []) :: (13, 2, 0, 2, 1, 0, []) :: (14, 0, 8, 1, 0, 0, []) :: (16, 9, 0, 1, 0, 0, []) :: (17, 9, 0, 2, 0, 0, []) :: (18, 9, 0, 0, 0, 0, []) :: (19, 4, 0, 0, 1, 0, []) :: (20, 24, 0, 11, 0, 9, [1575]) :: (23, 0, 1, 0, 0, 0, []) :: (24, 26, 0, 20, 0, 0, []) :: (25, 4, 0, 0, 1, 0, []) :: (26, 24, 0, 11, 0, 9, [1575]) :: (29, 0, 1, 0, 0, 0, []) :: (30, 26, 0, 20, 0, 0, []) :: (31, 9, 0, 2, 0, 0, []) :: (32, 19, 0, 4, 39, 0, []) :: (35, 0, 1, 0, 0, 0, []) :: (36, 22, 0, 0, 40, 0, []) :: kX11_isInside_39
def kX11_isInside : List mIn := kX11_isInside_0
def TX11_isInside : Nat → mCal := fun a => match a with
  | _ => (yX11_isInside, cX11_isInside, 3, (some .boolean), (0, 0, 0, 0))
def calX11_isInside : mCal := (yX11_isInside, cX11_isInside, 3, (some .boolean), (0, 0, 0, 0))
def cutX11_isInside : Nat → Option (List Bool) := fun t => mLk t []
theorem okX11_isInside : mOK (yX11_isInside.cls, cX11_isInside, TX11_isInside, (some .boolean), (0, 0, 0, 0), 3, mAcf [], mAcf []) kX11_isInside = true := by decide +kernel
set_option maxRecDepth 100000 in
theorem sfxX11_isInside_39 : mSfx 39 kX11_isInside = kX11_isInside_39 := rfl
theorem cutX11_isInside_39 : cutX11_isInside 39 = none := by decide
set_option maxRecDepth 100000 in
theorem sfxX11_isInside_40 : mSfx 40 kX11_isInside = kX11_isInside_40 := rfl
theorem cutX11_isInside_40 : cutX11_isInside 40 = none := by decide
def kX11_isIn_0 : List mIn := (0, 4, 0, 0, 1, 0, []) :: (1, 2, 0, 1, 1, 0, []) :: (2, 0, 17, 1, 0, 0, []) :: (4, 16, 0, 1, 0, 0, []) :: (5, 2, 0, 1, 1, 0, []) :: (6, 0, 17, 1, 0, 0, []) :: (8, 16, 0, 0, 0, 0, []) :: (9, 32, 0, 0, 3, 201, [11, 1807, 1809, 65, 116, 1810]) :: (12, 33, 0, 4, 0, 0, []) :: []
def kX11_isIn : List mIn := kX11_isIn_0
def TX11_isIn : Nat → mCal := fun a => match a with
  | 0 => calX11_isInside
  | _ => (yX11_isIn, cX11_isIn, 2, (some .boolean), (0, 0, 0, 0))
def calX11_isIn : mCal := (yX11_isIn, cX11_isIn, 2, (some .boolean), (1, 22, 0, 0))
def cutX11_isIn : Nat → Option (List Bool) := fun t => mLk t []
theorem okX11_isIn : mOK (yX11_isIn.cls, cX11_isIn, TX11_isIn, (some .boolean), (1, 22, 0, 0), 2, mAcf [], mAcf []) kX11_isIn = true := by decide +kernel
def kX11_stepsOf_43 : List mIn := (43, 2, 0, 3, 1, 0, []) :: (44, 0, 1, 0, 0, 0, []) :: (45, 9, 0, 1, 0, 0, []) :: (46, 33, 0, 1, 0, 0, []) :: []
def kX11_stepsOf_2 : List mIn := (2, 4, 0, 0, 1, 0, []) :: (3, 0, 8, 1, 0, 0, []) :: (5, 2, 0, 3, 1, 0, []) :: (6, 4, 0, 0, 1, 0, []) :: (7, 2, 0, 1, 1, 0, []) :: (8, 2, 0, 2, 1, 0, []) :: (9, 32, 0, 0, 3, 205, [11, 1784, 1786, 61, 116, 1787]) :: (12, 32, 1, 1, 1, 208, [1801, 1802, 116, 1803]) :: (15, 9, 0, 2, 0, 0, []) :: (16, 9, 0, 0, 0, 0, []) :: (17, 0, 8, 1, 0, 0, []) :: (19, 2, 0, 3, 1, 0, []) :: (20, 4, 0, 0, 1, 0, []) :: (21, 2, 0, 1, 1, 0, []) :: (22, 2, 0, 2, 1, 0, []) :: (23, 32, 0, 0, 3, 205, [11, 1784, 1786, 61, 116, 1787]) :: (26, 32, 1, 2, 1, 211, [1804, 1805, 116, 1806]) :: (29, 9, 0, 2, 0, 0, []) :: (30, 9, 0, 0, 0, 0, []) :: (31, 32, 0, 3, 3, 201, [11, 1807, 1809, 65, 116, 1810]) :: (34, 20, 0, 0, 43, 0, []) :: (37, 8, 1, 3, 0, 0, []) :: (40, 22, 0, 0, 2, 0, []) :: kX11_stepsOf_43
def kX11_stepsOf_0 : List mIn := (0, 0, 1, 0, 0, 0, []) :: (1, 5, 0, 3, 1, 0, []) :: (2, 43, 0, 0, 2, 0, []) :: kX11_stepsOf_2
def kX11_stepsOf : List mIn := kX11_stepsOf_0
def TX11_stepsOf : Nat → mCal := fun a => match a with
  | 0 => calX11_wayOf
  | 1 => calX11_eastOf
  | 2 => calX11_southOf
  | 3 => calX11_isInside
  | _ => (yX11_stepsOf, cX11_stepsOf, 4, (some .int), (0, 0, 0, 0))
def calX11_stepsOf : mCal := (yX11_stepsOf, cX11_stepsOf, 4, (some .int), (2, 45, 0, 0))
def cutX11_stepsOf : Nat → Option (List Bool) := fun t => mLk t [(2, [true, true, true, true])]
theorem okX11_stepsOf : mOK (yX11_stepsOf.cls, cX11_stepsOf, TX11_stepsOf, (some .int), (2, 45, 0, 0), 4, mAcf [], mAcf []) kX11_stepsOf = true := by decide +kernel
set_option maxRecDepth 100000 in
theorem sfxX11_stepsOf_2 : mSfx 2 kX11_stepsOf = kX11_stepsOf_2 := rfl
theorem cutX11_stepsOf_2 : cutX11_stepsOf 2 = some [true, true, true, true] := by decide
set_option maxRecDepth 100000 in
theorem sfxX11_stepsOf_43 : mSfx 43 kX11_stepsOf = kX11_stepsOf_43 := rfl
theorem cutX11_stepsOf_43 : cutX11_stepsOf 43 = none := by decide
def kX11_cellAt_0 : List mIn := (0, 0, 17, 1, 0, 0, []) :: (2, 0, 8, 1, 0, 0, []) :: (4, 2, 0, 3, 1, 0, []) :: (5, 4, 0, 0, 1, 0, []) :: (6, 2, 0, 1, 1, 0, []) :: (7, 2, 0, 2, 1, 0, []) :: (8, 32, 0, 0, 3, 205, [11, 1784, 1786, 61, 116, 1787]) :: (11, 32, 1, 1, 1, 211, [1804, 1805, 116, 1806]) :: (14, 9, 0, 2, 0, 0, []) :: (15, 9, 0, 0, 0, 0, []) :: (16, 9, 0, 2, 0, 0, []) :: (17, 0, 8, 1, 0, 0, []) :: (19, 9, 0, 0, 0, 0, []) :: (20, 2, 0, 3, 1, 0, []) :: (21, 4, 0, 0, 1, 0, []) :: (22, 2, 0, 1, 1, 0, []) :: (23, 2, 0, 2, 1, 0, []) :: (24, 32, 0, 0, 3, 205, [11, 1784, 1786, 61, 116, 1787]) :: (27, 32, 1, 2, 1, 208, [1801, 1802, 116, 1803]) :: (30, 9, 0, 2, 0, 0, []) :: (31, 9, 0, 0, 0, 0, []) :: (32, 33, 0, 1, 0, 0, []) :: []
def kX11_cellAt : List mIn := kX11_cellAt_0
def TX11_cellAt : Nat → mCal := fun a => match a with
  | 0 => calX11_wayOf
  | 1 => calX11_southOf
  | 2 => calX11_eastOf
  | _ => (yX11_cellAt, cX11_cellAt, 4, (some .int), (0, 0, 0, 0))
def calX11_cellAt : mCal := (yX11_cellAt, cX11_cellAt, 4, (some .int), (2, 45, 0, 0))
def cutX11_cellAt : Nat → Option (List Bool) := fun t => mLk t []
theorem okX11_cellAt : mOK (yX11_cellAt.cls, cX11_cellAt, TX11_cellAt, (some .int), (2, 45, 0, 0), 4, mAcf [], mAcf []) kX11_cellAt = true := by decide +kernel
def kX11_tickAt_62 : List mIn := (62, 2, 0, 4, 2, 0, []) :: (64, 33, 0, 1, 0, 0, []) :: []
def kX11_tickAt_52 : List mIn := (52, 9, 0, 0, 0, 0, []) :: (53, 9, 0, 0, 0, 0, []) :: (54, 5, 0, 4, 2, 0, []) :: (56, 8, 1, 5, 0, 0, []) :: (59, 22, 0, 0, 6, 0, []) :: kX11_tickAt_62
def kX11_tickAt_51 : List mIn := (51, 0, 0, 0, 0, 0, []) :: kX11_tickAt_52
def kX11_tickAt_6 : List mIn := (6, 2, 0, 5, 2, 0, []) :: (8, 2, 0, 3, 1, 0, []) :: (9, 19, 0, 4, 62, 0, []) :: (12, 2, 0, 4, 2, 0, []) :: (14, 4, 0, 0, 1, 0, []) :: (15, 2, 0, 1, 1, 0, []) :: (16, 2, 0, 2, 1, 0, []) :: (17, 0, 1, 0, 0, 0, []) :: (18, 32, 0, 0, 4, 192, [11, 1788, 1790, 62, 116, 1791]) :: (21, 2, 0, 5, 2, 0, []) :: (23, 4, 0, 0, 1, 0, []) :: (24, 2, 0, 1, 1, 0, []) :: (25, 2, 0, 2, 1, 0, []) :: (26, 32, 0, 1, 3, 214, [11, 1792, 1794, 63, 116, 1795]) :: (29, 19, 0, 2, 51, 0, []) :: (32, 4, 0, 0, 1, 0, []) :: (33, 24, 0, 11, 0, 9, [1575]) :: (36, 0, 20, 1, 0, 0, []) :: (38, 4, 0, 0, 1, 0, []) :: (39, 2, 0, 1, 1, 0, []) :: (40, 2, 0, 2, 1, 0, []) :: (41, 2, 0, 5, 2, 0, []) :: (43, 32, 0, 2, 4, 217, [11, 1819, 1821, 67, 116, 1822]) :: (46, 9, 0, 0, 0, 0, []) :: (47, 26, 0, 20, 0, 0, []) :: (48, 22, 0, 0, 52, 0, []) :: kX11_tickAt_51
def kX11_tickAt_0 : List mIn := (0, 0, 0, 0, 0, 0, []) :: (1, 5, 0, 4, 2, 0, []) :: (3, 0, 1, 0, 0, 0, []) :: (4, 5, 0, 5, 2, 0, []) :: (6, 43, 0, 0, 6, 0, []) :: kX11_tickAt_6
def kX11_tickAt : List mIn := kX11_tickAt_0
def TX11_tickAt : Nat → mCal := fun a => match a with
  | 0 => calX11_raw
  | 1 => calX11_airOf
  | 2 => calX11_cellAt
  | _ => (yX11_tickAt, cX11_tickAt, 6, (some .int), (0, 0, 0, 0))
def calX11_tickAt : mCal := (yX11_tickAt, cX11_tickAt, 6, (some .int), (3, 68, 0, 0))
def cutX11_tickAt : Nat → Option (List Bool) := fun t => mLk t [(6, [true, true, true, true, true, true])]
theorem okX11_tickAt : mOK (yX11_tickAt.cls, cX11_tickAt, TX11_tickAt, (some .int), (3, 68, 0, 0), 6, mAcf [], mAcf []) kX11_tickAt = true := by decide +kernel
set_option maxRecDepth 100000 in
theorem sfxX11_tickAt_6 : mSfx 6 kX11_tickAt = kX11_tickAt_6 := rfl
theorem cutX11_tickAt_6 : cutX11_tickAt 6 = some [true, true, true, true, true, true] := by decide
set_option maxRecDepth 100000 in
theorem sfxX11_tickAt_51 : mSfx 51 kX11_tickAt = kX11_tickAt_51 := rfl
theorem cutX11_tickAt_51 : cutX11_tickAt 51 = none := by decide
set_option maxRecDepth 100000 in
theorem sfxX11_tickAt_52 : mSfx 52 kX11_tickAt = kX11_tickAt_52 := rfl
theorem cutX11_tickAt_52 : cutX11_tickAt 52 = none := by decide
set_option maxRecDepth 100000 in
theorem sfxX11_tickAt_62 : mSfx 62 kX11_tickAt = kX11_tickAt_62 := rfl
theorem cutX11_tickAt_62 : cutX11_tickAt 62 = none := by decide
def kX11_far_0 : List mIn := (0, 2, 0, 0, 1, 0, []) :: (1, 0, 17, 1, 0, 0, []) :: (3, 16, 0, 1, 0, 0, []) :: (4, 2, 0, 1, 1, 0, []) :: (5, 0, 17, 1, 0, 0, []) :: (7, 16, 0, 1, 0, 0, []) :: (8, 9, 0, 1, 0, 0, []) :: (9, 40, 0, 2, 0, 220, [1881, 1882, 121, 1883]) :: (12, 2, 0, 0, 1, 0, []) :: (13, 0, 17, 1, 0, 0, []) :: (15, 16, 0, 0, 0, 0, []) :: (16, 2, 0, 1, 1, 0, []) :: (17, 0, 17, 1, 0, 0, []) :: (19, 16, 0, 0, 0, 0, []) :: (20, 9, 0, 1, 0, 0, []) :: (21, 40, 0, 2, 0, 220, [1881, 1882, 121, 1883]) :: (24, 40, 0, 0, 0, 196, [1796, 656, 121, 657]) :: (27, 33, 0, 1, 0, 0, []) :: []
def kX11_far : List mIn := kX11_far_0
def TX11_far : Nat → mCal := fun a => match a with
  | _ => (yX11_far, cX11_far, 2, (some .int), (0, 0, 0, 0))
def calX11_far : mCal := (yX11_far, cX11_far, 2, (some .int), (1, 23, 0, 0))
def cutX11_far : Nat → Option (List Bool) := fun t => mLk t []
theorem okX11_far : mOK (yX11_far.cls, cX11_far, TX11_far, (some .int), (1, 23, 0, 0), 2, mAcf [], mAcf []) kX11_far = true := by decide +kernel
def kX11_fromBat_0 : List mIn := (0, 2, 0, 0, 1, 0, []) :: (1, 0, 144, 2, 0, 0, []) :: (4, 32, 1, 0, 2, 223, [1878, 1879, 116, 1880]) :: (7, 33, 0, 1, 0, 0, []) :: []
def kX11_fromBat : List mIn := kX11_fromBat_0
def TX11_fromBat : Nat → mCal := fun a => match a with
  | 0 => calX11_far
  | _ => (yX11_fromBat, cX11_fromBat, 1, (some .int), (0, 0, 0, 0))
def calX11_fromBat : mCal := (yX11_fromBat, cX11_fromBat, 1, (some .int), (2, 44, 0, 0))
def cutX11_fromBat : Nat → Option (List Bool) := fun t => mLk t []
theorem okX11_fromBat : mOK (yX11_fromBat.cls, cX11_fromBat, TX11_fromBat, (some .int), (2, 44, 0, 0), 1, mAcf [], mAcf []) kX11_fromBat = true := by decide +kernel
def kX11_hits_29 : List mIn := (29, 33, 0, 1, 0, 0, []) :: []
def kX11_hits_24 : List mIn := (24, 4, 0, 0, 1, 0, []) :: (25, 0, 1, 0, 0, 0, []) :: (26, 32, 0, 1, 2, 178, [11, 1700, 1702, 49, 116, 1703]) :: kX11_hits_29
def kX11_hits_0 : List mIn := (0, 4, 0, 0, 1, 0, []) :: (1, 0, 0, 0, 0, 0, []) :: (2, 25, 0, 11, 3, 74, [1578]) :: (5, 2, 0, 1, 1, 0, []) :: (6, 32, 1, 0, 1, 189, [1772, 1773, 116, 1774]) :: (9, 20, 0, 0, 24, 0, []) :: (12, 4, 0, 0, 1, 0, []) :: (13, 24, 0, 11, 0, 9, [1575]) :: (16, 0, 13, 1, 0, 0, []) :: (18, 2, 0, 1, 1, 0, []) :: (19, 9, 0, 0, 0, 0, []) :: (20, 26, 0, 20, 0, 0, []) :: (21, 22, 0, 0, 29, 0, []) :: kX11_hits_24
def kX11_hits : List mIn := kX11_hits_0
def TX11_hits : Nat → mCal := fun a => match a with
  | 0 => calX11_isBall
  | 1 => calX11_fails
  | _ => (yX11_hits, cX11_hits, 2, (some .int), (0, 0, 0, 0))
def calX11_hits : mCal := (yX11_hits, cX11_hits, 2, (some .int), (2, 45, 0, 0))
def cutX11_hits : Nat → Option (List Bool) := fun t => mLk t []
theorem okX11_hits : mOK (yX11_hits.cls, cX11_hits, TX11_hits, (some .int), (2, 45, 0, 0), 2, mAcf [], mAcf []) kX11_hits = true := by decide +kernel
set_option maxRecDepth 100000 in
theorem sfxX11_hits_24 : mSfx 24 kX11_hits = kX11_hits_24 := rfl
theorem cutX11_hits_24 : cutX11_hits 24 = none := by decide
set_option maxRecDepth 100000 in
theorem sfxX11_hits_29 : mSfx 29 kX11_hits = kX11_hits_29 := rfl
theorem cutX11_hits_29 : cutX11_hits 29 = none := by decide
def kX11_hit_101 : List mIn := (101, 33, 0, 1, 0, 0, []) :: []
def kX11_hit_94 : List mIn := (94, 4, 0, 0, 1, 0, []) :: (95, 2, 0, 1, 1, 0, []) :: (96, 2, 0, 2, 1, 0, []) :: (97, 2, 0, 3, 1, 0, []) :: (98, 32, 0, 6, 4, 192, [11, 1788, 1790, 62, 116, 1791]) :: kX11_hit_101
def kX11_hit_79 : List mIn := (79, 2, 0, 3, 1, 0, []) :: (80, 0, 5, 0, 0, 0, []) :: (81, 19, 0, 1, 94, 0, []) :: (84, 4, 0, 0, 1, 0, []) :: (85, 2, 0, 1, 1, 0, []) :: (86, 2, 0, 2, 1, 0, []) :: (87, 0, 4, 0, 0, 0, []) :: (88, 32, 0, 6, 4, 192, [11, 1788, 1790, 62, 116, 1791]) :: (91, 22, 0, 0, 101, 0, []) :: kX11_hit_94
def kX11_hit_65 : List mIn := (65, 2, 0, 3, 1, 0, []) :: (66, 0, 4, 0, 0, 0, []) :: (67, 19, 0, 1, 79, 0, []) :: (70, 4, 0, 0, 1, 0, []) :: (71, 2, 0, 1, 1, 0, []) :: (72, 2, 0, 2, 1, 0, []) :: (73, 32, 0, 5, 3, 229, [11, 1797, 1799, 64, 116, 1800]) :: (76, 22, 0, 0, 101, 0, []) :: kX11_hit_79
def kX11_hit_51 : List mIn := (51, 2, 0, 3, 1, 0, []) :: (52, 0, 2, 0, 0, 0, []) :: (53, 19, 0, 1, 65, 0, []) :: (56, 4, 0, 0, 1, 0, []) :: (57, 2, 0, 1, 1, 0, []) :: (58, 2, 0, 2, 1, 0, []) :: (59, 32, 0, 4, 3, 214, [11, 1792, 1794, 63, 116, 1795]) :: (62, 22, 0, 0, 101, 0, []) :: kX11_hit_65
def kX11_hit_38 : List mIn := (38, 2, 0, 3, 1, 0, []) :: (39, 20, 0, 1, 51, 0, []) :: (42, 4, 0, 0, 1, 0, []) :: (43, 2, 0, 1, 1, 0, []) :: (44, 2, 0, 2, 1, 0, []) :: (45, 32, 0, 3, 3, 205, [11, 1784, 1786, 61, 116, 1787]) :: (48, 22, 0, 0, 101, 0, []) :: kX11_hit_51
def kX11_hit_20 : List mIn := (20, 2, 0, 3, 1, 0, []) :: (21, 13, 0, 0, 0, 0, []) :: (22, 1, 0, 0, 0, 0, []) :: (23, 1, 5, 1, 187, 1775, []) :: (26, 32, 1, 2, 3, 79, [1697, 1698, 116, 1699]) :: (29, 20, 0, 1, 38, 0, []) :: (32, 4, 0, 0, 1, 0, []) :: (33, 0, 2, 0, 0, 0, []) :: (34, 32, 0, 1, 2, 178, [11, 1700, 1702, 49, 116, 1703]) :: (37, 33, 0, 1, 0, 0, []) :: kX11_hit_38
def kX11_hit_0 : List mIn := (0, 4, 0, 0, 1, 0, []) :: (1, 0, 0, 0, 0, 0, []) :: (2, 25, 0, 11, 3, 74, [1578]) :: (5, 4, 0, 0, 1, 0, []) :: (6, 2, 0, 1, 1, 0, []) :: (7, 2, 0, 2, 1, 0, []) :: (8, 32, 0, 0, 3, 226, [11, 1780, 1782, 60, 116, 1783]) :: (11, 20, 0, 1, 20, 0, []) :: (14, 4, 0, 0, 1, 0, []) :: (15, 0, 1, 0, 0, 0, []) :: (16, 32, 0, 1, 2, 178, [11, 1700, 1702, 49, 116, 1703]) :: (19, 33, 0, 1, 0, 0, []) :: kX11_hit_20
def kX11_hit : List mIn := kX11_hit_0
def TX11_hit : Nat → mCal := fun a => match a with
  | 0 => calX11_isHit
  | 1 => calX11_fails
  | 2 => calX11_within
  | 3 => calX11_wayOf
  | 4 => calX11_airOf
  | 5 => calX11_stepsOf
  | 6 => calX11_raw
  | _ => (yX11_hit, cX11_hit, 4, (some .int), (0, 0, 0, 0))
def calX11_hit : mCal := (yX11_hit, cX11_hit, 4, (some .int), (3, 68, 0, 0))
def cutX11_hit : Nat → Option (List Bool) := fun t => mLk t []
theorem okX11_hit : mOK (yX11_hit.cls, cX11_hit, TX11_hit, (some .int), (3, 68, 0, 0), 4, mAcf [], mAcf []) kX11_hit = true := by decide +kernel
set_option maxRecDepth 100000 in
theorem sfxX11_hit_20 : mSfx 20 kX11_hit = kX11_hit_20 := rfl
theorem cutX11_hit_20 : cutX11_hit 20 = none := by decide
set_option maxRecDepth 100000 in
theorem sfxX11_hit_38 : mSfx 38 kX11_hit = kX11_hit_38 := rfl
theorem cutX11_hit_38 : cutX11_hit 38 = none := by decide
set_option maxRecDepth 100000 in
theorem sfxX11_hit_51 : mSfx 51 kX11_hit = kX11_hit_51 := rfl
theorem cutX11_hit_51 : cutX11_hit 51 = none := by decide
set_option maxRecDepth 100000 in
theorem sfxX11_hit_65 : mSfx 65 kX11_hit = kX11_hit_65 := rfl
theorem cutX11_hit_65 : cutX11_hit 65 = none := by decide
set_option maxRecDepth 100000 in
theorem sfxX11_hit_79 : mSfx 79 kX11_hit = kX11_hit_79 := rfl
theorem cutX11_hit_79 : cutX11_hit 79 = none := by decide
set_option maxRecDepth 100000 in
theorem sfxX11_hit_94 : mSfx 94 kX11_hit = kX11_hit_94 := rfl
theorem cutX11_hit_94 : cutX11_hit 94 = none := by decide
set_option maxRecDepth 100000 in
theorem sfxX11_hit_101 : mSfx 101 kX11_hit = kX11_hit_101 := rfl
theorem cutX11_hit_101 : cutX11_hit 101 = none := by decide
def kX11_tick_51 : List mIn := (51, 33, 0, 1, 0, 0, []) :: []
def kX11_tick_46 : List mIn := (46, 4, 0, 0, 1, 0, []) :: (47, 0, 2, 0, 0, 0, []) :: (48, 32, 0, 1, 2, 178, [11, 1700, 1702, 49, 116, 1703]) :: kX11_tick_51
def kX11_tick_20 : List mIn := (20, 2, 0, 3, 1, 0, []) :: (21, 13, 0, 0, 0, 0, []) :: (22, 1, 1, 0, 1, 0, []) :: (23, 4, 0, 0, 1, 0, []) :: (24, 2, 0, 1, 1, 0, []) :: (25, 2, 0, 2, 1, 0, []) :: (26, 32, 0, 2, 3, 229, [11, 1797, 1799, 64, 116, 1800]) :: (29, 13, 0, 0, 0, 0, []) :: (30, 32, 1, 3, 3, 79, [1697, 1698, 116, 1699]) :: (33, 20, 0, 0, 46, 0, []) :: (36, 4, 0, 0, 1, 0, []) :: (37, 2, 0, 1, 1, 0, []) :: (38, 2, 0, 2, 1, 0, []) :: (39, 2, 0, 3, 1, 0, []) :: (40, 32, 0, 4, 4, 232, [11, 1815, 1817, 66, 116, 1818]) :: (43, 22, 0, 0, 51, 0, []) :: kX11_tick_46
def kX11_tick_0 : List mIn := (0, 4, 0, 0, 1, 0, []) :: (1, 0, 0, 0, 0, 0, []) :: (2, 25, 0, 11, 3, 74, [1578]) :: (5, 4, 0, 0, 1, 0, []) :: (6, 2, 0, 1, 1, 0, []) :: (7, 2, 0, 2, 1, 0, []) :: (8, 32, 0, 0, 3, 226, [11, 1780, 1782, 60, 116, 1783]) :: (11, 20, 0, 1, 20, 0, []) :: (14, 4, 0, 0, 1, 0, []) :: (15, 0, 1, 0, 0, 0, []) :: (16, 32, 0, 1, 2, 178, [11, 1700, 1702, 49, 116, 1703]) :: (19, 33, 0, 1, 0, 0, []) :: kX11_tick_20
def kX11_tick : List mIn := kX11_tick_0
def TX11_tick : Nat → mCal := fun a => match a with
  | 0 => calX11_isHit
  | 1 => calX11_fails
  | 2 => calX11_stepsOf
  | 3 => calX11_within
  | 4 => calX11_tickAt
  | _ => (yX11_tick, cX11_tick, 4, (some .int), (0, 0, 0, 0))
def calX11_tick : mCal := (yX11_tick, cX11_tick, 4, (some .int), (4, 93, 0, 0))
def cutX11_tick : Nat → Option (List Bool) := fun t => mLk t []
theorem okX11_tick : mOK (yX11_tick.cls, cX11_tick, TX11_tick, (some .int), (4, 93, 0, 0), 4, mAcf [], mAcf []) kX11_tick = true := by decide +kernel
set_option maxRecDepth 100000 in
theorem sfxX11_tick_20 : mSfx 20 kX11_tick = kX11_tick_20 := rfl
theorem cutX11_tick_20 : cutX11_tick 20 = none := by decide
set_option maxRecDepth 100000 in
theorem sfxX11_tick_46 : mSfx 46 kX11_tick = kX11_tick_46 := rfl
theorem cutX11_tick_46 : cutX11_tick 46 = none := by decide
set_option maxRecDepth 100000 in
theorem sfxX11_tick_51 : mSfx 51 kX11_tick = kX11_tick_51 := rfl
theorem cutX11_tick_51 : cutX11_tick 51 = none := by decide
def kX11_isFielder_0 : List mIn := (0, 2, 0, 0, 1, 0, []) :: (1, 13, 0, 0, 0, 0, []) :: (2, 1, 0, 0, 0, 0, []) :: (3, 1, 8, 1, 235, 1830, []) :: (6, 32, 1, 0, 3, 79, [1697, 1698, 116, 1699]) :: (9, 33, 0, 4, 0, 0, []) :: []
def kX11_isFielder : List mIn := kX11_isFielder_0
def TX11_isFielder : Nat → mCal := fun a => match a with
  | 0 => calX11_within
  | _ => (yX11_isFielder, cX11_isFielder, 1, (some .boolean), (0, 0, 0, 0))
def calX11_isFielder : mCal := (yX11_isFielder, cX11_isFielder, 1, (some .boolean), (1, 25, 0, 0))
def cutX11_isFielder : Nat → Option (List Bool) := fun t => mLk t []
theorem okX11_isFielder : mOK (yX11_isFielder.cls, cX11_isFielder, TX11_isFielder, (some .boolean), (1, 25, 0, 0), 1, mAcf [], mAcf []) kX11_isFielder = true := by decide +kernel
def kX11_ofFielder_0 : List mIn := (0, 4, 0, 0, 1, 0, []) :: (1, 24, 0, 11, 0, 9, [1575]) :: (4, 0, 550, 2, 0, 0, []) :: (7, 0, 5, 0, 0, 0, []) :: (8, 2, 0, 1, 1, 0, []) :: (9, 9, 0, 2, 0, 0, []) :: (10, 9, 0, 0, 0, 0, []) :: (11, 2, 0, 2, 1, 0, []) :: (12, 9, 0, 0, 0, 0, []) :: (13, 26, 0, 20, 0, 0, []) :: (14, 33, 0, 1, 0, 0, []) :: []
def kX11_ofFielder : List mIn := kX11_ofFielder_0
def TX11_ofFielder : Nat → mCal := fun a => match a with
  | _ => (yX11_ofFielder, cX11_ofFielder, 3, (some .int), (0, 0, 0, 0))
def calX11_ofFielder : mCal := (yX11_ofFielder, cX11_ofFielder, 3, (some .int), (0, 0, 0, 0))
def cutX11_ofFielder : Nat → Option (List Bool) := fun t => mLk t []
theorem okX11_ofFielder : mOK (yX11_ofFielder.cls, cX11_ofFielder, TX11_ofFielder, (some .int), (0, 0, 0, 0), 3, mAcf [], mAcf []) kX11_ofFielder = true := by decide +kernel
def kX11_standOf_0 : List mIn := (0, 4, 0, 0, 1, 0, []) :: (1, 24, 0, 11, 0, 9, [1575]) :: (4, 0, 550, 2, 0, 0, []) :: (7, 0, 5, 0, 0, 0, []) :: (8, 2, 0, 1, 1, 0, []) :: (9, 9, 0, 2, 0, 0, []) :: (10, 9, 0, 0, 0, 0, []) :: (11, 26, 0, 20, 0, 0, []) :: (12, 33, 0, 1, 0, 0, []) :: []
def kX11_standOf : List mIn := kX11_standOf_0
def TX11_standOf : Nat → mCal := fun a => match a with
  | _ => (yX11_standOf, cX11_standOf, 2, (some .int), (0, 0, 0, 0))
def calX11_standOf : mCal := (yX11_standOf, cX11_standOf, 2, (some .int), (0, 0, 0, 0))
def cutX11_standOf : Nat → Option (List Bool) := fun t => mLk t []
theorem okX11_standOf : mOK (yX11_standOf.cls, cX11_standOf, TX11_standOf, (some .int), (0, 0, 0, 0), 2, mAcf [], mAcf []) kX11_standOf = true := by decide +kernel
def kX11_puts_0 : List mIn := (0, 4, 0, 0, 1, 0, []) :: (1, 24, 0, 11, 0, 9, [1575]) :: (4, 0, 550, 2, 0, 0, []) :: (7, 0, 5, 0, 0, 0, []) :: (8, 2, 0, 1, 1, 0, []) :: (9, 9, 0, 2, 0, 0, []) :: (10, 9, 0, 0, 0, 0, []) :: (11, 2, 0, 2, 1, 0, []) :: (12, 27, 0, 20, 0, 0, []) :: (13, 33, 0, 0, 0, 0, []) :: []
def kX11_puts : List mIn := kX11_puts_0
def TX11_puts : Nat → mCal := fun a => match a with
  | _ => (yX11_puts, cX11_puts, 3, none, (0, 0, 0, 0))
def calX11_puts : mCal := (yX11_puts, cX11_puts, 3, none, (0, 0, 0, 0))
def cutX11_puts : Nat → Option (List Bool) := fun t => mLk t []
theorem okX11_puts : mOK (yX11_puts.cls, cX11_puts, TX11_puts, none, (0, 0, 0, 0), 3, mAcf [], mAcf []) kX11_puts = true := by decide +kernel
def kX11_fielder_78 : List mIn := (78, 4, 0, 0, 1, 0, []) :: (79, 24, 0, 11, 0, 9, [1575]) :: (82, 0, 550, 2, 0, 0, []) :: (85, 0, 5, 0, 0, 0, []) :: (86, 2, 0, 1, 1, 0, []) :: (87, 9, 0, 2, 0, 0, []) :: (88, 9, 0, 0, 0, 0, []) :: (89, 0, 1, 0, 0, 0, []) :: (90, 9, 0, 0, 0, 0, []) :: (91, 2, 0, 2, 1, 0, []) :: (92, 27, 0, 20, 0, 0, []) :: (93, 4, 0, 0, 1, 0, []) :: (94, 24, 0, 11, 0, 9, [1575]) :: (97, 0, 550, 2, 0, 0, []) :: (100, 0, 5, 0, 0, 0, []) :: (101, 2, 0, 1, 1, 0, []) :: (102, 9, 0, 2, 0, 0, []) :: (103, 9, 0, 0, 0, 0, []) :: (104, 0, 2, 0, 0, 0, []) :: (105, 9, 0, 0, 0, 0, []) :: (106, 2, 0, 3, 1, 0, []) :: (107, 27, 0, 20, 0, 0, []) :: (108, 4, 0, 0, 1, 0, []) :: (109, 24, 0, 11, 0, 9, [1575]) :: (112, 0, 550, 2, 0, 0, []) :: (115, 0, 5, 0, 0, 0, []) :: (116, 2, 0, 1, 1, 0, []) :: (117, 9, 0, 2, 0, 0, []) :: (118, 9, 0, 0, 0, 0, []) :: (119, 0, 3, 0, 0, 0, []) :: (120, 9, 0, 0, 0, 0, []) :: (121, 2, 0, 4, 2, 0, []) :: (123, 27, 0, 20, 0, 0, []) :: (124, 4, 0, 0, 1, 0, []) :: (125, 24, 0, 11, 0, 9, [1575]) :: (128, 0, 550, 2, 0, 0, []) :: (131, 0, 5, 0, 0, 0, []) :: (132, 2, 0, 1, 1, 0, []) :: (133, 9, 0, 2, 0, 0, []) :: (134, 9, 0, 0, 0, 0, []) :: (135, 0, 4, 0, 0, 0, []) :: (136, 9, 0, 0, 0, 0, []) :: (137, 2, 0, 5, 2, 0, []) :: (139, 27, 0, 20, 0, 0, []) :: (140, 33, 0, 0, 0, 0, []) :: []
def kX11_fielder_67 : List mIn := (67, 25, 0, 11, 3, 74, [1578]) :: (70, 4, 0, 0, 1, 0, []) :: (71, 24, 0, 11, 3, 74, [1578]) :: (74, 20, 0, 5, 78, 0, []) :: (77, 33, 0, 0, 0, 0, []) :: kX11_fielder_78
def kX11_fielder_66 : List mIn := (66, 0, 2, 0, 0, 0, []) :: kX11_fielder_67
def kX11_fielder_12 : List mIn := (12, 2, 0, 2, 1, 0, []) :: (13, 13, 0, 0, 0, 0, []) :: (14, 1, 1, 0, 1, 0, []) :: (15, 1, 9, 1, 240, 1831, []) :: (18, 32, 1, 1, 3, 79, [1697, 1698, 116, 1699]) :: (21, 20, 0, 0, 66, 0, []) :: (24, 2, 0, 3, 1, 0, []) :: (25, 13, 0, 0, 0, 0, []) :: (26, 1, 0, 0, 0, 0, []) :: (27, 1, 100, 1, 242, 1832, []) :: (30, 32, 1, 1, 3, 79, [1697, 1698, 116, 1699]) :: (33, 20, 0, 0, 66, 0, []) :: (36, 2, 0, 4, 2, 0, []) :: (38, 13, 0, 0, 0, 0, []) :: (39, 1, 0, 0, 0, 0, []) :: (40, 1, 50, 1, 244, 1833, []) :: (43, 32, 1, 1, 3, 79, [1697, 1698, 116, 1699]) :: (46, 20, 0, 0, 66, 0, []) :: (49, 2, 0, 5, 2, 0, []) :: (51, 13, 0, 0, 0, 0, []) :: (52, 1, 0, 0, 0, 0, []) :: (53, 1, 9, 1, 240, 1831, []) :: (56, 32, 1, 1, 3, 79, [1697, 1698, 116, 1699]) :: (59, 20, 0, 0, 66, 0, []) :: (62, 0, 0, 0, 0, 0, []) :: (63, 22, 0, 0, 67, 0, []) :: kX11_fielder_66
def kX11_fielder_0 : List mIn := (0, 4, 0, 0, 1, 0, []) :: (1, 2, 0, 1, 1, 0, []) :: (2, 32, 1, 0, 1, 237, [1827, 1828, 116, 1829]) :: (5, 20, 0, 1, 12, 0, []) :: (8, 0, 1, 0, 0, 0, []) :: (9, 22, 0, 0, 67, 0, []) :: kX11_fielder_12
def kX11_fielder : List mIn := kX11_fielder_0
def TX11_fielder : Nat → mCal := fun a => match a with
  | 0 => calX11_isFielder
  | 1 => calX11_within
  | _ => (yX11_fielder, cX11_fielder, 6, none, (0, 0, 0, 0))
def calX11_fielder : mCal := (yX11_fielder, cX11_fielder, 6, none, (2, 45, 0, 0))
def cutX11_fielder : Nat → Option (List Bool) := fun t => mLk t []
theorem okX11_fielder : mOK (yX11_fielder.cls, cX11_fielder, TX11_fielder, none, (2, 45, 0, 0), 6, mAcf [], mAcf []) kX11_fielder = true := by decide +kernel
set_option maxRecDepth 100000 in
theorem sfxX11_fielder_12 : mSfx 12 kX11_fielder = kX11_fielder_12 := rfl
theorem cutX11_fielder_12 : cutX11_fielder 12 = none := by decide
set_option maxRecDepth 100000 in
theorem sfxX11_fielder_66 : mSfx 66 kX11_fielder = kX11_fielder_66 := rfl
theorem cutX11_fielder_66 : cutX11_fielder 66 = none := by decide
set_option maxRecDepth 100000 in
theorem sfxX11_fielder_67 : mSfx 67 kX11_fielder = kX11_fielder_67 := rfl
theorem cutX11_fielder_67 : cutX11_fielder 67 = none := by decide
set_option maxRecDepth 100000 in
theorem sfxX11_fielder_78 : mSfx 78 kX11_fielder = kX11_fielder_78 := rfl
theorem cutX11_fielder_78 : cutX11_fielder 78 = none := by decide
def kX11_stand_37 : List mIn := (37, 4, 0, 0, 1, 0, []) :: (38, 2, 0, 1, 1, 0, []) :: (39, 32, 0, 3, 2, 250, [11, 1842, 1844, 68, 116, 1845]) :: (42, 5, 0, 3, 1, 0, []) :: (43, 4, 0, 0, 1, 0, []) :: (44, 2, 0, 1, 1, 0, []) :: (45, 2, 0, 2, 1, 0, []) :: (46, 32, 0, 4, 3, 253, [11, 1846, 1848, 69, 116, 1849]) :: (49, 2, 0, 3, 1, 0, []) :: (50, 33, 0, 1, 0, 0, []) :: []
def kX11_stand_18 : List mIn := (18, 2, 0, 2, 1, 0, []) :: (19, 0, (-1), 0, 0, 0, []) :: (20, 19, 0, 0, 37, 0, []) :: (23, 2, 0, 2, 1, 0, []) :: (24, 13, 0, 0, 0, 0, []) :: (25, 32, 1, 2, 1, 246, [1838, 1839, 116, 1840]) :: (28, 20, 0, 1, 37, 0, []) :: (31, 4, 0, 0, 1, 0, []) :: (32, 0, 2, 0, 0, 0, []) :: (33, 32, 0, 1, 2, 178, [11, 1700, 1702, 49, 116, 1703]) :: (36, 33, 0, 1, 0, 0, []) :: kX11_stand_37
def kX11_stand_0 : List mIn := (0, 4, 0, 0, 1, 0, []) :: (1, 0, 0, 0, 0, 0, []) :: (2, 25, 0, 11, 3, 74, [1578]) :: (5, 2, 0, 1, 1, 0, []) :: (6, 32, 1, 0, 1, 237, [1827, 1828, 116, 1829]) :: (9, 20, 0, 1, 18, 0, []) :: (12, 4, 0, 0, 1, 0, []) :: (13, 0, 1, 0, 0, 0, []) :: (14, 32, 0, 1, 2, 178, [11, 1700, 1702, 49, 116, 1703]) :: (17, 33, 0, 1, 0, 0, []) :: kX11_stand_18
def kX11_stand : List mIn := kX11_stand_0
def TX11_stand : Nat → mCal := fun a => match a with
  | 0 => calX11_isFielder
  | 1 => calX11_fails
  | 2 => calX11_isCell
  | 3 => calX11_standOf
  | 4 => calX11_puts
  | _ => (yX11_stand, cX11_stand, 4, (some .int), (0, 0, 0, 0))
def calX11_stand : mCal := (yX11_stand, cX11_stand, 4, (some .int), (2, 46, 0, 0))
def cutX11_stand : Nat → Option (List Bool) := fun t => mLk t []
theorem okX11_stand : mOK (yX11_stand.cls, cX11_stand, TX11_stand, (some .int), (2, 46, 0, 0), 4, mAcf [], mAcf []) kX11_stand = true := by decide +kernel
set_option maxRecDepth 100000 in
theorem sfxX11_stand_18 : mSfx 18 kX11_stand = kX11_stand_18 := rfl
theorem cutX11_stand_18 : cutX11_stand 18 = none := by decide
set_option maxRecDepth 100000 in
theorem sfxX11_stand_37 : mSfx 37 kX11_stand = kX11_stand_37 := rfl
theorem cutX11_stand_37 : cutX11_stand 37 = none := by decide
def kX11_of_44 : List mIn := (44, 33, 0, 1, 0, 0, []) :: []
def kX11_of_39 : List mIn := (39, 4, 0, 0, 1, 0, []) :: (40, 0, 2, 0, 0, 0, []) :: (41, 32, 0, 1, 2, 178, [11, 1700, 1702, 49, 116, 1703]) :: kX11_of_44
def kX11_of_18 : List mIn := (18, 2, 0, 2, 1, 0, []) :: (19, 13, 0, 0, 0, 0, []) :: (20, 1, 0, 0, 0, 0, []) :: (21, 1, 4, 1, 257, 1854, []) :: (24, 32, 1, 2, 3, 79, [1697, 1698, 116, 1699]) :: (27, 20, 0, 0, 39, 0, []) :: (30, 4, 0, 0, 1, 0, []) :: (31, 2, 0, 1, 1, 0, []) :: (32, 2, 0, 2, 1, 0, []) :: (33, 32, 0, 3, 3, 259, [11, 1855, 1857, 70, 116, 1858]) :: (36, 22, 0, 0, 44, 0, []) :: kX11_of_39
def kX11_of_0 : List mIn := (0, 4, 0, 0, 1, 0, []) :: (1, 0, 0, 0, 0, 0, []) :: (2, 25, 0, 11, 3, 74, [1578]) :: (5, 2, 0, 1, 1, 0, []) :: (6, 32, 1, 0, 1, 237, [1827, 1828, 116, 1829]) :: (9, 20, 0, 1, 18, 0, []) :: (12, 4, 0, 0, 1, 0, []) :: (13, 0, 1, 0, 0, 0, []) :: (14, 32, 0, 1, 2, 178, [11, 1700, 1702, 49, 116, 1703]) :: (17, 33, 0, 1, 0, 0, []) :: kX11_of_18
def kX11_of : List mIn := kX11_of_0
def TX11_of : Nat → mCal := fun a => match a with
  | 0 => calX11_isFielder
  | 1 => calX11_fails
  | 2 => calX11_within
  | 3 => calX11_ofFielder
  | _ => (yX11_of, cX11_of, 3, (some .int), (0, 0, 0, 0))
def calX11_of : mCal := (yX11_of, cX11_of, 3, (some .int), (2, 45, 0, 0))
def cutX11_of : Nat → Option (List Bool) := fun t => mLk t []
theorem okX11_of : mOK (yX11_of.cls, cX11_of, TX11_of, (some .int), (2, 45, 0, 0), 3, mAcf [], mAcf []) kX11_of = true := by decide +kernel
set_option maxRecDepth 100000 in
theorem sfxX11_of_18 : mSfx 18 kX11_of = kX11_of_18 := rfl
theorem cutX11_of_18 : cutX11_of 18 = none := by decide
set_option maxRecDepth 100000 in
theorem sfxX11_of_39 : mSfx 39 kX11_of = kX11_of_39 := rfl
theorem cutX11_of_39 : cutX11_of 39 = none := by decide
set_option maxRecDepth 100000 in
theorem sfxX11_of_44 : mSfx 44 kX11_of = kX11_of_44 := rfl
theorem cutX11_of_44 : cutX11_of 44 = none := by decide
def kX11_judged_127 : List mIn := (127, 33, 0, 1, 0, 0, []) :: []
def kX11_judged_126 : List mIn := (126, 0, 0, 0, 0, 0, []) :: kX11_judged_127
def kX11_judged_112 : List mIn := (112, 2, 0, 3, 1, 0, []) :: (113, 4, 0, 0, 1, 0, []) :: (114, 24, 0, 11, 0, 9, [1575]) :: (117, 0, 4, 0, 0, 0, []) :: (118, 26, 0, 20, 0, 0, []) :: (119, 19, 0, 5, 126, 0, []) :: (122, 0, 4, 0, 0, 0, []) :: (123, 22, 0, 0, 127, 0, []) :: kX11_judged_126
def kX11_judged_106 : List mIn := (106, 8, 1, 4, 0, 0, []) :: (109, 22, 0, 0, 49, 0, []) :: kX11_judged_112
def kX11_judged_104 : List mIn := (104, 9, 0, 0, 0, 0, []) :: (105, 5, 0, 3, 1, 0, []) :: kX11_judged_106
def kX11_judged_103 : List mIn := (103, 0, 0, 0, 0, 0, []) :: kX11_judged_104
def kX11_judged_80 : List mIn := (80, 2, 0, 3, 1, 0, []) :: (81, 2, 0, 3, 1, 0, []) :: (82, 20, 0, 5, 103, 0, []) :: (85, 4, 0, 0, 1, 0, []) :: (86, 2, 0, 4, 2, 0, []) :: (88, 32, 0, 0, 2, 250, [11, 1842, 1844, 68, 116, 1845]) :: (91, 0, 17, 1, 0, 0, []) :: (93, 16, 0, 1, 0, 0, []) :: (94, 0, 8, 1, 0, 0, []) :: (96, 19, 0, 3, 103, 0, []) :: (99, 0, 1, 0, 0, 0, []) :: (100, 22, 0, 0, 104, 0, []) :: kX11_judged_103
def kX11_judged_68 : List mIn := (68, 4, 0, 0, 1, 0, []) :: (69, 2, 0, 4, 2, 0, []) :: (71, 32, 0, 0, 2, 250, [11, 1842, 1844, 68, 116, 1845]) :: (74, 2, 0, 2, 1, 0, []) :: (75, 19, 0, 1, 80, 0, []) :: (78, 0, 3, 0, 0, 0, []) :: (79, 33, 0, 1, 0, 0, []) :: kX11_judged_80
def kX11_judged_49 : List mIn := (49, 2, 0, 4, 2, 0, []) :: (51, 2, 0, 1, 1, 0, []) :: (52, 19, 0, 3, 112, 0, []) :: (55, 4, 0, 0, 1, 0, []) :: (56, 2, 0, 4, 2, 0, []) :: (58, 32, 0, 0, 2, 250, [11, 1842, 1844, 68, 116, 1845]) :: (61, 0, (-1), 0, 0, 0, []) :: (62, 19, 0, 1, 68, 0, []) :: (65, 22, 0, 0, 106, 0, []) :: kX11_judged_68
def kX11_judged_45 : List mIn := (45, 5, 0, 3, 1, 0, []) :: (46, 0, 0, 0, 0, 0, []) :: (47, 5, 0, 4, 2, 0, []) :: (49, 43, 0, 0, 49, 0, []) :: kX11_judged_49
def kX11_judged_44 : List mIn := (44, 0, 0, 0, 0, 0, []) :: kX11_judged_45
def kX11_judged_31 : List mIn := (31, 2, 0, 2, 1, 0, []) :: (32, 0, 17, 1, 0, 0, []) :: (34, 16, 0, 1, 0, 0, []) :: (35, 0, 8, 1, 0, 0, []) :: (37, 19, 0, 3, 44, 0, []) :: (40, 0, 1, 0, 0, 0, []) :: (41, 22, 0, 0, 45, 0, []) :: kX11_judged_44
def kX11_judged_16 : List mIn := (16, 2, 0, 2, 1, 0, []) :: (17, 32, 1, 2, 1, 265, [1875, 1876, 116, 1877]) :: (20, 4, 0, 0, 1, 0, []) :: (21, 24, 0, 11, 0, 9, [1575]) :: (24, 0, 5, 0, 0, 0, []) :: (25, 26, 0, 20, 0, 0, []) :: (26, 19, 0, 3, 31, 0, []) :: (29, 0, 2, 0, 0, 0, []) :: (30, 33, 0, 1, 0, 0, []) :: kX11_judged_31
def kX11_judged_0 : List mIn := (0, 4, 0, 0, 1, 0, []) :: (1, 2, 0, 1, 1, 0, []) :: (2, 32, 0, 0, 2, 250, [11, 1842, 1844, 68, 116, 1845]) :: (5, 5, 0, 2, 1, 0, []) :: (6, 4, 0, 0, 1, 0, []) :: (7, 2, 0, 2, 1, 0, []) :: (8, 32, 0, 1, 2, 262, [11, 1871, 1873, 73, 116, 1874]) :: (11, 20, 0, 1, 16, 0, []) :: (14, 0, 1, 0, 0, 0, []) :: (15, 33, 0, 1, 0, 0, []) :: kX11_judged_16
def kX11_judged : List mIn := kX11_judged_0
def TX11_judged : Nat → mCal := fun a => match a with
  | 0 => calX11_standOf
  | 1 => calX11_isIn
  | 2 => calX11_fromBat
  | _ => (yX11_judged, cX11_judged, 5, (some .int), (0, 0, 0, 0))
def calX11_judged : mCal := (yX11_judged, cX11_judged, 5, (some .int), (3, 64, 0, 0))
def cutX11_judged : Nat → Option (List Bool) := fun t => mLk t [(49, [true, true, true, true, true])]
theorem okX11_judged : mOK (yX11_judged.cls, cX11_judged, TX11_judged, (some .int), (3, 64, 0, 0), 5, mAcf [], mAcf []) kX11_judged = true := by decide +kernel
set_option maxRecDepth 100000 in
theorem sfxX11_judged_16 : mSfx 16 kX11_judged = kX11_judged_16 := rfl
theorem cutX11_judged_16 : cutX11_judged 16 = none := by decide
set_option maxRecDepth 100000 in
theorem sfxX11_judged_31 : mSfx 31 kX11_judged = kX11_judged_31 := rfl
theorem cutX11_judged_31 : cutX11_judged 31 = none := by decide
set_option maxRecDepth 100000 in
theorem sfxX11_judged_44 : mSfx 44 kX11_judged = kX11_judged_44 := rfl
theorem cutX11_judged_44 : cutX11_judged 44 = none := by decide
set_option maxRecDepth 100000 in
theorem sfxX11_judged_45 : mSfx 45 kX11_judged = kX11_judged_45 := rfl
theorem cutX11_judged_45 : cutX11_judged 45 = none := by decide
set_option maxRecDepth 100000 in
theorem sfxX11_judged_49 : mSfx 49 kX11_judged = kX11_judged_49 := rfl
theorem cutX11_judged_49 : cutX11_judged 49 = some [true, true, true, true, true] := by decide
set_option maxRecDepth 100000 in
theorem sfxX11_judged_68 : mSfx 68 kX11_judged = kX11_judged_68 := rfl
theorem cutX11_judged_68 : cutX11_judged 68 = none := by decide
set_option maxRecDepth 100000 in
theorem sfxX11_judged_80 : mSfx 80 kX11_judged = kX11_judged_80 := rfl
theorem cutX11_judged_80 : cutX11_judged 80 = none := by decide
set_option maxRecDepth 100000 in
theorem sfxX11_judged_103 : mSfx 103 kX11_judged = kX11_judged_103 := rfl
theorem cutX11_judged_103 : cutX11_judged 103 = none := by decide
set_option maxRecDepth 100000 in
theorem sfxX11_judged_104 : mSfx 104 kX11_judged = kX11_judged_104 := rfl
theorem cutX11_judged_104 : cutX11_judged 104 = none := by decide
set_option maxRecDepth 100000 in
theorem sfxX11_judged_106 : mSfx 106 kX11_judged = kX11_judged_106 := rfl
theorem cutX11_judged_106 : cutX11_judged 106 = none := by decide
set_option maxRecDepth 100000 in
theorem sfxX11_judged_112 : mSfx 112 kX11_judged = kX11_judged_112 := rfl
theorem cutX11_judged_112 : cutX11_judged 112 = none := by decide
set_option maxRecDepth 100000 in
theorem sfxX11_judged_126 : mSfx 126 kX11_judged = kX11_judged_126 := rfl
theorem cutX11_judged_126 : cutX11_judged 126 = none := by decide
set_option maxRecDepth 100000 in
theorem sfxX11_judged_127 : mSfx 127 kX11_judged = kX11_judged_127 := rfl
theorem cutX11_judged_127 : cutX11_judged 127 = none := by decide
def kX11_judgement_42 : List mIn := (42, 0, (-1), 0, 0, 0, []) :: (43, 33, 0, 1, 0, 0, []) :: []
def kX11_judgement_36 : List mIn := (36, 8, 1, 1, 0, 0, []) :: (39, 22, 0, 0, 2, 0, []) :: kX11_judgement_42
def kX11_judgement_2 : List mIn := (2, 2, 0, 1, 1, 0, []) :: (3, 0, 9, 1, 0, 0, []) :: (5, 19, 0, 3, 42, 0, []) :: (8, 4, 0, 0, 1, 0, []) :: (9, 2, 0, 1, 1, 0, []) :: (10, 32, 0, 0, 2, 250, [11, 1842, 1844, 68, 116, 1845]) :: (13, 0, (-1), 0, 0, 0, []) :: (14, 19, 0, 0, 36, 0, []) :: (17, 4, 0, 0, 1, 0, []) :: (18, 2, 0, 1, 1, 0, []) :: (19, 32, 0, 1, 2, 268, [11, 1867, 1869, 72, 116, 1870]) :: (22, 20, 0, 5, 36, 0, []) :: (25, 0, 10, 1, 0, 0, []) :: (27, 2, 0, 1, 1, 0, []) :: (28, 9, 0, 2, 0, 0, []) :: (29, 4, 0, 0, 1, 0, []) :: (30, 2, 0, 1, 1, 0, []) :: (31, 32, 0, 1, 2, 268, [11, 1867, 1869, 72, 116, 1870]) :: (34, 9, 0, 0, 0, 0, []) :: (35, 33, 0, 1, 0, 0, []) :: kX11_judgement_36
def kX11_judgement_0 : List mIn := (0, 0, 0, 0, 0, 0, []) :: (1, 5, 0, 1, 1, 0, []) :: (2, 43, 0, 0, 2, 0, []) :: kX11_judgement_2
def kX11_judgement : List mIn := kX11_judgement_0
def TX11_judgement : Nat → mCal := fun a => match a with
  | 0 => calX11_standOf
  | 1 => calX11_judged
  | _ => (yX11_judgement, cX11_judgement, 2, (some .int), (0, 0, 0, 0))
def calX11_judgement : mCal := (yX11_judgement, cX11_judgement, 2, (some .int), (4, 88, 0, 0))
def cutX11_judgement : Nat → Option (List Bool) := fun t => mLk t [(2, [true, true])]
theorem okX11_judgement : mOK (yX11_judgement.cls, cX11_judgement, TX11_judgement, (some .int), (4, 88, 0, 0), 2, mAcf [], mAcf []) kX11_judgement = true := by decide +kernel
set_option maxRecDepth 100000 in
theorem sfxX11_judgement_2 : mSfx 2 kX11_judgement = kX11_judgement_2 := rfl
theorem cutX11_judgement_2 : cutX11_judgement 2 = some [true, true] := by decide
set_option maxRecDepth 100000 in
theorem sfxX11_judgement_36 : mSfx 36 kX11_judgement = kX11_judgement_36 := rfl
theorem cutX11_judgement_36 : cutX11_judgement 36 = none := by decide
set_option maxRecDepth 100000 in
theorem sfxX11_judgement_42 : mSfx 42 kX11_judgement = kX11_judgement_42 := rfl
theorem cutX11_judgement_42 : cutX11_judgement 42 = none := by decide
def kX11_isLawful_13 : List mIn := (13, 33, 0, 4, 0, 0, []) :: []
def kX11_isLawful_12 : List mIn := (12, 0, 0, 0, 0, 0, []) :: kX11_isLawful_13
def kX11_isLawful_0 : List mIn := (0, 4, 0, 0, 1, 0, []) :: (1, 32, 0, 0, 1, 271, [11, 1863, 1865, 71, 116, 1866]) :: (4, 0, (-1), 0, 0, 0, []) :: (5, 19, 0, 1, 12, 0, []) :: (8, 0, 1, 0, 0, 0, []) :: (9, 22, 0, 0, 13, 0, []) :: kX11_isLawful_12
def kX11_isLawful : List mIn := kX11_isLawful_0
def TX11_isLawful : Nat → mCal := fun a => match a with
  | 0 => calX11_judgement
  | _ => (yX11_isLawful, cX11_isLawful, 1, (some .boolean), (0, 0, 0, 0))
def calX11_isLawful : mCal := (yX11_isLawful, cX11_isLawful, 1, (some .boolean), (5, 109, 0, 0))
def cutX11_isLawful : Nat → Option (List Bool) := fun t => mLk t []
theorem okX11_isLawful : mOK (yX11_isLawful.cls, cX11_isLawful, TX11_isLawful, (some .boolean), (5, 109, 0, 0), 1, mAcf [], mAcf []) kX11_isLawful = true := by decide +kernel
set_option maxRecDepth 100000 in
theorem sfxX11_isLawful_12 : mSfx 12 kX11_isLawful = kX11_isLawful_12 := rfl
theorem cutX11_isLawful_12 : cutX11_isLawful 12 = none := by decide
set_option maxRecDepth 100000 in
theorem sfxX11_isLawful_13 : mSfx 13 kX11_isLawful = kX11_isLawful_13 := rfl
theorem cutX11_isLawful_13 : cutX11_isLawful 13 = none := by decide
def kX11_judge_0 : List mIn := (0, 4, 0, 0, 1, 0, []) :: (1, 0, 0, 0, 0, 0, []) :: (2, 25, 0, 11, 3, 74, [1578]) :: (5, 4, 0, 0, 1, 0, []) :: (6, 32, 0, 0, 1, 271, [11, 1863, 1865, 71, 116, 1866]) :: (9, 33, 0, 1, 0, 0, []) :: []
def kX11_judge : List mIn := kX11_judge_0
def TX11_judge : Nat → mCal := fun a => match a with
  | 0 => calX11_judgement
  | _ => (yX11_judge, cX11_judge, 1, (some .int), (0, 0, 0, 0))
def calX11_judge : mCal := (yX11_judge, cX11_judge, 1, (some .int), (5, 109, 0, 0))
def cutX11_judge : Nat → Option (List Bool) := fun t => mLk t []
theorem okX11_judge : mOK (yX11_judge.cls, cX11_judge, TX11_judge, (some .int), (5, 109, 0, 0), 1, mAcf [], mAcf []) kX11_judge = true := by decide +kernel
def kX11_batter_41 : List mIn := (41, 4, 0, 0, 1, 0, []) :: (42, 24, 0, 11, 0, 9, [1575]) :: (45, 0, 6, 1, 0, 0, []) :: (47, 2, 0, 1, 1, 0, []) :: (48, 27, 0, 20, 0, 0, []) :: (49, 4, 0, 0, 1, 0, []) :: (50, 24, 0, 11, 0, 9, [1575]) :: (53, 0, 7, 1, 0, 0, []) :: (55, 2, 0, 2, 1, 0, []) :: (56, 27, 0, 20, 0, 0, []) :: (57, 33, 0, 0, 0, 0, []) :: []
def kX11_batter_30 : List mIn := (30, 25, 0, 11, 3, 74, [1578]) :: (33, 4, 0, 0, 1, 0, []) :: (34, 24, 0, 11, 3, 74, [1578]) :: (37, 20, 0, 5, 41, 0, []) :: (40, 33, 0, 0, 0, 0, []) :: kX11_batter_41
def kX11_batter_29 : List mIn := (29, 0, 1, 0, 0, 0, []) :: kX11_batter_30
def kX11_batter_0 : List mIn := (0, 4, 0, 0, 1, 0, []) :: (1, 2, 0, 1, 1, 0, []) :: (2, 13, 0, 0, 0, 0, []) :: (3, 1, 0, 0, 0, 0, []) :: (4, 1, 4, 1, 257, 1854, []) :: (7, 32, 1, 0, 3, 79, [1697, 1698, 116, 1699]) :: (10, 20, 0, 0, 29, 0, []) :: (13, 2, 0, 2, 1, 0, []) :: (14, 13, 0, 0, 0, 0, []) :: (15, 1, 0, 0, 0, 0, []) :: (16, 1, 100, 1, 242, 1832, []) :: (19, 32, 1, 0, 3, 79, [1697, 1698, 116, 1699]) :: (22, 20, 0, 0, 29, 0, []) :: (25, 0, 0, 0, 0, 0, []) :: (26, 22, 0, 0, 30, 0, []) :: kX11_batter_29
def kX11_batter : List mIn := kX11_batter_0
def TX11_batter : Nat → mCal := fun a => match a with
  | 0 => calX11_within
  | _ => (yX11_batter, cX11_batter, 3, none, (0, 0, 0, 0))
def calX11_batter : mCal := (yX11_batter, cX11_batter, 3, none, (1, 25, 0, 0))
def cutX11_batter : Nat → Option (List Bool) := fun t => mLk t []
theorem okX11_batter : mOK (yX11_batter.cls, cX11_batter, TX11_batter, none, (1, 25, 0, 0), 3, mAcf [], mAcf []) kX11_batter = true := by decide +kernel
set_option maxRecDepth 100000 in
theorem sfxX11_batter_29 : mSfx 29 kX11_batter = kX11_batter_29 := rfl
theorem cutX11_batter_29 : cutX11_batter 29 = none := by decide
set_option maxRecDepth 100000 in
theorem sfxX11_batter_30 : mSfx 30 kX11_batter = kX11_batter_30 := rfl
theorem cutX11_batter_30 : cutX11_batter 30 = none := by decide
set_option maxRecDepth 100000 in
theorem sfxX11_batter_41 : mSfx 41 kX11_batter = kX11_batter_41 := rfl
theorem cutX11_batter_41 : cutX11_batter 41 = none := by decide
def kX11_reaches_48 : List mIn := (48, 33, 0, 4, 0, 0, []) :: []
def kX11_reaches_47 : List mIn := (47, 0, 0, 0, 0, 0, []) :: kX11_reaches_48
def kX11_reaches_0 : List mIn := (0, 4, 0, 0, 1, 0, []) :: (1, 2, 0, 1, 1, 0, []) :: (2, 32, 0, 0, 2, 250, [11, 1842, 1844, 68, 116, 1845]) :: (5, 0, (-1), 0, 0, 0, []) :: (6, 19, 0, 0, 47, 0, []) :: (9, 4, 0, 0, 1, 0, []) :: (10, 2, 0, 1, 1, 0, []) :: (11, 32, 0, 0, 2, 250, [11, 1842, 1844, 68, 116, 1845]) :: (14, 4, 0, 0, 1, 0, []) :: (15, 2, 0, 2, 1, 0, []) :: (16, 2, 0, 3, 1, 0, []) :: (17, 2, 0, 4, 2, 0, []) :: (19, 32, 0, 1, 4, 217, [11, 1819, 1821, 67, 116, 1822]) :: (22, 32, 1, 2, 2, 223, [1878, 1879, 116, 1880]) :: (25, 4, 0, 0, 1, 0, []) :: (26, 2, 0, 1, 1, 0, []) :: (27, 0, 1, 0, 0, 0, []) :: (28, 32, 0, 3, 3, 259, [11, 1855, 1857, 70, 116, 1858]) :: (31, 9, 0, 2, 0, 0, []) :: (32, 4, 0, 0, 1, 0, []) :: (33, 2, 0, 2, 1, 0, []) :: (34, 2, 0, 3, 1, 0, []) :: (35, 2, 0, 4, 2, 0, []) :: (37, 32, 0, 4, 4, 232, [11, 1815, 1817, 66, 116, 1818]) :: (40, 19, 0, 4, 47, 0, []) :: (43, 0, 1, 0, 0, 0, []) :: (44, 22, 0, 0, 48, 0, []) :: kX11_reaches_47
def kX11_reaches : List mIn := kX11_reaches_0
def TX11_reaches : Nat → mCal := fun a => match a with
  | 0 => calX11_standOf
  | 1 => calX11_cellAt
  | 2 => calX11_far
  | 3 => calX11_ofFielder
  | 4 => calX11_tickAt
  | _ => (yX11_reaches, cX11_reaches, 5, (some .boolean), (0, 0, 0, 0))
def calX11_reaches : mCal := (yX11_reaches, cX11_reaches, 5, (some .boolean), (4, 93, 0, 0))
def cutX11_reaches : Nat → Option (List Bool) := fun t => mLk t []
theorem okX11_reaches : mOK (yX11_reaches.cls, cX11_reaches, TX11_reaches, (some .boolean), (4, 93, 0, 0), 5, mAcf [], mAcf []) kX11_reaches = true := by decide +kernel
set_option maxRecDepth 100000 in
theorem sfxX11_reaches_47 : mSfx 47 kX11_reaches = kX11_reaches_47 := rfl
theorem cutX11_reaches_47 : cutX11_reaches 47 = none := by decide
set_option maxRecDepth 100000 in
theorem sfxX11_reaches_48 : mSfx 48 kX11_reaches = kX11_reaches_48 := rfl
theorem cutX11_reaches_48 : cutX11_reaches 48 = none := by decide
def kX11_soonest_102 : List mIn := (102, 2, 0, 5, 2, 0, []) :: (104, 33, 0, 1, 0, 0, []) :: []
def kX11_soonest_96 : List mIn := (96, 8, 1, 6, 0, 0, []) :: (99, 22, 0, 0, 6, 0, []) :: kX11_soonest_102
def kX11_soonest_92 : List mIn := (92, 2, 0, 6, 2, 0, []) :: (94, 5, 0, 5, 2, 0, []) :: kX11_soonest_96
def kX11_soonest_35 : List mIn := (35, 2, 0, 5, 2, 0, []) :: (37, 0, (-1), 0, 0, 0, []) :: (38, 19, 0, 0, 92, 0, []) :: (41, 4, 0, 0, 1, 0, []) :: (42, 2, 0, 6, 2, 0, []) :: (44, 32, 0, 1, 2, 250, [11, 1842, 1844, 68, 116, 1845]) :: (47, 4, 0, 0, 1, 0, []) :: (48, 2, 0, 1, 1, 0, []) :: (49, 2, 0, 2, 1, 0, []) :: (50, 2, 0, 3, 1, 0, []) :: (51, 32, 0, 2, 4, 217, [11, 1819, 1821, 67, 116, 1822]) :: (54, 32, 1, 3, 2, 223, [1878, 1879, 116, 1880]) :: (57, 4, 0, 0, 1, 0, []) :: (58, 2, 0, 6, 2, 0, []) :: (60, 0, 1, 0, 0, 0, []) :: (61, 32, 0, 4, 3, 259, [11, 1855, 1857, 70, 116, 1858]) :: (64, 9, 0, 2, 0, 0, []) :: (65, 4, 0, 0, 1, 0, []) :: (66, 2, 0, 5, 2, 0, []) :: (68, 32, 0, 1, 2, 250, [11, 1842, 1844, 68, 116, 1845]) :: (71, 4, 0, 0, 1, 0, []) :: (72, 2, 0, 1, 1, 0, []) :: (73, 2, 0, 2, 1, 0, []) :: (74, 2, 0, 3, 1, 0, []) :: (75, 32, 0, 2, 4, 217, [11, 1819, 1821, 67, 116, 1822]) :: (78, 32, 1, 3, 2, 223, [1878, 1879, 116, 1880]) :: (81, 4, 0, 0, 1, 0, []) :: (82, 2, 0, 5, 2, 0, []) :: (84, 0, 1, 0, 0, 0, []) :: (85, 32, 0, 4, 3, 259, [11, 1855, 1857, 70, 116, 1858]) :: (88, 9, 0, 2, 0, 0, []) :: (89, 19, 0, 3, 96, 0, []) :: kX11_soonest_92
def kX11_soonest_6 : List mIn := (6, 2, 0, 6, 2, 0, []) :: (8, 0, 9, 1, 0, 0, []) :: (10, 19, 0, 3, 102, 0, []) :: (13, 2, 0, 6, 2, 0, []) :: (15, 2, 0, 4, 2, 0, []) :: (17, 19, 0, 0, 96, 0, []) :: (20, 4, 0, 0, 1, 0, []) :: (21, 2, 0, 6, 2, 0, []) :: (23, 2, 0, 1, 1, 0, []) :: (24, 2, 0, 2, 1, 0, []) :: (25, 2, 0, 3, 1, 0, []) :: (26, 32, 0, 0, 5, 274, [11, 1900, 1902, 76, 116, 1903]) :: (29, 20, 0, 1, 35, 0, []) :: (32, 22, 0, 0, 96, 0, []) :: kX11_soonest_35
def kX11_soonest_0 : List mIn := (0, 0, (-1), 0, 0, 0, []) :: (1, 5, 0, 5, 2, 0, []) :: (3, 0, 0, 0, 0, 0, []) :: (4, 5, 0, 6, 2, 0, []) :: (6, 43, 0, 0, 6, 0, []) :: kX11_soonest_6
def kX11_soonest : List mIn := kX11_soonest_0
def TX11_soonest : Nat → mCal := fun a => match a with
  | 0 => calX11_reaches
  | 1 => calX11_standOf
  | 2 => calX11_cellAt
  | 3 => calX11_far
  | 4 => calX11_ofFielder
  | _ => (yX11_soonest, cX11_soonest, 7, (some .int), (0, 0, 0, 0))
def calX11_soonest : mCal := (yX11_soonest, cX11_soonest, 7, (some .int), (5, 117, 0, 0))
def cutX11_soonest : Nat → Option (List Bool) := fun t => mLk t [(6, [true, true, true, true, true, true, true])]
theorem okX11_soonest : mOK (yX11_soonest.cls, cX11_soonest, TX11_soonest, (some .int), (5, 117, 0, 0), 7, mAcf [], mAcf []) kX11_soonest = true := by decide +kernel
set_option maxRecDepth 100000 in
theorem sfxX11_soonest_6 : mSfx 6 kX11_soonest = kX11_soonest_6 := rfl
theorem cutX11_soonest_6 : cutX11_soonest 6 = some [true, true, true, true, true, true, true] := by decide
set_option maxRecDepth 100000 in
theorem sfxX11_soonest_35 : mSfx 35 kX11_soonest = kX11_soonest_35 := rfl
theorem cutX11_soonest_35 : cutX11_soonest 35 = none := by decide
set_option maxRecDepth 100000 in
theorem sfxX11_soonest_92 : mSfx 92 kX11_soonest = kX11_soonest_92 := rfl
theorem cutX11_soonest_92 : cutX11_soonest 92 = none := by decide
set_option maxRecDepth 100000 in
theorem sfxX11_soonest_96 : mSfx 96 kX11_soonest = kX11_soonest_96 := rfl
theorem cutX11_soonest_96 : cutX11_soonest 96 = none := by decide
set_option maxRecDepth 100000 in
theorem sfxX11_soonest_102 : mSfx 102 kX11_soonest = kX11_soonest_102 := rfl
theorem cutX11_soonest_102 : cutX11_soonest 102 = none := by decide
def kX11_catcherOf_38 : List mIn := (38, 33, 0, 1, 0, 0, []) :: []
def kX11_catcherOf_37 : List mIn := (37, 0, (-1), 0, 0, 0, []) :: kX11_catcherOf_38
def kX11_catcherOf_0 : List mIn := (0, 4, 0, 0, 1, 0, []) :: (1, 2, 0, 1, 1, 0, []) :: (2, 2, 0, 2, 1, 0, []) :: (3, 32, 0, 0, 3, 214, [11, 1792, 1794, 63, 116, 1795]) :: (6, 13, 0, 0, 0, 0, []) :: (7, 1, 1, 0, 1, 0, []) :: (8, 4, 0, 0, 1, 0, []) :: (9, 2, 0, 1, 1, 0, []) :: (10, 2, 0, 2, 1, 0, []) :: (11, 32, 0, 1, 3, 229, [11, 1797, 1799, 64, 116, 1800]) :: (14, 13, 0, 0, 0, 0, []) :: (15, 32, 1, 2, 3, 79, [1697, 1698, 116, 1699]) :: (18, 20, 0, 0, 37, 0, []) :: (21, 4, 0, 0, 1, 0, []) :: (22, 2, 0, 1, 1, 0, []) :: (23, 2, 0, 2, 1, 0, []) :: (24, 4, 0, 0, 1, 0, []) :: (25, 2, 0, 1, 1, 0, []) :: (26, 2, 0, 2, 1, 0, []) :: (27, 32, 0, 0, 3, 214, [11, 1792, 1794, 63, 116, 1795]) :: (30, 0, (-1), 0, 0, 0, []) :: (31, 32, 0, 3, 5, 278, [11, 1896, 1898, 75, 116, 1899]) :: (34, 22, 0, 0, 38, 0, []) :: kX11_catcherOf_37
def kX11_catcherOf : List mIn := kX11_catcherOf_0
def TX11_catcherOf : Nat → mCal := fun a => match a with
  | 0 => calX11_airOf
  | 1 => calX11_stepsOf
  | 2 => calX11_within
  | 3 => calX11_soonest
  | _ => (yX11_catcherOf, cX11_catcherOf, 3, (some .int), (0, 0, 0, 0))
def calX11_catcherOf : mCal := (yX11_catcherOf, cX11_catcherOf, 3, (some .int), (6, 143, 0, 0))
def cutX11_catcherOf : Nat → Option (List Bool) := fun t => mLk t []
theorem okX11_catcherOf : mOK (yX11_catcherOf.cls, cX11_catcherOf, TX11_catcherOf, (some .int), (6, 143, 0, 0), 3, mAcf [], mAcf []) kX11_catcherOf = true := by decide +kernel
set_option maxRecDepth 100000 in
theorem sfxX11_catcherOf_37 : mSfx 37 kX11_catcherOf = kX11_catcherOf_37 := rfl
theorem cutX11_catcherOf_37 : cutX11_catcherOf 37 = none := by decide
set_option maxRecDepth 100000 in
theorem sfxX11_catcherOf_38 : mSfx 38 kX11_catcherOf = kX11_catcherOf_38 := rfl
theorem cutX11_catcherOf_38 : cutX11_catcherOf 38 = none := by decide
def kX11_handsOf_0 : List mIn := (0, 0, 0, 0, 0, 0, []) :: (1, 4, 0, 0, 1, 0, []) :: (2, 2, 0, 1, 1, 0, []) :: (3, 0, 2, 0, 0, 0, []) :: (4, 32, 0, 0, 3, 259, [11, 1855, 1857, 70, 116, 1858]) :: (7, 4, 0, 0, 1, 0, []) :: (8, 2, 0, 1, 1, 0, []) :: (9, 0, 3, 0, 0, 0, []) :: (10, 32, 0, 0, 3, 259, [11, 1855, 1857, 70, 116, 1858]) :: (13, 4, 0, 0, 1, 0, []) :: (14, 2, 0, 1, 1, 0, []) :: (15, 32, 0, 1, 2, 250, [11, 1842, 1844, 68, 116, 1845]) :: (18, 4, 0, 0, 1, 0, []) :: (19, 2, 0, 2, 1, 0, []) :: (20, 2, 0, 3, 1, 0, []) :: (21, 4, 0, 0, 1, 0, []) :: (22, 2, 0, 2, 1, 0, []) :: (23, 2, 0, 3, 1, 0, []) :: (24, 32, 0, 2, 3, 214, [11, 1792, 1794, 63, 116, 1795]) :: (27, 32, 0, 3, 4, 217, [11, 1819, 1821, 67, 116, 1822]) :: (30, 32, 1, 4, 2, 223, [1878, 1879, 116, 1880]) :: (33, 9, 0, 2, 0, 0, []) :: (34, 9, 0, 1, 0, 0, []) :: (35, 40, 0, 0, 0, 196, [1796, 656, 121, 657]) :: (38, 33, 0, 1, 0, 0, []) :: []
def kX11_handsOf : List mIn := kX11_handsOf_0
def TX11_handsOf : Nat → mCal := fun a => match a with
  | 0 => calX11_ofFielder
  | 1 => calX11_standOf
  | 2 => calX11_airOf
  | 3 => calX11_cellAt
  | 4 => calX11_far
  | _ => (yX11_handsOf, cX11_handsOf, 4, (some .int), (0, 0, 0, 0))
def calX11_handsOf : mCal := (yX11_handsOf, cX11_handsOf, 4, (some .int), (3, 68, 0, 0))
def cutX11_handsOf : Nat → Option (List Bool) := fun t => mLk t []
theorem okX11_handsOf : mOK (yX11_handsOf.cls, cX11_handsOf, TX11_handsOf, (some .int), (3, 68, 0, 0), 4, mAcf [], mAcf []) kX11_handsOf = true := by decide +kernel
def kX11_catchOf_23 : List mIn := (23, 33, 0, 1, 0, 0, []) :: []
def kX11_catchOf_16 : List mIn := (16, 4, 0, 0, 1, 0, []) :: (17, 2, 0, 3, 1, 0, []) :: (18, 2, 0, 1, 1, 0, []) :: (19, 2, 0, 2, 1, 0, []) :: (20, 32, 0, 1, 4, 285, [11, 1912, 1914, 78, 116, 1915]) :: kX11_catchOf_23
def kX11_catchOf_0 : List mIn := (0, 4, 0, 0, 1, 0, []) :: (1, 2, 0, 1, 1, 0, []) :: (2, 2, 0, 2, 1, 0, []) :: (3, 32, 0, 0, 3, 282, [11, 1892, 1894, 74, 116, 1895]) :: (6, 5, 0, 3, 1, 0, []) :: (7, 2, 0, 3, 1, 0, []) :: (8, 0, (-1), 0, 0, 0, []) :: (9, 19, 0, 1, 16, 0, []) :: (12, 0, 0, 0, 0, 0, []) :: (13, 22, 0, 0, 23, 0, []) :: kX11_catchOf_16
def kX11_catchOf : List mIn := kX11_catchOf_0
def TX11_catchOf : Nat → mCal := fun a => match a with
  | 0 => calX11_catcherOf
  | 1 => calX11_handsOf
  | _ => (yX11_catchOf, cX11_catchOf, 4, (some .int), (0, 0, 0, 0))
def calX11_catchOf : mCal := (yX11_catchOf, cX11_catchOf, 4, (some .int), (7, 165, 0, 0))
def cutX11_catchOf : Nat → Option (List Bool) := fun t => mLk t []
theorem okX11_catchOf : mOK (yX11_catchOf.cls, cX11_catchOf, TX11_catchOf, (some .int), (7, 165, 0, 0), 4, mAcf [], mAcf []) kX11_catchOf = true := by decide +kernel
set_option maxRecDepth 100000 in
theorem sfxX11_catchOf_16 : mSfx 16 kX11_catchOf = kX11_catchOf_16 := rfl
theorem cutX11_catchOf_16 : cutX11_catchOf 16 = none := by decide
set_option maxRecDepth 100000 in
theorem sfxX11_catchOf_23 : mSfx 23 kX11_catchOf = kX11_catchOf_23 := rfl
theorem cutX11_catchOf_23 : cutX11_catchOf 23 = none := by decide
def kX11_stopStep_47 : List mIn := (47, 0, (-1), 0, 0, 0, []) :: (48, 33, 0, 1, 0, 0, []) :: []
def kX11_stopStep_41 : List mIn := (41, 8, 1, 5, 0, 0, []) :: (44, 22, 0, 0, 18, 0, []) :: kX11_stopStep_47
def kX11_stopStep_18 : List mIn := (18, 2, 0, 5, 2, 0, []) :: (20, 2, 0, 4, 2, 0, []) :: (22, 19, 0, 4, 47, 0, []) :: (25, 4, 0, 0, 1, 0, []) :: (26, 2, 0, 1, 1, 0, []) :: (27, 2, 0, 2, 1, 0, []) :: (28, 2, 0, 5, 2, 0, []) :: (30, 2, 0, 3, 1, 0, []) :: (31, 32, 0, 2, 5, 278, [11, 1896, 1898, 75, 116, 1899]) :: (34, 0, (-1), 0, 0, 0, []) :: (35, 19, 0, 0, 41, 0, []) :: (38, 2, 0, 5, 2, 0, []) :: (40, 33, 0, 1, 0, 0, []) :: kX11_stopStep_41
def kX11_stopStep_0 : List mIn := (0, 4, 0, 0, 1, 0, []) :: (1, 2, 0, 1, 1, 0, []) :: (2, 2, 0, 2, 1, 0, []) :: (3, 32, 0, 0, 3, 229, [11, 1797, 1799, 64, 116, 1800]) :: (6, 5, 0, 4, 2, 0, []) :: (8, 4, 0, 0, 1, 0, []) :: (9, 2, 0, 1, 1, 0, []) :: (10, 2, 0, 2, 1, 0, []) :: (11, 32, 0, 1, 3, 214, [11, 1792, 1794, 63, 116, 1795]) :: (14, 0, 1, 0, 0, 0, []) :: (15, 9, 0, 0, 0, 0, []) :: (16, 5, 0, 5, 2, 0, []) :: (18, 43, 0, 0, 18, 0, []) :: kX11_stopStep_18
def kX11_stopStep : List mIn := kX11_stopStep_0
def TX11_stopStep : Nat → mCal := fun a => match a with
  | 0 => calX11_stepsOf
  | 1 => calX11_airOf
  | 2 => calX11_soonest
  | _ => (yX11_stopStep, cX11_stopStep, 6, (some .int), (0, 0, 0, 0))
def calX11_stopStep : mCal := (yX11_stopStep, cX11_stopStep, 6, (some .int), (6, 143, 0, 0))
def cutX11_stopStep : Nat → Option (List Bool) := fun t => mLk t [(18, [true, true, true, true, true, true])]
theorem okX11_stopStep : mOK (yX11_stopStep.cls, cX11_stopStep, TX11_stopStep, (some .int), (6, 143, 0, 0), 6, mAcf [], mAcf []) kX11_stopStep = true := by decide +kernel
set_option maxRecDepth 100000 in
theorem sfxX11_stopStep_18 : mSfx 18 kX11_stopStep = kX11_stopStep_18 := rfl
theorem cutX11_stopStep_18 : cutX11_stopStep 18 = some [true, true, true, true, true, true] := by decide
set_option maxRecDepth 100000 in
theorem sfxX11_stopStep_41 : mSfx 41 kX11_stopStep = kX11_stopStep_41 := rfl
theorem cutX11_stopStep_41 : cutX11_stopStep 41 = none := by decide
set_option maxRecDepth 100000 in
theorem sfxX11_stopStep_47 : mSfx 47 kX11_stopStep = kX11_stopStep_47 := rfl
theorem cutX11_stopStep_47 : cutX11_stopStep 47 = none := by decide
def kX11_runsBut_37 : List mIn := (37, 4, 0, 0, 1, 0, []) :: (38, 2, 0, 1, 1, 0, []) :: (39, 2, 0, 2, 1, 0, []) :: (40, 2, 0, 4, 2, 0, []) :: (42, 2, 0, 3, 1, 0, []) :: (43, 32, 0, 3, 5, 278, [11, 1896, 1898, 75, 116, 1899]) :: (46, 5, 0, 5, 2, 0, []) :: (48, 0, 3, 0, 0, 0, []) :: (49, 4, 0, 0, 1, 0, []) :: (50, 2, 0, 1, 1, 0, []) :: (51, 2, 0, 2, 1, 0, []) :: (52, 2, 0, 4, 2, 0, []) :: (54, 32, 0, 4, 4, 232, [11, 1815, 1817, 66, 116, 1818]) :: (57, 4, 0, 0, 1, 0, []) :: (58, 2, 0, 5, 2, 0, []) :: (60, 0, 4, 0, 0, 0, []) :: (61, 32, 0, 5, 3, 259, [11, 1855, 1857, 70, 116, 1858]) :: (64, 4, 0, 0, 1, 0, []) :: (65, 2, 0, 1, 1, 0, []) :: (66, 2, 0, 2, 1, 0, []) :: (67, 2, 0, 4, 2, 0, []) :: (69, 32, 0, 6, 4, 217, [11, 1819, 1821, 67, 116, 1822]) :: (72, 32, 1, 7, 1, 265, [1875, 1876, 116, 1877]) :: (75, 9, 0, 2, 0, 0, []) :: (76, 9, 0, 0, 0, 0, []) :: (77, 4, 0, 0, 1, 0, []) :: (78, 24, 0, 11, 0, 9, [1575]) :: (81, 0, 2, 0, 0, 0, []) :: (82, 26, 0, 20, 0, 0, []) :: (83, 16, 0, 0, 0, 0, []) :: (84, 40, 0, 1, 0, 291, [1940, 709, 121, 710]) :: (87, 33, 0, 1, 0, 0, []) :: []
def kX11_runsBut_36 : List mIn := (36, 33, 0, 1, 0, 0, []) :: kX11_runsBut_37
def kX11_runsBut_35 : List mIn := (35, 0, 4, 0, 0, 0, []) :: kX11_runsBut_36
def kX11_runsBut_0 : List mIn := (0, 4, 0, 0, 1, 0, []) :: (1, 2, 0, 1, 1, 0, []) :: (2, 2, 0, 2, 1, 0, []) :: (3, 2, 0, 3, 1, 0, []) :: (4, 32, 0, 0, 4, 288, [11, 1920, 1922, 79, 116, 1923]) :: (7, 5, 0, 4, 2, 0, []) :: (9, 2, 0, 4, 2, 0, []) :: (11, 0, (-1), 0, 0, 0, []) :: (12, 19, 0, 1, 37, 0, []) :: (15, 4, 0, 0, 1, 0, []) :: (16, 2, 0, 1, 1, 0, []) :: (17, 2, 0, 2, 1, 0, []) :: (18, 32, 0, 1, 3, 214, [11, 1792, 1794, 63, 116, 1795]) :: (21, 4, 0, 0, 1, 0, []) :: (22, 2, 0, 1, 1, 0, []) :: (23, 2, 0, 2, 1, 0, []) :: (24, 32, 0, 2, 3, 229, [11, 1797, 1799, 64, 116, 1800]) :: (27, 19, 0, 5, 35, 0, []) :: (30, 0, 6, 1, 0, 0, []) :: (32, 22, 0, 0, 36, 0, []) :: kX11_runsBut_35
def kX11_runsBut : List mIn := kX11_runsBut_0
def TX11_runsBut : Nat → mCal := fun a => match a with
  | 0 => calX11_stopStep
  | 1 => calX11_airOf
  | 2 => calX11_stepsOf
  | 3 => calX11_soonest
  | 4 => calX11_tickAt
  | 5 => calX11_ofFielder
  | 6 => calX11_cellAt
  | 7 => calX11_fromBat
  | _ => (yX11_runsBut, cX11_runsBut, 6, (some .int), (0, 0, 0, 0))
def calX11_runsBut : mCal := (yX11_runsBut, cX11_runsBut, 6, (some .int), (7, 168, 0, 0))
def cutX11_runsBut : Nat → Option (List Bool) := fun t => mLk t []
theorem okX11_runsBut : mOK (yX11_runsBut.cls, cX11_runsBut, TX11_runsBut, (some .int), (7, 168, 0, 0), 6, mAcf [], mAcf []) kX11_runsBut = true := by decide +kernel
set_option maxRecDepth 100000 in
theorem sfxX11_runsBut_35 : mSfx 35 kX11_runsBut = kX11_runsBut_35 := rfl
theorem cutX11_runsBut_35 : cutX11_runsBut 35 = none := by decide
set_option maxRecDepth 100000 in
theorem sfxX11_runsBut_36 : mSfx 36 kX11_runsBut = kX11_runsBut_36 := rfl
theorem cutX11_runsBut_36 : cutX11_runsBut 36 = none := by decide
set_option maxRecDepth 100000 in
theorem sfxX11_runsBut_37 : mSfx 37 kX11_runsBut = kX11_runsBut_37 := rfl
theorem cutX11_runsBut_37 : cutX11_runsBut 37 = none := by decide
def kX11_runsOf_0 : List mIn := (0, 4, 0, 0, 1, 0, []) :: (1, 2, 0, 1, 1, 0, []) :: (2, 2, 0, 2, 1, 0, []) :: (3, 4, 0, 0, 1, 0, []) :: (4, 2, 0, 1, 1, 0, []) :: (5, 2, 0, 2, 1, 0, []) :: (6, 32, 0, 0, 3, 282, [11, 1892, 1894, 74, 116, 1895]) :: (9, 32, 0, 1, 4, 294, [11, 1936, 1938, 81, 116, 1939]) :: (12, 33, 0, 1, 0, 0, []) :: []
def kX11_runsOf : List mIn := kX11_runsOf_0
def TX11_runsOf : Nat → mCal := fun a => match a with
  | 0 => calX11_catcherOf
  | 1 => calX11_runsBut
  | _ => (yX11_runsOf, cX11_runsOf, 3, (some .int), (0, 0, 0, 0))
def calX11_runsOf : mCal := (yX11_runsOf, cX11_runsOf, 3, (some .int), (8, 193, 0, 0))
def cutX11_runsOf : Nat → Option (List Bool) := fun t => mLk t []
theorem okX11_runsOf : mOK (yX11_runsOf.cls, cX11_runsOf, TX11_runsOf, (some .int), (8, 193, 0, 0), 3, mAcf [], mAcf []) kX11_runsOf = true := by decide +kernel
def kX11_costOf_0 : List mIn := (0, 4, 0, 0, 1, 0, []) :: (1, 2, 0, 1, 1, 0, []) :: (2, 2, 0, 2, 1, 0, []) :: (3, 32, 0, 0, 3, 297, [11, 1908, 1910, 77, 116, 1911]) :: (6, 5, 0, 3, 1, 0, []) :: (7, 0, 100, 1, 0, 0, []) :: (9, 2, 0, 3, 1, 0, []) :: (10, 9, 0, 1, 0, 0, []) :: (11, 4, 0, 0, 1, 0, []) :: (12, 2, 0, 1, 1, 0, []) :: (13, 2, 0, 2, 1, 0, []) :: (14, 32, 0, 1, 3, 300, [11, 1932, 1934, 80, 116, 1935]) :: (17, 9, 0, 2, 0, 0, []) :: (18, 4, 0, 0, 1, 0, []) :: (19, 24, 0, 11, 0, 9, [1575]) :: (22, 0, 3, 0, 0, 0, []) :: (23, 26, 0, 20, 0, 0, []) :: (24, 2, 0, 3, 1, 0, []) :: (25, 9, 0, 2, 0, 0, []) :: (26, 9, 0, 1, 0, 0, []) :: (27, 33, 0, 1, 0, 0, []) :: []
def kX11_costOf : List mIn := kX11_costOf_0
def TX11_costOf : Nat → mCal := fun a => match a with
  | 0 => calX11_catchOf
  | 1 => calX11_runsOf
  | _ => (yX11_costOf, cX11_costOf, 4, (some .int), (0, 0, 0, 0))
def calX11_costOf : mCal := (yX11_costOf, cX11_costOf, 4, (some .int), (9, 215, 0, 0))
def cutX11_costOf : Nat → Option (List Bool) := fun t => mLk t []
theorem okX11_costOf : mOK (yX11_costOf.cls, cX11_costOf, TX11_costOf, (some .int), (9, 215, 0, 0), 4, mAcf [], mAcf []) kX11_costOf = true := by decide +kernel
def kX11_catcher_28 : List mIn := (28, 33, 0, 1, 0, 0, []) :: []
def kX11_catcher_23 : List mIn := (23, 4, 0, 0, 1, 0, []) :: (24, 0, 1, 0, 0, 0, []) :: (25, 32, 0, 2, 2, 178, [11, 1700, 1702, 49, 116, 1703]) :: kX11_catcher_28
def kX11_catcher_0 : List mIn := (0, 4, 0, 0, 1, 0, []) :: (1, 0, 0, 0, 0, 0, []) :: (2, 25, 0, 11, 3, 74, [1578]) :: (5, 4, 0, 0, 1, 0, []) :: (6, 2, 0, 1, 1, 0, []) :: (7, 2, 0, 2, 1, 0, []) :: (8, 32, 0, 0, 3, 226, [11, 1780, 1782, 60, 116, 1783]) :: (11, 20, 0, 0, 23, 0, []) :: (14, 4, 0, 0, 1, 0, []) :: (15, 2, 0, 1, 1, 0, []) :: (16, 2, 0, 2, 1, 0, []) :: (17, 32, 0, 1, 3, 282, [11, 1892, 1894, 74, 116, 1895]) :: (20, 22, 0, 0, 28, 0, []) :: kX11_catcher_23
def kX11_catcher : List mIn := kX11_catcher_0
def TX11_catcher : Nat → mCal := fun a => match a with
  | 0 => calX11_isHit
  | 1 => calX11_catcherOf
  | 2 => calX11_fails
  | _ => (yX11_catcher, cX11_catcher, 3, (some .int), (0, 0, 0, 0))
def calX11_catcher : mCal := (yX11_catcher, cX11_catcher, 3, (some .int), (7, 165, 0, 0))
def cutX11_catcher : Nat → Option (List Bool) := fun t => mLk t []
theorem okX11_catcher : mOK (yX11_catcher.cls, cX11_catcher, TX11_catcher, (some .int), (7, 165, 0, 0), 3, mAcf [], mAcf []) kX11_catcher = true := by decide +kernel
set_option maxRecDepth 100000 in
theorem sfxX11_catcher_23 : mSfx 23 kX11_catcher = kX11_catcher_23 := rfl
theorem cutX11_catcher_23 : cutX11_catcher 23 = none := by decide
set_option maxRecDepth 100000 in
theorem sfxX11_catcher_28 : mSfx 28 kX11_catcher = kX11_catcher_28 := rfl
theorem cutX11_catcher_28 : cutX11_catcher 28 = none := by decide
def kX11_caught_28 : List mIn := (28, 33, 0, 1, 0, 0, []) :: []
def kX11_caught_23 : List mIn := (23, 4, 0, 0, 1, 0, []) :: (24, 0, 1, 0, 0, 0, []) :: (25, 32, 0, 2, 2, 178, [11, 1700, 1702, 49, 116, 1703]) :: kX11_caught_28
def kX11_caught_0 : List mIn := (0, 4, 0, 0, 1, 0, []) :: (1, 0, 0, 0, 0, 0, []) :: (2, 25, 0, 11, 3, 74, [1578]) :: (5, 4, 0, 0, 1, 0, []) :: (6, 2, 0, 1, 1, 0, []) :: (7, 2, 0, 2, 1, 0, []) :: (8, 32, 0, 0, 3, 226, [11, 1780, 1782, 60, 116, 1783]) :: (11, 20, 0, 0, 23, 0, []) :: (14, 4, 0, 0, 1, 0, []) :: (15, 2, 0, 1, 1, 0, []) :: (16, 2, 0, 2, 1, 0, []) :: (17, 32, 0, 1, 3, 297, [11, 1908, 1910, 77, 116, 1911]) :: (20, 22, 0, 0, 28, 0, []) :: kX11_caught_23
def kX11_caught : List mIn := kX11_caught_0
def TX11_caught : Nat → mCal := fun a => match a with
  | 0 => calX11_isHit
  | 1 => calX11_catchOf
  | 2 => calX11_fails
  | _ => (yX11_caught, cX11_caught, 3, (some .int), (0, 0, 0, 0))
def calX11_caught : mCal := (yX11_caught, cX11_caught, 3, (some .int), (8, 188, 0, 0))
def cutX11_caught : Nat → Option (List Bool) := fun t => mLk t []
theorem okX11_caught : mOK (yX11_caught.cls, cX11_caught, TX11_caught, (some .int), (8, 188, 0, 0), 3, mAcf [], mAcf []) kX11_caught = true := by decide +kernel
set_option maxRecDepth 100000 in
theorem sfxX11_caught_23 : mSfx 23 kX11_caught = kX11_caught_23 := rfl
theorem cutX11_caught_23 : cutX11_caught 23 = none := by decide
set_option maxRecDepth 100000 in
theorem sfxX11_caught_28 : mSfx 28 kX11_caught = kX11_caught_28 := rfl
theorem cutX11_caught_28 : cutX11_caught 28 = none := by decide
def kX11_stopper_55 : List mIn := (55, 33, 0, 1, 0, 0, []) :: []
def kX11_stopper_46 : List mIn := (46, 4, 0, 0, 1, 0, []) :: (47, 2, 0, 1, 1, 0, []) :: (48, 2, 0, 2, 1, 0, []) :: (49, 2, 0, 4, 2, 0, []) :: (51, 2, 0, 3, 1, 0, []) :: (52, 32, 0, 4, 5, 278, [11, 1896, 1898, 75, 116, 1899]) :: kX11_stopper_55
def kX11_stopper_20 : List mIn := (20, 4, 0, 0, 1, 0, []) :: (21, 2, 0, 1, 1, 0, []) :: (22, 2, 0, 2, 1, 0, []) :: (23, 32, 0, 2, 3, 282, [11, 1892, 1894, 74, 116, 1895]) :: (26, 5, 0, 3, 1, 0, []) :: (27, 4, 0, 0, 1, 0, []) :: (28, 2, 0, 1, 1, 0, []) :: (29, 2, 0, 2, 1, 0, []) :: (30, 2, 0, 3, 1, 0, []) :: (31, 32, 0, 3, 4, 288, [11, 1920, 1922, 79, 116, 1923]) :: (34, 5, 0, 4, 2, 0, []) :: (36, 2, 0, 4, 2, 0, []) :: (38, 0, (-1), 0, 0, 0, []) :: (39, 19, 0, 1, 46, 0, []) :: (42, 0, (-1), 0, 0, 0, []) :: (43, 22, 0, 0, 55, 0, []) :: kX11_stopper_46
def kX11_stopper_0 : List mIn := (0, 4, 0, 0, 1, 0, []) :: (1, 0, 0, 0, 0, 0, []) :: (2, 25, 0, 11, 3, 74, [1578]) :: (5, 4, 0, 0, 1, 0, []) :: (6, 2, 0, 1, 1, 0, []) :: (7, 2, 0, 2, 1, 0, []) :: (8, 32, 0, 0, 3, 226, [11, 1780, 1782, 60, 116, 1783]) :: (11, 20, 0, 1, 20, 0, []) :: (14, 4, 0, 0, 1, 0, []) :: (15, 0, 1, 0, 0, 0, []) :: (16, 32, 0, 1, 2, 178, [11, 1700, 1702, 49, 116, 1703]) :: (19, 33, 0, 1, 0, 0, []) :: kX11_stopper_20
def kX11_stopper : List mIn := kX11_stopper_0
def TX11_stopper : Nat → mCal := fun a => match a with
  | 0 => calX11_isHit
  | 1 => calX11_fails
  | 2 => calX11_catcherOf
  | 3 => calX11_stopStep
  | 4 => calX11_soonest
  | _ => (yX11_stopper, cX11_stopper, 5, (some .int), (0, 0, 0, 0))
def calX11_stopper : mCal := (yX11_stopper, cX11_stopper, 5, (some .int), (7, 168, 0, 0))
def cutX11_stopper : Nat → Option (List Bool) := fun t => mLk t []
theorem okX11_stopper : mOK (yX11_stopper.cls, cX11_stopper, TX11_stopper, (some .int), (7, 168, 0, 0), 5, mAcf [], mAcf []) kX11_stopper = true := by decide +kernel
set_option maxRecDepth 100000 in
theorem sfxX11_stopper_20 : mSfx 20 kX11_stopper = kX11_stopper_20 := rfl
theorem cutX11_stopper_20 : cutX11_stopper 20 = none := by decide
set_option maxRecDepth 100000 in
theorem sfxX11_stopper_46 : mSfx 46 kX11_stopper = kX11_stopper_46 := rfl
theorem cutX11_stopper_46 : cutX11_stopper 46 = none := by decide
set_option maxRecDepth 100000 in
theorem sfxX11_stopper_55 : mSfx 55 kX11_stopper = kX11_stopper_55 := rfl
theorem cutX11_stopper_55 : cutX11_stopper 55 = none := by decide
def kX11_stops_34 : List mIn := (34, 33, 0, 1, 0, 0, []) :: []
def kX11_stops_29 : List mIn := (29, 4, 0, 0, 1, 0, []) :: (30, 0, 1, 0, 0, 0, []) :: (31, 32, 0, 3, 2, 178, [11, 1700, 1702, 49, 116, 1703]) :: kX11_stops_34
def kX11_stops_0 : List mIn := (0, 4, 0, 0, 1, 0, []) :: (1, 0, 0, 0, 0, 0, []) :: (2, 25, 0, 11, 3, 74, [1578]) :: (5, 4, 0, 0, 1, 0, []) :: (6, 2, 0, 1, 1, 0, []) :: (7, 2, 0, 2, 1, 0, []) :: (8, 32, 0, 0, 3, 226, [11, 1780, 1782, 60, 116, 1783]) :: (11, 20, 0, 0, 29, 0, []) :: (14, 4, 0, 0, 1, 0, []) :: (15, 2, 0, 1, 1, 0, []) :: (16, 2, 0, 2, 1, 0, []) :: (17, 4, 0, 0, 1, 0, []) :: (18, 2, 0, 1, 1, 0, []) :: (19, 2, 0, 2, 1, 0, []) :: (20, 32, 0, 1, 3, 282, [11, 1892, 1894, 74, 116, 1895]) :: (23, 32, 0, 2, 4, 288, [11, 1920, 1922, 79, 116, 1923]) :: (26, 22, 0, 0, 34, 0, []) :: kX11_stops_29
def kX11_stops : List mIn := kX11_stops_0
def TX11_stops : Nat → mCal := fun a => match a with
  | 0 => calX11_isHit
  | 1 => calX11_catcherOf
  | 2 => calX11_stopStep
  | 3 => calX11_fails
  | _ => (yX11_stops, cX11_stops, 3, (some .int), (0, 0, 0, 0))
def calX11_stops : mCal := (yX11_stops, cX11_stops, 3, (some .int), (7, 168, 0, 0))
def cutX11_stops : Nat → Option (List Bool) := fun t => mLk t []
theorem okX11_stops : mOK (yX11_stops.cls, cX11_stops, TX11_stops, (some .int), (7, 168, 0, 0), 3, mAcf [], mAcf []) kX11_stops = true := by decide +kernel
set_option maxRecDepth 100000 in
theorem sfxX11_stops_29 : mSfx 29 kX11_stops = kX11_stops_29 := rfl
theorem cutX11_stops_29 : cutX11_stops 29 = none := by decide
set_option maxRecDepth 100000 in
theorem sfxX11_stops_34 : mSfx 34 kX11_stops = kX11_stops_34 := rfl
theorem cutX11_stops_34 : cutX11_stops 34 = none := by decide
def kX11_runs_28 : List mIn := (28, 33, 0, 1, 0, 0, []) :: []
def kX11_runs_23 : List mIn := (23, 4, 0, 0, 1, 0, []) :: (24, 0, 1, 0, 0, 0, []) :: (25, 32, 0, 2, 2, 178, [11, 1700, 1702, 49, 116, 1703]) :: kX11_runs_28
def kX11_runs_0 : List mIn := (0, 4, 0, 0, 1, 0, []) :: (1, 0, 0, 0, 0, 0, []) :: (2, 25, 0, 11, 3, 74, [1578]) :: (5, 4, 0, 0, 1, 0, []) :: (6, 2, 0, 1, 1, 0, []) :: (7, 2, 0, 2, 1, 0, []) :: (8, 32, 0, 0, 3, 226, [11, 1780, 1782, 60, 116, 1783]) :: (11, 20, 0, 0, 23, 0, []) :: (14, 4, 0, 0, 1, 0, []) :: (15, 2, 0, 1, 1, 0, []) :: (16, 2, 0, 2, 1, 0, []) :: (17, 32, 0, 1, 3, 300, [11, 1932, 1934, 80, 116, 1935]) :: (20, 22, 0, 0, 28, 0, []) :: kX11_runs_23
def kX11_runs : List mIn := kX11_runs_0
def TX11_runs : Nat → mCal := fun a => match a with
  | 0 => calX11_isHit
  | 1 => calX11_runsOf
  | 2 => calX11_fails
  | _ => (yX11_runs, cX11_runs, 3, (some .int), (0, 0, 0, 0))
def calX11_runs : mCal := (yX11_runs, cX11_runs, 3, (some .int), (9, 215, 0, 0))
def cutX11_runs : Nat → Option (List Bool) := fun t => mLk t []
theorem okX11_runs : mOK (yX11_runs.cls, cX11_runs, TX11_runs, (some .int), (9, 215, 0, 0), 3, mAcf [], mAcf []) kX11_runs = true := by decide +kernel
set_option maxRecDepth 100000 in
theorem sfxX11_runs_23 : mSfx 23 kX11_runs = kX11_runs_23 := rfl
theorem cutX11_runs_23 : cutX11_runs 23 = none := by decide
set_option maxRecDepth 100000 in
theorem sfxX11_runs_28 : mSfx 28 kX11_runs = kX11_runs_28 := rfl
theorem cutX11_runs_28 : cutX11_runs 28 = none := by decide
def kX11_cost_28 : List mIn := (28, 33, 0, 1, 0, 0, []) :: []
def kX11_cost_23 : List mIn := (23, 4, 0, 0, 1, 0, []) :: (24, 0, 1, 0, 0, 0, []) :: (25, 32, 0, 2, 2, 178, [11, 1700, 1702, 49, 116, 1703]) :: kX11_cost_28
def kX11_cost_0 : List mIn := (0, 4, 0, 0, 1, 0, []) :: (1, 0, 0, 0, 0, 0, []) :: (2, 25, 0, 11, 3, 74, [1578]) :: (5, 4, 0, 0, 1, 0, []) :: (6, 2, 0, 1, 1, 0, []) :: (7, 2, 0, 2, 1, 0, []) :: (8, 32, 0, 0, 3, 226, [11, 1780, 1782, 60, 116, 1783]) :: (11, 20, 0, 0, 23, 0, []) :: (14, 4, 0, 0, 1, 0, []) :: (15, 2, 0, 1, 1, 0, []) :: (16, 2, 0, 2, 1, 0, []) :: (17, 32, 0, 1, 3, 303, [11, 1945, 1947, 82, 116, 1948]) :: (20, 22, 0, 0, 28, 0, []) :: kX11_cost_23
def kX11_cost : List mIn := kX11_cost_0
def TX11_cost : Nat → mCal := fun a => match a with
  | 0 => calX11_isHit
  | 1 => calX11_costOf
  | 2 => calX11_fails
  | _ => (yX11_cost, cX11_cost, 3, (some .int), (0, 0, 0, 0))
def calX11_cost : mCal := (yX11_cost, cX11_cost, 3, (some .int), (10, 238, 0, 0))
def cutX11_cost : Nat → Option (List Bool) := fun t => mLk t []
theorem okX11_cost : mOK (yX11_cost.cls, cX11_cost, TX11_cost, (some .int), (10, 238, 0, 0), 3, mAcf [], mAcf []) kX11_cost = true := by decide +kernel
set_option maxRecDepth 100000 in
theorem sfxX11_cost_23 : mSfx 23 kX11_cost = kX11_cost_23 := rfl
theorem cutX11_cost_23 : cutX11_cost 23 = none := by decide
set_option maxRecDepth 100000 in
theorem sfxX11_cost_28 : mSfx 28 kX11_cost = kX11_cost_28 := rfl
theorem cutX11_cost_28 : cutX11_cost 28 = none := by decide
def kX11_takes_60 : List mIn := (60, 4, 0, 0, 1, 0, []) :: (61, 3, 0, 1, 1, 0, []) :: (62, 3, 0, 5, 2, 0, []) :: (64, 17, 0, 0, 0, 0, []) :: (65, 25, 0, 11, 16, 306, [1591]) :: (68, 4, 0, 0, 1, 0, []) :: (69, 3, 0, 3, 1, 0, []) :: (70, 3, 0, 5, 2, 0, []) :: (72, 17, 0, 0, 0, 0, []) :: (73, 25, 0, 11, 17, 310, [1592]) :: (76, 0, 1, 0, 0, 0, []) :: (77, 33, 0, 4, 0, 0, []) :: []
def kX11_takes_35 : List mIn := (35, 3, 0, 7, 2, 0, []) :: (37, 1, 0, 0, 0, 0, []) :: (38, 21, 0, 0, 60, 0, []) :: (42, 3, 0, 5, 2, 0, []) :: (44, 3, 0, 7, 2, 0, []) :: (46, 17, 0, 1, 0, 0, []) :: (47, 6, 0, 9, 2, 0, []) :: (49, 3, 0, 7, 2, 0, []) :: (51, 6, 0, 5, 2, 0, []) :: (53, 3, 0, 9, 2, 0, []) :: (55, 6, 0, 7, 2, 0, []) :: (57, 22, 0, 0, 35, 0, []) :: kX11_takes_60
def kX11_takes_30 : List mIn := (30, 6, 0, 5, 2, 0, []) :: (32, 3, 0, 3, 1, 0, []) :: (33, 6, 0, 7, 2, 0, []) :: (35, 43, 0, 0, 35, 0, []) :: kX11_takes_35
def kX11_takes_29 : List mIn := (29, 3, 0, 1, 1, 0, []) :: kX11_takes_30
def kX11_takes_18 : List mIn := (18, 3, 0, 1, 1, 0, []) :: (19, 1, 0, 0, 0, 0, []) :: (20, 21, 0, 3, 29, 0, []) :: (24, 3, 0, 1, 1, 0, []) :: (25, 12, 0, 0, 0, 0, []) :: (26, 22, 0, 0, 30, 0, []) :: kX11_takes_29
def kX11_takes_0 : List mIn := (0, 4, 0, 0, 1, 0, []) :: (1, 1, 0, 0, 0, 0, []) :: (2, 25, 0, 11, 16, 306, [1591]) :: (5, 4, 0, 0, 1, 0, []) :: (6, 1, 0, 0, 0, 0, []) :: (7, 25, 0, 11, 17, 310, [1592]) :: (10, 3, 0, 3, 1, 0, []) :: (11, 1, 0, 0, 0, 0, []) :: (12, 21, 0, 1, 18, 0, []) :: (16, 0, 0, 0, 0, 0, []) :: (17, 33, 0, 4, 0, 0, []) :: kX11_takes_18
def kX11_takes : List mIn := kX11_takes_0
def TX11_takes : Nat → mCal := fun a => match a with
  | _ => (yX11_takes, cX11_takes, 11, (some .boolean), (0, 0, 0, 0))
def calX11_takes : mCal := (yX11_takes, cX11_takes, 11, (some .boolean), (0, 0, 0, 0))
def cutX11_takes : Nat → Option (List Bool) := fun t => mLk t [(35, [true, true, false, true, false, true, false, true, false, false, false])]
theorem okX11_takes : mOK (yX11_takes.cls, cX11_takes, TX11_takes, (some .boolean), (0, 0, 0, 0), 11, mAcf [], mAcf []) kX11_takes = true := by decide +kernel
set_option maxRecDepth 100000 in
theorem sfxX11_takes_18 : mSfx 18 kX11_takes = kX11_takes_18 := rfl
theorem cutX11_takes_18 : cutX11_takes 18 = none := by decide
set_option maxRecDepth 100000 in
theorem sfxX11_takes_29 : mSfx 29 kX11_takes = kX11_takes_29 := rfl
theorem cutX11_takes_29 : cutX11_takes 29 = none := by decide
set_option maxRecDepth 100000 in
theorem sfxX11_takes_30 : mSfx 30 kX11_takes = kX11_takes_30 := rfl
theorem cutX11_takes_30 : cutX11_takes 30 = none := by decide
set_option maxRecDepth 100000 in
theorem sfxX11_takes_35 : mSfx 35 kX11_takes = kX11_takes_35 := rfl
theorem cutX11_takes_35 : cutX11_takes 35 = some [true, true, false, true, false, true, false, true, false, false, false] := by decide
set_option maxRecDepth 100000 in
theorem sfxX11_takes_60 : mSfx 60 kX11_takes = kX11_takes_60 := rfl
theorem cutX11_takes_60 : cutX11_takes 60 = none := by decide
def kX11_allFor_37 : List mIn := (37, 3, 0, 2, 1, 0, []) :: (38, 33, 0, 2, 0, 0, []) :: []
def kX11_allFor_5 : List mIn := (5, 2, 0, 4, 2, 0, []) :: (7, 4, 0, 0, 1, 0, []) :: (8, 24, 0, 11, 0, 9, [1575]) :: (11, 0, 13, 1, 0, 0, []) :: (13, 2, 0, 1, 1, 0, []) :: (14, 9, 0, 0, 0, 0, []) :: (15, 26, 0, 20, 0, 0, []) :: (16, 19, 0, 3, 37, 0, []) :: (19, 3, 0, 2, 1, 0, []) :: (20, 4, 0, 0, 1, 0, []) :: (21, 2, 0, 1, 1, 0, []) :: (22, 2, 0, 4, 2, 0, []) :: (24, 0, 3, 0, 0, 0, []) :: (25, 32, 0, 0, 4, 192, [11, 1788, 1790, 62, 116, 1791]) :: (28, 13, 0, 0, 0, 0, []) :: (29, 11, 0, 0, 0, 0, []) :: (30, 6, 0, 2, 1, 0, []) :: (31, 8, 1, 4, 0, 0, []) :: (34, 22, 0, 0, 5, 0, []) :: kX11_allFor_37
def kX11_allFor_0 : List mIn := (0, 1, 0, 0, 0, 0, []) :: (1, 6, 0, 2, 1, 0, []) :: (2, 0, 0, 0, 0, 0, []) :: (3, 5, 0, 4, 2, 0, []) :: (5, 43, 0, 0, 5, 0, []) :: kX11_allFor_5
def kX11_allFor : List mIn := kX11_allFor_0
def TX11_allFor : Nat → mCal := fun a => match a with
  | 0 => calX11_raw
  | _ => (yX11_allFor, cX11_allFor, 5, (some .long), (0, 0, 0, 0))
def calX11_allFor : mCal := (yX11_allFor, cX11_allFor, 5, (some .long), (1, 23, 0, 0))
def cutX11_allFor : Nat → Option (List Bool) := fun t => mLk t [(5, [true, true, true, false, true])]
theorem okX11_allFor : mOK (yX11_allFor.cls, cX11_allFor, TX11_allFor, (some .long), (1, 23, 0, 0), 5, mAcf [], mAcf []) kX11_allFor = true := by decide +kernel
set_option maxRecDepth 100000 in
theorem sfxX11_allFor_5 : mSfx 5 kX11_allFor = kX11_allFor_5 := rfl
theorem cutX11_allFor_5 : cutX11_allFor 5 = some [true, true, true, false, true] := by decide
set_option maxRecDepth 100000 in
theorem sfxX11_allFor_37 : mSfx 37 kX11_allFor = kX11_allFor_37 := rfl
theorem cutX11_allFor_37 : cutX11_allFor 37 = none := by decide
def kX11_meanOf_98 : List mIn := (98, 6, 0, 6, 2, 0, []) :: (100, 1, 100, 1, 242, 1832, []) :: (103, 3, 0, 6, 2, 0, []) :: (105, 11, 0, 1, 0, 0, []) :: (106, 3, 0, 2, 1, 0, []) :: (107, 11, 0, 2, 0, 0, []) :: (108, 3, 0, 6, 2, 0, []) :: (110, 3, 0, 4, 2, 0, []) :: (112, 11, 0, 2, 0, 0, []) :: (113, 4, 0, 0, 1, 0, []) :: (114, 2, 0, 1, 1, 0, []) :: (115, 32, 0, 2, 2, 313, [11, 1957, 1959, 84, 116, 1960]) :: (118, 11, 0, 2, 0, 0, []) :: (119, 11, 0, 0, 0, 0, []) :: (120, 33, 0, 2, 0, 0, []) :: []
def kX11_meanOf_97 : List mIn := (97, 1, 0, 0, 0, 0, []) :: kX11_meanOf_98
def kX11_meanOf_75 : List mIn := (75, 4, 0, 0, 1, 0, []) :: (76, 24, 0, 11, 0, 9, [1575]) :: (79, 0, 6, 1, 0, 0, []) :: (81, 26, 0, 20, 0, 0, []) :: (82, 0, 1, 0, 0, 0, []) :: (83, 19, 0, 1, 97, 0, []) :: (86, 4, 0, 0, 1, 0, []) :: (87, 24, 0, 11, 0, 9, [1575]) :: (90, 0, 7, 1, 0, 0, []) :: (92, 26, 0, 20, 0, 0, []) :: (93, 13, 0, 0, 0, 0, []) :: (94, 22, 0, 0, 98, 0, []) :: kX11_meanOf_97
def kX11_meanOf_67 : List mIn := (67, 6, 0, 4, 2, 0, []) :: (69, 8, 1, 6, 0, 0, []) :: (72, 22, 0, 0, 8, 0, []) :: kX11_meanOf_75
def kX11_meanOf_65 : List mIn := (65, 3, 0, 4, 2, 0, []) :: kX11_meanOf_67
def kX11_meanOf_60 : List mIn := (60, 3, 0, 7, 2, 0, []) :: (62, 22, 0, 0, 67, 0, []) :: kX11_meanOf_65
def kX11_meanOf_8 : List mIn := (8, 2, 0, 6, 2, 0, []) :: (10, 4, 0, 0, 1, 0, []) :: (11, 24, 0, 11, 0, 9, [1575]) :: (14, 0, 13, 1, 0, 0, []) :: (16, 2, 0, 1, 1, 0, []) :: (17, 9, 0, 0, 0, 0, []) :: (18, 26, 0, 20, 0, 0, []) :: (19, 19, 0, 3, 75, 0, []) :: (22, 4, 0, 0, 1, 0, []) :: (23, 2, 0, 1, 1, 0, []) :: (24, 2, 0, 6, 2, 0, []) :: (26, 32, 0, 0, 3, 303, [11, 1945, 1947, 82, 116, 1948]) :: (29, 13, 0, 0, 0, 0, []) :: (30, 6, 0, 7, 2, 0, []) :: (32, 3, 0, 2, 1, 0, []) :: (33, 4, 0, 0, 1, 0, []) :: (34, 2, 0, 1, 1, 0, []) :: (35, 2, 0, 6, 2, 0, []) :: (37, 0, 3, 0, 0, 0, []) :: (38, 32, 0, 1, 4, 192, [11, 1788, 1790, 62, 116, 1791]) :: (41, 13, 0, 0, 0, 0, []) :: (42, 3, 0, 7, 2, 0, []) :: (44, 11, 0, 2, 0, 0, []) :: (45, 11, 0, 0, 0, 0, []) :: (46, 6, 0, 2, 1, 0, []) :: (47, 2, 0, 6, 2, 0, []) :: (49, 20, 0, 0, 60, 0, []) :: (52, 3, 0, 7, 2, 0, []) :: (54, 3, 0, 4, 2, 0, []) :: (56, 21, 0, 5, 65, 0, []) :: kX11_meanOf_60
def kX11_meanOf_0 : List mIn := (0, 1, 0, 0, 0, 0, []) :: (1, 6, 0, 2, 1, 0, []) :: (2, 1, 0, 0, 0, 0, []) :: (3, 6, 0, 4, 2, 0, []) :: (5, 0, 0, 0, 0, 0, []) :: (6, 5, 0, 6, 2, 0, []) :: (8, 43, 0, 0, 8, 0, []) :: kX11_meanOf_8
def kX11_meanOf : List mIn := kX11_meanOf_0
def TX11_meanOf : Nat → mCal := fun a => match a with
  | 0 => calX11_costOf
  | 1 => calX11_raw
  | 2 => calX11_allFor
  | _ => (yX11_meanOf, cX11_meanOf, 9, (some .long), (0, 0, 0, 0))
def calX11_meanOf : mCal := (yX11_meanOf, cX11_meanOf, 9, (some .long), (10, 238, 0, 0))
def cutX11_meanOf : Nat → Option (List Bool) := fun t => mLk t [(8, [true, true, true, false, true, false, true, false, false])]
theorem okX11_meanOf : mOK (yX11_meanOf.cls, cX11_meanOf, TX11_meanOf, (some .long), (10, 238, 0, 0), 9, mAcf [], mAcf []) kX11_meanOf = true := by decide +kernel
set_option maxRecDepth 100000 in
theorem sfxX11_meanOf_8 : mSfx 8 kX11_meanOf = kX11_meanOf_8 := rfl
theorem cutX11_meanOf_8 : cutX11_meanOf 8 = some [true, true, true, false, true, false, true, false, false] := by decide
set_option maxRecDepth 100000 in
theorem sfxX11_meanOf_60 : mSfx 60 kX11_meanOf = kX11_meanOf_60 := rfl
theorem cutX11_meanOf_60 : cutX11_meanOf 60 = none := by decide
set_option maxRecDepth 100000 in
theorem sfxX11_meanOf_65 : mSfx 65 kX11_meanOf = kX11_meanOf_65 := rfl
theorem cutX11_meanOf_65 : cutX11_meanOf 65 = none := by decide
set_option maxRecDepth 100000 in
theorem sfxX11_meanOf_67 : mSfx 67 kX11_meanOf = kX11_meanOf_67 := rfl
theorem cutX11_meanOf_67 : cutX11_meanOf 67 = none := by decide
set_option maxRecDepth 100000 in
theorem sfxX11_meanOf_75 : mSfx 75 kX11_meanOf = kX11_meanOf_75 := rfl
theorem cutX11_meanOf_75 : cutX11_meanOf 75 = none := by decide
set_option maxRecDepth 100000 in
theorem sfxX11_meanOf_97 : mSfx 97 kX11_meanOf = kX11_meanOf_97 := rfl
theorem cutX11_meanOf_97 : cutX11_meanOf 97 = none := by decide
set_option maxRecDepth 100000 in
theorem sfxX11_meanOf_98 : mSfx 98 kX11_meanOf = kX11_meanOf_98 := rfl
theorem cutX11_meanOf_98 : cutX11_meanOf 98 = none := by decide
def kX11_lowOf_0 : List mIn := (0, 1, 10000, 1, 317, 1965, []) :: (3, 4, 0, 0, 1, 0, []) :: (4, 2, 0, 1, 1, 0, []) :: (5, 32, 0, 0, 2, 313, [11, 1957, 1959, 84, 116, 1960]) :: (8, 11, 0, 2, 0, 0, []) :: (9, 33, 0, 2, 0, 0, []) :: []
def kX11_lowOf : List mIn := kX11_lowOf_0
def TX11_lowOf : Nat → mCal := fun a => match a with
  | 0 => calX11_allFor
  | _ => (yX11_lowOf, cX11_lowOf, 2, (some .long), (0, 0, 0, 0))
def calX11_lowOf : mCal := (yX11_lowOf, cX11_lowOf, 2, (some .long), (2, 47, 0, 0))
def cutX11_lowOf : Nat → Option (List Bool) := fun t => mLk t []
theorem okX11_lowOf : mOK (yX11_lowOf.cls, cX11_lowOf, TX11_lowOf, (some .long), (2, 47, 0, 0), 2, mAcf [], mAcf []) kX11_lowOf = true := by decide +kernel
def kX11_mean_45 : List mIn := (45, 33, 0, 4, 0, 0, []) :: []
def kX11_mean_44 : List mIn := (44, 0, 0, 0, 0, 0, []) :: kX11_mean_45
def kX11_mean_13 : List mIn := (13, 25, 0, 11, 3, 74, [1578]) :: (16, 4, 0, 0, 1, 0, []) :: (17, 24, 0, 11, 3, 74, [1578]) :: (20, 20, 0, 1, 44, 0, []) :: (23, 4, 0, 0, 1, 0, []) :: (24, 4, 0, 0, 1, 0, []) :: (25, 2, 0, 1, 1, 0, []) :: (26, 32, 0, 1, 2, 319, [11, 1953, 1955, 83, 116, 1956]) :: (29, 4, 0, 0, 1, 0, []) :: (30, 2, 0, 1, 1, 0, []) :: (31, 32, 0, 2, 2, 322, [11, 1961, 1963, 85, 116, 1964]) :: (34, 32, 0, 3, 3, 325, [11, 1966, 1968, 86, 116, 1969]) :: (37, 20, 0, 0, 44, 0, []) :: (40, 0, 1, 0, 0, 0, []) :: (41, 22, 0, 0, 45, 0, []) :: kX11_mean_44
def kX11_mean_12 : List mIn := (12, 0, 1, 0, 0, 0, []) :: kX11_mean_13
def kX11_mean_0 : List mIn := (0, 4, 0, 0, 1, 0, []) :: (1, 2, 0, 1, 1, 0, []) :: (2, 32, 1, 0, 1, 189, [1772, 1773, 116, 1774]) :: (5, 20, 0, 0, 12, 0, []) :: (8, 0, 0, 0, 0, 0, []) :: (9, 22, 0, 0, 13, 0, []) :: kX11_mean_12
def kX11_mean : List mIn := kX11_mean_0
def TX11_mean : Nat → mCal := fun a => match a with
  | 0 => calX11_isBall
  | 1 => calX11_meanOf
  | 2 => calX11_lowOf
  | 3 => calX11_takes
  | _ => (yX11_mean, cX11_mean, 2, (some .boolean), (0, 0, 0, 0))
def calX11_mean : mCal := (yX11_mean, cX11_mean, 2, (some .boolean), (11, 266, 0, 0))
def cutX11_mean : Nat → Option (List Bool) := fun t => mLk t []
theorem okX11_mean : mOK (yX11_mean.cls, cX11_mean, TX11_mean, (some .boolean), (11, 266, 0, 0), 2, mAcf [], mAcf []) kX11_mean = true := by decide +kernel
set_option maxRecDepth 100000 in
theorem sfxX11_mean_12 : mSfx 12 kX11_mean = kX11_mean_12 := rfl
theorem cutX11_mean_12 : cutX11_mean 12 = none := by decide
set_option maxRecDepth 100000 in
theorem sfxX11_mean_13 : mSfx 13 kX11_mean = kX11_mean_13 := rfl
theorem cutX11_mean_13 : cutX11_mean 13 = none := by decide
set_option maxRecDepth 100000 in
theorem sfxX11_mean_44 : mSfx 44 kX11_mean = kX11_mean_44 := rfl
theorem cutX11_mean_44 : cutX11_mean 44 = none := by decide
set_option maxRecDepth 100000 in
theorem sfxX11_mean_45 : mSfx 45 kX11_mean = kX11_mean_45 := rfl
theorem cutX11_mean_45 : cutX11_mean 45 = none := by decide
def kX11_upper_0 : List mIn := (0, 4, 0, 0, 1, 0, []) :: (1, 0, 0, 0, 0, 0, []) :: (2, 25, 0, 11, 3, 74, [1578]) :: (5, 4, 0, 0, 1, 0, []) :: (6, 24, 0, 11, 16, 306, [1591]) :: (9, 33, 0, 2, 0, 0, []) :: []
def kX11_upper : List mIn := kX11_upper_0
def TX11_upper : Nat → mCal := fun a => match a with
  | _ => (yX11_upper, cX11_upper, 1, (some .long), (0, 0, 0, 0))
def calX11_upper : mCal := (yX11_upper, cX11_upper, 1, (some .long), (0, 0, 0, 0))
def cutX11_upper : Nat → Option (List Bool) := fun t => mLk t []
theorem okX11_upper : mOK (yX11_upper.cls, cX11_upper, TX11_upper, (some .long), (0, 0, 0, 0), 1, mAcf [], mAcf []) kX11_upper = true := by decide +kernel
def kX11_lower_0 : List mIn := (0, 4, 0, 0, 1, 0, []) :: (1, 0, 0, 0, 0, 0, []) :: (2, 25, 0, 11, 3, 74, [1578]) :: (5, 4, 0, 0, 1, 0, []) :: (6, 24, 0, 11, 17, 310, [1592]) :: (9, 33, 0, 2, 0, 0, []) :: []
def kX11_lower : List mIn := kX11_lower_0
def TX11_lower : Nat → mCal := fun a => match a with
  | _ => (yX11_lower, cX11_lower, 1, (some .long), (0, 0, 0, 0))
def calX11_lower : mCal := (yX11_lower, cX11_lower, 1, (some .long), (0, 0, 0, 0))
def cutX11_lower : Nat → Option (List Bool) := fun t => mLk t []
theorem okX11_lower : mOK (yX11_lower.cls, cX11_lower, TX11_lower, (some .long), (0, 0, 0, 0), 1, mAcf [], mAcf []) kX11_lower = true := by decide +kernel
