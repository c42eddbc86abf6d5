def kJ7_fill_53178_20 : List mIn := (20, 33, 0, 0, 0, 0, []) :: []
def kJ7_fill_53178_5 : List mIn := (5, 2, 0, 2, 1, 0, []) :: (6, 2, 0, 3, 1, 0, []) :: (7, 19, 0, 3, 20, 0, []) :: (10, 4, 0, 0, 1, 0, []) :: (11, 2, 0, 2, 1, 0, []) :: (12, 2, 0, 1, 1, 0, []) :: (13, 27, 0, 20, 0, 0, []) :: (14, 8, 1, 2, 0, 0, []) :: (17, 22, 0, 0, 5, 0, []) :: kJ7_fill_53178_20
def kJ7_fill_53178_0 : List mIn := (0, 0, 0, 0, 0, 0, []) :: (1, 5, 0, 2, 1, 0, []) :: (2, 4, 0, 0, 1, 0, []) :: (3, 28, 0, 0, 0, 0, []) :: (4, 5, 0, 3, 1, 0, []) :: (5, 43, 0, 0, 5, 0, []) :: kJ7_fill_53178_5
def kJ7_fill_53178 : List mIn := kJ7_fill_53178_0
def TJ7_fill_53178 : Nat → mCal := fun a => match a with
  | _ => (yJ7_fill_53178, cJ7_fill_53178, 4, none, (0, 0, 0, 0))
def calJ7_fill_53178 : mCal := (yJ7_fill_53178, cJ7_fill_53178, 4, none, (0, 0, 0, 0))
def cutJ7_fill_53178 : Nat → Option (List Bool) := fun t => mLk t [(5, [true, true, true, true])]
theorem okJ7_fill_53178 : mOK (yJ7_fill_53178.cls, cJ7_fill_53178, TJ7_fill_53178, none, (0, 0, 0, 0), 4, mAcf [], mAcf []) kJ7_fill_53178 = true := by decide +kernel
set_option maxRecDepth 100000 in
theorem sfxJ7_fill_53178_5 : mSfx 5 kJ7_fill_53178 = kJ7_fill_53178_5 := rfl
theorem cutJ7_fill_53178_5 : cutJ7_fill_53178 5 = some [true, true, true, true] := by decide
set_option maxRecDepth 100000 in
theorem sfxJ7_fill_53178_20 : mSfx 20 kJ7_fill_53178 = kJ7_fill_53178_20 := rfl
theorem cutJ7_fill_53178_20 : cutJ7_fill_53178 20 = none := by decide
def kX3_hitsOf_20 : List mIn := (20, 33, 0, 1, 0, 0, []) :: []
def kX3_hitsOf_19 : List mIn := (19, 0, 0, 0, 0, 0, []) :: kX3_hitsOf_20
def kX3_hitsOf_0 : List mIn := (0, 2, 0, 1, 1, 0, []) :: (1, 20, 0, 2, 19, 0, []) :: (4, 2, 0, 1, 1, 0, []) :: (5, 0, 6, 1, 0, 0, []) :: (7, 19, 0, 3, 19, 0, []) :: (10, 4, 0, 0, 1, 0, []) :: (11, 24, 0, 3, 7, 15, [186]) :: (14, 2, 0, 1, 1, 0, []) :: (15, 26, 0, 20, 0, 0, []) :: (16, 22, 0, 0, 20, 0, []) :: kX3_hitsOf_19
def kX3_hitsOf : List mIn := kX3_hitsOf_0
def TX3_hitsOf : Nat → mCal := fun a => match a with
  | _ => (yX3_hitsOf, cX3_hitsOf, 2, (some .int), (0, 0, 0, 0))
def calX3_hitsOf : mCal := (yX3_hitsOf, cX3_hitsOf, 2, (some .int), (0, 0, 0, 0))
def cutX3_hitsOf : Nat → Option (List Bool) := fun t => mLk t []
theorem okX3_hitsOf : mOK (yX3_hitsOf.cls, cX3_hitsOf, TX3_hitsOf, (some .int), (0, 0, 0, 0), 2, mAcf [], mAcf []) kX3_hitsOf = true := by decide +kernel
set_option maxRecDepth 100000 in
theorem sfxX3_hitsOf_19 : mSfx 19 kX3_hitsOf = kX3_hitsOf_19 := rfl
theorem cutX3_hitsOf_19 : cutX3_hitsOf 19 = none := by decide
set_option maxRecDepth 100000 in
theorem sfxX3_hitsOf_20 : mSfx 20 kX3_hitsOf = kX3_hitsOf_20 := rfl
theorem cutX3_hitsOf_20 : cutX3_hitsOf 20 = none := by decide
def kX10_apart_58 : List mIn := (58, 33, 0, 1, 0, 0, []) :: []
def kX10_apart_56 : List mIn := (56, 2, 0, 5, 2, 0, []) :: kX10_apart_58
def kX10_apart_42 : List mIn := (42, 5, 0, 5, 2, 0, []) :: (44, 2, 0, 4, 2, 0, []) :: (46, 2, 0, 5, 2, 0, []) :: (48, 19, 0, 5, 56, 0, []) :: (51, 2, 0, 4, 2, 0, []) :: (53, 22, 0, 0, 58, 0, []) :: kX10_apart_56
def kX10_apart_41 : List mIn := (41, 2, 0, 3, 1, 0, []) :: kX10_apart_42
def kX10_apart_30 : List mIn := (30, 5, 0, 4, 2, 0, []) :: (32, 2, 0, 3, 1, 0, []) :: (33, 20, 0, 3, 41, 0, []) :: (36, 2, 0, 3, 1, 0, []) :: (37, 10, 0, 0, 0, 0, []) :: (38, 22, 0, 0, 42, 0, []) :: kX10_apart_41
def kX10_apart_29 : List mIn := (29, 2, 0, 2, 1, 0, []) :: kX10_apart_30
def kX10_apart_0 : List mIn := (0, 2, 0, 0, 1, 0, []) :: (1, 0, 17, 1, 0, 0, []) :: (3, 16, 0, 1, 0, 0, []) :: (4, 2, 0, 1, 1, 0, []) :: (5, 0, 17, 1, 0, 0, []) :: (7, 16, 0, 1, 0, 0, []) :: (8, 9, 0, 1, 0, 0, []) :: (9, 5, 0, 2, 1, 0, []) :: (10, 2, 0, 0, 1, 0, []) :: (11, 0, 17, 1, 0, 0, []) :: (13, 16, 0, 0, 0, 0, []) :: (14, 2, 0, 1, 1, 0, []) :: (15, 0, 17, 1, 0, 0, []) :: (17, 16, 0, 0, 0, 0, []) :: (18, 9, 0, 1, 0, 0, []) :: (19, 5, 0, 3, 1, 0, []) :: (20, 2, 0, 2, 1, 0, []) :: (21, 20, 0, 3, 29, 0, []) :: (24, 2, 0, 2, 1, 0, []) :: (25, 10, 0, 0, 0, 0, []) :: (26, 22, 0, 0, 30, 0, []) :: kX10_apart_29
def kX10_apart : List mIn := kX10_apart_0
def TX10_apart : Nat → mCal := fun a => match a with
  | _ => (yX10_apart, cX10_apart, 6, (some .int), (0, 0, 0, 0))
def calX10_apart : mCal := (yX10_apart, cX10_apart, 6, (some .int), (0, 0, 0, 0))
def cutX10_apart : Nat → Option (List Bool) := fun t => mLk t []
theorem okX10_apart : mOK (yX10_apart.cls, cX10_apart, TX10_apart, (some .int), (0, 0, 0, 0), 6, mAcf [], mAcf []) kX10_apart = true := by decide +kernel
set_option maxRecDepth 100000 in
theorem sfxX10_apart_29 : mSfx 29 kX10_apart = kX10_apart_29 := rfl
theorem cutX10_apart_29 : cutX10_apart 29 = none := by decide
set_option maxRecDepth 100000 in
theorem sfxX10_apart_30 : mSfx 30 kX10_apart = kX10_apart_30 := rfl
theorem cutX10_apart_30 : cutX10_apart 30 = none := by decide
set_option maxRecDepth 100000 in
theorem sfxX10_apart_41 : mSfx 41 kX10_apart = kX10_apart_41 := rfl
theorem cutX10_apart_41 : cutX10_apart 41 = none := by decide
set_option maxRecDepth 100000 in
theorem sfxX10_apart_42 : mSfx 42 kX10_apart = kX10_apart_42 := rfl
theorem cutX10_apart_42 : cutX10_apart 42 = none := by decide
set_option maxRecDepth 100000 in
theorem sfxX10_apart_56 : mSfx 56 kX10_apart = kX10_apart_56 := rfl
theorem cutX10_apart_56 : cutX10_apart 56 = none := by decide
set_option maxRecDepth 100000 in
theorem sfxX10_apart_58 : mSfx 58 kX10_apart = kX10_apart_58 := rfl
theorem cutX10_apart_58 : cutX10_apart 58 = none := by decide
def kX11_within_18 : List mIn := (18, 33, 0, 4, 0, 0, []) :: []
def kX11_within_17 : List mIn := (17, 0, 0, 0, 0, 0, []) :: kX11_within_18
def kX11_within_0 : List mIn := (0, 3, 0, 0, 1, 0, []) :: (1, 3, 0, 2, 1, 0, []) :: (2, 21, 0, 2, 17, 0, []) :: (6, 3, 0, 0, 1, 0, []) :: (7, 3, 0, 4, 2, 0, []) :: (9, 21, 0, 4, 17, 0, []) :: (13, 0, 1, 0, 0, 0, []) :: (14, 22, 0, 0, 18, 0, []) :: kX11_within_17
def kX11_within : List mIn := kX11_within_0
def TX11_within : Nat → mCal := fun a => match a with
  | _ => (yX11_within, cX11_within, 6, (some .boolean), (0, 0, 0, 0))
def calX11_within : mCal := (yX11_within, cX11_within, 6, (some .boolean), (0, 0, 0, 0))
def cutX11_within : Nat → Option (List Bool) := fun t => mLk t []
theorem okX11_within : mOK (yX11_within.cls, cX11_within, TX11_within, (some .boolean), (0, 0, 0, 0), 6, mAcf [], mAcf []) kX11_within = true := by decide +kernel
set_option maxRecDepth 100000 in
theorem sfxX11_within_17 : mSfx 17 kX11_within = kX11_within_17 := rfl
theorem cutX11_within_17 : cutX11_within 17 = none := by decide
set_option maxRecDepth 100000 in
theorem sfxX11_within_18 : mSfx 18 kX11_within = kX11_within_18 := rfl
theorem cutX11_within_18 : cutX11_within 18 = none := by decide
def kX11_isCell_0 : List mIn := (0, 3, 0, 0, 1, 0, []) :: (1, 1, 0, 0, 0, 0, []) :: (2, 1, 288, 1, 77, 1842, []) :: (5, 32, 1, 0, 3, 79, [1698, 1699, 116, 1700]) :: (8, 33, 0, 4, 0, 0, []) :: []
def kX11_isCell : List mIn := kX11_isCell_0
def TX11_isCell : Nat → mCal := fun a => match a with
  | 0 => calX11_within
  | _ => (yX11_isCell, cX11_isCell, 2, (some .boolean), (0, 0, 0, 0))
def calX11_isCell : mCal := (yX11_isCell, cX11_isCell, 2, (some .boolean), (1, 25, 0, 0))
def cutX11_isCell : Nat → Option (List Bool) := fun t => mLk t []
theorem okX11_isCell : mOK (yX11_isCell.cls, cX11_isCell, TX11_isCell, (some .boolean), (1, 25, 0, 0), 2, mAcf [], mAcf []) kX11_isCell = true := by decide +kernel
def kX11_far_0 : List mIn := (0, 2, 0, 0, 1, 0, []) :: (1, 0, 17, 1, 0, 0, []) :: (3, 16, 0, 1, 0, 0, []) :: (4, 2, 0, 1, 1, 0, []) :: (5, 0, 17, 1, 0, 0, []) :: (7, 16, 0, 1, 0, 0, []) :: (8, 9, 0, 1, 0, 0, []) :: (9, 40, 0, 2, 0, 220, [1882, 1883, 121, 1884]) :: (12, 2, 0, 0, 1, 0, []) :: (13, 0, 17, 1, 0, 0, []) :: (15, 16, 0, 0, 0, 0, []) :: (16, 2, 0, 1, 1, 0, []) :: (17, 0, 17, 1, 0, 0, []) :: (19, 16, 0, 0, 0, 0, []) :: (20, 9, 0, 1, 0, 0, []) :: (21, 40, 0, 2, 0, 220, [1882, 1883, 121, 1884]) :: (24, 40, 0, 0, 0, 196, [1797, 656, 121, 657]) :: (27, 33, 0, 1, 0, 0, []) :: []
def kX11_far : List mIn := kX11_far_0
def TX11_far : Nat → mCal := fun a => match a with
  | _ => (yX11_far, cX11_far, 2, (some .int), (0, 0, 0, 0))
def calX11_far : mCal := (yX11_far, cX11_far, 2, (some .int), (1, 23, 0, 0))
def cutX11_far : Nat → Option (List Bool) := fun t => mLk t []
theorem okX11_far : mOK (yX11_far.cls, cX11_far, TX11_far, (some .int), (1, 23, 0, 0), 2, mAcf [], mAcf []) kX11_far = true := by decide +kernel
def kX11_fromBat_0 : List mIn := (0, 2, 0, 0, 1, 0, []) :: (1, 0, 144, 2, 0, 0, []) :: (4, 32, 1, 0, 2, 223, [1879, 1880, 116, 1881]) :: (7, 33, 0, 1, 0, 0, []) :: []
def kX11_fromBat : List mIn := kX11_fromBat_0
def TX11_fromBat : Nat → mCal := fun a => match a with
  | 0 => calX11_far
  | _ => (yX11_fromBat, cX11_fromBat, 1, (some .int), (0, 0, 0, 0))
def calX11_fromBat : mCal := (yX11_fromBat, cX11_fromBat, 1, (some .int), (2, 44, 0, 0))
def cutX11_fromBat : Nat → Option (List Bool) := fun t => mLk t []
theorem okX11_fromBat : mOK (yX11_fromBat.cls, cX11_fromBat, TX11_fromBat, (some .int), (2, 44, 0, 0), 1, mAcf [], mAcf []) kX11_fromBat = true := by decide +kernel
def kX10_needBall_21 : List mIn := (21, 33, 0, 0, 0, 0, []) :: []
def kX10_needBall_10 : List mIn := (10, 35, 0, 0, 426, 428, [430, 1, 967, 127]) :: kX10_needBall_21
def kX10_needBall_0 : List mIn := (0, 2, 0, 0, 1, 0, []) :: (1, 20, 0, 2, 10, 0, []) :: (4, 2, 0, 0, 1, 0, []) :: (5, 0, 6, 1, 0, 0, []) :: (7, 19, 0, 2, 21, 0, []) :: kX10_needBall_10
def kX10_needBall : List mIn := kX10_needBall_0
def TX10_needBall : Nat → mCal := fun a => match a with
  | _ => (yX10_needBall, cX10_needBall, 1, none, (0, 0, 0, 0))
def calX10_needBall : mCal := (yX10_needBall, cX10_needBall, 1, none, (6, 90, 1, 6))
def cutX10_needBall : Nat → Option (List Bool) := fun t => mLk t []
theorem okX10_needBall : mOK (yX10_needBall.cls, cX10_needBall, TX10_needBall, none, (6, 90, 1, 6), 1, mAcf [], mAcf []) kX10_needBall = true := by decide +kernel
set_option maxRecDepth 100000 in
theorem sfxX10_needBall_10 : mSfx 10 kX10_needBall = kX10_needBall_10 := rfl
theorem cutX10_needBall_10 : cutX10_needBall 10 = none := by decide
set_option maxRecDepth 100000 in
theorem sfxX10_needBall_21 : mSfx 21 kX10_needBall = kX10_needBall_21 := rfl
theorem cutX10_needBall_21 : cutX10_needBall 21 = none := by decide
def kX3_liesIn_57 : List mIn := (57, 33, 0, 4, 0, 0, []) :: []
def kX3_liesIn_56 : List mIn := (56, 0, 0, 0, 0, 0, []) :: kX3_liesIn_57
def kX3_liesIn_0 : List mIn := (0, 2, 0, 1, 1, 0, []) :: (1, 0, 8, 1, 0, 0, []) :: (3, 9, 0, 1, 0, 0, []) :: (4, 5, 0, 3, 1, 0, []) :: (5, 2, 0, 2, 1, 0, []) :: (6, 0, 8, 1, 0, 0, []) :: (8, 9, 0, 1, 0, 0, []) :: (9, 5, 0, 4, 2, 0, []) :: (11, 2, 0, 1, 1, 0, []) :: (12, 20, 0, 2, 56, 0, []) :: (15, 2, 0, 1, 1, 0, []) :: (16, 0, 17, 1, 0, 0, []) :: (18, 19, 0, 3, 56, 0, []) :: (21, 2, 0, 2, 1, 0, []) :: (22, 20, 0, 2, 56, 0, []) :: (25, 2, 0, 2, 1, 0, []) :: (26, 0, 17, 1, 0, 0, []) :: (28, 19, 0, 3, 56, 0, []) :: (31, 2, 0, 3, 1, 0, []) :: (32, 2, 0, 3, 1, 0, []) :: (33, 9, 0, 2, 0, 0, []) :: (34, 2, 0, 4, 2, 0, []) :: (36, 2, 0, 4, 2, 0, []) :: (38, 9, 0, 2, 0, 0, []) :: (39, 9, 0, 0, 0, 0, []) :: (40, 4, 0, 0, 1, 0, []) :: (41, 24, 0, 3, 1, 37, [162]) :: (44, 4, 0, 0, 1, 0, []) :: (45, 24, 0, 3, 1, 37, [162]) :: (48, 9, 0, 2, 0, 0, []) :: (49, 19, 0, 4, 56, 0, []) :: (52, 0, 1, 0, 0, 0, []) :: (53, 22, 0, 0, 57, 0, []) :: kX3_liesIn_56
def kX3_liesIn : List mIn := kX3_liesIn_0
def TX3_liesIn : Nat → mCal := fun a => match a with
  | _ => (yX3_liesIn, cX3_liesIn, 5, (some .boolean), (0, 0, 0, 0))
def calX3_liesIn : mCal := (yX3_liesIn, cX3_liesIn, 5, (some .boolean), (0, 0, 0, 0))
def cutX3_liesIn : Nat → Option (List Bool) := fun t => mLk t []
theorem okX3_liesIn : mOK (yX3_liesIn.cls, cX3_liesIn, TX3_liesIn, (some .boolean), (0, 0, 0, 0), 5, mAcf [], mAcf []) kX3_liesIn = true := by decide +kernel
set_option maxRecDepth 100000 in
theorem sfxX3_liesIn_56 : mSfx 56 kX3_liesIn = kX3_liesIn_56 := rfl
theorem cutX3_liesIn_56 : cutX3_liesIn 56 = none := by decide
set_option maxRecDepth 100000 in
theorem sfxX3_liesIn_57 : mSfx 57 kX3_liesIn = kX3_liesIn_57 := rfl
theorem cutX3_liesIn_57 : cutX3_liesIn 57 = none := by decide
def kX3_liesIn__0 : List mIn := (0, 4, 0, 0, 1, 0, []) :: (1, 2, 0, 1, 1, 0, []) :: (2, 0, 17, 1, 0, 0, []) :: (4, 16, 0, 1, 0, 0, []) :: (5, 2, 0, 1, 1, 0, []) :: (6, 0, 17, 1, 0, 0, []) :: (8, 16, 0, 0, 0, 0, []) :: (9, 32, 0, 0, 3, 62, [3, 618, 619, 620, 107, 621]) :: (12, 33, 0, 4, 0, 0, []) :: []
def kX3_liesIn_ : List mIn := kX3_liesIn__0
def TX3_liesIn_ : Nat → mCal := fun a => match a with
  | 0 => calX3_liesIn
  | _ => (yX3_liesIn_, cX3_liesIn_, 2, (some .boolean), (0, 0, 0, 0))
def calX3_liesIn_ : mCal := (yX3_liesIn_, cX3_liesIn_, 2, (some .boolean), (1, 24, 0, 0))
def cutX3_liesIn_ : Nat → Option (List Bool) := fun t => mLk t []
theorem okX3_liesIn_ : mOK (yX3_liesIn_.cls, cX3_liesIn_, TX3_liesIn_, (some .boolean), (1, 24, 0, 0), 2, mAcf [], mAcf []) kX3_liesIn_ = true := by decide +kernel
def kX3_mayHold_27 : List mIn := (27, 33, 0, 4, 0, 0, []) :: []
def kX3_mayHold_26 : List mIn := (26, 0, 0, 0, 0, 0, []) :: kX3_mayHold_27
def kX3_mayHold_0 : List mIn := (0, 4, 0, 0, 1, 0, []) :: (1, 2, 0, 1, 1, 0, []) :: (2, 32, 0, 0, 2, 66, [3, 1166, 615, 616, 107, 617]) :: (5, 20, 0, 0, 26, 0, []) :: (8, 2, 0, 1, 1, 0, []) :: (9, 0, 144, 2, 0, 0, []) :: (12, 32, 3, 1, 2, 69, [19, 623, 105, 624]) :: (15, 4, 0, 0, 1, 0, []) :: (16, 24, 0, 3, 5, 49, [178]) :: (19, 19, 0, 2, 26, 0, []) :: (22, 0, 1, 0, 0, 0, []) :: (23, 22, 0, 0, 27, 0, []) :: kX3_mayHold_26
def kX3_mayHold : List mIn := kX3_mayHold_0
def TX3_mayHold : Nat → mCal := fun a => match a with
  | 0 => calX3_liesIn_
  | 1 => calX10_apart
  | _ => (yX3_mayHold, cX3_mayHold, 2, (some .boolean), (0, 0, 0, 0))
def calX3_mayHold : mCal := (yX3_mayHold, cX3_mayHold, 2, (some .boolean), (2, 45, 0, 0))
def cutX3_mayHold : Nat → Option (List Bool) := fun t => mLk t []
theorem okX3_mayHold : mOK (yX3_mayHold.cls, cX3_mayHold, TX3_mayHold, (some .boolean), (2, 45, 0, 0), 2, mAcf [], mAcf []) kX3_mayHold = true := by decide +kernel
set_option maxRecDepth 100000 in
theorem sfxX3_mayHold_26 : mSfx 26 kX3_mayHold = kX3_mayHold_26 := rfl
theorem cutX3_mayHold_26 : cutX3_mayHold 26 = none := by decide
set_option maxRecDepth 100000 in
theorem sfxX3_mayHold_27 : mSfx 27 kX3_mayHold = kX3_mayHold_27 := rfl
theorem cutX3_mayHold_27 : cutX3_mayHold 27 = none := by decide
def kX11_fails_0 : List mIn := (0, 4, 0, 0, 1, 0, []) :: (1, 2, 0, 1, 1, 0, []) :: (2, 25, 0, 11, 3, 74, [1579]) :: (5, 0, 0, 0, 0, 0, []) :: (6, 33, 0, 1, 0, 0, []) :: []
def kX11_fails : List mIn := kX11_fails_0
def TX11_fails : Nat → mCal := fun a => match a with
  | _ => (yX11_fails, cX11_fails, 2, (some .int), (0, 0, 0, 0))
def calX11_fails : mCal := (yX11_fails, cX11_fails, 2, (some .int), (0, 0, 0, 0))
def cutX11_fails : Nat → Option (List Bool) := fun t => mLk t []
theorem okX11_fails : mOK (yX11_fails.cls, cX11_fails, TX11_fails, (some .int), (0, 0, 0, 0), 2, mAcf [], mAcf []) kX11_fails = true := by decide +kernel
