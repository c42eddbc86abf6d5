def kX11_oneOf_93 : List mIn := (93, 4, 0, 0, 1, 0, []) :: (94, 2, 0, 1, 1, 0, []) :: (95, 2, 0, 3, 1, 0, []) :: (96, 32, 0, 1, 3, 253, [11, 1846, 1848, 69, 116, 1849]) :: (99, 2, 0, 4, 2, 0, []) :: (101, 33, 0, 1, 0, 0, []) :: []
def kX11_oneOf_87 : List mIn := (87, 8, 1, 5, 0, 0, []) :: (90, 22, 0, 0, 26, 0, []) :: kX11_oneOf_93
def kX11_oneOf_77 : List mIn := (77, 2, 0, 5, 2, 0, []) :: (79, 5, 0, 4, 2, 0, []) :: (81, 4, 0, 0, 1, 0, []) :: (82, 3, 0, 6, 2, 0, []) :: (84, 25, 0, 11, 18, 333, [1593]) :: kX11_oneOf_87
def kX11_oneOf_51 : List mIn := (51, 4, 0, 0, 1, 0, []) :: (52, 2, 0, 2, 1, 0, []) :: (53, 32, 0, 3, 2, 319, [11, 1953, 1955, 83, 116, 1956]) :: (56, 6, 0, 6, 2, 0, []) :: (58, 2, 0, 4, 2, 0, []) :: (60, 0, (-1), 0, 0, 0, []) :: (61, 19, 0, 0, 77, 0, []) :: (64, 3, 0, 6, 2, 0, []) :: (66, 4, 0, 0, 1, 0, []) :: (67, 24, 0, 11, 18, 333, [1593]) :: (70, 21, 0, 2, 77, 0, []) :: (74, 22, 0, 0, 87, 0, []) :: kX11_oneOf_77
def kX11_oneOf_26 : List mIn := (26, 2, 0, 5, 2, 0, []) :: (28, 0, 289, 2, 0, 0, []) :: (31, 19, 0, 3, 93, 0, []) :: (34, 4, 0, 0, 1, 0, []) :: (35, 2, 0, 1, 1, 0, []) :: (36, 2, 0, 5, 2, 0, []) :: (38, 32, 0, 1, 3, 253, [11, 1846, 1848, 69, 116, 1849]) :: (41, 4, 0, 0, 1, 0, []) :: (42, 32, 0, 2, 1, 329, [11, 1986, 1988, 88, 116, 1989]) :: (45, 20, 0, 1, 51, 0, []) :: (48, 22, 0, 0, 87, 0, []) :: kX11_oneOf_51
def kX11_oneOf_14 : List mIn := (14, 4, 0, 0, 1, 0, []) :: (15, 2, 0, 1, 1, 0, []) :: (16, 32, 0, 0, 2, 250, [11, 1842, 1844, 68, 116, 1845]) :: (19, 5, 0, 3, 1, 0, []) :: (20, 0, (-1), 0, 0, 0, []) :: (21, 5, 0, 4, 2, 0, []) :: (23, 0, 0, 0, 0, 0, []) :: (24, 5, 0, 5, 2, 0, []) :: (26, 43, 0, 0, 26, 0, []) :: kX11_oneOf_26
def kX11_oneOf_0 : List mIn := (0, 4, 0, 0, 1, 0, []) :: (1, 24, 0, 11, 0, 9, [1575]) :: (4, 0, 13, 1, 0, 0, []) :: (6, 2, 0, 2, 1, 0, []) :: (7, 9, 0, 0, 0, 0, []) :: (8, 26, 0, 20, 0, 0, []) :: (9, 20, 0, 1, 14, 0, []) :: (12, 0, (-1), 0, 0, 0, []) :: (13, 33, 0, 1, 0, 0, []) :: kX11_oneOf_14
def kX11_oneOf : List mIn := kX11_oneOf_0
def TX11_oneOf : Nat → mCal := fun a => match a with
  | 0 => calX11_standOf
  | 1 => calX11_puts
  | 2 => calX11_isLawful
  | 3 => calX11_meanOf
  | _ => (yX11_oneOf, cX11_oneOf, 8, (some .int), (0, 0, 0, 0))
def calX11_oneOf : mCal := (yX11_oneOf, cX11_oneOf, 8, (some .int), (11, 266, 0, 0))
def cutX11_oneOf : Nat → Option (List Bool) := fun t => mLk t [(26, [true, true, true, true, true, true, false, false])]
theorem okX11_oneOf : mOK (yX11_oneOf.cls, cX11_oneOf, TX11_oneOf, (some .int), (11, 266, 0, 0), 8, mAcf [], mAcf []) kX11_oneOf = true := by decide +kernel
set_option maxRecDepth 100000 in
theorem sfxX11_oneOf_14 : mSfx 14 kX11_oneOf = kX11_oneOf_14 := rfl
theorem cutX11_oneOf_14 : cutX11_oneOf 14 = none := by decide
set_option maxRecDepth 100000 in
theorem sfxX11_oneOf_26 : mSfx 26 kX11_oneOf = kX11_oneOf_26 := rfl
theorem cutX11_oneOf_26 : cutX11_oneOf 26 = some [true, true, true, true, true, true, false, false] := by decide
set_option maxRecDepth 100000 in
theorem sfxX11_oneOf_51 : mSfx 51 kX11_oneOf = kX11_oneOf_51 := rfl
theorem cutX11_oneOf_51 : cutX11_oneOf 51 = none := by decide
set_option maxRecDepth 100000 in
theorem sfxX11_oneOf_77 : mSfx 77 kX11_oneOf = kX11_oneOf_77 := rfl
theorem cutX11_oneOf_77 : cutX11_oneOf 77 = none := by decide
set_option maxRecDepth 100000 in
theorem sfxX11_oneOf_87 : mSfx 87 kX11_oneOf = kX11_oneOf_87 := rfl
theorem cutX11_oneOf_87 : cutX11_oneOf 87 = none := by decide
set_option maxRecDepth 100000 in
theorem sfxX11_oneOf_93 : mSfx 93 kX11_oneOf = kX11_oneOf_93 := rfl
theorem cutX11_oneOf_93 : cutX11_oneOf 93 = none := by decide
def kX11_one_40 : List mIn := (40, 4, 0, 0, 1, 0, []) :: (41, 2, 0, 1, 1, 0, []) :: (42, 2, 0, 2, 1, 0, []) :: (43, 32, 0, 4, 3, 336, [11, 1982, 1984, 87, 116, 1985]) :: (46, 33, 0, 1, 0, 0, []) :: []
def kX11_one_25 : List mIn := (25, 4, 0, 0, 1, 0, []) :: (26, 2, 0, 1, 1, 0, []) :: (27, 32, 0, 3, 2, 250, [11, 1842, 1844, 68, 116, 1845]) :: (30, 0, (-1), 0, 0, 0, []) :: (31, 19, 0, 1, 40, 0, []) :: (34, 4, 0, 0, 1, 0, []) :: (35, 0, 2, 0, 0, 0, []) :: (36, 32, 0, 2, 2, 178, [11, 1700, 1702, 49, 116, 1703]) :: (39, 33, 0, 1, 0, 0, []) :: kX11_one_40
def kX11_one_19 : List mIn := (19, 4, 0, 0, 1, 0, []) :: (20, 0, 1, 0, 0, 0, []) :: (21, 32, 0, 2, 2, 178, [11, 1700, 1702, 49, 116, 1703]) :: (24, 33, 0, 1, 0, 0, []) :: kX11_one_25
def kX11_one_0 : List mIn := (0, 4, 0, 0, 1, 0, []) :: (1, 0, 0, 0, 0, 0, []) :: (2, 25, 0, 11, 3, 74, [1578]) :: (5, 2, 0, 1, 1, 0, []) :: (6, 32, 1, 0, 1, 237, [1827, 1828, 116, 1829]) :: (9, 20, 0, 0, 19, 0, []) :: (12, 2, 0, 2, 1, 0, []) :: (13, 32, 1, 1, 1, 189, [1772, 1773, 116, 1774]) :: (16, 20, 0, 1, 25, 0, []) :: kX11_one_19
def kX11_one : List mIn := kX11_one_0
def TX11_one : Nat → mCal := fun a => match a with
  | 0 => calX11_isFielder
  | 1 => calX11_isBall
  | 2 => calX11_fails
  | 3 => calX11_standOf
  | 4 => calX11_oneOf
  | _ => (yX11_one, cX11_one, 3, (some .int), (0, 0, 0, 0))
def calX11_one : mCal := (yX11_one, cX11_one, 3, (some .int), (12, 293, 0, 0))
def cutX11_one : Nat → Option (List Bool) := fun t => mLk t []
theorem okX11_one : mOK (yX11_one.cls, cX11_one, TX11_one, (some .int), (12, 293, 0, 0), 3, mAcf [], mAcf []) kX11_one = true := by decide +kernel
set_option maxRecDepth 100000 in
theorem sfxX11_one_19 : mSfx 19 kX11_one = kX11_one_19 := rfl
theorem cutX11_one_19 : cutX11_one 19 = none := by decide
set_option maxRecDepth 100000 in
theorem sfxX11_one_25 : mSfx 25 kX11_one = kX11_one_25 := rfl
theorem cutX11_one_25 : cutX11_one 25 = none := by decide
set_option maxRecDepth 100000 in
theorem sfxX11_one_40 : mSfx 40 kX11_one = kX11_one_40 := rfl
theorem cutX11_one_40 : cutX11_one 40 = none := by decide
def kX11_settle_129 : List mIn := (129, 2, 0, 3, 1, 0, []) :: (130, 33, 0, 1, 0, 0, []) :: []
def kX11_settle_117 : List mIn := (117, 2, 0, 5, 2, 0, []) :: (119, 0, 1, 0, 0, 0, []) :: (120, 9, 0, 0, 0, 0, []) :: (121, 0, 9, 1, 0, 0, []) :: (123, 16, 0, 1, 0, 0, []) :: (124, 5, 0, 5, 2, 0, []) :: (126, 22, 0, 0, 44, 0, []) :: kX11_settle_129
def kX11_settle_103 : List mIn := (103, 4, 0, 0, 1, 0, []) :: (104, 2, 0, 5, 2, 0, []) :: (106, 2, 0, 6, 2, 0, []) :: (108, 32, 0, 6, 3, 253, [11, 1846, 1848, 69, 116, 1849]) :: (111, 8, 1, 3, 0, 0, []) :: (114, 0, 0, 0, 0, 0, []) :: (115, 5, 0, 4, 2, 0, []) :: kX11_settle_117
def kX11_settle_72 : List mIn := (72, 4, 0, 0, 1, 0, []) :: (73, 2, 0, 5, 2, 0, []) :: (75, 2, 0, 1, 1, 0, []) :: (76, 32, 0, 4, 3, 336, [11, 1982, 1984, 87, 116, 1985]) :: (79, 5, 0, 6, 2, 0, []) :: (81, 2, 0, 6, 2, 0, []) :: (83, 0, (-1), 0, 0, 0, []) :: (84, 19, 0, 0, 117, 0, []) :: (87, 4, 0, 0, 1, 0, []) :: (88, 24, 0, 11, 18, 333, [1593]) :: (91, 4, 0, 0, 1, 0, []) :: (92, 2, 0, 1, 1, 0, []) :: (93, 32, 0, 5, 2, 319, [11, 1953, 1955, 83, 116, 1956]) :: (96, 21, 0, 2, 103, 0, []) :: (100, 22, 0, 0, 117, 0, []) :: kX11_settle_103
def kX11_settle_44 : List mIn := (44, 2, 0, 3, 1, 0, []) :: (45, 2, 0, 2, 1, 0, []) :: (46, 19, 0, 3, 129, 0, []) :: (49, 2, 0, 4, 2, 0, []) :: (51, 0, 9, 1, 0, 0, []) :: (53, 19, 0, 3, 129, 0, []) :: (56, 8, 1, 4, 0, 0, []) :: (59, 4, 0, 0, 1, 0, []) :: (60, 2, 0, 5, 2, 0, []) :: (62, 32, 0, 3, 2, 250, [11, 1842, 1844, 68, 116, 1845]) :: (65, 0, (-1), 0, 0, 0, []) :: (66, 19, 0, 1, 72, 0, []) :: (69, 22, 0, 0, 117, 0, []) :: kX11_settle_72
def kX11_settle_36 : List mIn := (36, 0, 0, 0, 0, 0, []) :: (37, 5, 0, 3, 1, 0, []) :: (38, 0, 0, 0, 0, 0, []) :: (39, 5, 0, 4, 2, 0, []) :: (41, 0, 0, 0, 0, 0, []) :: (42, 5, 0, 5, 2, 0, []) :: (44, 43, 0, 0, 44, 0, []) :: kX11_settle_44
def kX11_settle_18 : List mIn := (18, 2, 0, 2, 1, 0, []) :: (19, 13, 0, 0, 0, 0, []) :: (20, 1, 0, 0, 0, 0, []) :: (21, 1, 50, 1, 244, 1833, []) :: (24, 32, 1, 2, 3, 79, [1697, 1698, 116, 1699]) :: (27, 20, 0, 1, 36, 0, []) :: (30, 4, 0, 0, 1, 0, []) :: (31, 0, 2, 0, 0, 0, []) :: (32, 32, 0, 1, 2, 178, [11, 1700, 1702, 49, 116, 1703]) :: (35, 33, 0, 1, 0, 0, []) :: kX11_settle_36
def kX11_settle_0 : List mIn := (0, 4, 0, 0, 1, 0, []) :: (1, 0, 0, 0, 0, 0, []) :: (2, 25, 0, 11, 3, 74, [1578]) :: (5, 2, 0, 1, 1, 0, []) :: (6, 32, 1, 0, 1, 189, [1772, 1773, 116, 1774]) :: (9, 20, 0, 1, 18, 0, []) :: (12, 4, 0, 0, 1, 0, []) :: (13, 0, 1, 0, 0, 0, []) :: (14, 32, 0, 1, 2, 178, [11, 1700, 1702, 49, 116, 1703]) :: (17, 33, 0, 1, 0, 0, []) :: kX11_settle_18
def kX11_settle : List mIn := kX11_settle_0
def TX11_settle : Nat → mCal := fun a => match a with
  | 0 => calX11_isBall
  | 1 => calX11_fails
  | 2 => calX11_within
  | 3 => calX11_standOf
  | 4 => calX11_oneOf
  | 5 => calX11_meanOf
  | 6 => calX11_puts
  | _ => (yX11_settle, cX11_settle, 7, (some .int), (0, 0, 0, 0))
def calX11_settle : mCal := (yX11_settle, cX11_settle, 7, (some .int), (12, 293, 0, 0))
def cutX11_settle : Nat → Option (List Bool) := fun t => mLk t [(44, [true, true, true, true, true, true, false])]
theorem okX11_settle : mOK (yX11_settle.cls, cX11_settle, TX11_settle, (some .int), (12, 293, 0, 0), 7, mAcf [], mAcf []) kX11_settle = true := by decide +kernel
set_option maxRecDepth 100000 in
theorem sfxX11_settle_18 : mSfx 18 kX11_settle = kX11_settle_18 := rfl
theorem cutX11_settle_18 : cutX11_settle 18 = none := by decide
set_option maxRecDepth 100000 in
theorem sfxX11_settle_36 : mSfx 36 kX11_settle = kX11_settle_36 := rfl
theorem cutX11_settle_36 : cutX11_settle 36 = none := by decide
set_option maxRecDepth 100000 in
theorem sfxX11_settle_44 : mSfx 44 kX11_settle = kX11_settle_44 := rfl
theorem cutX11_settle_44 : cutX11_settle 44 = some [true, true, true, true, true, true, false] := by decide
set_option maxRecDepth 100000 in
theorem sfxX11_settle_72 : mSfx 72 kX11_settle = kX11_settle_72 := rfl
theorem cutX11_settle_72 : cutX11_settle 72 = none := by decide
set_option maxRecDepth 100000 in
theorem sfxX11_settle_103 : mSfx 103 kX11_settle = kX11_settle_103 := rfl
theorem cutX11_settle_103 : cutX11_settle 103 = none := by decide
set_option maxRecDepth 100000 in
theorem sfxX11_settle_117 : mSfx 117 kX11_settle = kX11_settle_117 := rfl
theorem cutX11_settle_117 : cutX11_settle 117 = none := by decide
set_option maxRecDepth 100000 in
theorem sfxX11_settle_129 : mSfx 129 kX11_settle = kX11_settle_129 := rfl
theorem cutX11_settle_129 : cutX11_settle 129 = none := by decide
def kX11_bestOf_230 : List mIn := (230, 4, 0, 0, 1, 0, []) :: (231, 24, 0, 11, 19, 30, [1594]) :: (234, 33, 0, 3, 0, 0, []) :: []
def kX11_bestOf_207 : List mIn := (207, 2, 0, 3, 1, 0, []) :: (208, 0, 9, 1, 0, 0, []) :: (210, 19, 0, 3, 230, 0, []) :: (213, 4, 0, 0, 1, 0, []) :: (214, 2, 0, 3, 1, 0, []) :: (215, 4, 0, 0, 1, 0, []) :: (216, 24, 0, 11, 20, 33, [1595]) :: (219, 2, 0, 3, 1, 0, []) :: (220, 26, 0, 20, 0, 0, []) :: (221, 32, 0, 3, 3, 253, [11, 1846, 1848, 69, 116, 1849]) :: (224, 8, 1, 3, 0, 0, []) :: (227, 22, 0, 0, 207, 0, []) :: kX11_bestOf_230
def kX11_bestOf_205 : List mIn := (205, 0, 0, 0, 0, 0, []) :: (206, 5, 0, 3, 1, 0, []) :: (207, 43, 0, 0, 207, 0, []) :: kX11_bestOf_207
def kX11_bestOf_199 : List mIn := (199, 8, 1, 3, 0, 0, []) :: (202, 22, 0, 0, 81, 0, []) :: kX11_bestOf_205
def kX11_bestOf_193 : List mIn := (193, 4, 0, 0, 1, 0, []) :: (194, 2, 0, 3, 1, 0, []) :: (195, 0, (-1), 0, 0, 0, []) :: (196, 32, 0, 3, 3, 253, [11, 1846, 1848, 69, 116, 1849]) :: kX11_bestOf_199
def kX11_bestOf_187 : List mIn := (187, 8, 1, 4, 0, 0, []) :: (190, 22, 0, 0, 103, 0, []) :: kX11_bestOf_193
def kX11_bestOf_137 : List mIn := (137, 4, 0, 0, 1, 0, []) :: (138, 2, 0, 3, 1, 0, []) :: (139, 2, 0, 4, 2, 0, []) :: (141, 32, 0, 3, 3, 253, [11, 1846, 1848, 69, 116, 1849]) :: (144, 4, 0, 0, 1, 0, []) :: (145, 24, 0, 11, 19, 30, [1594]) :: (148, 0, 0, 0, 0, 0, []) :: (149, 4, 0, 0, 1, 0, []) :: (150, 24, 0, 11, 19, 30, [1594]) :: (153, 0, 0, 0, 0, 0, []) :: (154, 26, 0, 20, 0, 0, []) :: (155, 4, 0, 0, 1, 0, []) :: (156, 2, 0, 1, 1, 0, []) :: (157, 2, 0, 2, 1, 0, []) :: (158, 32, 0, 6, 3, 297, [11, 1908, 1910, 77, 116, 1911]) :: (161, 40, 0, 0, 0, 196, [1796, 656, 121, 657]) :: (164, 27, 0, 20, 0, 0, []) :: (165, 4, 0, 0, 1, 0, []) :: (166, 24, 0, 11, 19, 30, [1594]) :: (169, 0, 1, 0, 0, 0, []) :: (170, 4, 0, 0, 1, 0, []) :: (171, 24, 0, 11, 19, 30, [1594]) :: (174, 0, 1, 0, 0, 0, []) :: (175, 26, 0, 20, 0, 0, []) :: (176, 4, 0, 0, 1, 0, []) :: (177, 2, 0, 1, 1, 0, []) :: (178, 2, 0, 2, 1, 0, []) :: (179, 0, (-1), 0, 0, 0, []) :: (180, 32, 0, 7, 4, 294, [11, 1936, 1938, 81, 116, 1939]) :: (183, 40, 0, 1, 0, 291, [1940, 709, 121, 710]) :: (186, 27, 0, 20, 0, 0, []) :: kX11_bestOf_187
def kX11_bestOf_103 : List mIn := (103, 2, 0, 4, 2, 0, []) :: (105, 0, 289, 2, 0, 0, []) :: (108, 19, 0, 3, 193, 0, []) :: (111, 4, 0, 0, 1, 0, []) :: (112, 2, 0, 4, 2, 0, []) :: (114, 32, 0, 4, 2, 262, [11, 1871, 1873, 73, 116, 1874]) :: (117, 20, 0, 0, 187, 0, []) :: (120, 2, 0, 4, 2, 0, []) :: (122, 32, 1, 5, 1, 265, [1875, 1876, 116, 1877]) :: (125, 4, 0, 0, 1, 0, []) :: (126, 24, 0, 11, 0, 9, [1575]) :: (129, 0, 5, 0, 0, 0, []) :: (130, 26, 0, 20, 0, 0, []) :: (131, 19, 0, 3, 137, 0, []) :: (134, 22, 0, 0, 187, 0, []) :: kX11_bestOf_137
def kX11_bestOf_100 : List mIn := (100, 0, 0, 0, 0, 0, []) :: (101, 5, 0, 4, 2, 0, []) :: (103, 43, 0, 0, 103, 0, []) :: kX11_bestOf_103
def kX11_bestOf_81 : List mIn := (81, 2, 0, 3, 1, 0, []) :: (82, 0, 9, 1, 0, 0, []) :: (84, 19, 0, 3, 205, 0, []) :: (87, 4, 0, 0, 1, 0, []) :: (88, 24, 0, 11, 20, 33, [1595]) :: (91, 2, 0, 3, 1, 0, []) :: (92, 26, 0, 20, 0, 0, []) :: (93, 0, (-1), 0, 0, 0, []) :: (94, 19, 0, 1, 100, 0, []) :: (97, 22, 0, 0, 199, 0, []) :: kX11_bestOf_100
def kX11_bestOf_79 : List mIn := (79, 0, 0, 0, 0, 0, []) :: (80, 5, 0, 3, 1, 0, []) :: (81, 43, 0, 0, 81, 0, []) :: kX11_bestOf_81
def kX11_bestOf_61 : List mIn := (61, 2, 0, 3, 1, 0, []) :: (62, 0, 9, 1, 0, 0, []) :: (64, 19, 0, 3, 79, 0, []) :: (67, 4, 0, 0, 1, 0, []) :: (68, 2, 0, 3, 1, 0, []) :: (69, 0, (-1), 0, 0, 0, []) :: (70, 32, 0, 3, 3, 253, [11, 1846, 1848, 69, 116, 1849]) :: (73, 8, 1, 3, 0, 0, []) :: (76, 22, 0, 0, 61, 0, []) :: kX11_bestOf_79
def kX11_bestOf_59 : List mIn := (59, 0, 0, 0, 0, 0, []) :: (60, 5, 0, 3, 1, 0, []) :: (61, 43, 0, 0, 61, 0, []) :: kX11_bestOf_61
def kX11_bestOf_36 : List mIn := (36, 2, 0, 3, 1, 0, []) :: (37, 0, 9, 1, 0, 0, []) :: (39, 19, 0, 3, 59, 0, []) :: (42, 4, 0, 0, 1, 0, []) :: (43, 24, 0, 11, 20, 33, [1595]) :: (46, 2, 0, 3, 1, 0, []) :: (47, 4, 0, 0, 1, 0, []) :: (48, 2, 0, 3, 1, 0, []) :: (49, 32, 0, 2, 2, 250, [11, 1842, 1844, 68, 116, 1845]) :: (52, 27, 0, 20, 0, 0, []) :: (53, 8, 1, 3, 0, 0, []) :: (56, 22, 0, 0, 36, 0, []) :: kX11_bestOf_59
def kX11_bestOf_33 : List mIn := (33, 27, 0, 20, 0, 0, []) :: (34, 0, 0, 0, 0, 0, []) :: (35, 5, 0, 3, 1, 0, []) :: (36, 43, 0, 0, 36, 0, []) :: kX11_bestOf_36
def kX11_bestOf_32 : List mIn := (32, 0, 4, 0, 0, 0, []) :: kX11_bestOf_33
def kX11_bestOf_0 : List mIn := (0, 4, 0, 0, 1, 0, []) :: (1, 24, 0, 11, 19, 30, [1594]) :: (4, 0, 0, 0, 0, 0, []) :: (5, 0, 0, 0, 0, 0, []) :: (6, 27, 0, 20, 0, 0, []) :: (7, 4, 0, 0, 1, 0, []) :: (8, 24, 0, 11, 19, 30, [1594]) :: (11, 0, 1, 0, 0, 0, []) :: (12, 4, 0, 0, 1, 0, []) :: (13, 2, 0, 1, 1, 0, []) :: (14, 2, 0, 2, 1, 0, []) :: (15, 32, 0, 0, 3, 214, [11, 1792, 1794, 63, 116, 1795]) :: (18, 4, 0, 0, 1, 0, []) :: (19, 2, 0, 1, 1, 0, []) :: (20, 2, 0, 2, 1, 0, []) :: (21, 32, 0, 1, 3, 229, [11, 1797, 1799, 64, 116, 1800]) :: (24, 19, 0, 5, 32, 0, []) :: (27, 0, 6, 1, 0, 0, []) :: (29, 22, 0, 0, 33, 0, []) :: kX11_bestOf_32
def kX11_bestOf : List mIn := kX11_bestOf_0
def TX11_bestOf : Nat → mCal := fun a => match a with
  | 0 => calX11_airOf
  | 1 => calX11_stepsOf
  | 2 => calX11_standOf
  | 3 => calX11_puts
  | 4 => calX11_isIn
  | 5 => calX11_fromBat
  | 6 => calX11_catchOf
  | 7 => calX11_runsBut
  | _ => (yX11_bestOf, cX11_bestOf, 5, (some (.array .int)), (0, 0, 0, 0))
def calX11_bestOf : mCal := (yX11_bestOf, cX11_bestOf, 5, (some (.array .int)), (8, 193, 0, 0))
def cutX11_bestOf : Nat → Option (List Bool) := fun t => mLk t [(36, [true, true, true, true, false]), (61, [true, true, true, true, false]), (81, [true, true, true, true, false]), (103, [true, true, true, true, true]), (207, [true, false, false, true, false])]
theorem okX11_bestOf : mOK (yX11_bestOf.cls, cX11_bestOf, TX11_bestOf, (some (.array .int)), (8, 193, 0, 0), 5, mAcf [], mAcf []) kX11_bestOf = true := by decide +kernel
set_option maxRecDepth 100000 in
theorem sfxX11_bestOf_32 : mSfx 32 kX11_bestOf = kX11_bestOf_32 := rfl
theorem cutX11_bestOf_32 : cutX11_bestOf 32 = none := by decide
set_option maxRecDepth 100000 in
theorem sfxX11_bestOf_33 : mSfx 33 kX11_bestOf = kX11_bestOf_33 := rfl
theorem cutX11_bestOf_33 : cutX11_bestOf 33 = none := by decide
set_option maxRecDepth 100000 in
theorem sfxX11_bestOf_36 : mSfx 36 kX11_bestOf = kX11_bestOf_36 := rfl
theorem cutX11_bestOf_36 : cutX11_bestOf 36 = some [true, true, true, true, false] := by decide
set_option maxRecDepth 100000 in
theorem sfxX11_bestOf_59 : mSfx 59 kX11_bestOf = kX11_bestOf_59 := rfl
theorem cutX11_bestOf_59 : cutX11_bestOf 59 = none := by decide
set_option maxRecDepth 100000 in
theorem sfxX11_bestOf_61 : mSfx 61 kX11_bestOf = kX11_bestOf_61 := rfl
theorem cutX11_bestOf_61 : cutX11_bestOf 61 = some [true, true, true, true, false] := by decide
set_option maxRecDepth 100000 in
theorem sfxX11_bestOf_79 : mSfx 79 kX11_bestOf = kX11_bestOf_79 := rfl
theorem cutX11_bestOf_79 : cutX11_bestOf 79 = none := by decide
set_option maxRecDepth 100000 in
theorem sfxX11_bestOf_81 : mSfx 81 kX11_bestOf = kX11_bestOf_81 := rfl
theorem cutX11_bestOf_81 : cutX11_bestOf 81 = some [true, true, true, true, false] := by decide
set_option maxRecDepth 100000 in
theorem sfxX11_bestOf_100 : mSfx 100 kX11_bestOf = kX11_bestOf_100 := rfl
theorem cutX11_bestOf_100 : cutX11_bestOf 100 = none := by decide
set_option maxRecDepth 100000 in
theorem sfxX11_bestOf_103 : mSfx 103 kX11_bestOf = kX11_bestOf_103 := rfl
theorem cutX11_bestOf_103 : cutX11_bestOf 103 = some [true, true, true, true, true] := by decide
set_option maxRecDepth 100000 in
theorem sfxX11_bestOf_137 : mSfx 137 kX11_bestOf = kX11_bestOf_137 := rfl
theorem cutX11_bestOf_137 : cutX11_bestOf 137 = none := by decide
set_option maxRecDepth 100000 in
theorem sfxX11_bestOf_187 : mSfx 187 kX11_bestOf = kX11_bestOf_187 := rfl
theorem cutX11_bestOf_187 : cutX11_bestOf 187 = none := by decide
set_option maxRecDepth 100000 in
theorem sfxX11_bestOf_193 : mSfx 193 kX11_bestOf = kX11_bestOf_193 := rfl
theorem cutX11_bestOf_193 : cutX11_bestOf 193 = none := by decide
set_option maxRecDepth 100000 in
theorem sfxX11_bestOf_199 : mSfx 199 kX11_bestOf = kX11_bestOf_199 := rfl
theorem cutX11_bestOf_199 : cutX11_bestOf 199 = none := by decide
set_option maxRecDepth 100000 in
theorem sfxX11_bestOf_205 : mSfx 205 kX11_bestOf = kX11_bestOf_205 := rfl
theorem cutX11_bestOf_205 : cutX11_bestOf 205 = none := by decide
set_option maxRecDepth 100000 in
theorem sfxX11_bestOf_207 : mSfx 207 kX11_bestOf = kX11_bestOf_207 := rfl
theorem cutX11_bestOf_207 : cutX11_bestOf 207 = some [true, false, false, true, false] := by decide
set_option maxRecDepth 100000 in
theorem sfxX11_bestOf_230 : mSfx 230 kX11_bestOf = kX11_bestOf_230 := rfl
theorem cutX11_bestOf_230 : cutX11_bestOf 230 = none := by decide
def kX11_boundOf_72 : List mIn := (72, 3, 0, 2, 1, 0, []) :: (73, 33, 0, 2, 0, 0, []) :: []
def kX11_boundOf_5 : List mIn := (5, 2, 0, 4, 2, 0, []) :: (7, 4, 0, 0, 1, 0, []) :: (8, 24, 0, 11, 0, 9, [1575]) :: (11, 0, 13, 1, 0, 0, []) :: (13, 2, 0, 1, 1, 0, []) :: (14, 9, 0, 0, 0, 0, []) :: (15, 26, 0, 20, 0, 0, []) :: (16, 19, 0, 3, 72, 0, []) :: (19, 4, 0, 0, 1, 0, []) :: (20, 2, 0, 1, 1, 0, []) :: (21, 2, 0, 4, 2, 0, []) :: (23, 32, 0, 0, 3, 339, [11, 2002, 2004, 90, 116, 2005]) :: (26, 7, 0, 5, 2, 0, []) :: (28, 3, 0, 2, 1, 0, []) :: (29, 4, 0, 0, 1, 0, []) :: (30, 2, 0, 1, 1, 0, []) :: (31, 2, 0, 4, 2, 0, []) :: (33, 0, 3, 0, 0, 0, []) :: (34, 32, 0, 1, 4, 192, [11, 1788, 1790, 62, 116, 1791]) :: (37, 13, 0, 0, 0, 0, []) :: (38, 0, 100, 1, 0, 0, []) :: (40, 4, 0, 5, 2, 0, []) :: (42, 0, 0, 0, 0, 0, []) :: (43, 26, 0, 20, 0, 0, []) :: (44, 9, 0, 1, 0, 0, []) :: (45, 4, 0, 5, 2, 0, []) :: (47, 0, 1, 0, 0, 0, []) :: (48, 26, 0, 20, 0, 0, []) :: (49, 9, 0, 2, 0, 0, []) :: (50, 4, 0, 0, 1, 0, []) :: (51, 24, 0, 11, 0, 9, [1575]) :: (54, 0, 3, 0, 0, 0, []) :: (55, 26, 0, 20, 0, 0, []) :: (56, 4, 0, 5, 2, 0, []) :: (58, 0, 0, 0, 0, 0, []) :: (59, 26, 0, 20, 0, 0, []) :: (60, 9, 0, 2, 0, 0, []) :: (61, 9, 0, 1, 0, 0, []) :: (62, 13, 0, 0, 0, 0, []) :: (63, 11, 0, 2, 0, 0, []) :: (64, 11, 0, 0, 0, 0, []) :: (65, 6, 0, 2, 1, 0, []) :: (66, 8, 1, 4, 0, 0, []) :: (69, 22, 0, 0, 5, 0, []) :: kX11_boundOf_72
def kX11_boundOf_0 : List mIn := (0, 1, 0, 0, 0, 0, []) :: (1, 6, 0, 2, 1, 0, []) :: (2, 0, 0, 0, 0, 0, []) :: (3, 5, 0, 4, 2, 0, []) :: (5, 43, 0, 0, 5, 0, []) :: kX11_boundOf_5
def kX11_boundOf : List mIn := kX11_boundOf_0
def TX11_boundOf : Nat → mCal := fun a => match a with
  | 0 => calX11_bestOf
  | 1 => calX11_raw
  | _ => (yX11_boundOf, cX11_boundOf, 6, (some .long), (0, 0, 0, 0))
def calX11_boundOf : mCal := (yX11_boundOf, cX11_boundOf, 6, (some .long), (9, 217, 0, 0))
def cutX11_boundOf : Nat → Option (List Bool) := fun t => mLk t [(5, [true, true, true, false, true, false])]
theorem okX11_boundOf : mOK (yX11_boundOf.cls, cX11_boundOf, TX11_boundOf, (some .long), (9, 217, 0, 0), 6, mAcf [], mAcf []) kX11_boundOf = true := by decide +kernel
set_option maxRecDepth 100000 in
theorem sfxX11_boundOf_5 : mSfx 5 kX11_boundOf = kX11_boundOf_5 := rfl
theorem cutX11_boundOf_5 : cutX11_boundOf 5 = some [true, true, true, false, true, false] := by decide
set_option maxRecDepth 100000 in
theorem sfxX11_boundOf_72 : mSfx 72 kX11_boundOf = kX11_boundOf_72 := rfl
theorem cutX11_boundOf_72 : cutX11_boundOf 72 = none := by decide
def kX11_bound_49 : List mIn := (49, 33, 0, 4, 0, 0, []) :: []
def kX11_bound_48 : List mIn := (48, 0, 0, 0, 0, 0, []) :: kX11_bound_49
def kX11_bound_13 : List mIn := (13, 25, 0, 11, 3, 74, [1578]) :: (16, 4, 0, 0, 1, 0, []) :: (17, 24, 0, 11, 3, 74, [1578]) :: (20, 20, 0, 1, 48, 0, []) :: (23, 4, 0, 0, 1, 0, []) :: (24, 4, 0, 0, 1, 0, []) :: (25, 2, 0, 1, 1, 0, []) :: (26, 32, 0, 1, 2, 343, [11, 1998, 2000, 89, 116, 2001]) :: (29, 1, 100, 1, 242, 1832, []) :: (32, 4, 0, 0, 1, 0, []) :: (33, 2, 0, 1, 1, 0, []) :: (34, 32, 0, 2, 2, 313, [11, 1957, 1959, 84, 116, 1960]) :: (37, 11, 0, 2, 0, 0, []) :: (38, 32, 0, 3, 3, 325, [11, 1966, 1968, 86, 116, 1969]) :: (41, 20, 0, 0, 48, 0, []) :: (44, 0, 1, 0, 0, 0, []) :: (45, 22, 0, 0, 49, 0, []) :: kX11_bound_48
def kX11_bound_12 : List mIn := (12, 0, 1, 0, 0, 0, []) :: kX11_bound_13
def kX11_bound_0 : List mIn := (0, 4, 0, 0, 1, 0, []) :: (1, 2, 0, 1, 1, 0, []) :: (2, 32, 1, 0, 1, 189, [1772, 1773, 116, 1774]) :: (5, 20, 0, 0, 12, 0, []) :: (8, 0, 0, 0, 0, 0, []) :: (9, 22, 0, 0, 13, 0, []) :: kX11_bound_12
def kX11_bound : List mIn := kX11_bound_0
def TX11_bound : Nat → mCal := fun a => match a with
  | 0 => calX11_isBall
  | 1 => calX11_boundOf
  | 2 => calX11_allFor
  | 3 => calX11_takes
  | _ => (yX11_bound, cX11_bound, 2, (some .boolean), (0, 0, 0, 0))
def calX11_bound : mCal := (yX11_bound, cX11_bound, 2, (some .boolean), (10, 242, 0, 0))
def cutX11_bound : Nat → Option (List Bool) := fun t => mLk t []
theorem okX11_bound : mOK (yX11_bound.cls, cX11_bound, TX11_bound, (some .boolean), (10, 242, 0, 0), 2, mAcf [], mAcf []) kX11_bound = true := by decide +kernel
set_option maxRecDepth 100000 in
theorem sfxX11_bound_12 : mSfx 12 kX11_bound = kX11_bound_12 := rfl
theorem cutX11_bound_12 : cutX11_bound 12 = none := by decide
set_option maxRecDepth 100000 in
theorem sfxX11_bound_13 : mSfx 13 kX11_bound = kX11_bound_13 := rfl
theorem cutX11_bound_13 : cutX11_bound 13 = none := by decide
set_option maxRecDepth 100000 in
theorem sfxX11_bound_48 : mSfx 48 kX11_bound = kX11_bound_48 := rfl
theorem cutX11_bound_48 : cutX11_bound 48 = none := by decide
set_option maxRecDepth 100000 in
theorem sfxX11_bound_49 : mSfx 49 kX11_bound = kX11_bound_49 := rfl
theorem cutX11_bound_49 : cutX11_bound 49 = none := by decide
def kX11_gap_55 : List mIn := (55, 33, 0, 4, 0, 0, []) :: []
def kX11_gap_54 : List mIn := (54, 0, 0, 0, 0, 0, []) :: kX11_gap_55
def kX11_gap_13 : List mIn := (13, 25, 0, 11, 3, 74, [1578]) :: (16, 4, 0, 0, 1, 0, []) :: (17, 24, 0, 11, 3, 74, [1578]) :: (20, 20, 0, 1, 54, 0, []) :: (23, 4, 0, 0, 1, 0, []) :: (24, 4, 0, 0, 1, 0, []) :: (25, 2, 0, 1, 1, 0, []) :: (26, 32, 0, 1, 2, 319, [11, 1953, 1955, 83, 116, 1956]) :: (29, 1, 100, 1, 242, 1832, []) :: (32, 4, 0, 0, 1, 0, []) :: (33, 2, 0, 1, 1, 0, []) :: (34, 32, 0, 2, 2, 343, [11, 1998, 2000, 89, 116, 2001]) :: (37, 11, 0, 2, 0, 0, []) :: (38, 11, 0, 1, 0, 0, []) :: (39, 4, 0, 0, 1, 0, []) :: (40, 2, 0, 1, 1, 0, []) :: (41, 32, 0, 3, 2, 322, [11, 1961, 1963, 85, 116, 1964]) :: (44, 32, 0, 4, 3, 325, [11, 1966, 1968, 86, 116, 1969]) :: (47, 20, 0, 0, 54, 0, []) :: (50, 0, 1, 0, 0, 0, []) :: (51, 22, 0, 0, 55, 0, []) :: kX11_gap_54
def kX11_gap_12 : List mIn := (12, 0, 1, 0, 0, 0, []) :: kX11_gap_13
def kX11_gap_0 : List mIn := (0, 4, 0, 0, 1, 0, []) :: (1, 2, 0, 1, 1, 0, []) :: (2, 32, 1, 0, 1, 189, [1772, 1773, 116, 1774]) :: (5, 20, 0, 0, 12, 0, []) :: (8, 0, 0, 0, 0, 0, []) :: (9, 22, 0, 0, 13, 0, []) :: kX11_gap_12
def kX11_gap : List mIn := kX11_gap_0
def TX11_gap : Nat → mCal := fun a => match a with
  | 0 => calX11_isBall
  | 1 => calX11_meanOf
  | 2 => calX11_boundOf
  | 3 => calX11_lowOf
  | 4 => calX11_takes
  | _ => (yX11_gap, cX11_gap, 2, (some .boolean), (0, 0, 0, 0))
def calX11_gap : mCal := (yX11_gap, cX11_gap, 2, (some .boolean), (11, 266, 0, 0))
def cutX11_gap : Nat → Option (List Bool) := fun t => mLk t []
theorem okX11_gap : mOK (yX11_gap.cls, cX11_gap, TX11_gap, (some .boolean), (11, 266, 0, 0), 2, mAcf [], mAcf []) kX11_gap = true := by decide +kernel
set_option maxRecDepth 100000 in
theorem sfxX11_gap_12 : mSfx 12 kX11_gap = kX11_gap_12 := rfl
theorem cutX11_gap_12 : cutX11_gap 12 = none := by decide
set_option maxRecDepth 100000 in
theorem sfxX11_gap_13 : mSfx 13 kX11_gap = kX11_gap_13 := rfl
theorem cutX11_gap_13 : cutX11_gap 13 = none := by decide
set_option maxRecDepth 100000 in
theorem sfxX11_gap_54 : mSfx 54 kX11_gap = kX11_gap_54 := rfl
theorem cutX11_gap_54 : cutX11_gap 54 = none := by decide
set_option maxRecDepth 100000 in
theorem sfxX11_gap_55 : mSfx 55 kX11_gap = kX11_gap_55 := rfl
theorem cutX11_gap_55 : cutX11_gap 55 = none := by decide
def kX11_isWay_0 : List mIn := (0, 2, 0, 0, 1, 0, []) :: (1, 13, 0, 0, 0, 0, []) :: (2, 1, 0, 0, 0, 0, []) :: (3, 1, 3, 1, 346, 2017, []) :: (6, 32, 1, 0, 3, 79, [1697, 1698, 116, 1699]) :: (9, 33, 0, 4, 0, 0, []) :: []
def kX11_isWay : List mIn := kX11_isWay_0
def TX11_isWay : Nat → mCal := fun a => match a with
  | 0 => calX11_within
  | _ => (yX11_isWay, cX11_isWay, 1, (some .boolean), (0, 0, 0, 0))
def calX11_isWay : mCal := (yX11_isWay, cX11_isWay, 1, (some .boolean), (1, 25, 0, 0))
def cutX11_isWay : Nat → Option (List Bool) := fun t => mLk t []
theorem okX11_isWay : mOK (yX11_isWay.cls, cX11_isWay, TX11_isWay, (some .boolean), (1, 25, 0, 0), 1, mAcf [], mAcf []) kX11_isWay = true := by decide +kernel
def kX11_isKept_22 : List mIn := (22, 33, 0, 4, 0, 0, []) :: []
def kX11_isKept_21 : List mIn := (21, 0, 0, 0, 0, 0, []) :: kX11_isKept_22
def kX11_isKept_0 : List mIn := (0, 4, 0, 0, 1, 0, []) :: (1, 24, 0, 11, 0, 9, [1575]) :: (4, 0, 595, 2, 0, 0, []) :: (7, 0, 10, 1, 0, 0, []) :: (9, 2, 0, 1, 1, 0, []) :: (10, 9, 0, 2, 0, 0, []) :: (11, 9, 0, 0, 0, 0, []) :: (12, 26, 0, 20, 0, 0, []) :: (13, 0, 1, 0, 0, 0, []) :: (14, 19, 0, 1, 21, 0, []) :: (17, 0, 1, 0, 0, 0, []) :: (18, 22, 0, 0, 22, 0, []) :: kX11_isKept_21
def kX11_isKept : List mIn := kX11_isKept_0
def TX11_isKept : Nat → mCal := fun a => match a with
  | _ => (yX11_isKept, cX11_isKept, 2, (some .boolean), (0, 0, 0, 0))
def calX11_isKept : mCal := (yX11_isKept, cX11_isKept, 2, (some .boolean), (0, 0, 0, 0))
def cutX11_isKept : Nat → Option (List Bool) := fun t => mLk t []
theorem okX11_isKept : mOK (yX11_isKept.cls, cX11_isKept, TX11_isKept, (some .boolean), (0, 0, 0, 0), 2, mAcf [], mAcf []) kX11_isKept = true := by decide +kernel
set_option maxRecDepth 100000 in
theorem sfxX11_isKept_21 : mSfx 21 kX11_isKept = kX11_isKept_21 := rfl
theorem cutX11_isKept_21 : cutX11_isKept 21 = none := by decide
set_option maxRecDepth 100000 in
theorem sfxX11_isKept_22 : mSfx 22 kX11_isKept = kX11_isKept_22 := rfl
theorem cutX11_isKept_22 : cutX11_isKept 22 = none := by decide
def kX11_takesWay_36 : List mIn := (36, 33, 0, 0, 0, 0, []) :: []
def kX11_takesWay_2 : List mIn := (2, 2, 0, 2, 1, 0, []) :: (3, 0, 9, 1, 0, 0, []) :: (5, 19, 0, 3, 36, 0, []) :: (8, 4, 0, 0, 1, 0, []) :: (9, 2, 0, 2, 1, 0, []) :: (10, 4, 0, 0, 1, 0, []) :: (11, 24, 0, 11, 0, 9, [1575]) :: (14, 0, 595, 2, 0, 0, []) :: (17, 0, 10, 1, 0, 0, []) :: (19, 2, 0, 1, 1, 0, []) :: (20, 9, 0, 2, 0, 0, []) :: (21, 9, 0, 0, 0, 0, []) :: (22, 0, 1, 0, 0, 0, []) :: (23, 9, 0, 0, 0, 0, []) :: (24, 2, 0, 2, 1, 0, []) :: (25, 9, 0, 0, 0, 0, []) :: (26, 26, 0, 20, 0, 0, []) :: (27, 32, 0, 0, 3, 253, [11, 1846, 1848, 69, 116, 1849]) :: (30, 8, 1, 2, 0, 0, []) :: (33, 22, 0, 0, 2, 0, []) :: kX11_takesWay_36
def kX11_takesWay_0 : List mIn := (0, 0, 0, 0, 0, 0, []) :: (1, 5, 0, 2, 1, 0, []) :: (2, 43, 0, 0, 2, 0, []) :: kX11_takesWay_2
def kX11_takesWay : List mIn := kX11_takesWay_0
def TX11_takesWay : Nat → mCal := fun a => match a with
  | 0 => calX11_puts
  | _ => (yX11_takesWay, cX11_takesWay, 3, none, (0, 0, 0, 0))
def calX11_takesWay : mCal := (yX11_takesWay, cX11_takesWay, 3, none, (1, 22, 0, 0))
def cutX11_takesWay : Nat → Option (List Bool) := fun t => mLk t [(2, [true, true, true])]
theorem okX11_takesWay : mOK (yX11_takesWay.cls, cX11_takesWay, TX11_takesWay, none, (1, 22, 0, 0), 3, mAcf [], mAcf []) kX11_takesWay = true := by decide +kernel
set_option maxRecDepth 100000 in
theorem sfxX11_takesWay_2 : mSfx 2 kX11_takesWay = kX11_takesWay_2 := rfl
theorem cutX11_takesWay_2 : cutX11_takesWay 2 = some [true, true, true] := by decide
set_option maxRecDepth 100000 in
theorem sfxX11_takesWay_36 : mSfx 36 kX11_takesWay = kX11_takesWay_36 := rfl
theorem cutX11_takesWay_36 : cutX11_takesWay 36 = none := by decide
def kX11_way_116 : List mIn := (116, 33, 0, 0, 0, 0, []) :: []
def kX11_way_82 : List mIn := (82, 2, 0, 3, 1, 0, []) :: (83, 0, 9, 1, 0, 0, []) :: (85, 19, 0, 3, 116, 0, []) :: (88, 4, 0, 0, 1, 0, []) :: (89, 24, 0, 11, 0, 9, [1575]) :: (92, 0, 595, 2, 0, 0, []) :: (95, 0, 10, 1, 0, 0, []) :: (97, 2, 0, 1, 1, 0, []) :: (98, 9, 0, 2, 0, 0, []) :: (99, 9, 0, 0, 0, 0, []) :: (100, 0, 1, 0, 0, 0, []) :: (101, 9, 0, 0, 0, 0, []) :: (102, 2, 0, 3, 1, 0, []) :: (103, 9, 0, 0, 0, 0, []) :: (104, 4, 0, 0, 1, 0, []) :: (105, 2, 0, 3, 1, 0, []) :: (106, 32, 0, 4, 2, 250, [11, 1842, 1844, 68, 116, 1845]) :: (109, 27, 0, 20, 0, 0, []) :: (110, 8, 1, 3, 0, 0, []) :: (113, 22, 0, 0, 82, 0, []) :: kX11_way_116
def kX11_way_66 : List mIn := (66, 4, 0, 0, 1, 0, []) :: (67, 24, 0, 11, 0, 9, [1575]) :: (70, 0, 595, 2, 0, 0, []) :: (73, 0, 10, 1, 0, 0, []) :: (75, 2, 0, 1, 1, 0, []) :: (76, 9, 0, 2, 0, 0, []) :: (77, 9, 0, 0, 0, 0, []) :: (78, 0, 1, 0, 0, 0, []) :: (79, 27, 0, 20, 0, 0, []) :: (80, 0, 0, 0, 0, 0, []) :: (81, 5, 0, 3, 1, 0, []) :: (82, 43, 0, 0, 82, 0, []) :: kX11_way_82
def kX11_way_55 : List mIn := (55, 2, 0, 2, 1, 0, []) :: (56, 0, 1, 0, 0, 0, []) :: (57, 19, 0, 1, 66, 0, []) :: (60, 4, 0, 0, 1, 0, []) :: (61, 2, 0, 1, 1, 0, []) :: (62, 32, 0, 3, 2, 354, [11, 2022, 2024, 92, 116, 2025]) :: (65, 33, 0, 0, 0, 0, []) :: kX11_way_66
def kX11_way_44 : List mIn := (44, 25, 0, 11, 3, 74, [1578]) :: (47, 4, 0, 0, 1, 0, []) :: (48, 24, 0, 11, 3, 74, [1578]) :: (51, 20, 0, 5, 55, 0, []) :: (54, 33, 0, 0, 0, 0, []) :: kX11_way_55
def kX11_way_43 : List mIn := (43, 0, 0, 0, 0, 0, []) :: kX11_way_44
def kX11_way_26 : List mIn := (26, 2, 0, 2, 1, 0, []) :: (27, 0, 1, 0, 0, 0, []) :: (28, 19, 0, 1, 43, 0, []) :: (31, 4, 0, 0, 1, 0, []) :: (32, 2, 0, 1, 1, 0, []) :: (33, 32, 0, 2, 2, 351, [11, 2018, 2020, 91, 116, 2021]) :: (36, 20, 0, 1, 43, 0, []) :: (39, 0, 3, 0, 0, 0, []) :: (40, 22, 0, 0, 44, 0, []) :: kX11_way_43
def kX11_way_12 : List mIn := (12, 2, 0, 2, 1, 0, []) :: (13, 13, 0, 0, 0, 0, []) :: (14, 1, 0, 0, 0, 0, []) :: (15, 1, 1, 0, 1, 0, []) :: (16, 32, 1, 1, 3, 79, [1697, 1698, 116, 1699]) :: (19, 20, 0, 1, 26, 0, []) :: (22, 0, 2, 0, 0, 0, []) :: (23, 22, 0, 0, 44, 0, []) :: kX11_way_26
def kX11_way_0 : List mIn := (0, 4, 0, 0, 1, 0, []) :: (1, 2, 0, 1, 1, 0, []) :: (2, 32, 1, 0, 1, 348, [2014, 2015, 116, 2016]) :: (5, 20, 0, 1, 12, 0, []) :: (8, 0, 1, 0, 0, 0, []) :: (9, 22, 0, 0, 44, 0, []) :: kX11_way_12
def kX11_way : List mIn := kX11_way_0
def TX11_way : Nat → mCal := fun a => match a with
  | 0 => calX11_isWay
  | 1 => calX11_within
  | 2 => calX11_isKept
  | 3 => calX11_takesWay
  | 4 => calX11_standOf
  | _ => (yX11_way, cX11_way, 4, none, (0, 0, 0, 0))
def calX11_way : mCal := (yX11_way, cX11_way, 4, none, (2, 45, 0, 0))
def cutX11_way : Nat → Option (List Bool) := fun t => mLk t [(82, [true, true, false, true])]
theorem okX11_way : mOK (yX11_way.cls, cX11_way, TX11_way, none, (2, 45, 0, 0), 4, mAcf [], mAcf []) kX11_way = true := by decide +kernel
set_option maxRecDepth 100000 in
theorem sfxX11_way_12 : mSfx 12 kX11_way = kX11_way_12 := rfl
theorem cutX11_way_12 : cutX11_way 12 = none := by decide
set_option maxRecDepth 100000 in
theorem sfxX11_way_26 : mSfx 26 kX11_way = kX11_way_26 := rfl
theorem cutX11_way_26 : cutX11_way 26 = none := by decide
set_option maxRecDepth 100000 in
theorem sfxX11_way_43 : mSfx 43 kX11_way = kX11_way_43 := rfl
theorem cutX11_way_43 : cutX11_way 43 = none := by decide
set_option maxRecDepth 100000 in
theorem sfxX11_way_44 : mSfx 44 kX11_way = kX11_way_44 := rfl
theorem cutX11_way_44 : cutX11_way 44 = none := by decide
set_option maxRecDepth 100000 in
theorem sfxX11_way_55 : mSfx 55 kX11_way = kX11_way_55 := rfl
theorem cutX11_way_55 : cutX11_way 55 = none := by decide
set_option maxRecDepth 100000 in
theorem sfxX11_way_66 : mSfx 66 kX11_way = kX11_way_66 := rfl
theorem cutX11_way_66 : cutX11_way 66 = none := by decide
set_option maxRecDepth 100000 in
theorem sfxX11_way_82 : mSfx 82 kX11_way = kX11_way_82 := rfl
theorem cutX11_way_82 : cutX11_way 82 = some [true, true, false, true] := by decide
set_option maxRecDepth 100000 in
theorem sfxX11_way_116 : mSfx 116 kX11_way = kX11_way_116 := rfl
theorem cutX11_way_116 : cutX11_way 116 = none := by decide
def kX11_putsBy_25 : List mIn := (25, 33, 0, 0, 0, 0, []) :: []
def kX11_putsBy_2 : List mIn := (2, 2, 0, 1, 1, 0, []) :: (3, 0, 9, 1, 0, 0, []) :: (5, 19, 0, 3, 25, 0, []) :: (8, 4, 0, 0, 1, 0, []) :: (9, 24, 0, 11, 21, 36, [1596]) :: (12, 2, 0, 1, 1, 0, []) :: (13, 4, 0, 0, 1, 0, []) :: (14, 2, 0, 1, 1, 0, []) :: (15, 32, 0, 0, 2, 250, [11, 1842, 1844, 68, 116, 1845]) :: (18, 27, 0, 20, 0, 0, []) :: (19, 8, 1, 1, 0, 0, []) :: (22, 22, 0, 0, 2, 0, []) :: kX11_putsBy_25
def kX11_putsBy_0 : List mIn := (0, 0, 0, 0, 0, 0, []) :: (1, 5, 0, 1, 1, 0, []) :: (2, 43, 0, 0, 2, 0, []) :: kX11_putsBy_2
def kX11_putsBy : List mIn := kX11_putsBy_0
def TX11_putsBy : Nat → mCal := fun a => match a with
  | 0 => calX11_standOf
  | _ => (yX11_putsBy, cX11_putsBy, 2, none, (0, 0, 0, 0))
def calX11_putsBy : mCal := (yX11_putsBy, cX11_putsBy, 2, none, (1, 21, 0, 0))
def cutX11_putsBy : Nat → Option (List Bool) := fun t => mLk t [(2, [true, true])]
theorem okX11_putsBy : mOK (yX11_putsBy.cls, cX11_putsBy, TX11_putsBy, none, (1, 21, 0, 0), 2, mAcf [], mAcf []) kX11_putsBy = true := by decide +kernel
set_option maxRecDepth 100000 in
theorem sfxX11_putsBy_2 : mSfx 2 kX11_putsBy = kX11_putsBy_2 := rfl
theorem cutX11_putsBy_2 : cutX11_putsBy 2 = some [true, true] := by decide
set_option maxRecDepth 100000 in
theorem sfxX11_putsBy_25 : mSfx 25 kX11_putsBy = kX11_putsBy_25 := rfl
theorem cutX11_putsBy_25 : cutX11_putsBy 25 = none := by decide
def kX11_givesBack_25 : List mIn := (25, 33, 0, 0, 0, 0, []) :: []
def kX11_givesBack_2 : List mIn := (2, 2, 0, 1, 1, 0, []) :: (3, 0, 9, 1, 0, 0, []) :: (5, 19, 0, 3, 25, 0, []) :: (8, 4, 0, 0, 1, 0, []) :: (9, 2, 0, 1, 1, 0, []) :: (10, 4, 0, 0, 1, 0, []) :: (11, 24, 0, 11, 21, 36, [1596]) :: (14, 2, 0, 1, 1, 0, []) :: (15, 26, 0, 20, 0, 0, []) :: (16, 32, 0, 0, 3, 253, [11, 1846, 1848, 69, 116, 1849]) :: (19, 8, 1, 1, 0, 0, []) :: (22, 22, 0, 0, 2, 0, []) :: kX11_givesBack_25
def kX11_givesBack_0 : List mIn := (0, 0, 0, 0, 0, 0, []) :: (1, 5, 0, 1, 1, 0, []) :: (2, 43, 0, 0, 2, 0, []) :: kX11_givesBack_2
def kX11_givesBack : List mIn := kX11_givesBack_0
def TX11_givesBack : Nat → mCal := fun a => match a with
  | 0 => calX11_puts
  | _ => (yX11_givesBack, cX11_givesBack, 2, none, (0, 0, 0, 0))
def calX11_givesBack : mCal := (yX11_givesBack, cX11_givesBack, 2, none, (1, 22, 0, 0))
def cutX11_givesBack : Nat → Option (List Bool) := fun t => mLk t [(2, [true, true])]
theorem okX11_givesBack : mOK (yX11_givesBack.cls, cX11_givesBack, TX11_givesBack, none, (1, 22, 0, 0), 2, mAcf [], mAcf []) kX11_givesBack = true := by decide +kernel
set_option maxRecDepth 100000 in
theorem sfxX11_givesBack_2 : mSfx 2 kX11_givesBack = kX11_givesBack_2 := rfl
theorem cutX11_givesBack_2 : cutX11_givesBack 2 = some [true, true] := by decide
set_option maxRecDepth 100000 in
theorem sfxX11_givesBack_25 : mSfx 25 kX11_givesBack = kX11_givesBack_25 := rfl
theorem cutX11_givesBack_25 : cutX11_givesBack 25 = none := by decide
def kX11_tries_194 : List mIn := (194, 4, 0, 0, 1, 0, []) :: (195, 3, 0, 6, 2, 0, []) :: (197, 25, 0, 11, 24, 363, [1599]) :: (200, 4, 0, 0, 1, 0, []) :: (201, 3, 0, 8, 2, 0, []) :: (203, 25, 0, 11, 25, 357, [1600]) :: (206, 4, 0, 0, 1, 0, []) :: (207, 3, 0, 10, 2, 0, []) :: (209, 25, 0, 11, 26, 360, [1601]) :: (212, 33, 0, 0, 0, 0, []) :: []
def kX11_tries_186 : List mIn := (186, 5, 0, 12, 2, 0, []) :: (188, 2, 0, 12, 2, 0, []) :: (190, 20, 0, 1, 194, 0, []) :: (193, 33, 0, 0, 0, 0, []) :: kX11_tries_194
def kX11_tries_185 : List mIn := (185, 0, 0, 0, 0, 0, []) :: kX11_tries_186
def kX11_tries_181 : List mIn := (181, 0, 1, 0, 0, 0, []) :: (182, 22, 0, 0, 186, 0, []) :: kX11_tries_185
def kX11_tries_118 : List mIn := (118, 4, 0, 0, 1, 0, []) :: (119, 24, 0, 11, 25, 357, [1600]) :: (122, 1, 0, 0, 0, 0, []) :: (123, 21, 0, 0, 181, 0, []) :: (127, 3, 0, 10, 2, 0, []) :: (129, 4, 0, 0, 1, 0, []) :: (130, 24, 0, 11, 25, 357, [1600]) :: (133, 11, 0, 2, 0, 0, []) :: (134, 4, 0, 0, 1, 0, []) :: (135, 24, 0, 11, 26, 360, [1601]) :: (138, 3, 0, 8, 2, 0, []) :: (140, 11, 0, 2, 0, 0, []) :: (141, 21, 0, 2, 181, 0, []) :: (145, 3, 0, 10, 2, 0, []) :: (147, 4, 0, 0, 1, 0, []) :: (148, 24, 0, 11, 25, 357, [1600]) :: (151, 11, 0, 2, 0, 0, []) :: (152, 4, 0, 0, 1, 0, []) :: (153, 24, 0, 11, 26, 360, [1601]) :: (156, 3, 0, 8, 2, 0, []) :: (158, 11, 0, 2, 0, 0, []) :: (159, 21, 0, 1, 185, 0, []) :: (163, 3, 0, 6, 2, 0, []) :: (165, 4, 0, 0, 1, 0, []) :: (166, 24, 0, 11, 25, 357, [1600]) :: (169, 11, 0, 2, 0, 0, []) :: (170, 4, 0, 0, 1, 0, []) :: (171, 24, 0, 11, 24, 363, [1599]) :: (174, 3, 0, 8, 2, 0, []) :: (176, 11, 0, 2, 0, 0, []) :: (177, 21, 0, 3, 185, 0, []) :: kX11_tries_181
def kX11_tries_110 : List mIn := (110, 6, 0, 10, 2, 0, []) :: (112, 8, 1, 12, 0, 0, []) :: (115, 22, 0, 0, 57, 0, []) :: kX11_tries_118
def kX11_tries_108 : List mIn := (108, 3, 0, 10, 2, 0, []) :: kX11_tries_110
def kX11_tries_103 : List mIn := (103, 3, 0, 13, 2, 0, []) :: (105, 22, 0, 0, 110, 0, []) :: kX11_tries_108
def kX11_tries_57 : List mIn := (57, 2, 0, 12, 2, 0, []) :: (59, 2, 0, 5, 2, 0, []) :: (61, 19, 0, 3, 118, 0, []) :: (64, 3, 0, 6, 2, 0, []) :: (66, 4, 0, 0, 1, 0, []) :: (67, 24, 0, 11, 22, 39, [1597]) :: (70, 2, 0, 12, 2, 0, []) :: (72, 26, 0, 23, 0, 0, []) :: (73, 11, 0, 2, 0, 0, []) :: (74, 3, 0, 8, 2, 0, []) :: (76, 3, 0, 6, 2, 0, []) :: (78, 11, 0, 1, 0, 0, []) :: (79, 4, 0, 0, 1, 0, []) :: (80, 24, 0, 11, 23, 43, [1598]) :: (83, 2, 0, 12, 2, 0, []) :: (85, 26, 0, 23, 0, 0, []) :: (86, 11, 0, 2, 0, 0, []) :: (87, 11, 0, 0, 0, 0, []) :: (88, 6, 0, 13, 2, 0, []) :: (90, 2, 0, 12, 2, 0, []) :: (92, 20, 0, 0, 103, 0, []) :: (95, 3, 0, 13, 2, 0, []) :: (97, 3, 0, 10, 2, 0, []) :: (99, 21, 0, 5, 108, 0, []) :: kX11_tries_103
def kX11_tries_51 : List mIn := (51, 1, 0, 0, 0, 0, []) :: (52, 6, 0, 10, 2, 0, []) :: (54, 0, 0, 0, 0, 0, []) :: (55, 5, 0, 12, 2, 0, []) :: (57, 43, 0, 0, 57, 0, []) :: kX11_tries_57
def kX11_tries_50 : List mIn := (50, 33, 0, 0, 0, 0, []) :: kX11_tries_51
def kX11_tries_33 : List mIn := (33, 6, 0, 8, 2, 0, []) :: (35, 3, 0, 6, 2, 0, []) :: (37, 1, 0, 0, 0, 0, []) :: (38, 21, 0, 2, 50, 0, []) :: (42, 3, 0, 6, 2, 0, []) :: (44, 3, 0, 8, 2, 0, []) :: (46, 21, 0, 5, 51, 0, []) :: kX11_tries_50
def kX11_tries_32 : List mIn := (32, 3, 0, 3, 1, 0, []) :: kX11_tries_33
def kX11_tries_19 : List mIn := (19, 6, 0, 6, 2, 0, []) :: (21, 3, 0, 3, 1, 0, []) :: (22, 1, 0, 0, 0, 0, []) :: (23, 21, 0, 3, 32, 0, []) :: (27, 3, 0, 3, 1, 0, []) :: (28, 12, 0, 0, 0, 0, []) :: (29, 22, 0, 0, 33, 0, []) :: kX11_tries_32
def kX11_tries_18 : List mIn := (18, 3, 0, 1, 1, 0, []) :: kX11_tries_19
def kX11_tries_7 : List mIn := (7, 3, 0, 3, 1, 0, []) :: (8, 1, 0, 0, 0, 0, []) :: (9, 21, 0, 3, 18, 0, []) :: (13, 3, 0, 1, 1, 0, []) :: (14, 12, 0, 0, 0, 0, []) :: (15, 22, 0, 0, 19, 0, []) :: kX11_tries_18
def kX11_tries_0 : List mIn := (0, 3, 0, 3, 1, 0, []) :: (1, 1, 0, 0, 0, 0, []) :: (2, 21, 0, 1, 7, 0, []) :: (6, 33, 0, 0, 0, 0, []) :: kX11_tries_7
def kX11_tries : List mIn := kX11_tries_0
def TX11_tries : Nat → mCal := fun a => match a with
  | _ => (yX11_tries, cX11_tries, 15, none, (0, 0, 0, 0))
def calX11_tries : mCal := (yX11_tries, cX11_tries, 15, none, (0, 0, 0, 0))
def cutX11_tries : Nat → Option (List Bool) := fun t => mLk t [(57, [true, false, false, false, false, true, true, false, true, false, true, false, true, false, false])]
theorem okX11_tries : mOK (yX11_tries.cls, cX11_tries, TX11_tries, none, (0, 0, 0, 0), 15, mAcf [], mAcf []) kX11_tries = true := by decide +kernel
set_option maxRecDepth 100000 in
theorem sfxX11_tries_7 : mSfx 7 kX11_tries = kX11_tries_7 := rfl
theorem cutX11_tries_7 : cutX11_tries 7 = none := by decide
set_option maxRecDepth 100000 in
theorem sfxX11_tries_18 : mSfx 18 kX11_tries = kX11_tries_18 := rfl
theorem cutX11_tries_18 : cutX11_tries 18 = none := by decide
set_option maxRecDepth 100000 in
theorem sfxX11_tries_19 : mSfx 19 kX11_tries = kX11_tries_19 := rfl
theorem cutX11_tries_19 : cutX11_tries 19 = none := by decide
set_option maxRecDepth 100000 in
theorem sfxX11_tries_32 : mSfx 32 kX11_tries = kX11_tries_32 := rfl
theorem cutX11_tries_32 : cutX11_tries 32 = none := by decide
set_option maxRecDepth 100000 in
theorem sfxX11_tries_33 : mSfx 33 kX11_tries = kX11_tries_33 := rfl
theorem cutX11_tries_33 : cutX11_tries 33 = none := by decide
set_option maxRecDepth 100000 in
theorem sfxX11_tries_50 : mSfx 50 kX11_tries = kX11_tries_50 := rfl
theorem cutX11_tries_50 : cutX11_tries 50 = none := by decide
set_option maxRecDepth 100000 in
theorem sfxX11_tries_51 : mSfx 51 kX11_tries = kX11_tries_51 := rfl
theorem cutX11_tries_51 : cutX11_tries 51 = none := by decide
set_option maxRecDepth 100000 in
theorem sfxX11_tries_57 : mSfx 57 kX11_tries = kX11_tries_57 := rfl
theorem cutX11_tries_57 : cutX11_tries 57 = some [true, false, false, false, false, true, true, false, true, false, true, false, true, false, false] := by decide
set_option maxRecDepth 100000 in
theorem sfxX11_tries_103 : mSfx 103 kX11_tries = kX11_tries_103 := rfl
theorem cutX11_tries_103 : cutX11_tries 103 = none := by decide
set_option maxRecDepth 100000 in
theorem sfxX11_tries_108 : mSfx 108 kX11_tries = kX11_tries_108 := rfl
theorem cutX11_tries_108 : cutX11_tries 108 = none := by decide
set_option maxRecDepth 100000 in
theorem sfxX11_tries_110 : mSfx 110 kX11_tries = kX11_tries_110 := rfl
theorem cutX11_tries_110 : cutX11_tries 110 = none := by decide
set_option maxRecDepth 100000 in
theorem sfxX11_tries_118 : mSfx 118 kX11_tries = kX11_tries_118 := rfl
theorem cutX11_tries_118 : cutX11_tries 118 = none := by decide
set_option maxRecDepth 100000 in
theorem sfxX11_tries_181 : mSfx 181 kX11_tries = kX11_tries_181 := rfl
theorem cutX11_tries_181 : cutX11_tries 181 = none := by decide
set_option maxRecDepth 100000 in
theorem sfxX11_tries_185 : mSfx 185 kX11_tries = kX11_tries_185 := rfl
theorem cutX11_tries_185 : cutX11_tries 185 = none := by decide
set_option maxRecDepth 100000 in
theorem sfxX11_tries_186 : mSfx 186 kX11_tries = kX11_tries_186 := rfl
theorem cutX11_tries_186 : cutX11_tries 186 = none := by decide
set_option maxRecDepth 100000 in
theorem sfxX11_tries_194 : mSfx 194 kX11_tries = kX11_tries_194 := rfl
theorem cutX11_tries_194 : cutX11_tries 194 = none := by decide
def kX11_rest_318 : List mIn := (318, 33, 0, 4, 0, 0, []) :: []
def kX11_rest_302 : List mIn := (302, 4, 0, 0, 1, 0, []) :: (303, 4, 0, 0, 1, 0, []) :: (304, 24, 0, 11, 26, 360, [1601]) :: (307, 1, 100, 1, 242, 1832, []) :: (310, 4, 0, 0, 1, 0, []) :: (311, 24, 0, 11, 25, 357, [1600]) :: (314, 11, 0, 2, 0, 0, []) :: (315, 32, 0, 4, 3, 325, [11, 1966, 1968, 86, 116, 1969]) :: kX11_rest_318
def kX11_rest_282 : List mIn := (282, 2, 0, 4, 2, 0, []) :: (284, 20, 0, 1, 302, 0, []) :: (287, 4, 0, 0, 1, 0, []) :: (288, 4, 0, 0, 1, 0, []) :: (289, 24, 0, 11, 24, 363, [1599]) :: (292, 4, 0, 0, 1, 0, []) :: (293, 24, 0, 11, 25, 357, [1600]) :: (296, 32, 0, 4, 3, 325, [11, 1966, 1968, 86, 116, 1969]) :: (299, 22, 0, 0, 318, 0, []) :: kX11_rest_302
def kX11_rest_276 : List mIn := (276, 8, 1, 6, 0, 0, []) :: (279, 22, 0, 0, 201, 0, []) :: kX11_rest_282
def kX11_rest_211 : List mIn := (211, 2, 0, 7, 2, 0, []) :: (213, 2, 0, 6, 2, 0, []) :: (215, 19, 0, 3, 276, 0, []) :: (218, 4, 0, 0, 1, 0, []) :: (219, 4, 0, 0, 1, 0, []) :: (220, 24, 0, 11, 23, 43, [1598]) :: (223, 2, 0, 7, 2, 0, []) :: (225, 26, 0, 23, 0, 0, []) :: (226, 4, 0, 0, 1, 0, []) :: (227, 24, 0, 11, 23, 43, [1598]) :: (230, 2, 0, 6, 2, 0, []) :: (232, 26, 0, 23, 0, 0, []) :: (233, 11, 0, 1, 0, 0, []) :: (234, 4, 0, 0, 1, 0, []) :: (235, 24, 0, 11, 22, 39, [1597]) :: (238, 2, 0, 6, 2, 0, []) :: (240, 26, 0, 23, 0, 0, []) :: (241, 4, 0, 0, 1, 0, []) :: (242, 24, 0, 11, 23, 43, [1598]) :: (245, 2, 0, 6, 2, 0, []) :: (247, 26, 0, 23, 0, 0, []) :: (248, 11, 0, 1, 0, 0, []) :: (249, 4, 0, 0, 1, 0, []) :: (250, 24, 0, 11, 22, 39, [1597]) :: (253, 2, 0, 7, 2, 0, []) :: (255, 26, 0, 23, 0, 0, []) :: (256, 11, 0, 1, 0, 0, []) :: (257, 4, 0, 0, 1, 0, []) :: (258, 24, 0, 11, 23, 43, [1598]) :: (261, 2, 0, 7, 2, 0, []) :: (263, 26, 0, 23, 0, 0, []) :: (264, 11, 0, 0, 0, 0, []) :: (265, 2, 0, 5, 2, 0, []) :: (267, 32, 0, 9, 4, 372, [11, 2038, 2040, 95, 116, 2041]) :: (270, 8, 1, 7, 0, 0, []) :: (273, 22, 0, 0, 211, 0, []) :: kX11_rest_276
def kX11_rest_201 : List mIn := (201, 2, 0, 6, 2, 0, []) :: (203, 2, 0, 5, 2, 0, []) :: (205, 19, 0, 3, 282, 0, []) :: (208, 0, 0, 0, 0, 0, []) :: (209, 5, 0, 7, 2, 0, []) :: (211, 43, 0, 0, 211, 0, []) :: kX11_rest_211
def kX11_rest_173 : List mIn := (173, 4, 0, 0, 1, 0, []) :: (174, 32, 0, 8, 1, 369, [11, 2034, 2036, 94, 116, 2037]) :: (177, 4, 0, 0, 1, 0, []) :: (178, 1, 0, 0, 0, 0, []) :: (179, 25, 0, 11, 25, 357, [1600]) :: (182, 4, 0, 0, 1, 0, []) :: (183, 1, 0, 0, 0, 0, []) :: (184, 1, 1, 0, 1, 0, []) :: (185, 2, 0, 5, 2, 0, []) :: (187, 32, 0, 9, 4, 372, [11, 2038, 2040, 95, 116, 2041]) :: (190, 4, 0, 0, 1, 0, []) :: (191, 1, 1, 0, 1, 0, []) :: (192, 1, 1, 0, 1, 0, []) :: (193, 2, 0, 5, 2, 0, []) :: (195, 32, 0, 9, 4, 372, [11, 2038, 2040, 95, 116, 2041]) :: (198, 0, 0, 0, 0, 0, []) :: (199, 5, 0, 6, 2, 0, []) :: (201, 43, 0, 0, 201, 0, []) :: kX11_rest_201
def kX11_rest_145 : List mIn := (145, 2, 0, 6, 2, 0, []) :: (147, 2, 0, 5, 2, 0, []) :: (149, 19, 0, 3, 173, 0, []) :: (152, 4, 0, 0, 1, 0, []) :: (153, 24, 0, 11, 23, 43, [1598]) :: (156, 2, 0, 6, 2, 0, []) :: (158, 4, 0, 0, 1, 0, []) :: (159, 2, 0, 3, 1, 0, []) :: (160, 2, 0, 6, 2, 0, []) :: (162, 32, 0, 7, 3, 303, [11, 1945, 1947, 82, 116, 1948]) :: (165, 13, 0, 0, 0, 0, []) :: (166, 27, 0, 23, 0, 0, []) :: (167, 8, 1, 6, 0, 0, []) :: (170, 22, 0, 0, 145, 0, []) :: kX11_rest_173
def kX11_rest_137 : List mIn := (137, 4, 0, 0, 1, 0, []) :: (138, 2, 0, 2, 1, 0, []) :: (139, 32, 0, 6, 2, 354, [11, 2022, 2024, 92, 116, 2025]) :: (142, 0, 0, 0, 0, 0, []) :: (143, 5, 0, 6, 2, 0, []) :: (145, 43, 0, 0, 145, 0, []) :: kX11_rest_145
def kX11_rest_109 : List mIn := (109, 2, 0, 6, 2, 0, []) :: (111, 2, 0, 5, 2, 0, []) :: (113, 19, 0, 3, 137, 0, []) :: (116, 4, 0, 0, 1, 0, []) :: (117, 24, 0, 11, 22, 39, [1597]) :: (120, 2, 0, 6, 2, 0, []) :: (122, 4, 0, 0, 1, 0, []) :: (123, 2, 0, 3, 1, 0, []) :: (124, 2, 0, 6, 2, 0, []) :: (126, 32, 0, 7, 3, 303, [11, 1945, 1947, 82, 116, 1948]) :: (129, 13, 0, 0, 0, 0, []) :: (130, 27, 0, 23, 0, 0, []) :: (131, 8, 1, 6, 0, 0, []) :: (134, 22, 0, 0, 109, 0, []) :: kX11_rest_137
def kX11_rest_97 : List mIn := (97, 4, 0, 0, 1, 0, []) :: (98, 32, 0, 5, 1, 366, [11, 2030, 2032, 93, 116, 2033]) :: (101, 4, 0, 0, 1, 0, []) :: (102, 2, 0, 1, 1, 0, []) :: (103, 32, 0, 6, 2, 354, [11, 2022, 2024, 92, 116, 2025]) :: (106, 0, 0, 0, 0, 0, []) :: (107, 5, 0, 6, 2, 0, []) :: (109, 43, 0, 0, 109, 0, []) :: kX11_rest_109
def kX11_rest_74 : List mIn := (74, 4, 0, 0, 1, 0, []) :: (75, 24, 0, 11, 0, 9, [1575]) :: (78, 0, 13, 1, 0, 0, []) :: (80, 2, 0, 3, 1, 0, []) :: (81, 9, 0, 0, 0, 0, []) :: (82, 26, 0, 20, 0, 0, []) :: (83, 5, 0, 5, 2, 0, []) :: (85, 2, 0, 5, 2, 0, []) :: (87, 20, 0, 1, 97, 0, []) :: (90, 4, 0, 0, 1, 0, []) :: (91, 1, 0, 0, 0, 0, []) :: (92, 1, 0, 0, 0, 0, []) :: (93, 32, 0, 4, 3, 325, [11, 1966, 1968, 86, 116, 1969]) :: (96, 33, 0, 4, 0, 0, []) :: kX11_rest_97
def kX11_rest_62 : List mIn := (62, 25, 0, 11, 3, 74, [1578]) :: (65, 4, 0, 0, 1, 0, []) :: (66, 24, 0, 11, 3, 74, [1578]) :: (69, 20, 0, 5, 74, 0, []) :: (72, 0, 0, 0, 0, 0, []) :: (73, 33, 0, 4, 0, 0, []) :: kX11_rest_74
def kX11_rest_61 : List mIn := (61, 0, 0, 0, 0, 0, []) :: kX11_rest_62
def kX11_rest_57 : List mIn := (57, 0, 3, 0, 0, 0, []) :: (58, 22, 0, 0, 62, 0, []) :: kX11_rest_61
def kX11_rest_41 : List mIn := (41, 4, 0, 0, 1, 0, []) :: (42, 2, 0, 1, 1, 0, []) :: (43, 32, 0, 3, 2, 351, [11, 2018, 2020, 91, 116, 2021]) :: (46, 20, 0, 0, 57, 0, []) :: (49, 4, 0, 0, 1, 0, []) :: (50, 2, 0, 2, 1, 0, []) :: (51, 32, 0, 3, 2, 351, [11, 2018, 2020, 91, 116, 2021]) :: (54, 20, 0, 1, 61, 0, []) :: kX11_rest_57
def kX11_rest_26 : List mIn := (26, 2, 0, 4, 2, 0, []) :: (28, 13, 0, 0, 0, 0, []) :: (29, 1, 0, 0, 0, 0, []) :: (30, 1, 1, 0, 1, 0, []) :: (31, 32, 1, 2, 3, 79, [1697, 1698, 116, 1699]) :: (34, 20, 0, 1, 41, 0, []) :: (37, 0, 2, 0, 0, 0, []) :: (38, 22, 0, 0, 62, 0, []) :: kX11_rest_41
def kX11_rest_22 : List mIn := (22, 0, 1, 0, 0, 0, []) :: (23, 22, 0, 0, 62, 0, []) :: kX11_rest_26
def kX11_rest_0 : List mIn := (0, 4, 0, 0, 1, 0, []) :: (1, 2, 0, 1, 1, 0, []) :: (2, 32, 1, 0, 1, 348, [2014, 2015, 116, 2016]) :: (5, 20, 0, 0, 22, 0, []) :: (8, 2, 0, 2, 1, 0, []) :: (9, 32, 1, 0, 1, 348, [2014, 2015, 116, 2016]) :: (12, 20, 0, 0, 22, 0, []) :: (15, 2, 0, 3, 1, 0, []) :: (16, 32, 1, 1, 1, 189, [1772, 1773, 116, 1774]) :: (19, 20, 0, 1, 26, 0, []) :: kX11_rest_22
def kX11_rest : List mIn := kX11_rest_0
def TX11_rest : Nat → mCal := fun a => match a with
  | 0 => calX11_isWay
  | 1 => calX11_isBall
  | 2 => calX11_within
  | 3 => calX11_isKept
  | 4 => calX11_takes
  | 5 => calX11_putsBy
  | 6 => calX11_takesWay
  | 7 => calX11_costOf
  | 8 => calX11_givesBack
  | 9 => calX11_tries
  | _ => (yX11_rest, cX11_rest, 8, (some .boolean), (0, 0, 0, 0))
def calX11_rest : mCal := (yX11_rest, cX11_rest, 8, (some .boolean), (10, 238, 0, 0))
def cutX11_rest : Nat → Option (List Bool) := fun t => mLk t [(109, [true, false, true, true, true, true, true, false]), (145, [true, false, false, true, true, true, true, false]), (201, [true, false, false, false, true, true, true, false]), (211, [true, false, false, false, true, true, true, true])]
theorem okX11_rest : mOK (yX11_rest.cls, cX11_rest, TX11_rest, (some .boolean), (10, 238, 0, 0), 8, mAcf [], mAcf []) kX11_rest = true := by decide +kernel
set_option maxRecDepth 100000 in
theorem sfxX11_rest_22 : mSfx 22 kX11_rest = kX11_rest_22 := rfl
theorem cutX11_rest_22 : cutX11_rest 22 = none := by decide
set_option maxRecDepth 100000 in
theorem sfxX11_rest_26 : mSfx 26 kX11_rest = kX11_rest_26 := rfl
theorem cutX11_rest_26 : cutX11_rest 26 = none := by decide
set_option maxRecDepth 100000 in
theorem sfxX11_rest_41 : mSfx 41 kX11_rest = kX11_rest_41 := rfl
theorem cutX11_rest_41 : cutX11_rest 41 = none := by decide
set_option maxRecDepth 100000 in
theorem sfxX11_rest_57 : mSfx 57 kX11_rest = kX11_rest_57 := rfl
theorem cutX11_rest_57 : cutX11_rest 57 = none := by decide
set_option maxRecDepth 100000 in
theorem sfxX11_rest_61 : mSfx 61 kX11_rest = kX11_rest_61 := rfl
theorem cutX11_rest_61 : cutX11_rest 61 = none := by decide
set_option maxRecDepth 100000 in
theorem sfxX11_rest_62 : mSfx 62 kX11_rest = kX11_rest_62 := rfl
theorem cutX11_rest_62 : cutX11_rest 62 = none := by decide
set_option maxRecDepth 100000 in
theorem sfxX11_rest_74 : mSfx 74 kX11_rest = kX11_rest_74 := rfl
theorem cutX11_rest_74 : cutX11_rest 74 = none := by decide
set_option maxRecDepth 100000 in
theorem sfxX11_rest_97 : mSfx 97 kX11_rest = kX11_rest_97 := rfl
theorem cutX11_rest_97 : cutX11_rest 97 = none := by decide
set_option maxRecDepth 100000 in
theorem sfxX11_rest_109 : mSfx 109 kX11_rest = kX11_rest_109 := rfl
theorem cutX11_rest_109 : cutX11_rest 109 = some [true, false, true, true, true, true, true, false] := by decide
set_option maxRecDepth 100000 in
theorem sfxX11_rest_137 : mSfx 137 kX11_rest = kX11_rest_137 := rfl
theorem cutX11_rest_137 : cutX11_rest 137 = none := by decide
set_option maxRecDepth 100000 in
theorem sfxX11_rest_145 : mSfx 145 kX11_rest = kX11_rest_145 := rfl
theorem cutX11_rest_145 : cutX11_rest 145 = some [true, false, false, true, true, true, true, false] := by decide
set_option maxRecDepth 100000 in
theorem sfxX11_rest_173 : mSfx 173 kX11_rest = kX11_rest_173 := rfl
theorem cutX11_rest_173 : cutX11_rest 173 = none := by decide
set_option maxRecDepth 100000 in
theorem sfxX11_rest_201 : mSfx 201 kX11_rest = kX11_rest_201 := rfl
theorem cutX11_rest_201 : cutX11_rest 201 = some [true, false, false, false, true, true, true, false] := by decide
set_option maxRecDepth 100000 in
theorem sfxX11_rest_211 : mSfx 211 kX11_rest = kX11_rest_211 := rfl
theorem cutX11_rest_211 : cutX11_rest 211 = some [true, false, false, false, true, true, true, true] := by decide
set_option maxRecDepth 100000 in
theorem sfxX11_rest_276 : mSfx 276 kX11_rest = kX11_rest_276 := rfl
theorem cutX11_rest_276 : cutX11_rest 276 = none := by decide
set_option maxRecDepth 100000 in
theorem sfxX11_rest_282 : mSfx 282 kX11_rest = kX11_rest_282 := rfl
theorem cutX11_rest_282 : cutX11_rest 282 = none := by decide
set_option maxRecDepth 100000 in
theorem sfxX11_rest_302 : mSfx 302 kX11_rest = kX11_rest_302 := rfl
theorem cutX11_rest_302 : cutX11_rest 302 = none := by decide
set_option maxRecDepth 100000 in
theorem sfxX11_rest_318 : mSfx 318 kX11_rest = kX11_rest_318 := rfl
theorem cutX11_rest_318 : cutX11_rest 318 = none := by decide
def kX11_walk_274 : List mIn := (274, 4, 0, 0, 1, 0, []) :: (275, 24, 0, 11, 29, 52, [1604]) :: (278, 0, 1, 0, 0, 0, []) :: (279, 2, 0, 3, 1, 0, []) :: (280, 9, 0, 6, 0, 0, []) :: (281, 0, 1, 0, 0, 0, []) :: (282, 9, 0, 1, 0, 0, []) :: (283, 26, 0, 20, 0, 0, []) :: (284, 33, 0, 1, 0, 0, []) :: []
def kX11_walk_268 : List mIn := (268, 8, 1, 5, 0, 0, []) :: (271, 22, 0, 0, 166, 0, []) :: kX11_walk_274
def kX11_walk_262 : List mIn := (262, 8, 1, 7, 0, 0, []) :: (265, 22, 0, 0, 196, 0, []) :: kX11_walk_268
def kX11_walk_196 : List mIn := (196, 2, 0, 7, 2, 0, []) :: (198, 2, 0, 3, 1, 0, []) :: (199, 19, 0, 3, 268, 0, []) :: (202, 2, 0, 5, 2, 0, []) :: (204, 2, 0, 7, 2, 0, []) :: (206, 9, 0, 7, 0, 0, []) :: (207, 0, 1, 0, 0, 0, []) :: (208, 9, 0, 3, 0, 0, []) :: (209, 0, 1, 0, 0, 0, []) :: (210, 19, 0, 1, 262, 0, []) :: (213, 4, 0, 0, 1, 0, []) :: (214, 24, 0, 11, 29, 52, [1604]) :: (217, 2, 0, 5, 2, 0, []) :: (219, 4, 0, 0, 1, 0, []) :: (220, 24, 0, 11, 29, 52, [1604]) :: (223, 2, 0, 5, 2, 0, []) :: (225, 26, 0, 20, 0, 0, []) :: (226, 4, 0, 0, 1, 0, []) :: (227, 24, 0, 11, 29, 52, [1604]) :: (230, 2, 0, 5, 2, 0, []) :: (232, 0, 1, 0, 0, 0, []) :: (233, 2, 0, 7, 2, 0, []) :: (235, 9, 0, 6, 0, 0, []) :: (236, 0, (-1), 0, 0, 0, []) :: (237, 9, 0, 5, 0, 0, []) :: (238, 9, 0, 3, 0, 0, []) :: (239, 26, 0, 20, 0, 0, []) :: (240, 4, 0, 0, 1, 0, []) :: (241, 24, 0, 11, 27, 46, [1602]) :: (244, 2, 0, 6, 2, 0, []) :: (246, 26, 0, 20, 0, 0, []) :: (247, 4, 0, 0, 1, 0, []) :: (248, 24, 0, 11, 28, 49, [1603]) :: (251, 2, 0, 7, 2, 0, []) :: (253, 26, 0, 20, 0, 0, []) :: (254, 32, 1, 3, 2, 223, [1878, 1879, 116, 1880]) :: (257, 9, 0, 0, 0, 0, []) :: (258, 40, 0, 1, 0, 291, [1940, 709, 121, 710]) :: (261, 27, 0, 20, 0, 0, []) :: kX11_walk_262
def kX11_walk_166 : List mIn := (166, 2, 0, 5, 2, 0, []) :: (168, 0, 1, 0, 0, 0, []) :: (169, 2, 0, 3, 1, 0, []) :: (170, 9, 0, 6, 0, 0, []) :: (171, 19, 0, 3, 274, 0, []) :: (174, 2, 0, 5, 2, 0, []) :: (176, 32, 1, 2, 1, 376, [2046, 1307, 129, 1308]) :: (179, 0, 1, 0, 0, 0, []) :: (180, 9, 0, 1, 0, 0, []) :: (181, 5, 0, 6, 2, 0, []) :: (183, 4, 0, 0, 1, 0, []) :: (184, 24, 0, 11, 29, 52, [1604]) :: (187, 2, 0, 5, 2, 0, []) :: (189, 0, 1000000, 4, 381, 2047, []) :: (192, 27, 0, 20, 0, 0, []) :: (193, 0, 0, 0, 0, 0, []) :: (194, 5, 0, 7, 2, 0, []) :: (196, 43, 0, 0, 196, 0, []) :: kX11_walk_196
def kX11_walk_156 : List mIn := (156, 4, 0, 0, 1, 0, []) :: (157, 24, 0, 11, 29, 52, [1604]) :: (160, 0, 0, 0, 0, 0, []) :: (161, 0, 0, 0, 0, 0, []) :: (162, 27, 0, 20, 0, 0, []) :: (163, 0, 1, 0, 0, 0, []) :: (164, 5, 0, 5, 2, 0, []) :: (166, 43, 0, 0, 166, 0, []) :: kX11_walk_166
def kX11_walk_148 : List mIn := (148, 2, 0, 3, 1, 0, []) :: (149, 2, 0, 4, 2, 0, []) :: (151, 19, 0, 0, 156, 0, []) :: (154, 0, (-1), 0, 0, 0, []) :: (155, 33, 0, 1, 0, 0, []) :: kX11_walk_156
def kX11_walk_142 : List mIn := (142, 8, 1, 5, 0, 0, []) :: (145, 22, 0, 0, 60, 0, []) :: kX11_walk_148
def kX11_walk_124 : List mIn := (124, 2, 0, 7, 2, 0, []) :: (126, 0, (-1), 0, 0, 0, []) :: (127, 19, 0, 0, 142, 0, []) :: (130, 4, 0, 0, 1, 0, []) :: (131, 24, 0, 11, 28, 49, [1603]) :: (134, 2, 0, 4, 2, 0, []) :: (136, 2, 0, 7, 2, 0, []) :: (138, 27, 0, 20, 0, 0, []) :: (139, 8, 1, 4, 0, 0, []) :: kX11_walk_142
def kX11_walk_60 : List mIn := (60, 2, 0, 5, 2, 0, []) :: (62, 0, 9, 1, 0, 0, []) :: (64, 19, 0, 3, 148, 0, []) :: (67, 4, 0, 0, 1, 0, []) :: (68, 24, 0, 11, 0, 9, [1575]) :: (71, 0, 595, 2, 0, 0, []) :: (74, 0, 10, 1, 0, 0, []) :: (76, 2, 0, 1, 1, 0, []) :: (77, 9, 0, 2, 0, 0, []) :: (78, 9, 0, 0, 0, 0, []) :: (79, 0, 1, 0, 0, 0, []) :: (80, 9, 0, 0, 0, 0, []) :: (81, 2, 0, 5, 2, 0, []) :: (83, 9, 0, 0, 0, 0, []) :: (84, 26, 0, 20, 0, 0, []) :: (85, 5, 0, 6, 2, 0, []) :: (87, 4, 0, 0, 1, 0, []) :: (88, 24, 0, 11, 0, 9, [1575]) :: (91, 0, 595, 2, 0, 0, []) :: (94, 0, 10, 1, 0, 0, []) :: (96, 2, 0, 2, 1, 0, []) :: (97, 9, 0, 2, 0, 0, []) :: (98, 9, 0, 0, 0, 0, []) :: (99, 0, 1, 0, 0, 0, []) :: (100, 9, 0, 0, 0, 0, []) :: (101, 2, 0, 5, 2, 0, []) :: (103, 9, 0, 0, 0, 0, []) :: (104, 26, 0, 20, 0, 0, []) :: (105, 5, 0, 7, 2, 0, []) :: (107, 2, 0, 6, 2, 0, []) :: (109, 0, (-1), 0, 0, 0, []) :: (110, 19, 0, 0, 124, 0, []) :: (113, 4, 0, 0, 1, 0, []) :: (114, 24, 0, 11, 27, 46, [1602]) :: (117, 2, 0, 3, 1, 0, []) :: (118, 2, 0, 6, 2, 0, []) :: (120, 27, 0, 20, 0, 0, []) :: (121, 8, 1, 3, 0, 0, []) :: kX11_walk_124
def kX11_walk_52 : List mIn := (52, 0, 0, 0, 0, 0, []) :: (53, 5, 0, 3, 1, 0, []) :: (54, 0, 0, 0, 0, 0, []) :: (55, 5, 0, 4, 2, 0, []) :: (57, 0, 0, 0, 0, 0, []) :: (58, 5, 0, 5, 2, 0, []) :: (60, 43, 0, 0, 60, 0, []) :: kX11_walk_60
def kX11_walk_40 : List mIn := (40, 25, 0, 11, 3, 74, [1578]) :: (43, 4, 0, 0, 1, 0, []) :: (44, 24, 0, 11, 3, 74, [1578]) :: (47, 20, 0, 5, 52, 0, []) :: (50, 0, 0, 0, 0, 0, []) :: (51, 33, 0, 1, 0, 0, []) :: kX11_walk_52
def kX11_walk_39 : List mIn := (39, 0, 0, 0, 0, 0, []) :: kX11_walk_40
def kX11_walk_35 : List mIn := (35, 0, 2, 0, 0, 0, []) :: (36, 22, 0, 0, 40, 0, []) :: kX11_walk_39
def kX11_walk_19 : List mIn := (19, 4, 0, 0, 1, 0, []) :: (20, 2, 0, 1, 1, 0, []) :: (21, 32, 0, 1, 2, 351, [11, 2018, 2020, 91, 116, 2021]) :: (24, 20, 0, 0, 35, 0, []) :: (27, 4, 0, 0, 1, 0, []) :: (28, 2, 0, 2, 1, 0, []) :: (29, 32, 0, 1, 2, 351, [11, 2018, 2020, 91, 116, 2021]) :: (32, 20, 0, 1, 39, 0, []) :: kX11_walk_35
def kX11_walk_15 : List mIn := (15, 0, 1, 0, 0, 0, []) :: (16, 22, 0, 0, 40, 0, []) :: kX11_walk_19
def kX11_walk_0 : List mIn := (0, 4, 0, 0, 1, 0, []) :: (1, 2, 0, 1, 1, 0, []) :: (2, 32, 1, 0, 1, 348, [2014, 2015, 116, 2016]) :: (5, 20, 0, 0, 15, 0, []) :: (8, 2, 0, 2, 1, 0, []) :: (9, 32, 1, 0, 1, 348, [2014, 2015, 116, 2016]) :: (12, 20, 0, 1, 19, 0, []) :: kX11_walk_15
def kX11_walk : List mIn := kX11_walk_0
def TX11_walk : Nat → mCal := fun a => match a with
  | 0 => calX11_isWay
  | 1 => calX11_isKept
  | 2 => calJ6_bitCount_0f7a4
  | 3 => calX11_far
  | _ => (yX11_walk, cX11_walk, 8, (some .int), (0, 0, 0, 0))
def calX11_walk : mCal := (yX11_walk, cX11_walk, 8, (some .int), (2, 45, 0, 0))
def cutX11_walk : Nat → Option (List Bool) := fun t => mLk t [(60, [true, true, true, true, true, true, false, false]), (166, [true, false, false, true, false, true, false, false]), (196, [true, false, false, true, false, true, true, true])]
theorem okX11_walk : mOK (yX11_walk.cls, cX11_walk, TX11_walk, (some .int), (2, 45, 0, 0), 8, mAcf [], mAcf []) kX11_walk = true := by decide +kernel
set_option maxRecDepth 100000 in
theorem sfxX11_walk_15 : mSfx 15 kX11_walk = kX11_walk_15 := rfl
theorem cutX11_walk_15 : cutX11_walk 15 = none := by decide
set_option maxRecDepth 100000 in
theorem sfxX11_walk_19 : mSfx 19 kX11_walk = kX11_walk_19 := rfl
theorem cutX11_walk_19 : cutX11_walk 19 = none := by decide
set_option maxRecDepth 100000 in
theorem sfxX11_walk_35 : mSfx 35 kX11_walk = kX11_walk_35 := rfl
theorem cutX11_walk_35 : cutX11_walk 35 = none := by decide
set_option maxRecDepth 100000 in
theorem sfxX11_walk_39 : mSfx 39 kX11_walk = kX11_walk_39 := rfl
theorem cutX11_walk_39 : cutX11_walk 39 = none := by decide
set_option maxRecDepth 100000 in
theorem sfxX11_walk_40 : mSfx 40 kX11_walk = kX11_walk_40 := rfl
theorem cutX11_walk_40 : cutX11_walk 40 = none := by decide
set_option maxRecDepth 100000 in
theorem sfxX11_walk_52 : mSfx 52 kX11_walk = kX11_walk_52 := rfl
theorem cutX11_walk_52 : cutX11_walk 52 = none := by decide
set_option maxRecDepth 100000 in
theorem sfxX11_walk_60 : mSfx 60 kX11_walk = kX11_walk_60 := rfl
theorem cutX11_walk_60 : cutX11_walk 60 = some [true, true, true, true, true, true, false, false] := by decide
set_option maxRecDepth 100000 in
theorem sfxX11_walk_124 : mSfx 124 kX11_walk = kX11_walk_124 := rfl
theorem cutX11_walk_124 : cutX11_walk 124 = none := by decide
set_option maxRecDepth 100000 in
theorem sfxX11_walk_142 : mSfx 142 kX11_walk = kX11_walk_142 := rfl
theorem cutX11_walk_142 : cutX11_walk 142 = none := by decide
set_option maxRecDepth 100000 in
theorem sfxX11_walk_148 : mSfx 148 kX11_walk = kX11_walk_148 := rfl
theorem cutX11_walk_148 : cutX11_walk 148 = none := by decide
set_option maxRecDepth 100000 in
theorem sfxX11_walk_156 : mSfx 156 kX11_walk = kX11_walk_156 := rfl
theorem cutX11_walk_156 : cutX11_walk 156 = none := by decide
set_option maxRecDepth 100000 in
theorem sfxX11_walk_166 : mSfx 166 kX11_walk = kX11_walk_166 := rfl
theorem cutX11_walk_166 : cutX11_walk 166 = some [true, false, false, true, false, true, false, false] := by decide
set_option maxRecDepth 100000 in
theorem sfxX11_walk_196 : mSfx 196 kX11_walk = kX11_walk_196 := rfl
theorem cutX11_walk_196 : cutX11_walk 196 = some [true, false, false, true, false, true, true, true] := by decide
set_option maxRecDepth 100000 in
theorem sfxX11_walk_262 : mSfx 262 kX11_walk = kX11_walk_262 := rfl
theorem cutX11_walk_262 : cutX11_walk 262 = none := by decide
set_option maxRecDepth 100000 in
theorem sfxX11_walk_268 : mSfx 268 kX11_walk = kX11_walk_268 := rfl
theorem cutX11_walk_268 : cutX11_walk 268 = none := by decide
set_option maxRecDepth 100000 in
theorem sfxX11_walk_274 : mSfx 274 kX11_walk = kX11_walk_274 := rfl
theorem cutX11_walk_274 : cutX11_walk 274 = none := by decide
def kX11_tells_161 : List mIn := (161, 4, 0, 0, 1, 0, []) :: (162, 32, 0, 6, 1, 369, [11, 2034, 2036, 94, 116, 2037]) :: (165, 2, 0, 3, 1, 0, []) :: (166, 33, 0, 1, 0, 0, []) :: []
def kX11_tells_155 : List mIn := (155, 8, 1, 8, 0, 0, []) :: (158, 22, 0, 0, 67, 0, []) :: kX11_tells_161
def kX11_tells_140 : List mIn := (140, 2, 0, 8, 2, 0, []) :: (142, 5, 0, 3, 1, 0, []) :: (143, 3, 0, 9, 2, 0, []) :: (145, 6, 0, 4, 2, 0, []) :: (147, 4, 0, 0, 1, 0, []) :: (148, 2, 0, 8, 2, 0, []) :: (150, 32, 0, 5, 2, 322, [11, 1961, 1963, 85, 116, 1964]) :: (153, 6, 0, 6, 2, 0, []) :: kX11_tells_155
def kX11_tells_90 : List mIn := (90, 4, 0, 0, 1, 0, []) :: (91, 2, 0, 1, 1, 0, []) :: (92, 32, 0, 3, 2, 354, [11, 2022, 2024, 92, 116, 2025]) :: (95, 4, 0, 0, 1, 0, []) :: (96, 2, 0, 8, 2, 0, []) :: (98, 32, 0, 4, 2, 319, [11, 1953, 1955, 83, 116, 1956]) :: (101, 6, 0, 9, 2, 0, []) :: (103, 4, 0, 0, 1, 0, []) :: (104, 2, 0, 2, 1, 0, []) :: (105, 32, 0, 3, 2, 354, [11, 2022, 2024, 92, 116, 2025]) :: (108, 3, 0, 9, 2, 0, []) :: (110, 4, 0, 0, 1, 0, []) :: (111, 2, 0, 8, 2, 0, []) :: (113, 32, 0, 4, 2, 319, [11, 1953, 1955, 83, 116, 1956]) :: (116, 11, 0, 1, 0, 0, []) :: (117, 6, 0, 9, 2, 0, []) :: (119, 3, 0, 9, 2, 0, []) :: (121, 3, 0, 6, 2, 0, []) :: (123, 11, 0, 2, 0, 0, []) :: (124, 3, 0, 4, 2, 0, []) :: (126, 4, 0, 0, 1, 0, []) :: (127, 2, 0, 8, 2, 0, []) :: (129, 32, 0, 5, 2, 322, [11, 1961, 1963, 85, 116, 1964]) :: (132, 11, 0, 2, 0, 0, []) :: (133, 21, 0, 4, 140, 0, []) :: (137, 22, 0, 0, 155, 0, []) :: kX11_tells_140
def kX11_tells_67 : List mIn := (67, 2, 0, 8, 2, 0, []) :: (69, 0, 6, 1, 0, 0, []) :: (71, 19, 0, 3, 161, 0, []) :: (74, 4, 0, 0, 1, 0, []) :: (75, 24, 0, 11, 0, 9, [1575]) :: (78, 0, 13, 1, 0, 0, []) :: (80, 2, 0, 8, 2, 0, []) :: (82, 9, 0, 0, 0, 0, []) :: (83, 26, 0, 20, 0, 0, []) :: (84, 20, 0, 1, 90, 0, []) :: (87, 22, 0, 0, 155, 0, []) :: kX11_tells_90
def kX11_tells_52 : List mIn := (52, 4, 0, 0, 1, 0, []) :: (53, 32, 0, 2, 1, 366, [11, 2030, 2032, 93, 116, 2033]) :: (56, 0, (-1), 0, 0, 0, []) :: (57, 5, 0, 3, 1, 0, []) :: (58, 1, 0, 0, 0, 0, []) :: (59, 6, 0, 4, 2, 0, []) :: (61, 1, 1, 0, 1, 0, []) :: (62, 6, 0, 6, 2, 0, []) :: (64, 0, 0, 0, 0, 0, []) :: (65, 5, 0, 8, 2, 0, []) :: (67, 43, 0, 0, 67, 0, []) :: kX11_tells_67
def kX11_tells_40 : List mIn := (40, 25, 0, 11, 3, 74, [1578]) :: (43, 4, 0, 0, 1, 0, []) :: (44, 24, 0, 11, 3, 74, [1578]) :: (47, 20, 0, 5, 52, 0, []) :: (50, 0, 0, 0, 0, 0, []) :: (51, 33, 0, 1, 0, 0, []) :: kX11_tells_52
def kX11_tells_39 : List mIn := (39, 0, 0, 0, 0, 0, []) :: kX11_tells_40
def kX11_tells_35 : List mIn := (35, 0, 2, 0, 0, 0, []) :: (36, 22, 0, 0, 40, 0, []) :: kX11_tells_39
def kX11_tells_19 : List mIn := (19, 4, 0, 0, 1, 0, []) :: (20, 2, 0, 1, 1, 0, []) :: (21, 32, 0, 1, 2, 351, [11, 2018, 2020, 91, 116, 2021]) :: (24, 20, 0, 0, 35, 0, []) :: (27, 4, 0, 0, 1, 0, []) :: (28, 2, 0, 2, 1, 0, []) :: (29, 32, 0, 1, 2, 351, [11, 2018, 2020, 91, 116, 2021]) :: (32, 20, 0, 1, 39, 0, []) :: kX11_tells_35
def kX11_tells_15 : List mIn := (15, 0, 1, 0, 0, 0, []) :: (16, 22, 0, 0, 40, 0, []) :: kX11_tells_19
def kX11_tells_0 : List mIn := (0, 4, 0, 0, 1, 0, []) :: (1, 2, 0, 1, 1, 0, []) :: (2, 32, 1, 0, 1, 348, [2014, 2015, 116, 2016]) :: (5, 20, 0, 0, 15, 0, []) :: (8, 2, 0, 2, 1, 0, []) :: (9, 32, 1, 0, 1, 348, [2014, 2015, 116, 2016]) :: (12, 20, 0, 1, 19, 0, []) :: kX11_tells_15
def kX11_tells : List mIn := kX11_tells_0
def TX11_tells : Nat → mCal := fun a => match a with
  | 0 => calX11_isWay
  | 1 => calX11_isKept
  | 2 => calX11_putsBy
  | 3 => calX11_takesWay
  | 4 => calX11_meanOf
  | 5 => calX11_lowOf
  | 6 => calX11_givesBack
  | _ => (yX11_tells, cX11_tells, 11, (some .int), (0, 0, 0, 0))
def calX11_tells : mCal := (yX11_tells, cX11_tells, 11, (some .int), (11, 266, 0, 0))
def cutX11_tells : Nat → Option (List Bool) := fun t => mLk t [(67, [true, true, true, true, true, false, true, false, true, false, false])]
theorem okX11_tells : mOK (yX11_tells.cls, cX11_tells, TX11_tells, (some .int), (11, 266, 0, 0), 11, mAcf [], mAcf []) kX11_tells = true := by decide +kernel
set_option maxRecDepth 100000 in
theorem sfxX11_tells_15 : mSfx 15 kX11_tells = kX11_tells_15 := rfl
theorem cutX11_tells_15 : cutX11_tells 15 = none := by decide
set_option maxRecDepth 100000 in
theorem sfxX11_tells_19 : mSfx 19 kX11_tells = kX11_tells_19 := rfl
theorem cutX11_tells_19 : cutX11_tells 19 = none := by decide
set_option maxRecDepth 100000 in
theorem sfxX11_tells_35 : mSfx 35 kX11_tells = kX11_tells_35 := rfl
theorem cutX11_tells_35 : cutX11_tells 35 = none := by decide
set_option maxRecDepth 100000 in
theorem sfxX11_tells_39 : mSfx 39 kX11_tells = kX11_tells_39 := rfl
theorem cutX11_tells_39 : cutX11_tells 39 = none := by decide
set_option maxRecDepth 100000 in
theorem sfxX11_tells_40 : mSfx 40 kX11_tells = kX11_tells_40 := rfl
theorem cutX11_tells_40 : cutX11_tells 40 = none := by decide
set_option maxRecDepth 100000 in
theorem sfxX11_tells_52 : mSfx 52 kX11_tells = kX11_tells_52 := rfl
theorem cutX11_tells_52 : cutX11_tells 52 = none := by decide
set_option maxRecDepth 100000 in
theorem sfxX11_tells_67 : mSfx 67 kX11_tells = kX11_tells_67 := rfl
theorem cutX11_tells_67 : cutX11_tells 67 = some [true, true, true, true, true, false, true, false, true, false, false] := by decide
set_option maxRecDepth 100000 in
theorem sfxX11_tells_90 : mSfx 90 kX11_tells = kX11_tells_90 := rfl
theorem cutX11_tells_90 : cutX11_tells 90 = none := by decide
set_option maxRecDepth 100000 in
theorem sfxX11_tells_140 : mSfx 140 kX11_tells = kX11_tells_140 := rfl
theorem cutX11_tells_140 : cutX11_tells 140 = none := by decide
set_option maxRecDepth 100000 in
theorem sfxX11_tells_155 : mSfx 155 kX11_tells = kX11_tells_155 := rfl
theorem cutX11_tells_155 : cutX11_tells 155 = none := by decide
set_option maxRecDepth 100000 in
theorem sfxX11_tells_161 : mSfx 161 kX11_tells = kX11_tells_161 := rfl
theorem cutX11_tells_161 : cutX11_tells 161 = none := by decide
def kX11_bowl_66 : List mIn := (66, 2, 0, 1, 1, 0, []) :: (67, 33, 0, 1, 0, 0, []) :: []
def kX11_bowl_60 : List mIn := (60, 8, 1, 2, 0, 0, []) :: (63, 22, 0, 0, 9, 0, []) :: kX11_bowl_66
def kX11_bowl_58 : List mIn := (58, 2, 0, 2, 1, 0, []) :: (59, 5, 0, 1, 1, 0, []) :: kX11_bowl_60
def kX11_bowl_9 : List mIn := (9, 2, 0, 2, 1, 0, []) :: (10, 0, 6, 1, 0, 0, []) :: (12, 19, 0, 3, 66, 0, []) :: (15, 4, 0, 0, 1, 0, []) :: (16, 24, 0, 11, 0, 9, [1575]) :: (19, 0, 13, 1, 0, 0, []) :: (21, 2, 0, 2, 1, 0, []) :: (22, 9, 0, 0, 0, 0, []) :: (23, 26, 0, 20, 0, 0, []) :: (24, 20, 0, 5, 60, 0, []) :: (27, 2, 0, 1, 1, 0, []) :: (28, 0, (-1), 0, 0, 0, []) :: (29, 19, 0, 0, 58, 0, []) :: (32, 4, 0, 0, 1, 0, []) :: (33, 2, 0, 2, 1, 0, []) :: (34, 32, 0, 0, 2, 319, [11, 1953, 1955, 83, 116, 1956]) :: (37, 4, 0, 0, 1, 0, []) :: (38, 2, 0, 1, 1, 0, []) :: (39, 32, 0, 1, 2, 322, [11, 1961, 1963, 85, 116, 1964]) :: (42, 11, 0, 2, 0, 0, []) :: (43, 4, 0, 0, 1, 0, []) :: (44, 2, 0, 1, 1, 0, []) :: (45, 32, 0, 0, 2, 319, [11, 1953, 1955, 83, 116, 1956]) :: (48, 4, 0, 0, 1, 0, []) :: (49, 2, 0, 2, 1, 0, []) :: (50, 32, 0, 1, 2, 322, [11, 1961, 1963, 85, 116, 1964]) :: (53, 11, 0, 2, 0, 0, []) :: (54, 21, 0, 3, 60, 0, []) :: kX11_bowl_58
def kX11_bowl_0 : List mIn := (0, 4, 0, 0, 1, 0, []) :: (1, 0, 0, 0, 0, 0, []) :: (2, 25, 0, 11, 3, 74, [1578]) :: (5, 0, (-1), 0, 0, 0, []) :: (6, 5, 0, 1, 1, 0, []) :: (7, 0, 0, 0, 0, 0, []) :: (8, 5, 0, 2, 1, 0, []) :: (9, 43, 0, 0, 9, 0, []) :: kX11_bowl_9
def kX11_bowl : List mIn := kX11_bowl_0
def TX11_bowl : Nat → mCal := fun a => match a with
  | 0 => calX11_meanOf
  | 1 => calX11_lowOf
  | _ => (yX11_bowl, cX11_bowl, 3, (some .int), (0, 0, 0, 0))
def calX11_bowl : mCal := (yX11_bowl, cX11_bowl, 3, (some .int), (11, 266, 0, 0))
def cutX11_bowl : Nat → Option (List Bool) := fun t => mLk t [(9, [true, true, true])]
theorem okX11_bowl : mOK (yX11_bowl.cls, cX11_bowl, TX11_bowl, (some .int), (11, 266, 0, 0), 3, mAcf [], mAcf []) kX11_bowl = true := by decide +kernel
set_option maxRecDepth 100000 in
theorem sfxX11_bowl_9 : mSfx 9 kX11_bowl = kX11_bowl_9 := rfl
theorem cutX11_bowl_9 : cutX11_bowl 9 = some [true, true, true] := by decide
set_option maxRecDepth 100000 in
theorem sfxX11_bowl_58 : mSfx 58 kX11_bowl = kX11_bowl_58 := rfl
theorem cutX11_bowl_58 : cutX11_bowl 58 = none := by decide
set_option maxRecDepth 100000 in
theorem sfxX11_bowl_60 : mSfx 60 kX11_bowl = kX11_bowl_60 := rfl
theorem cutX11_bowl_60 : cutX11_bowl 60 = none := by decide
set_option maxRecDepth 100000 in
theorem sfxX11_bowl_66 : mSfx 66 kX11_bowl = kX11_bowl_66 := rfl
theorem cutX11_bowl_66 : cutX11_bowl 66 = none := by decide
def kX11_swaps_0 : List mIn := (0, 4, 0, 0, 1, 0, []) :: (1, 24, 0, 11, 30, 55, [1605]) :: (4, 2, 0, 1, 1, 0, []) :: (5, 26, 0, 20, 0, 0, []) :: (6, 5, 0, 3, 1, 0, []) :: (7, 4, 0, 0, 1, 0, []) :: (8, 24, 0, 11, 30, 55, [1605]) :: (11, 2, 0, 1, 1, 0, []) :: (12, 4, 0, 0, 1, 0, []) :: (13, 24, 0, 11, 30, 55, [1605]) :: (16, 2, 0, 2, 1, 0, []) :: (17, 26, 0, 20, 0, 0, []) :: (18, 27, 0, 20, 0, 0, []) :: (19, 4, 0, 0, 1, 0, []) :: (20, 24, 0, 11, 30, 55, [1605]) :: (23, 2, 0, 2, 1, 0, []) :: (24, 2, 0, 3, 1, 0, []) :: (25, 27, 0, 20, 0, 0, []) :: (26, 33, 0, 0, 0, 0, []) :: []
def kX11_swaps : List mIn := kX11_swaps_0
def TX11_swaps : Nat → mCal := fun a => match a with
  | _ => (yX11_swaps, cX11_swaps, 4, none, (0, 0, 0, 0))
def calX11_swaps : mCal := (yX11_swaps, cX11_swaps, 4, none, (0, 0, 0, 0))
def cutX11_swaps : Nat → Option (List Bool) := fun t => mLk t []
theorem okX11_swaps : mOK (yX11_swaps.cls, cX11_swaps, TX11_swaps, none, (0, 0, 0, 0), 4, mAcf [], mAcf []) kX11_swaps = true := by decide +kernel
def kX11_goesOn_102 : List mIn := (102, 0, 1, 0, 0, 0, []) :: (103, 33, 0, 4, 0, 0, []) :: []
def kX11_goesOn_78 : List mIn := (78, 2, 0, 4, 2, 0, []) :: (80, 2, 0, 5, 2, 0, []) :: (82, 19, 0, 3, 102, 0, []) :: (85, 4, 0, 0, 1, 0, []) :: (86, 2, 0, 4, 2, 0, []) :: (88, 2, 0, 5, 2, 0, []) :: (90, 32, 0, 0, 3, 382, [11, 2072, 2074, 98, 116, 2075]) :: (93, 8, 1, 4, 0, 0, []) :: (96, 8, (-1), 5, 0, 0, []) :: (99, 22, 0, 0, 78, 0, []) :: kX11_goesOn_102
def kX11_goesOn_62 : List mIn := (62, 4, 0, 0, 1, 0, []) :: (63, 2, 0, 2, 1, 0, []) :: (64, 2, 0, 3, 1, 0, []) :: (65, 32, 0, 0, 3, 382, [11, 2072, 2074, 98, 116, 2075]) :: (68, 2, 0, 2, 1, 0, []) :: (69, 0, 1, 0, 0, 0, []) :: (70, 9, 0, 0, 0, 0, []) :: (71, 5, 0, 4, 2, 0, []) :: (73, 2, 0, 1, 1, 0, []) :: (74, 0, 1, 0, 0, 0, []) :: (75, 9, 0, 1, 0, 0, []) :: (76, 5, 0, 5, 2, 0, []) :: (78, 43, 0, 0, 78, 0, []) :: kX11_goesOn_78
def kX11_goesOn_41 : List mIn := (41, 4, 0, 0, 1, 0, []) :: (42, 24, 0, 11, 30, 55, [1605]) :: (45, 2, 0, 3, 1, 0, []) :: (46, 26, 0, 20, 0, 0, []) :: (47, 4, 0, 0, 1, 0, []) :: (48, 24, 0, 11, 30, 55, [1605]) :: (51, 2, 0, 2, 1, 0, []) :: (52, 26, 0, 20, 0, 0, []) :: (53, 19, 0, 3, 62, 0, []) :: (56, 8, (-1), 3, 0, 0, []) :: (59, 22, 0, 0, 41, 0, []) :: kX11_goesOn_62
def kX11_goesOn_37 : List mIn := (37, 2, 0, 1, 1, 0, []) :: (38, 0, 1, 0, 0, 0, []) :: (39, 9, 0, 1, 0, 0, []) :: (40, 5, 0, 3, 1, 0, []) :: (41, 43, 0, 0, 41, 0, []) :: kX11_goesOn_41
def kX11_goesOn_31 : List mIn := (31, 2, 0, 2, 1, 0, []) :: (32, 20, 0, 3, 37, 0, []) :: (35, 0, 0, 0, 0, 0, []) :: (36, 33, 0, 4, 0, 0, []) :: kX11_goesOn_37
def kX11_goesOn_4 : List mIn := (4, 2, 0, 2, 1, 0, []) :: (5, 20, 0, 2, 31, 0, []) :: (8, 4, 0, 0, 1, 0, []) :: (9, 24, 0, 11, 30, 55, [1605]) :: (12, 2, 0, 2, 1, 0, []) :: (13, 26, 0, 20, 0, 0, []) :: (14, 4, 0, 0, 1, 0, []) :: (15, 24, 0, 11, 30, 55, [1605]) :: (18, 2, 0, 2, 1, 0, []) :: (19, 0, 1, 0, 0, 0, []) :: (20, 9, 0, 0, 0, 0, []) :: (21, 26, 0, 20, 0, 0, []) :: (22, 19, 0, 5, 31, 0, []) :: (25, 8, (-1), 2, 0, 0, []) :: (28, 22, 0, 0, 4, 0, []) :: kX11_goesOn_31
def kX11_goesOn_0 : List mIn := (0, 2, 0, 1, 1, 0, []) :: (1, 0, 2, 0, 0, 0, []) :: (2, 9, 0, 1, 0, 0, []) :: (3, 5, 0, 2, 1, 0, []) :: (4, 43, 0, 0, 4, 0, []) :: kX11_goesOn_4
def kX11_goesOn : List mIn := kX11_goesOn_0
def TX11_goesOn : Nat → mCal := fun a => match a with
  | 0 => calX11_swaps
  | _ => (yX11_goesOn, cX11_goesOn, 6, (some .boolean), (0, 0, 0, 0))
def calX11_goesOn : mCal := (yX11_goesOn, cX11_goesOn, 6, (some .boolean), (1, 23, 0, 0))
def cutX11_goesOn : Nat → Option (List Bool) := fun t => mLk t [(4, [true, true, true, false, false, false]), (41, [true, true, true, true, false, false]), (78, [true, false, false, false, true, true])]
theorem okX11_goesOn : mOK (yX11_goesOn.cls, cX11_goesOn, TX11_goesOn, (some .boolean), (1, 23, 0, 0), 6, mAcf [], mAcf []) kX11_goesOn = true := by decide +kernel
set_option maxRecDepth 100000 in
theorem sfxX11_goesOn_4 : mSfx 4 kX11_goesOn = kX11_goesOn_4 := rfl
theorem cutX11_goesOn_4 : cutX11_goesOn 4 = some [true, true, true, false, false, false] := by decide
set_option maxRecDepth 100000 in
theorem sfxX11_goesOn_31 : mSfx 31 kX11_goesOn = kX11_goesOn_31 := rfl
theorem cutX11_goesOn_31 : cutX11_goesOn 31 = none := by decide
set_option maxRecDepth 100000 in
theorem sfxX11_goesOn_37 : mSfx 37 kX11_goesOn = kX11_goesOn_37 := rfl
theorem cutX11_goesOn_37 : cutX11_goesOn 37 = none := by decide
set_option maxRecDepth 100000 in
theorem sfxX11_goesOn_41 : mSfx 41 kX11_goesOn = kX11_goesOn_41 := rfl
theorem cutX11_goesOn_41 : cutX11_goesOn 41 = some [true, true, true, true, false, false] := by decide
set_option maxRecDepth 100000 in
theorem sfxX11_goesOn_62 : mSfx 62 kX11_goesOn = kX11_goesOn_62 := rfl
theorem cutX11_goesOn_62 : cutX11_goesOn 62 = none := by decide
set_option maxRecDepth 100000 in
theorem sfxX11_goesOn_78 : mSfx 78 kX11_goesOn = kX11_goesOn_78 := rfl
theorem cutX11_goesOn_78 : cutX11_goesOn 78 = some [true, false, false, false, true, true] := by decide
set_option maxRecDepth 100000 in
theorem sfxX11_goesOn_102 : mSfx 102 kX11_goesOn = kX11_goesOn_102 := rfl
theorem cutX11_goesOn_102 : cutX11_goesOn 102 = none := by decide
def kX11_matched_183 : List mIn := (183, 33, 0, 1, 0, 0, []) :: []
def kX11_matched_182 : List mIn := (182, 0, (-1), 0, 0, 0, []) :: kX11_matched_183
def kX11_matched_151 : List mIn := (151, 4, 0, 0, 1, 0, []) :: (152, 32, 0, 5, 1, 369, [11, 2034, 2036, 94, 116, 2037]) :: (155, 2, 0, 5, 2, 0, []) :: (157, 20, 0, 0, 182, 0, []) :: (160, 4, 0, 0, 1, 0, []) :: (161, 24, 0, 11, 0, 9, [1575]) :: (164, 0, 13, 1, 0, 0, []) :: (166, 2, 0, 1, 1, 0, []) :: (167, 9, 0, 0, 0, 0, []) :: (168, 26, 0, 20, 0, 0, []) :: (169, 20, 0, 5, 182, 0, []) :: (172, 4, 0, 0, 1, 0, []) :: (173, 24, 0, 11, 31, 58, [1606]) :: (176, 2, 0, 4, 2, 0, []) :: (178, 26, 0, 20, 0, 0, []) :: (179, 22, 0, 0, 183, 0, []) :: kX11_matched_182
def kX11_matched_141 : List mIn := (141, 4, 0, 0, 1, 0, []) :: (142, 2, 0, 3, 1, 0, []) :: (143, 32, 0, 4, 2, 385, [11, 2068, 2070, 97, 116, 2071]) :: (146, 5, 0, 8, 2, 0, []) :: (148, 22, 0, 0, 37, 0, []) :: kX11_matched_151
def kX11_matched_115 : List mIn := (115, 2, 0, 11, 2, 0, []) :: (117, 2, 0, 3, 1, 0, []) :: (118, 19, 0, 3, 141, 0, []) :: (121, 4, 0, 0, 1, 0, []) :: (122, 24, 0, 11, 31, 58, [1606]) :: (125, 2, 0, 11, 2, 0, []) :: (127, 4, 0, 0, 1, 0, []) :: (128, 24, 0, 11, 30, 55, [1605]) :: (131, 2, 0, 11, 2, 0, []) :: (133, 26, 0, 20, 0, 0, []) :: (134, 27, 0, 20, 0, 0, []) :: (135, 8, 1, 11, 0, 0, []) :: (138, 22, 0, 0, 115, 0, []) :: kX11_matched_141
def kX11_matched_105 : List mIn := (105, 0, 1, 0, 0, 0, []) :: (106, 5, 0, 5, 2, 0, []) :: (108, 3, 0, 9, 2, 0, []) :: (110, 6, 0, 6, 2, 0, []) :: (112, 0, 0, 0, 0, 0, []) :: (113, 5, 0, 11, 2, 0, []) :: (115, 43, 0, 0, 115, 0, []) :: kX11_matched_115
def kX11_matched_78 : List mIn := (78, 4, 0, 0, 1, 0, []) :: (79, 32, 0, 2, 1, 329, [11, 1986, 1988, 88, 116, 1989]) :: (82, 20, 0, 0, 141, 0, []) :: (85, 4, 0, 0, 1, 0, []) :: (86, 2, 0, 1, 1, 0, []) :: (87, 32, 0, 3, 2, 319, [11, 1953, 1955, 83, 116, 1956]) :: (90, 6, 0, 9, 2, 0, []) :: (92, 2, 0, 5, 2, 0, []) :: (94, 20, 0, 0, 105, 0, []) :: (97, 3, 0, 9, 2, 0, []) :: (99, 3, 0, 6, 2, 0, []) :: (101, 21, 0, 3, 141, 0, []) :: kX11_matched_105
def kX11_matched_45 : List mIn := (45, 2, 0, 9, 2, 0, []) :: (47, 2, 0, 3, 1, 0, []) :: (48, 19, 0, 3, 78, 0, []) :: (51, 4, 0, 0, 1, 0, []) :: (52, 2, 0, 9, 2, 0, []) :: (54, 4, 0, 0, 1, 0, []) :: (55, 24, 0, 11, 35, 67, [1610]) :: (58, 2, 0, 2, 1, 0, []) :: (59, 4, 0, 0, 1, 0, []) :: (60, 24, 0, 11, 30, 55, [1605]) :: (63, 2, 0, 9, 2, 0, []) :: (65, 26, 0, 20, 0, 0, []) :: (66, 9, 0, 0, 0, 0, []) :: (67, 26, 0, 23, 0, 0, []) :: (68, 14, 0, 0, 0, 0, []) :: (69, 32, 0, 1, 3, 253, [11, 1846, 1848, 69, 116, 1849]) :: (72, 8, 1, 9, 0, 0, []) :: (75, 22, 0, 0, 45, 0, []) :: kX11_matched_78
def kX11_matched_37 : List mIn := (37, 2, 0, 8, 2, 0, []) :: (39, 20, 0, 0, 151, 0, []) :: (42, 0, 0, 0, 0, 0, []) :: (43, 5, 0, 9, 2, 0, []) :: (45, 43, 0, 0, 45, 0, []) :: kX11_matched_45
def kX11_matched_28 : List mIn := (28, 0, 0, 0, 0, 0, []) :: (29, 5, 0, 5, 2, 0, []) :: (31, 1, 0, 0, 0, 0, []) :: (32, 6, 0, 6, 2, 0, []) :: (34, 0, 1, 0, 0, 0, []) :: (35, 5, 0, 8, 2, 0, []) :: (37, 43, 0, 0, 37, 0, []) :: kX11_matched_37
def kX11_matched_7 : List mIn := (7, 2, 0, 5, 2, 0, []) :: (9, 2, 0, 3, 1, 0, []) :: (10, 19, 0, 3, 28, 0, []) :: (13, 4, 0, 0, 1, 0, []) :: (14, 24, 0, 11, 30, 55, [1605]) :: (17, 2, 0, 5, 2, 0, []) :: (19, 2, 0, 5, 2, 0, []) :: (21, 27, 0, 20, 0, 0, []) :: (22, 8, 1, 5, 0, 0, []) :: (25, 22, 0, 0, 7, 0, []) :: kX11_matched_28
def kX11_matched_0 : List mIn := (0, 4, 0, 0, 1, 0, []) :: (1, 32, 0, 0, 1, 366, [11, 2030, 2032, 93, 116, 2033]) :: (4, 0, 0, 0, 0, 0, []) :: (5, 5, 0, 5, 2, 0, []) :: (7, 43, 0, 0, 7, 0, []) :: kX11_matched_7
def kX11_matched : List mIn := kX11_matched_0
def TX11_matched : Nat → mCal := fun a => match a with
  | 0 => calX11_putsBy
  | 1 => calX11_puts
  | 2 => calX11_isLawful
  | 3 => calX11_meanOf
  | 4 => calX11_goesOn
  | 5 => calX11_givesBack
  | _ => (yX11_matched, cX11_matched, 12, (some .int), (0, 0, 0, 0))
def calX11_matched : mCal := (yX11_matched, cX11_matched, 12, (some .int), (11, 266, 0, 0))
def cutX11_matched : Nat → Option (List Bool) := fun t => mLk t [(7, [true, true, true, true, true, true, false, false, false, false, false, false]), (37, [true, true, true, true, true, true, true, false, true, false, false, false]), (45, [true, true, true, true, true, true, true, false, false, true, false, false]), (115, [true, true, true, true, true, true, true, false, false, false, false, true])]
theorem okX11_matched : mOK (yX11_matched.cls, cX11_matched, TX11_matched, (some .int), (11, 266, 0, 0), 12, mAcf [], mAcf []) kX11_matched = true := by decide +kernel
set_option maxRecDepth 100000 in
theorem sfxX11_matched_7 : mSfx 7 kX11_matched = kX11_matched_7 := rfl
theorem cutX11_matched_7 : cutX11_matched 7 = some [true, true, true, true, true, true, false, false, false, false, false, false] := by decide
set_option maxRecDepth 100000 in
theorem sfxX11_matched_28 : mSfx 28 kX11_matched = kX11_matched_28 := rfl
theorem cutX11_matched_28 : cutX11_matched 28 = none := by decide
set_option maxRecDepth 100000 in
theorem sfxX11_matched_37 : mSfx 37 kX11_matched = kX11_matched_37 := rfl
theorem cutX11_matched_37 : cutX11_matched 37 = some [true, true, true, true, true, true, true, false, true, false, false, false] := by decide
set_option maxRecDepth 100000 in
theorem sfxX11_matched_45 : mSfx 45 kX11_matched = kX11_matched_45 := rfl
theorem cutX11_matched_45 : cutX11_matched 45 = some [true, true, true, true, true, true, true, false, false, true, false, false] := by decide
set_option maxRecDepth 100000 in
theorem sfxX11_matched_78 : mSfx 78 kX11_matched = kX11_matched_78 := rfl
theorem cutX11_matched_78 : cutX11_matched 78 = none := by decide
set_option maxRecDepth 100000 in
theorem sfxX11_matched_105 : mSfx 105 kX11_matched = kX11_matched_105 := rfl
theorem cutX11_matched_105 : cutX11_matched 105 = none := by decide
set_option maxRecDepth 100000 in
theorem sfxX11_matched_115 : mSfx 115 kX11_matched = kX11_matched_115 := rfl
theorem cutX11_matched_115 : cutX11_matched 115 = some [true, true, true, true, true, true, true, false, false, false, false, true] := by decide
set_option maxRecDepth 100000 in
theorem sfxX11_matched_141 : mSfx 141 kX11_matched = kX11_matched_141 := rfl
theorem cutX11_matched_141 : cutX11_matched 141 = none := by decide
set_option maxRecDepth 100000 in
theorem sfxX11_matched_151 : mSfx 151 kX11_matched = kX11_matched_151 := rfl
theorem cutX11_matched_151 : cutX11_matched 151 = none := by decide
set_option maxRecDepth 100000 in
theorem sfxX11_matched_182 : mSfx 182 kX11_matched = kX11_matched_182 := rfl
theorem cutX11_matched_182 : cutX11_matched 182 = none := by decide
set_option maxRecDepth 100000 in
theorem sfxX11_matched_183 : mSfx 183 kX11_matched = kX11_matched_183 := rfl
theorem cutX11_matched_183 : cutX11_matched 183 = none := by decide
def kX11_isTray_0 : List mIn := (0, 2, 0, 0, 1, 0, []) :: (1, 13, 0, 0, 0, 0, []) :: (2, 1, 0, 0, 0, 0, []) :: (3, 1, 3, 1, 346, 2017, []) :: (6, 32, 1, 0, 3, 79, [1697, 1698, 116, 1699]) :: (9, 33, 0, 4, 0, 0, []) :: []
def kX11_isTray : List mIn := kX11_isTray_0
def TX11_isTray : Nat → mCal := fun a => match a with
  | 0 => calX11_within
  | _ => (yX11_isTray, cX11_isTray, 1, (some .boolean), (0, 0, 0, 0))
def calX11_isTray : mCal := (yX11_isTray, cX11_isTray, 1, (some .boolean), (1, 25, 0, 0))
def cutX11_isTray : Nat → Option (List Bool) := fun t => mLk t []
theorem okX11_isTray : mOK (yX11_isTray.cls, cX11_isTray, TX11_isTray, (some .boolean), (1, 25, 0, 0), 1, mAcf [], mAcf []) kX11_isTray = true := by decide +kernel
def kX11_match_139 : List mIn := (139, 4, 0, 0, 1, 0, []) :: (140, 2, 0, 1, 1, 0, []) :: (141, 0, 40, 1, 0, 0, []) :: (143, 2, 0, 2, 1, 0, []) :: (144, 9, 0, 2, 0, 0, []) :: (145, 2, 0, 3, 1, 0, []) :: (146, 2, 0, 4, 2, 0, []) :: (148, 32, 0, 5, 5, 393, [11, 2064, 2066, 96, 116, 2067]) :: (151, 33, 0, 1, 0, 0, []) :: []
def kX11_match_123 : List mIn := (123, 4, 0, 0, 1, 0, []) :: (124, 24, 0, 11, 34, 64, [1609]) :: (127, 2, 0, 2, 1, 0, []) :: (128, 26, 0, 20, 0, 0, []) :: (129, 2, 0, 3, 1, 0, []) :: (130, 19, 0, 3, 139, 0, []) :: (133, 4, 0, 0, 1, 0, []) :: (134, 0, 4, 0, 0, 0, []) :: (135, 32, 0, 2, 2, 178, [11, 1700, 1702, 49, 116, 1703]) :: (138, 33, 0, 1, 0, 0, []) :: kX11_match_139
def kX11_match_117 : List mIn := (117, 8, 1, 5, 0, 0, []) :: (120, 22, 0, 0, 76, 0, []) :: kX11_match_123
def kX11_match_76 : List mIn := (76, 2, 0, 5, 2, 0, []) :: (78, 2, 0, 3, 1, 0, []) :: (79, 19, 0, 3, 123, 0, []) :: (82, 2, 0, 5, 2, 0, []) :: (84, 4, 0, 0, 1, 0, []) :: (85, 24, 0, 11, 34, 64, [1609]) :: (88, 2, 0, 2, 1, 0, []) :: (89, 26, 0, 20, 0, 0, []) :: (90, 19, 0, 3, 123, 0, []) :: (93, 4, 0, 0, 1, 0, []) :: (94, 24, 0, 11, 35, 67, [1610]) :: (97, 0, 40, 1, 0, 0, []) :: (99, 2, 0, 2, 1, 0, []) :: (100, 9, 0, 2, 0, 0, []) :: (101, 2, 0, 5, 2, 0, []) :: (103, 9, 0, 0, 0, 0, []) :: (104, 26, 0, 23, 0, 0, []) :: (105, 32, 1, 4, 1, 246, [1838, 1839, 116, 1840]) :: (108, 20, 0, 1, 117, 0, []) :: (111, 4, 0, 0, 1, 0, []) :: (112, 0, 3, 0, 0, 0, []) :: (113, 32, 0, 2, 2, 178, [11, 1700, 1702, 49, 116, 1703]) :: (116, 33, 0, 1, 0, 0, []) :: kX11_match_117
def kX11_match_73 : List mIn := (73, 0, 0, 0, 0, 0, []) :: (74, 5, 0, 5, 2, 0, []) :: (76, 43, 0, 0, 76, 0, []) :: kX11_match_76
def kX11_match_67 : List mIn := (67, 4, 0, 0, 1, 0, []) :: (68, 0, 3, 0, 0, 0, []) :: (69, 32, 0, 2, 2, 178, [11, 1700, 1702, 49, 116, 1703]) :: (72, 33, 0, 1, 0, 0, []) :: kX11_match_73
def kX11_match_41 : List mIn := (41, 2, 0, 3, 1, 0, []) :: (42, 13, 0, 0, 0, 0, []) :: (43, 1, 1, 0, 1, 0, []) :: (44, 1, 6, 1, 391, 2063, []) :: (47, 32, 1, 3, 3, 79, [1697, 1698, 116, 1699]) :: (50, 20, 0, 0, 67, 0, []) :: (53, 2, 0, 4, 2, 0, []) :: (55, 13, 0, 0, 0, 0, []) :: (56, 1, 0, 0, 0, 0, []) :: (57, 2, 0, 3, 1, 0, []) :: (58, 0, 1, 0, 0, 0, []) :: (59, 9, 0, 1, 0, 0, []) :: (60, 13, 0, 0, 0, 0, []) :: (61, 32, 1, 3, 3, 79, [1697, 1698, 116, 1699]) :: (64, 20, 0, 1, 73, 0, []) :: kX11_match_67
def kX11_match_25 : List mIn := (25, 4, 0, 0, 1, 0, []) :: (26, 24, 0, 11, 33, 61, [1608]) :: (29, 2, 0, 2, 1, 0, []) :: (30, 26, 0, 20, 0, 0, []) :: (31, 0, (-1), 0, 0, 0, []) :: (32, 19, 0, 1, 41, 0, []) :: (35, 4, 0, 0, 1, 0, []) :: (36, 0, 2, 0, 0, 0, []) :: (37, 32, 0, 2, 2, 178, [11, 1700, 1702, 49, 116, 1703]) :: (40, 33, 0, 1, 0, 0, []) :: kX11_match_41
def kX11_match_19 : List mIn := (19, 4, 0, 0, 1, 0, []) :: (20, 0, 1, 0, 0, 0, []) :: (21, 32, 0, 2, 2, 178, [11, 1700, 1702, 49, 116, 1703]) :: (24, 33, 0, 1, 0, 0, []) :: kX11_match_25
def kX11_match_0 : List mIn := (0, 4, 0, 0, 1, 0, []) :: (1, 0, 0, 0, 0, 0, []) :: (2, 25, 0, 11, 3, 74, [1578]) :: (5, 2, 0, 1, 1, 0, []) :: (6, 32, 1, 0, 1, 189, [1772, 1773, 116, 1774]) :: (9, 20, 0, 0, 19, 0, []) :: (12, 2, 0, 2, 1, 0, []) :: (13, 32, 1, 1, 1, 388, [2060, 2061, 116, 2062]) :: (16, 20, 0, 1, 25, 0, []) :: kX11_match_19
def kX11_match : List mIn := kX11_match_0
def TX11_match : Nat → mCal := fun a => match a with
  | 0 => calX11_isBall
  | 1 => calX11_isTray
  | 2 => calX11_fails
  | 3 => calX11_within
  | 4 => calX11_isCell
  | 5 => calX11_matched
  | _ => (yX11_match, cX11_match, 6, (some .int), (0, 0, 0, 0))
def calX11_match : mCal := (yX11_match, cX11_match, 6, (some .int), (12, 297, 0, 0))
def cutX11_match : Nat → Option (List Bool) := fun t => mLk t [(76, [true, true, true, true, true, true])]
theorem okX11_match : mOK (yX11_match.cls, cX11_match, TX11_match, (some .int), (12, 297, 0, 0), 6, mAcf [], mAcf []) kX11_match = true := by decide +kernel
set_option maxRecDepth 100000 in
theorem sfxX11_match_19 : mSfx 19 kX11_match = kX11_match_19 := rfl
theorem cutX11_match_19 : cutX11_match 19 = none := by decide
set_option maxRecDepth 100000 in
theorem sfxX11_match_25 : mSfx 25 kX11_match = kX11_match_25 := rfl
theorem cutX11_match_25 : cutX11_match 25 = none := by decide
set_option maxRecDepth 100000 in
theorem sfxX11_match_41 : mSfx 41 kX11_match = kX11_match_41 := rfl
theorem cutX11_match_41 : cutX11_match 41 = none := by decide
set_option maxRecDepth 100000 in
theorem sfxX11_match_67 : mSfx 67 kX11_match = kX11_match_67 := rfl
theorem cutX11_match_67 : cutX11_match 67 = none := by decide
set_option maxRecDepth 100000 in
theorem sfxX11_match_73 : mSfx 73 kX11_match = kX11_match_73 := rfl
theorem cutX11_match_73 : cutX11_match 73 = none := by decide
set_option maxRecDepth 100000 in
theorem sfxX11_match_76 : mSfx 76 kX11_match = kX11_match_76 := rfl
theorem cutX11_match_76 : cutX11_match 76 = some [true, true, true, true, true, true] := by decide
set_option maxRecDepth 100000 in
theorem sfxX11_match_117 : mSfx 117 kX11_match = kX11_match_117 := rfl
theorem cutX11_match_117 : cutX11_match 117 = none := by decide
set_option maxRecDepth 100000 in
theorem sfxX11_match_123 : mSfx 123 kX11_match = kX11_match_123 := rfl
theorem cutX11_match_123 : cutX11_match 123 = none := by decide
set_option maxRecDepth 100000 in
theorem sfxX11_match_139 : mSfx 139 kX11_match = kX11_match_139 := rfl
theorem cutX11_match_139 : cutX11_match 139 = none := by decide
def kX11_supposes_0 : List mIn := (0, 4, 0, 0, 1, 0, []) :: (1, 2, 0, 1, 1, 0, []) :: (2, 32, 0, 0, 2, 250, [11, 1842, 1844, 68, 116, 1845]) :: (5, 5, 0, 4, 2, 0, []) :: (7, 4, 0, 0, 1, 0, []) :: (8, 2, 0, 2, 1, 0, []) :: (9, 32, 0, 1, 2, 319, [11, 1953, 1955, 83, 116, 1956]) :: (12, 6, 0, 5, 2, 0, []) :: (14, 4, 0, 0, 1, 0, []) :: (15, 2, 0, 1, 1, 0, []) :: (16, 2, 0, 3, 1, 0, []) :: (17, 32, 0, 2, 3, 253, [11, 1846, 1848, 69, 116, 1849]) :: (20, 4, 0, 0, 1, 0, []) :: (21, 2, 0, 2, 1, 0, []) :: (22, 32, 0, 1, 2, 319, [11, 1953, 1955, 83, 116, 1956]) :: (25, 6, 0, 7, 2, 0, []) :: (27, 4, 0, 0, 1, 0, []) :: (28, 2, 0, 1, 1, 0, []) :: (29, 2, 0, 4, 2, 0, []) :: (31, 32, 0, 2, 3, 253, [11, 1846, 1848, 69, 116, 1849]) :: (34, 4, 0, 0, 1, 0, []) :: (35, 3, 0, 7, 2, 0, []) :: (37, 3, 0, 5, 2, 0, []) :: (39, 11, 0, 1, 0, 0, []) :: (40, 4, 0, 0, 1, 0, []) :: (41, 2, 0, 2, 1, 0, []) :: (42, 32, 0, 3, 2, 322, [11, 1961, 1963, 85, 116, 1964]) :: (45, 32, 0, 4, 3, 325, [11, 1966, 1968, 86, 116, 1969]) :: (48, 33, 0, 4, 0, 0, []) :: []
def kX11_supposes : List mIn := kX11_supposes_0
def TX11_supposes : Nat → mCal := fun a => match a with
  | 0 => calX11_standOf
  | 1 => calX11_meanOf
  | 2 => calX11_puts
  | 3 => calX11_lowOf
  | 4 => calX11_takes
  | _ => (yX11_supposes, cX11_supposes, 9, (some .boolean), (0, 0, 0, 0))
def calX11_supposes : mCal := (yX11_supposes, cX11_supposes, 9, (some .boolean), (11, 266, 0, 0))
def cutX11_supposes : Nat → Option (List Bool) := fun t => mLk t []
theorem okX11_supposes : mOK (yX11_supposes.cls, cX11_supposes, TX11_supposes, (some .boolean), (11, 266, 0, 0), 9, mAcf [], mAcf []) kX11_supposes = true := by decide +kernel
def kX11_worth_58 : List mIn := (58, 33, 0, 4, 0, 0, []) :: []
def kX11_worth_57 : List mIn := (57, 0, 0, 0, 0, 0, []) :: kX11_worth_58
def kX11_worth_33 : List mIn := (33, 25, 0, 11, 3, 74, [1578]) :: (36, 4, 0, 0, 1, 0, []) :: (37, 24, 0, 11, 3, 74, [1578]) :: (40, 20, 0, 1, 57, 0, []) :: (43, 4, 0, 0, 1, 0, []) :: (44, 2, 0, 1, 1, 0, []) :: (45, 2, 0, 2, 1, 0, []) :: (46, 0, (-1), 0, 0, 0, []) :: (47, 32, 0, 3, 4, 396, [11, 2080, 2082, 99, 116, 2083]) :: (50, 20, 0, 0, 57, 0, []) :: (53, 0, 1, 0, 0, 0, []) :: (54, 22, 0, 0, 58, 0, []) :: kX11_worth_57
def kX11_worth_32 : List mIn := (32, 0, 0, 0, 0, 0, []) :: kX11_worth_33
def kX11_worth_19 : List mIn := (19, 4, 0, 0, 1, 0, []) :: (20, 2, 0, 1, 1, 0, []) :: (21, 32, 0, 2, 2, 250, [11, 1842, 1844, 68, 116, 1845]) :: (24, 0, (-1), 0, 0, 0, []) :: (25, 19, 0, 1, 32, 0, []) :: (28, 0, 2, 0, 0, 0, []) :: (29, 22, 0, 0, 33, 0, []) :: kX11_worth_32
def kX11_worth_15 : List mIn := (15, 0, 1, 0, 0, 0, []) :: (16, 22, 0, 0, 33, 0, []) :: kX11_worth_19
def kX11_worth_0 : List mIn := (0, 4, 0, 0, 1, 0, []) :: (1, 2, 0, 1, 1, 0, []) :: (2, 32, 1, 0, 1, 237, [1827, 1828, 116, 1829]) :: (5, 20, 0, 0, 15, 0, []) :: (8, 2, 0, 2, 1, 0, []) :: (9, 32, 1, 1, 1, 189, [1772, 1773, 116, 1774]) :: (12, 20, 0, 1, 19, 0, []) :: kX11_worth_15
def kX11_worth : List mIn := kX11_worth_0
def TX11_worth : Nat → mCal := fun a => match a with
  | 0 => calX11_isFielder
  | 1 => calX11_isBall
  | 2 => calX11_standOf
  | 3 => calX11_supposes
  | _ => (yX11_worth, cX11_worth, 3, (some .boolean), (0, 0, 0, 0))
def calX11_worth : mCal := (yX11_worth, cX11_worth, 3, (some .boolean), (12, 294, 0, 0))
def cutX11_worth : Nat → Option (List Bool) := fun t => mLk t []
theorem okX11_worth : mOK (yX11_worth.cls, cX11_worth, TX11_worth, (some .boolean), (12, 294, 0, 0), 3, mAcf [], mAcf []) kX11_worth = true := by decide +kernel
set_option maxRecDepth 100000 in
theorem sfxX11_worth_15 : mSfx 15 kX11_worth = kX11_worth_15 := rfl
theorem cutX11_worth_15 : cutX11_worth 15 = none := by decide
set_option maxRecDepth 100000 in
theorem sfxX11_worth_19 : mSfx 19 kX11_worth = kX11_worth_19 := rfl
theorem cutX11_worth_19 : cutX11_worth 19 = none := by decide
set_option maxRecDepth 100000 in
theorem sfxX11_worth_32 : mSfx 32 kX11_worth = kX11_worth_32 := rfl
theorem cutX11_worth_32 : cutX11_worth 32 = none := by decide
set_option maxRecDepth 100000 in
theorem sfxX11_worth_33 : mSfx 33 kX11_worth = kX11_worth_33 := rfl
theorem cutX11_worth_33 : cutX11_worth 33 = none := by decide
set_option maxRecDepth 100000 in
theorem sfxX11_worth_57 : mSfx 57 kX11_worth = kX11_worth_57 := rfl
theorem cutX11_worth_57 : cutX11_worth 57 = none := by decide
set_option maxRecDepth 100000 in
theorem sfxX11_worth_58 : mSfx 58 kX11_worth = kX11_worth_58 := rfl
theorem cutX11_worth_58 : cutX11_worth 58 = none := by decide
def kX11_brave_70 : List mIn := (70, 33, 0, 4, 0, 0, []) :: []
def kX11_brave_69 : List mIn := (69, 0, 0, 0, 0, 0, []) :: kX11_brave_70
def kX11_brave_45 : List mIn := (45, 25, 0, 11, 3, 74, [1578]) :: (48, 4, 0, 0, 1, 0, []) :: (49, 24, 0, 11, 3, 74, [1578]) :: (52, 20, 0, 1, 69, 0, []) :: (55, 4, 0, 0, 1, 0, []) :: (56, 2, 0, 1, 1, 0, []) :: (57, 2, 0, 2, 1, 0, []) :: (58, 2, 0, 3, 1, 0, []) :: (59, 32, 0, 4, 4, 396, [11, 2080, 2082, 99, 116, 2083]) :: (62, 20, 0, 0, 69, 0, []) :: (65, 0, 1, 0, 0, 0, []) :: (66, 22, 0, 0, 70, 0, []) :: kX11_brave_69
def kX11_brave_44 : List mIn := (44, 0, 0, 0, 0, 0, []) :: kX11_brave_45
def kX11_brave_32 : List mIn := (32, 2, 0, 3, 1, 0, []) :: (33, 13, 0, 0, 0, 0, []) :: (34, 32, 1, 3, 1, 246, [1838, 1839, 116, 1840]) :: (37, 20, 0, 1, 44, 0, []) :: (40, 0, 3, 0, 0, 0, []) :: (41, 22, 0, 0, 45, 0, []) :: kX11_brave_44
def kX11_brave_19 : List mIn := (19, 4, 0, 0, 1, 0, []) :: (20, 2, 0, 1, 1, 0, []) :: (21, 32, 0, 2, 2, 250, [11, 1842, 1844, 68, 116, 1845]) :: (24, 0, (-1), 0, 0, 0, []) :: (25, 19, 0, 1, 32, 0, []) :: (28, 0, 2, 0, 0, 0, []) :: (29, 22, 0, 0, 45, 0, []) :: kX11_brave_32
def kX11_brave_15 : List mIn := (15, 0, 1, 0, 0, 0, []) :: (16, 22, 0, 0, 45, 0, []) :: kX11_brave_19
def kX11_brave_0 : List mIn := (0, 4, 0, 0, 1, 0, []) :: (1, 2, 0, 1, 1, 0, []) :: (2, 32, 1, 0, 1, 237, [1827, 1828, 116, 1829]) :: (5, 20, 0, 0, 15, 0, []) :: (8, 2, 0, 2, 1, 0, []) :: (9, 32, 1, 1, 1, 189, [1772, 1773, 116, 1774]) :: (12, 20, 0, 1, 19, 0, []) :: kX11_brave_15
def kX11_brave : List mIn := kX11_brave_0
def TX11_brave : Nat → mCal := fun a => match a with
  | 0 => calX11_isFielder
  | 1 => calX11_isBall
  | 2 => calX11_standOf
  | 3 => calX11_isCell
  | 4 => calX11_supposes
  | _ => (yX11_brave, cX11_brave, 4, (some .boolean), (0, 0, 0, 0))
def calX11_brave : mCal := (yX11_brave, cX11_brave, 4, (some .boolean), (12, 294, 0, 0))
def cutX11_brave : Nat → Option (List Bool) := fun t => mLk t []
theorem okX11_brave : mOK (yX11_brave.cls, cX11_brave, TX11_brave, (some .boolean), (12, 294, 0, 0), 4, mAcf [], mAcf []) kX11_brave = true := by decide +kernel
set_option maxRecDepth 100000 in
theorem sfxX11_brave_15 : mSfx 15 kX11_brave = kX11_brave_15 := rfl
theorem cutX11_brave_15 : cutX11_brave 15 = none := by decide
set_option maxRecDepth 100000 in
theorem sfxX11_brave_19 : mSfx 19 kX11_brave = kX11_brave_19 := rfl
theorem cutX11_brave_19 : cutX11_brave 19 = none := by decide
set_option maxRecDepth 100000 in
theorem sfxX11_brave_32 : mSfx 32 kX11_brave = kX11_brave_32 := rfl
theorem cutX11_brave_32 : cutX11_brave 32 = none := by decide
set_option maxRecDepth 100000 in
theorem sfxX11_brave_44 : mSfx 44 kX11_brave = kX11_brave_44 := rfl
theorem cutX11_brave_44 : cutX11_brave 44 = none := by decide
set_option maxRecDepth 100000 in
theorem sfxX11_brave_45 : mSfx 45 kX11_brave = kX11_brave_45 := rfl
theorem cutX11_brave_45 : cutX11_brave 45 = none := by decide
set_option maxRecDepth 100000 in
theorem sfxX11_brave_69 : mSfx 69 kX11_brave = kX11_brave_69 := rfl
theorem cutX11_brave_69 : cutX11_brave 69 = none := by decide
set_option maxRecDepth 100000 in
theorem sfxX11_brave_70 : mSfx 70 kX11_brave = kX11_brave_70 := rfl
theorem cutX11_brave_70 : cutX11_brave 70 = none := by decide
def kX11_both_41 : List mIn := (41, 4, 0, 0, 1, 0, []) :: (42, 24, 0, 11, 0, 9, [1575]) :: (45, 0, 6, 1, 0, 0, []) :: (47, 26, 0, 20, 0, 0, []) :: (48, 5, 0, 3, 1, 0, []) :: (49, 4, 0, 0, 1, 0, []) :: (50, 24, 0, 11, 0, 9, [1575]) :: (53, 0, 6, 1, 0, 0, []) :: (55, 0, 4, 0, 0, 0, []) :: (56, 27, 0, 20, 0, 0, []) :: (57, 2, 0, 2, 1, 0, []) :: (58, 13, 0, 0, 0, 0, []) :: (59, 4, 0, 0, 1, 0, []) :: (60, 2, 0, 1, 1, 0, []) :: (61, 32, 0, 2, 2, 319, [11, 1953, 1955, 83, 116, 1956]) :: (64, 11, 0, 2, 0, 0, []) :: (65, 6, 0, 4, 2, 0, []) :: (67, 4, 0, 0, 1, 0, []) :: (68, 24, 0, 11, 0, 9, [1575]) :: (71, 0, 6, 1, 0, 0, []) :: (73, 0, 0, 0, 0, 0, []) :: (74, 27, 0, 20, 0, 0, []) :: (75, 3, 0, 4, 2, 0, []) :: (77, 0, 100, 1, 0, 0, []) :: (79, 2, 0, 2, 1, 0, []) :: (80, 9, 0, 1, 0, 0, []) :: (81, 13, 0, 0, 0, 0, []) :: (82, 4, 0, 0, 1, 0, []) :: (83, 2, 0, 1, 1, 0, []) :: (84, 32, 0, 2, 2, 319, [11, 1953, 1955, 83, 116, 1956]) :: (87, 11, 0, 2, 0, 0, []) :: (88, 11, 0, 0, 0, 0, []) :: (89, 6, 0, 4, 2, 0, []) :: (91, 4, 0, 0, 1, 0, []) :: (92, 24, 0, 11, 0, 9, [1575]) :: (95, 0, 6, 1, 0, 0, []) :: (97, 2, 0, 3, 1, 0, []) :: (98, 27, 0, 20, 0, 0, []) :: (99, 4, 0, 0, 1, 0, []) :: (100, 3, 0, 4, 2, 0, []) :: (102, 1, 100, 1, 242, 1832, []) :: (105, 4, 0, 0, 1, 0, []) :: (106, 2, 0, 1, 1, 0, []) :: (107, 32, 0, 3, 2, 322, [11, 1961, 1963, 85, 116, 1964]) :: (110, 11, 0, 2, 0, 0, []) :: (111, 32, 0, 4, 3, 325, [11, 1966, 1968, 86, 116, 1969]) :: (114, 33, 0, 4, 0, 0, []) :: []
def kX11_both_29 : List mIn := (29, 25, 0, 11, 3, 74, [1578]) :: (32, 4, 0, 0, 1, 0, []) :: (33, 24, 0, 11, 3, 74, [1578]) :: (36, 20, 0, 5, 41, 0, []) :: (39, 0, 0, 0, 0, 0, []) :: (40, 33, 0, 4, 0, 0, []) :: kX11_both_41
def kX11_both_28 : List mIn := (28, 0, 2, 0, 0, 0, []) :: kX11_both_29
def kX11_both_12 : List mIn := (12, 2, 0, 2, 1, 0, []) :: (13, 13, 0, 0, 0, 0, []) :: (14, 1, 0, 0, 0, 0, []) :: (15, 1, 100, 1, 242, 1832, []) :: (18, 32, 1, 1, 3, 79, [1697, 1698, 116, 1699]) :: (21, 20, 0, 0, 28, 0, []) :: (24, 0, 0, 0, 0, 0, []) :: (25, 22, 0, 0, 29, 0, []) :: kX11_both_28
def kX11_both_0 : List mIn := (0, 4, 0, 0, 1, 0, []) :: (1, 2, 0, 1, 1, 0, []) :: (2, 32, 1, 0, 1, 189, [1772, 1773, 116, 1774]) :: (5, 20, 0, 1, 12, 0, []) :: (8, 0, 1, 0, 0, 0, []) :: (9, 22, 0, 0, 29, 0, []) :: kX11_both_12
def kX11_both : List mIn := kX11_both_0
def TX11_both : Nat → mCal := fun a => match a with
  | 0 => calX11_isBall
  | 1 => calX11_within
  | 2 => calX11_meanOf
  | 3 => calX11_lowOf
  | 4 => calX11_takes
  | _ => (yX11_both, cX11_both, 6, (some .boolean), (0, 0, 0, 0))
def calX11_both : mCal := (yX11_both, cX11_both, 6, (some .boolean), (11, 266, 0, 0))
def cutX11_both : Nat → Option (List Bool) := fun t => mLk t []
theorem okX11_both : mOK (yX11_both.cls, cX11_both, TX11_both, (some .boolean), (11, 266, 0, 0), 6, mAcf [], mAcf []) kX11_both = true := by decide +kernel
set_option maxRecDepth 100000 in
theorem sfxX11_both_12 : mSfx 12 kX11_both = kX11_both_12 := rfl
theorem cutX11_both_12 : cutX11_both 12 = none := by decide
set_option maxRecDepth 100000 in
theorem sfxX11_both_28 : mSfx 28 kX11_both = kX11_both_28 := rfl
theorem cutX11_both_28 : cutX11_both 28 = none := by decide
set_option maxRecDepth 100000 in
theorem sfxX11_both_29 : mSfx 29 kX11_both = kX11_both_29 := rfl
theorem cutX11_both_29 : cutX11_both 29 = none := by decide
set_option maxRecDepth 100000 in
theorem sfxX11_both_41 : mSfx 41 kX11_both = kX11_both_41 := rfl
theorem cutX11_both_41 : cutX11_both 41 = none := by decide
def kX11_seenOf_33 : List mIn := (33, 2, 0, 2, 1, 0, []) :: (34, 33, 0, 1, 0, 0, []) :: []
def kX11_seenOf_4 : List mIn := (4, 2, 0, 3, 1, 0, []) :: (5, 4, 0, 0, 1, 0, []) :: (6, 24, 0, 11, 0, 9, [1575]) :: (9, 0, 13, 1, 0, 0, []) :: (11, 2, 0, 1, 1, 0, []) :: (12, 9, 0, 0, 0, 0, []) :: (13, 26, 0, 20, 0, 0, []) :: (14, 19, 0, 3, 33, 0, []) :: (17, 2, 0, 2, 1, 0, []) :: (18, 4, 0, 0, 1, 0, []) :: (19, 2, 0, 1, 1, 0, []) :: (20, 2, 0, 3, 1, 0, []) :: (21, 0, 4, 0, 0, 0, []) :: (22, 32, 0, 0, 4, 192, [11, 1788, 1790, 62, 116, 1791]) :: (25, 9, 0, 0, 0, 0, []) :: (26, 5, 0, 2, 1, 0, []) :: (27, 8, 1, 3, 0, 0, []) :: (30, 22, 0, 0, 4, 0, []) :: kX11_seenOf_33
def kX11_seenOf_0 : List mIn := (0, 0, 0, 0, 0, 0, []) :: (1, 5, 0, 2, 1, 0, []) :: (2, 0, 0, 0, 0, 0, []) :: (3, 5, 0, 3, 1, 0, []) :: (4, 43, 0, 0, 4, 0, []) :: kX11_seenOf_4
def kX11_seenOf : List mIn := kX11_seenOf_0
def TX11_seenOf : Nat → mCal := fun a => match a with
  | 0 => calX11_raw
  | _ => (yX11_seenOf, cX11_seenOf, 4, (some .int), (0, 0, 0, 0))
def calX11_seenOf : mCal := (yX11_seenOf, cX11_seenOf, 4, (some .int), (1, 23, 0, 0))
def cutX11_seenOf : Nat → Option (List Bool) := fun t => mLk t [(4, [true, true, true, true])]
theorem okX11_seenOf : mOK (yX11_seenOf.cls, cX11_seenOf, TX11_seenOf, (some .int), (1, 23, 0, 0), 4, mAcf [], mAcf []) kX11_seenOf = true := by decide +kernel
set_option maxRecDepth 100000 in
theorem sfxX11_seenOf_4 : mSfx 4 kX11_seenOf = kX11_seenOf_4 := rfl
theorem cutX11_seenOf_4 : cutX11_seenOf 4 = some [true, true, true, true] := by decide
set_option maxRecDepth 100000 in
theorem sfxX11_seenOf_33 : mSfx 33 kX11_seenOf = kX11_seenOf_33 := rfl
theorem cutX11_seenOf_33 : cutX11_seenOf 33 = none := by decide
def kX11_book_38 : List mIn := (38, 0, 310, 2, 0, 0, []) :: (41, 0, 5, 0, 0, 0, []) :: (42, 0, 8, 1, 0, 0, []) :: (44, 2, 0, 1, 1, 0, []) :: (45, 9, 0, 2, 0, 0, []) :: (46, 2, 0, 2, 1, 0, []) :: (47, 9, 0, 0, 0, 0, []) :: (48, 9, 0, 2, 0, 0, []) :: (49, 9, 0, 0, 0, 0, []) :: (50, 0, 4, 0, 0, 0, []) :: (51, 9, 0, 0, 0, 0, []) :: (52, 5, 0, 4, 2, 0, []) :: (54, 4, 0, 0, 1, 0, []) :: (55, 24, 0, 11, 0, 9, [1575]) :: (58, 2, 0, 4, 2, 0, []) :: (60, 0, 9999, 2, 0, 0, []) :: (63, 4, 0, 0, 1, 0, []) :: (64, 24, 0, 11, 0, 9, [1575]) :: (67, 2, 0, 4, 2, 0, []) :: (69, 26, 0, 20, 0, 0, []) :: (70, 2, 0, 3, 1, 0, []) :: (71, 9, 0, 0, 0, 0, []) :: (72, 40, 0, 1, 0, 291, [1940, 709, 121, 710]) :: (75, 27, 0, 20, 0, 0, []) :: (76, 4, 0, 0, 1, 0, []) :: (77, 24, 0, 11, 0, 9, [1575]) :: (80, 2, 0, 4, 2, 0, []) :: (82, 26, 0, 20, 0, 0, []) :: (83, 33, 0, 1, 0, 0, []) :: []
def kX11_book_20 : List mIn := (20, 2, 0, 3, 1, 0, []) :: (21, 13, 0, 0, 0, 0, []) :: (22, 1, 0, 0, 0, 0, []) :: (23, 1, 9999, 1, 400, 2096, []) :: (26, 32, 1, 2, 3, 79, [1697, 1698, 116, 1699]) :: (29, 20, 0, 1, 38, 0, []) :: (32, 4, 0, 0, 1, 0, []) :: (33, 0, 2, 0, 0, 0, []) :: (34, 32, 0, 1, 2, 178, [11, 1700, 1702, 49, 116, 1703]) :: (37, 33, 0, 1, 0, 0, []) :: kX11_book_38
def kX11_book_0 : List mIn := (0, 4, 0, 0, 1, 0, []) :: (1, 0, 0, 0, 0, 0, []) :: (2, 25, 0, 11, 3, 74, [1578]) :: (5, 4, 0, 0, 1, 0, []) :: (6, 2, 0, 1, 1, 0, []) :: (7, 2, 0, 2, 1, 0, []) :: (8, 32, 0, 0, 3, 226, [11, 1780, 1782, 60, 116, 1783]) :: (11, 20, 0, 1, 20, 0, []) :: (14, 4, 0, 0, 1, 0, []) :: (15, 0, 1, 0, 0, 0, []) :: (16, 32, 0, 1, 2, 178, [11, 1700, 1702, 49, 116, 1703]) :: (19, 33, 0, 1, 0, 0, []) :: kX11_book_20
def kX11_book : List mIn := kX11_book_0
def TX11_book : Nat → mCal := fun a => match a with
  | 0 => calX11_isHit
  | 1 => calX11_fails
  | 2 => calX11_within
  | _ => (yX11_book, cX11_book, 5, (some .int), (0, 0, 0, 0))
def calX11_book : mCal := (yX11_book, cX11_book, 5, (some .int), (3, 67, 0, 0))
def cutX11_book : Nat → Option (List Bool) := fun t => mLk t []
theorem okX11_book : mOK (yX11_book.cls, cX11_book, TX11_book, (some .int), (3, 67, 0, 0), 5, mAcf [], mAcf []) kX11_book = true := by decide +kernel
set_option maxRecDepth 100000 in
theorem sfxX11_book_20 : mSfx 20 kX11_book = kX11_book_20 := rfl
theorem cutX11_book_20 : cutX11_book 20 = none := by decide
set_option maxRecDepth 100000 in
theorem sfxX11_book_38 : mSfx 38 kX11_book = kX11_book_38 := rfl
theorem cutX11_book_38 : cutX11_book 38 = none := by decide
def kX11_learn_74 : List mIn := (74, 4, 0, 0, 1, 0, []) :: (75, 2, 0, 1, 1, 0, []) :: (76, 32, 0, 3, 2, 402, [11, 2101, 2103, 100, 116, 2104]) :: (79, 33, 0, 1, 0, 0, []) :: []
def kX11_learn_20 : List mIn := (20, 2, 0, 2, 1, 0, []) :: (21, 4, 0, 0, 1, 0, []) :: (22, 24, 0, 11, 0, 9, [1575]) :: (25, 0, 13, 1, 0, 0, []) :: (27, 2, 0, 1, 1, 0, []) :: (28, 9, 0, 0, 0, 0, []) :: (29, 26, 0, 20, 0, 0, []) :: (30, 19, 0, 3, 74, 0, []) :: (33, 4, 0, 0, 1, 0, []) :: (34, 24, 0, 11, 0, 9, [1575]) :: (37, 0, 310, 2, 0, 0, []) :: (40, 0, 5, 0, 0, 0, []) :: (41, 0, 8, 1, 0, 0, []) :: (43, 2, 0, 1, 1, 0, []) :: (44, 9, 0, 2, 0, 0, []) :: (45, 2, 0, 2, 1, 0, []) :: (46, 9, 0, 0, 0, 0, []) :: (47, 9, 0, 2, 0, 0, []) :: (48, 9, 0, 0, 0, 0, []) :: (49, 0, 3, 0, 0, 0, []) :: (50, 9, 0, 0, 0, 0, []) :: (51, 0, 99, 1, 0, 0, []) :: (53, 0, 1, 0, 0, 0, []) :: (54, 4, 0, 0, 1, 0, []) :: (55, 2, 0, 1, 1, 0, []) :: (56, 2, 0, 2, 1, 0, []) :: (57, 0, 4, 0, 0, 0, []) :: (58, 32, 0, 2, 4, 192, [11, 1788, 1790, 62, 116, 1791]) :: (61, 40, 0, 0, 0, 196, [1796, 656, 121, 657]) :: (64, 40, 0, 1, 0, 291, [1940, 709, 121, 710]) :: (67, 27, 0, 20, 0, 0, []) :: (68, 8, 1, 2, 0, 0, []) :: (71, 22, 0, 0, 20, 0, []) :: kX11_learn_74
def kX11_learn_18 : List mIn := (18, 0, 0, 0, 0, 0, []) :: (19, 5, 0, 2, 1, 0, []) :: (20, 43, 0, 0, 20, 0, []) :: kX11_learn_20
def kX11_learn_0 : List mIn := (0, 4, 0, 0, 1, 0, []) :: (1, 0, 0, 0, 0, 0, []) :: (2, 25, 0, 11, 3, 74, [1578]) :: (5, 2, 0, 1, 1, 0, []) :: (6, 32, 1, 0, 1, 189, [1772, 1773, 116, 1774]) :: (9, 20, 0, 1, 18, 0, []) :: (12, 4, 0, 0, 1, 0, []) :: (13, 0, 1, 0, 0, 0, []) :: (14, 32, 0, 1, 2, 178, [11, 1700, 1702, 49, 116, 1703]) :: (17, 33, 0, 1, 0, 0, []) :: kX11_learn_18
def kX11_learn : List mIn := kX11_learn_0
def TX11_learn : Nat → mCal := fun a => match a with
  | 0 => calX11_isBall
  | 1 => calX11_fails
  | 2 => calX11_raw
  | 3 => calX11_seenOf
  | _ => (yX11_learn, cX11_learn, 3, (some .int), (0, 0, 0, 0))
def calX11_learn : mCal := (yX11_learn, cX11_learn, 3, (some .int), (2, 46, 0, 0))
def cutX11_learn : Nat → Option (List Bool) := fun t => mLk t [(20, [true, true, true])]
theorem okX11_learn : mOK (yX11_learn.cls, cX11_learn, TX11_learn, (some .int), (2, 46, 0, 0), 3, mAcf [], mAcf []) kX11_learn = true := by decide +kernel
set_option maxRecDepth 100000 in
theorem sfxX11_learn_18 : mSfx 18 kX11_learn = kX11_learn_18 := rfl
theorem cutX11_learn_18 : cutX11_learn 18 = none := by decide
set_option maxRecDepth 100000 in
theorem sfxX11_learn_20 : mSfx 20 kX11_learn = kX11_learn_20 := rfl
theorem cutX11_learn_20 : cutX11_learn 20 = some [true, true, true] := by decide
set_option maxRecDepth 100000 in
theorem sfxX11_learn_74 : mSfx 74 kX11_learn = kX11_learn_74 := rfl
theorem cutX11_learn_74 : cutX11_learn 74 = none := by decide
def kX11_roughly_38 : List mIn := (38, 0, 1, 0, 0, 0, []) :: (39, 2, 0, 1, 1, 0, []) :: (40, 9, 0, 0, 0, 0, []) :: (41, 33, 0, 1, 0, 0, []) :: []
def kX11_roughly_35 : List mIn := (35, 22, 0, 0, 6, 0, []) :: kX11_roughly_38
def kX11_roughly_31 : List mIn := (31, 2, 0, 3, 1, 0, []) :: (32, 0, 1, 0, 0, 0, []) :: (33, 9, 0, 1, 0, 0, []) :: (34, 5, 0, 2, 1, 0, []) :: kX11_roughly_35
def kX11_roughly_6 : List mIn := (6, 2, 0, 1, 1, 0, []) :: (7, 2, 0, 2, 1, 0, []) :: (8, 19, 0, 3, 38, 0, []) :: (11, 2, 0, 1, 1, 0, []) :: (12, 2, 0, 2, 1, 0, []) :: (13, 9, 0, 0, 0, 0, []) :: (14, 0, 1, 0, 0, 0, []) :: (15, 9, 0, 0, 0, 0, []) :: (16, 0, 2, 0, 0, 0, []) :: (17, 16, 0, 0, 0, 0, []) :: (18, 5, 0, 3, 1, 0, []) :: (19, 2, 0, 3, 1, 0, []) :: (20, 2, 0, 3, 1, 0, []) :: (21, 9, 0, 2, 0, 0, []) :: (22, 2, 0, 0, 1, 0, []) :: (23, 19, 0, 4, 31, 0, []) :: (26, 2, 0, 3, 1, 0, []) :: (27, 5, 0, 1, 1, 0, []) :: (28, 22, 0, 0, 35, 0, []) :: kX11_roughly_31
def kX11_roughly_0 : List mIn := (0, 0, 0, 0, 0, 0, []) :: (1, 5, 0, 1, 1, 0, []) :: (2, 0, 1100, 2, 0, 0, []) :: (5, 5, 0, 2, 1, 0, []) :: (6, 43, 0, 0, 6, 0, []) :: kX11_roughly_6
def kX11_roughly : List mIn := kX11_roughly_0
def TX11_roughly : Nat → mCal := fun a => match a with
  | _ => (yX11_roughly, cX11_roughly, 4, (some .int), (0, 0, 0, 0))
def calX11_roughly : mCal := (yX11_roughly, cX11_roughly, 4, (some .int), (0, 0, 0, 0))
def cutX11_roughly : Nat → Option (List Bool) := fun t => mLk t [(6, [true, true, true, false])]
theorem okX11_roughly : mOK (yX11_roughly.cls, cX11_roughly, TX11_roughly, (some .int), (0, 0, 0, 0), 4, mAcf [], mAcf []) kX11_roughly = true := by decide +kernel
set_option maxRecDepth 100000 in
theorem sfxX11_roughly_6 : mSfx 6 kX11_roughly = kX11_roughly_6 := rfl
theorem cutX11_roughly_6 : cutX11_roughly 6 = some [true, true, true, false] := by decide
set_option maxRecDepth 100000 in
theorem sfxX11_roughly_31 : mSfx 31 kX11_roughly = kX11_roughly_31 := rfl
theorem cutX11_roughly_31 : cutX11_roughly 31 = none := by decide
set_option maxRecDepth 100000 in
theorem sfxX11_roughly_35 : mSfx 35 kX11_roughly = kX11_roughly_35 := rfl
theorem cutX11_roughly_35 : cutX11_roughly 35 = none := by decide
set_option maxRecDepth 100000 in
theorem sfxX11_roughly_38 : mSfx 38 kX11_roughly = kX11_roughly_38 := rfl
theorem cutX11_roughly_38 : cutX11_roughly 38 = none := by decide
def kX11_ends_78 : List mIn := (78, 2, 0, 4, 2, 0, []) :: (80, 13, 0, 0, 0, 0, []) :: (81, 32, 0, 4, 3, 325, [11, 1966, 1968, 86, 116, 1969]) :: (84, 33, 0, 4, 0, 0, []) :: []
def kX11_ends_65 : List mIn := (65, 0, 0, 0, 0, 0, []) :: (66, 2, 0, 5, 2, 0, []) :: (68, 2, 0, 5, 2, 0, []) :: (70, 32, 1, 3, 1, 405, [2109, 2110, 116, 2111]) :: (73, 9, 0, 1, 0, 0, []) :: (74, 40, 0, 0, 0, 196, [1796, 656, 121, 657]) :: (77, 13, 0, 0, 0, 0, []) :: kX11_ends_78
def kX11_ends_27 : List mIn := (27, 4, 0, 0, 1, 0, []) :: (28, 2, 0, 1, 1, 0, []) :: (29, 32, 0, 1, 2, 402, [11, 2101, 2103, 100, 116, 2104]) :: (32, 5, 0, 4, 2, 0, []) :: (34, 4, 0, 0, 1, 0, []) :: (35, 2, 0, 1, 1, 0, []) :: (36, 2, 0, 2, 1, 0, []) :: (37, 0, 4, 0, 0, 0, []) :: (38, 32, 0, 2, 4, 192, [11, 1788, 1790, 62, 116, 1791]) :: (41, 5, 0, 5, 2, 0, []) :: (43, 4, 0, 0, 1, 0, []) :: (44, 2, 0, 3, 1, 0, []) :: (45, 20, 0, 0, 65, 0, []) :: (48, 2, 0, 4, 2, 0, []) :: (50, 2, 0, 5, 2, 0, []) :: (52, 2, 0, 5, 2, 0, []) :: (54, 32, 1, 3, 1, 405, [2109, 2110, 116, 2111]) :: (57, 9, 0, 0, 0, 0, []) :: (58, 40, 0, 1, 0, 291, [1940, 709, 121, 710]) :: (61, 13, 0, 0, 0, 0, []) :: (62, 22, 0, 0, 78, 0, []) :: kX11_ends_65
def kX11_ends_15 : List mIn := (15, 25, 0, 11, 3, 74, [1578]) :: (18, 4, 0, 0, 1, 0, []) :: (19, 24, 0, 11, 3, 74, [1578]) :: (22, 20, 0, 5, 27, 0, []) :: (25, 0, 0, 0, 0, 0, []) :: (26, 33, 0, 4, 0, 0, []) :: kX11_ends_27
def kX11_ends_14 : List mIn := (14, 0, 1, 0, 0, 0, []) :: kX11_ends_15
def kX11_ends_0 : List mIn := (0, 4, 0, 0, 1, 0, []) :: (1, 4, 0, 0, 1, 0, []) :: (2, 2, 0, 1, 1, 0, []) :: (3, 2, 0, 2, 1, 0, []) :: (4, 32, 0, 0, 3, 226, [11, 1780, 1782, 60, 116, 1783]) :: (7, 20, 0, 0, 14, 0, []) :: (10, 0, 0, 0, 0, 0, []) :: (11, 22, 0, 0, 15, 0, []) :: kX11_ends_14
def kX11_ends : List mIn := kX11_ends_0
def TX11_ends : Nat → mCal := fun a => match a with
  | 0 => calX11_isHit
  | 1 => calX11_seenOf
  | 2 => calX11_raw
  | 3 => calX11_roughly
  | 4 => calX11_takes
  | _ => (yX11_ends, cX11_ends, 6, (some .boolean), (0, 0, 0, 0))
def calX11_ends : mCal := (yX11_ends, cX11_ends, 6, (some .boolean), (3, 67, 0, 0))
def cutX11_ends : Nat → Option (List Bool) := fun t => mLk t []
theorem okX11_ends : mOK (yX11_ends.cls, cX11_ends, TX11_ends, (some .boolean), (3, 67, 0, 0), 6, mAcf [], mAcf []) kX11_ends = true := by decide +kernel
set_option maxRecDepth 100000 in
theorem sfxX11_ends_14 : mSfx 14 kX11_ends = kX11_ends_14 := rfl
theorem cutX11_ends_14 : cutX11_ends 14 = none := by decide
set_option maxRecDepth 100000 in
theorem sfxX11_ends_15 : mSfx 15 kX11_ends = kX11_ends_15 := rfl
theorem cutX11_ends_15 : cutX11_ends 15 = none := by decide
set_option maxRecDepth 100000 in
theorem sfxX11_ends_27 : mSfx 27 kX11_ends = kX11_ends_27 := rfl
theorem cutX11_ends_27 : cutX11_ends 27 = none := by decide
set_option maxRecDepth 100000 in
theorem sfxX11_ends_65 : mSfx 65 kX11_ends = kX11_ends_65 := rfl
theorem cutX11_ends_65 : cutX11_ends 65 = none := by decide
set_option maxRecDepth 100000 in
theorem sfxX11_ends_78 : mSfx 78 kX11_ends = kX11_ends_78 := rfl
theorem cutX11_ends_78 : cutX11_ends 78 = none := by decide
def kX11_enough_101 : List mIn := (101, 0, (-1), 0, 0, 0, []) :: (102, 33, 0, 1, 0, 0, []) :: []
def kX11_enough_95 : List mIn := (95, 8, 1, 5, 0, 0, []) :: (98, 22, 0, 0, 48, 0, []) :: kX11_enough_101
def kX11_enough_48 : List mIn := (48, 2, 0, 5, 2, 0, []) :: (50, 0, 100, 1, 0, 0, []) :: (52, 19, 0, 4, 101, 0, []) :: (55, 2, 0, 4, 2, 0, []) :: (57, 20, 0, 5, 101, 0, []) :: (60, 1, 200, 1, 408, 2116, []) :: (63, 2, 0, 5, 2, 0, []) :: (65, 4, 0, 0, 1, 0, []) :: (66, 2, 0, 1, 1, 0, []) :: (67, 2, 0, 2, 1, 0, []) :: (68, 0, 4, 0, 0, 0, []) :: (69, 32, 0, 4, 4, 192, [11, 1788, 1790, 62, 116, 1791]) :: (72, 9, 0, 2, 0, 0, []) :: (73, 32, 1, 5, 1, 405, [2109, 2110, 116, 2111]) :: (76, 13, 0, 0, 0, 0, []) :: (77, 11, 0, 2, 0, 0, []) :: (78, 2, 0, 3, 1, 0, []) :: (79, 13, 0, 0, 0, 0, []) :: (80, 2, 0, 5, 2, 0, []) :: (82, 13, 0, 0, 0, 0, []) :: (83, 11, 0, 2, 0, 0, []) :: (84, 2, 0, 4, 2, 0, []) :: (86, 13, 0, 0, 0, 0, []) :: (87, 11, 0, 2, 0, 0, []) :: (88, 21, 0, 4, 95, 0, []) :: (92, 2, 0, 5, 2, 0, []) :: (94, 33, 0, 1, 0, 0, []) :: kX11_enough_95
def kX11_enough_38 : List mIn := (38, 4, 0, 0, 1, 0, []) :: (39, 2, 0, 1, 1, 0, []) :: (40, 32, 0, 3, 2, 402, [11, 2101, 2103, 100, 116, 2104]) :: (43, 5, 0, 4, 2, 0, []) :: (45, 0, 1, 0, 0, 0, []) :: (46, 5, 0, 5, 2, 0, []) :: (48, 43, 0, 0, 48, 0, []) :: kX11_enough_48
def kX11_enough_20 : List mIn := (20, 2, 0, 3, 1, 0, []) :: (21, 13, 0, 0, 0, 0, []) :: (22, 1, 1, 0, 1, 0, []) :: (23, 1, 100, 1, 242, 1832, []) :: (26, 32, 1, 2, 3, 79, [1697, 1698, 116, 1699]) :: (29, 20, 0, 1, 38, 0, []) :: (32, 4, 0, 0, 1, 0, []) :: (33, 0, 2, 0, 0, 0, []) :: (34, 32, 0, 1, 2, 178, [11, 1700, 1702, 49, 116, 1703]) :: (37, 33, 0, 1, 0, 0, []) :: kX11_enough_38
def kX11_enough_0 : List mIn := (0, 4, 0, 0, 1, 0, []) :: (1, 0, 0, 0, 0, 0, []) :: (2, 25, 0, 11, 3, 74, [1578]) :: (5, 4, 0, 0, 1, 0, []) :: (6, 2, 0, 1, 1, 0, []) :: (7, 2, 0, 2, 1, 0, []) :: (8, 32, 0, 0, 3, 226, [11, 1780, 1782, 60, 116, 1783]) :: (11, 20, 0, 1, 20, 0, []) :: (14, 4, 0, 0, 1, 0, []) :: (15, 0, 1, 0, 0, 0, []) :: (16, 32, 0, 1, 2, 178, [11, 1700, 1702, 49, 116, 1703]) :: (19, 33, 0, 1, 0, 0, []) :: kX11_enough_20
def kX11_enough : List mIn := kX11_enough_0
def TX11_enough : Nat → mCal := fun a => match a with
  | 0 => calX11_isHit
  | 1 => calX11_fails
  | 2 => calX11_within
  | 3 => calX11_seenOf
  | 4 => calX11_raw
  | 5 => calX11_roughly
  | _ => (yX11_enough, cX11_enough, 6, (some .int), (0, 0, 0, 0))
def calX11_enough : mCal := (yX11_enough, cX11_enough, 6, (some .int), (3, 67, 0, 0))
def cutX11_enough : Nat → Option (List Bool) := fun t => mLk t [(48, [true, true, true, true, true, true])]
theorem okX11_enough : mOK (yX11_enough.cls, cX11_enough, TX11_enough, (some .int), (3, 67, 0, 0), 6, mAcf [], mAcf []) kX11_enough = true := by decide +kernel
set_option maxRecDepth 100000 in
theorem sfxX11_enough_20 : mSfx 20 kX11_enough = kX11_enough_20 := rfl
theorem cutX11_enough_20 : cutX11_enough 20 = none := by decide
set_option maxRecDepth 100000 in
theorem sfxX11_enough_38 : mSfx 38 kX11_enough = kX11_enough_38 := rfl
theorem cutX11_enough_38 : cutX11_enough 38 = none := by decide
set_option maxRecDepth 100000 in
theorem sfxX11_enough_48 : mSfx 48 kX11_enough = kX11_enough_48 := rfl
theorem cutX11_enough_48 : cutX11_enough 48 = some [true, true, true, true, true, true] := by decide
set_option maxRecDepth 100000 in
theorem sfxX11_enough_95 : mSfx 95 kX11_enough = kX11_enough_95 := rfl
theorem cutX11_enough_95 : cutX11_enough 95 = none := by decide
set_option maxRecDepth 100000 in
theorem sfxX11_enough_101 : mSfx 101 kX11_enough = kX11_enough_101 := rfl
theorem cutX11_enough_101 : cutX11_enough 101 = none := by decide
def kX11_chase_37 : List mIn := (37, 27, 0, 20, 0, 0, []) :: (38, 2, 0, 2, 1, 0, []) :: (39, 33, 0, 4, 0, 0, []) :: []
def kX11_chase_36 : List mIn := (36, 0, 0, 0, 0, 0, []) :: kX11_chase_37
def kX11_chase_21 : List mIn := (21, 5, 0, 2, 1, 0, []) :: (22, 4, 0, 0, 1, 0, []) :: (23, 24, 0, 11, 0, 9, [1575]) :: (26, 0, 8, 1, 0, 0, []) :: (28, 2, 0, 1, 1, 0, []) :: (29, 20, 0, 0, 36, 0, []) :: (32, 0, 1, 0, 0, 0, []) :: (33, 22, 0, 0, 37, 0, []) :: kX11_chase_36
def kX11_chase_20 : List mIn := (20, 0, 0, 0, 0, 0, []) :: kX11_chase_21
def kX11_chase_0 : List mIn := (0, 4, 0, 0, 1, 0, []) :: (1, 0, 0, 0, 0, 0, []) :: (2, 25, 0, 11, 3, 74, [1578]) :: (5, 4, 0, 0, 1, 0, []) :: (6, 24, 0, 11, 0, 9, [1575]) :: (9, 0, 8, 1, 0, 0, []) :: (11, 26, 0, 20, 0, 0, []) :: (12, 0, 1, 0, 0, 0, []) :: (13, 19, 0, 1, 20, 0, []) :: (16, 0, 1, 0, 0, 0, []) :: (17, 22, 0, 0, 21, 0, []) :: kX11_chase_20
def kX11_chase : List mIn := kX11_chase_0
def TX11_chase : Nat → mCal := fun a => match a with
  | _ => (yX11_chase, cX11_chase, 3, (some .boolean), (0, 0, 0, 0))
def calX11_chase : mCal := (yX11_chase, cX11_chase, 3, (some .boolean), (0, 0, 0, 0))
def cutX11_chase : Nat → Option (List Bool) := fun t => mLk t []
theorem okX11_chase : mOK (yX11_chase.cls, cX11_chase, TX11_chase, (some .boolean), (0, 0, 0, 0), 3, mAcf [], mAcf []) kX11_chase = true := by decide +kernel
set_option maxRecDepth 100000 in
theorem sfxX11_chase_20 : mSfx 20 kX11_chase = kX11_chase_20 := rfl
theorem cutX11_chase_20 : cutX11_chase 20 = none := by decide
set_option maxRecDepth 100000 in
theorem sfxX11_chase_21 : mSfx 21 kX11_chase = kX11_chase_21 := rfl
theorem cutX11_chase_21 : cutX11_chase 21 = none := by decide
set_option maxRecDepth 100000 in
theorem sfxX11_chase_36 : mSfx 36 kX11_chase = kX11_chase_36 := rfl
theorem cutX11_chase_36 : cutX11_chase 36 = none := by decide
set_option maxRecDepth 100000 in
theorem sfxX11_chase_37 : mSfx 37 kX11_chase = kX11_chase_37 := rfl
theorem cutX11_chase_37 : cutX11_chase 37 = none := by decide
def kX11_draw_0 : List mIn := (0, 4, 0, 0, 1, 0, []) :: (1, 0, 1103515245, 4, 410, 2134, []) :: (4, 4, 0, 0, 1, 0, []) :: (5, 24, 0, 11, 32, 411, [1607]) :: (8, 9, 0, 2, 0, 0, []) :: (9, 0, 12345, 2, 0, 0, []) :: (12, 9, 0, 0, 0, 0, []) :: (13, 25, 0, 11, 32, 411, [1607]) :: (16, 4, 0, 0, 1, 0, []) :: (17, 24, 0, 11, 32, 411, [1607]) :: (20, 0, 16, 1, 0, 0, []) :: (22, 9, 0, 8, 0, 0, []) :: (23, 2, 0, 1, 1, 0, []) :: (24, 16, 0, 1, 0, 0, []) :: (25, 33, 0, 1, 0, 0, []) :: []
def kX11_draw : List mIn := kX11_draw_0
def TX11_draw : Nat → mCal := fun a => match a with
  | _ => (yX11_draw, cX11_draw, 2, (some .int), (0, 0, 0, 0))
def calX11_draw : mCal := (yX11_draw, cX11_draw, 2, (some .int), (0, 0, 0, 0))
def cutX11_draw : Nat → Option (List Bool) := fun t => mLk t []
theorem okX11_draw : mOK (yX11_draw.cls, cX11_draw, TX11_draw, (some .int), (0, 0, 0, 0), 2, mAcf [], mAcf []) kX11_draw = true := by decide +kernel
def kX11_bowled_118 : List mIn := (118, 2, 0, 4, 2, 0, []) :: (120, 33, 0, 1, 0, 0, []) :: []
def kX11_bowled_89 : List mIn := (89, 2, 0, 3, 1, 0, []) :: (90, 4, 0, 0, 1, 0, []) :: (91, 2, 0, 1, 1, 0, []) :: (92, 2, 0, 4, 2, 0, []) :: (94, 0, 3, 0, 0, 0, []) :: (95, 32, 0, 3, 4, 192, [11, 1788, 1790, 62, 116, 1791]) :: (98, 19, 0, 2, 118, 0, []) :: (101, 2, 0, 3, 1, 0, []) :: (102, 4, 0, 0, 1, 0, []) :: (103, 2, 0, 1, 1, 0, []) :: (104, 2, 0, 4, 2, 0, []) :: (106, 0, 3, 0, 0, 0, []) :: (107, 32, 0, 3, 4, 192, [11, 1788, 1790, 62, 116, 1791]) :: (110, 9, 0, 1, 0, 0, []) :: (111, 5, 0, 3, 1, 0, []) :: (112, 8, 1, 4, 0, 0, []) :: (115, 22, 0, 0, 89, 0, []) :: kX11_bowled_118
def kX11_bowled_75 : List mIn := (75, 4, 0, 0, 1, 0, []) :: (76, 4, 0, 0, 1, 0, []) :: (77, 2, 0, 1, 1, 0, []) :: (78, 32, 0, 2, 2, 313, [11, 1957, 1959, 84, 116, 1960]) :: (81, 14, 0, 0, 0, 0, []) :: (82, 32, 0, 0, 2, 414, [11, 2130, 2132, 102, 116, 2133]) :: (85, 5, 0, 3, 1, 0, []) :: (86, 0, 0, 0, 0, 0, []) :: (87, 5, 0, 4, 2, 0, []) :: (89, 43, 0, 0, 89, 0, []) :: kX11_bowled_89
def kX11_bowled_73 : List mIn := (73, 2, 0, 3, 1, 0, []) :: (74, 33, 0, 1, 0, 0, []) :: kX11_bowled_75
def kX11_bowled_67 : List mIn := (67, 8, 1, 4, 0, 0, []) :: (70, 22, 0, 0, 42, 0, []) :: kX11_bowled_73
def kX11_bowled_42 : List mIn := (42, 2, 0, 4, 2, 0, []) :: (44, 2, 0, 2, 1, 0, []) :: (45, 19, 0, 3, 73, 0, []) :: (48, 4, 0, 0, 1, 0, []) :: (49, 2, 0, 1, 1, 0, []) :: (50, 2, 0, 4, 2, 0, []) :: (52, 32, 0, 1, 3, 303, [11, 1945, 1947, 82, 116, 1948]) :: (55, 4, 0, 0, 1, 0, []) :: (56, 2, 0, 1, 1, 0, []) :: (57, 2, 0, 3, 1, 0, []) :: (58, 32, 0, 1, 3, 303, [11, 1945, 1947, 82, 116, 1948]) :: (61, 19, 0, 5, 67, 0, []) :: (64, 2, 0, 4, 2, 0, []) :: (66, 5, 0, 3, 1, 0, []) :: kX11_bowled_67
def kX11_bowled_0 : List mIn := (0, 4, 0, 0, 1, 0, []) :: (1, 24, 0, 11, 0, 9, [1575]) :: (4, 0, 13, 1, 0, 0, []) :: (6, 2, 0, 1, 1, 0, []) :: (7, 9, 0, 0, 0, 0, []) :: (8, 26, 0, 20, 0, 0, []) :: (9, 5, 0, 2, 1, 0, []) :: (10, 4, 0, 0, 1, 0, []) :: (11, 24, 0, 11, 0, 9, [1575]) :: (14, 0, 6, 1, 0, 0, []) :: (16, 26, 0, 20, 0, 0, []) :: (17, 0, 1, 0, 0, 0, []) :: (18, 19, 0, 1, 75, 0, []) :: (21, 4, 0, 0, 1, 0, []) :: (22, 0, 100, 1, 0, 0, []) :: (24, 32, 0, 0, 2, 414, [11, 2130, 2132, 102, 116, 2133]) :: (27, 4, 0, 0, 1, 0, []) :: (28, 24, 0, 11, 0, 9, [1575]) :: (31, 0, 7, 1, 0, 0, []) :: (33, 26, 0, 20, 0, 0, []) :: (34, 19, 0, 3, 75, 0, []) :: (37, 0, 0, 0, 0, 0, []) :: (38, 5, 0, 3, 1, 0, []) :: (39, 0, 1, 0, 0, 0, []) :: (40, 5, 0, 4, 2, 0, []) :: (42, 43, 0, 0, 42, 0, []) :: kX11_bowled_42
def kX11_bowled : List mIn := kX11_bowled_0
def TX11_bowled : Nat → mCal := fun a => match a with
  | 0 => calX11_draw
  | 1 => calX11_costOf
  | 2 => calX11_allFor
  | 3 => calX11_raw
  | _ => (yX11_bowled, cX11_bowled, 5, (some .int), (0, 0, 0, 0))
def calX11_bowled : mCal := (yX11_bowled, cX11_bowled, 5, (some .int), (10, 238, 0, 0))
def cutX11_bowled : Nat → Option (List Bool) := fun t => mLk t [(42, [true, true, true, true, true]), (89, [true, true, false, true, true])]
theorem okX11_bowled : mOK (yX11_bowled.cls, cX11_bowled, TX11_bowled, (some .int), (10, 238, 0, 0), 5, mAcf [], mAcf []) kX11_bowled = true := by decide +kernel
set_option maxRecDepth 100000 in
theorem sfxX11_bowled_42 : mSfx 42 kX11_bowled = kX11_bowled_42 := rfl
theorem cutX11_bowled_42 : cutX11_bowled 42 = some [true, true, true, true, true] := by decide
set_option maxRecDepth 100000 in
theorem sfxX11_bowled_67 : mSfx 67 kX11_bowled = kX11_bowled_67 := rfl
theorem cutX11_bowled_67 : cutX11_bowled 67 = none := by decide
set_option maxRecDepth 100000 in
theorem sfxX11_bowled_73 : mSfx 73 kX11_bowled = kX11_bowled_73 := rfl
theorem cutX11_bowled_73 : cutX11_bowled 73 = none := by decide
set_option maxRecDepth 100000 in
theorem sfxX11_bowled_75 : mSfx 75 kX11_bowled = kX11_bowled_75 := rfl
theorem cutX11_bowled_75 : cutX11_bowled 75 = none := by decide
set_option maxRecDepth 100000 in
theorem sfxX11_bowled_89 : mSfx 89 kX11_bowled = kX11_bowled_89 := rfl
theorem cutX11_bowled_89 : cutX11_bowled 89 = some [true, true, false, true, true] := by decide
set_option maxRecDepth 100000 in
theorem sfxX11_bowled_118 : mSfx 118 kX11_bowled = kX11_bowled_118 := rfl
theorem cutX11_bowled_118 : cutX11_bowled 118 = none := by decide
def kX11_chases_122 : List mIn := (122, 33, 0, 0, 0, 0, []) :: []
def kX11_chases_92 : List mIn := (92, 4, 0, 0, 1, 0, []) :: (93, 2, 0, 4, 2, 0, []) :: (95, 32, 0, 2, 2, 250, [11, 1842, 1844, 68, 116, 1845]) :: (98, 5, 0, 5, 2, 0, []) :: (100, 4, 0, 0, 1, 0, []) :: (101, 2, 0, 4, 2, 0, []) :: (103, 2, 0, 3, 1, 0, []) :: (104, 32, 0, 4, 3, 253, [11, 1846, 1848, 69, 116, 1849]) :: (107, 4, 0, 0, 1, 0, []) :: (108, 32, 0, 5, 1, 329, [11, 1986, 1988, 88, 116, 1989]) :: (111, 20, 0, 1, 122, 0, []) :: (114, 4, 0, 0, 1, 0, []) :: (115, 2, 0, 4, 2, 0, []) :: (117, 2, 0, 5, 2, 0, []) :: (119, 32, 0, 4, 3, 253, [11, 1846, 1848, 69, 116, 1849]) :: kX11_chases_122
def kX11_chases_85 : List mIn := (85, 2, 0, 4, 2, 0, []) :: (87, 0, (-1), 0, 0, 0, []) :: (88, 19, 0, 1, 92, 0, []) :: (91, 33, 0, 0, 0, 0, []) :: kX11_chases_92
def kX11_chases_79 : List mIn := (79, 8, 1, 5, 0, 0, []) :: (82, 22, 0, 0, 29, 0, []) :: kX11_chases_85
def kX11_chases_75 : List mIn := (75, 2, 0, 5, 2, 0, []) :: (77, 5, 0, 4, 2, 0, []) :: kX11_chases_79
def kX11_chases_29 : List mIn := (29, 2, 0, 5, 2, 0, []) :: (31, 0, 9, 1, 0, 0, []) :: (33, 19, 0, 3, 85, 0, []) :: (36, 4, 0, 0, 1, 0, []) :: (37, 2, 0, 5, 2, 0, []) :: (39, 32, 0, 2, 2, 250, [11, 1842, 1844, 68, 116, 1845]) :: (42, 0, (-1), 0, 0, 0, []) :: (43, 19, 0, 0, 79, 0, []) :: (46, 2, 0, 4, 2, 0, []) :: (48, 0, (-1), 0, 0, 0, []) :: (49, 19, 0, 0, 75, 0, []) :: (52, 4, 0, 0, 1, 0, []) :: (53, 2, 0, 5, 2, 0, []) :: (55, 32, 0, 2, 2, 250, [11, 1842, 1844, 68, 116, 1845]) :: (58, 2, 0, 3, 1, 0, []) :: (59, 32, 1, 3, 2, 223, [1878, 1879, 116, 1880]) :: (62, 4, 0, 0, 1, 0, []) :: (63, 2, 0, 4, 2, 0, []) :: (65, 32, 0, 2, 2, 250, [11, 1842, 1844, 68, 116, 1845]) :: (68, 2, 0, 3, 1, 0, []) :: (69, 32, 1, 3, 2, 223, [1878, 1879, 116, 1880]) :: (72, 19, 0, 3, 79, 0, []) :: kX11_chases_75
def kX11_chases_10 : List mIn := (10, 4, 0, 0, 1, 0, []) :: (11, 2, 0, 1, 1, 0, []) :: (12, 2, 0, 2, 1, 0, []) :: (13, 4, 0, 0, 1, 0, []) :: (14, 2, 0, 1, 1, 0, []) :: (15, 2, 0, 2, 1, 0, []) :: (16, 32, 0, 0, 3, 229, [11, 1797, 1799, 64, 116, 1800]) :: (19, 32, 0, 1, 4, 217, [11, 1819, 1821, 67, 116, 1822]) :: (22, 5, 0, 3, 1, 0, []) :: (23, 0, (-1), 0, 0, 0, []) :: (24, 5, 0, 4, 2, 0, []) :: (26, 0, 0, 0, 0, 0, []) :: (27, 5, 0, 5, 2, 0, []) :: (29, 43, 0, 0, 29, 0, []) :: kX11_chases_29
def kX11_chases_0 : List mIn := (0, 4, 0, 0, 1, 0, []) :: (1, 2, 0, 1, 1, 0, []) :: (2, 2, 0, 2, 1, 0, []) :: (3, 32, 0, 0, 3, 229, [11, 1797, 1799, 64, 116, 1800]) :: (6, 20, 0, 1, 10, 0, []) :: (9, 33, 0, 0, 0, 0, []) :: kX11_chases_10
def kX11_chases : List mIn := kX11_chases_0
def TX11_chases : Nat → mCal := fun a => match a with
  | 0 => calX11_stepsOf
  | 1 => calX11_cellAt
  | 2 => calX11_standOf
  | 3 => calX11_far
  | 4 => calX11_puts
  | 5 => calX11_isLawful
  | _ => (yX11_chases, cX11_chases, 6, none, (0, 0, 0, 0))
def calX11_chases : mCal := (yX11_chases, cX11_chases, 6, none, (6, 129, 0, 0))
def cutX11_chases : Nat → Option (List Bool) := fun t => mLk t [(29, [true, false, false, true, true, true])]
theorem okX11_chases : mOK (yX11_chases.cls, cX11_chases, TX11_chases, none, (6, 129, 0, 0), 6, mAcf [], mAcf []) kX11_chases = true := by decide +kernel
set_option maxRecDepth 100000 in
theorem sfxX11_chases_10 : mSfx 10 kX11_chases = kX11_chases_10 := rfl
theorem cutX11_chases_10 : cutX11_chases 10 = none := by decide
set_option maxRecDepth 100000 in
theorem sfxX11_chases_29 : mSfx 29 kX11_chases = kX11_chases_29 := rfl
theorem cutX11_chases_29 : cutX11_chases 29 = some [true, false, false, true, true, true] := by decide
set_option maxRecDepth 100000 in
theorem sfxX11_chases_75 : mSfx 75 kX11_chases = kX11_chases_75 := rfl
theorem cutX11_chases_75 : cutX11_chases 75 = none := by decide
set_option maxRecDepth 100000 in
theorem sfxX11_chases_79 : mSfx 79 kX11_chases = kX11_chases_79 := rfl
theorem cutX11_chases_79 : cutX11_chases 79 = none := by decide
set_option maxRecDepth 100000 in
theorem sfxX11_chases_85 : mSfx 85 kX11_chases = kX11_chases_85 := rfl
theorem cutX11_chases_85 : cutX11_chases 85 = none := by decide
set_option maxRecDepth 100000 in
theorem sfxX11_chases_92 : mSfx 92 kX11_chases = kX11_chases_92 := rfl
theorem cutX11_chases_92 : cutX11_chases 92 = none := by decide
set_option maxRecDepth 100000 in
theorem sfxX11_chases_122 : mSfx 122 kX11_chases = kX11_chases_122 := rfl
theorem cutX11_chases_122 : cutX11_chases 122 = none := by decide
def kX11_play_196 : List mIn := (196, 2, 0, 4, 2, 0, []) :: (198, 33, 0, 1, 0, 0, []) :: []
def kX11_play_190 : List mIn := (190, 8, 1, 5, 0, 0, []) :: (193, 22, 0, 0, 61, 0, []) :: kX11_play_196
def kX11_play_161 : List mIn := (161, 4, 0, 0, 1, 0, []) :: (162, 24, 0, 11, 0, 9, [1575]) :: (165, 0, 11, 1, 0, 0, []) :: (167, 30, 0, 0, 0, 0, []) :: (168, 26, 0, 20, 0, 0, []) :: (169, 0, 1, 0, 0, 0, []) :: (170, 9, 0, 0, 0, 0, []) :: (171, 27, 0, 20, 0, 0, []) :: (172, 4, 0, 0, 1, 0, []) :: (173, 24, 0, 11, 0, 9, [1575]) :: (176, 0, 8, 1, 0, 0, []) :: (178, 26, 0, 20, 0, 0, []) :: (179, 0, 1, 0, 0, 0, []) :: (180, 19, 0, 1, 190, 0, []) :: (183, 4, 0, 0, 1, 0, []) :: (184, 2, 0, 1, 1, 0, []) :: (185, 2, 0, 6, 2, 0, []) :: (187, 32, 0, 7, 3, 422, [11, 2135, 2137, 103, 116, 2138]) :: kX11_play_190
def kX11_play_124 : List mIn := (124, 4, 0, 0, 1, 0, []) :: (125, 2, 0, 1, 1, 0, []) :: (126, 2, 0, 6, 2, 0, []) :: (128, 32, 0, 6, 3, 300, [11, 1932, 1934, 80, 116, 1935]) :: (131, 5, 0, 8, 2, 0, []) :: (133, 2, 0, 4, 2, 0, []) :: (135, 2, 0, 8, 2, 0, []) :: (137, 9, 0, 0, 0, 0, []) :: (138, 5, 0, 4, 2, 0, []) :: (140, 4, 0, 0, 1, 0, []) :: (141, 24, 0, 11, 0, 9, [1575]) :: (144, 0, 9, 1, 0, 0, []) :: (146, 30, 0, 0, 0, 0, []) :: (147, 26, 0, 20, 0, 0, []) :: (148, 2, 0, 8, 2, 0, []) :: (150, 9, 0, 0, 0, 0, []) :: (151, 27, 0, 20, 0, 0, []) :: (152, 2, 0, 8, 2, 0, []) :: (154, 0, 4, 0, 0, 0, []) :: (155, 19, 0, 3, 161, 0, []) :: (158, 22, 0, 0, 190, 0, []) :: kX11_play_161
def kX11_play_61 : List mIn := (61, 2, 0, 5, 2, 0, []) :: (63, 2, 0, 2, 1, 0, []) :: (64, 19, 0, 3, 196, 0, []) :: (67, 4, 0, 0, 1, 0, []) :: (68, 2, 0, 1, 1, 0, []) :: (69, 32, 0, 3, 2, 419, [11, 2126, 2128, 101, 116, 2129]) :: (72, 5, 0, 6, 2, 0, []) :: (74, 4, 0, 0, 1, 0, []) :: (75, 24, 0, 11, 0, 9, [1575]) :: (78, 0, 12, 1, 0, 0, []) :: (80, 30, 0, 0, 0, 0, []) :: (81, 26, 0, 20, 0, 0, []) :: (82, 0, 1, 0, 0, 0, []) :: (83, 9, 0, 0, 0, 0, []) :: (84, 27, 0, 20, 0, 0, []) :: (85, 4, 0, 0, 1, 0, []) :: (86, 2, 0, 1, 1, 0, []) :: (87, 2, 0, 6, 2, 0, []) :: (89, 32, 0, 4, 3, 297, [11, 1908, 1910, 77, 116, 1911]) :: (92, 5, 0, 7, 2, 0, []) :: (94, 2, 0, 7, 2, 0, []) :: (96, 20, 0, 5, 124, 0, []) :: (99, 4, 0, 0, 1, 0, []) :: (100, 0, 100, 1, 0, 0, []) :: (102, 32, 0, 5, 2, 414, [11, 2130, 2132, 102, 116, 2133]) :: (105, 2, 0, 7, 2, 0, []) :: (107, 19, 0, 3, 124, 0, []) :: (110, 4, 0, 0, 1, 0, []) :: (111, 24, 0, 11, 0, 9, [1575]) :: (114, 0, 10, 1, 0, 0, []) :: (116, 30, 0, 0, 0, 0, []) :: (117, 26, 0, 20, 0, 0, []) :: (118, 0, 1, 0, 0, 0, []) :: (119, 9, 0, 0, 0, 0, []) :: (120, 27, 0, 20, 0, 0, []) :: (121, 22, 0, 0, 190, 0, []) :: kX11_play_124
def kX11_play_50 : List mIn := (50, 4, 0, 0, 1, 0, []) :: (51, 2, 0, 3, 1, 0, []) :: (52, 25, 0, 11, 32, 411, [1607]) :: (55, 0, 0, 0, 0, 0, []) :: (56, 5, 0, 4, 2, 0, []) :: (58, 0, 0, 0, 0, 0, []) :: (59, 5, 0, 5, 2, 0, []) :: (61, 43, 0, 0, 61, 0, []) :: kX11_play_61
def kX11_play_36 : List mIn := (36, 4, 0, 0, 1, 0, []) :: (37, 24, 0, 11, 0, 9, [1575]) :: (40, 0, 13, 1, 0, 0, []) :: (42, 2, 0, 1, 1, 0, []) :: (43, 9, 0, 0, 0, 0, []) :: (44, 26, 0, 20, 0, 0, []) :: (45, 20, 0, 1, 50, 0, []) :: (48, 0, (-1), 0, 0, 0, []) :: (49, 33, 0, 1, 0, 0, []) :: kX11_play_50
def kX11_play_18 : List mIn := (18, 2, 0, 2, 1, 0, []) :: (19, 13, 0, 0, 0, 0, []) :: (20, 1, 1, 0, 1, 0, []) :: (21, 1, 60, 1, 417, 2125, []) :: (24, 32, 1, 2, 3, 79, [1697, 1698, 116, 1699]) :: (27, 20, 0, 1, 36, 0, []) :: (30, 4, 0, 0, 1, 0, []) :: (31, 0, 2, 0, 0, 0, []) :: (32, 32, 0, 1, 2, 178, [11, 1700, 1702, 49, 116, 1703]) :: (35, 33, 0, 1, 0, 0, []) :: kX11_play_36
def kX11_play_0 : List mIn := (0, 4, 0, 0, 1, 0, []) :: (1, 0, 0, 0, 0, 0, []) :: (2, 25, 0, 11, 3, 74, [1578]) :: (5, 2, 0, 1, 1, 0, []) :: (6, 32, 1, 0, 1, 189, [1772, 1773, 116, 1774]) :: (9, 20, 0, 1, 18, 0, []) :: (12, 4, 0, 0, 1, 0, []) :: (13, 0, 1, 0, 0, 0, []) :: (14, 32, 0, 1, 2, 178, [11, 1700, 1702, 49, 116, 1703]) :: (17, 33, 0, 1, 0, 0, []) :: kX11_play_18
def kX11_play : List mIn := kX11_play_0
def TX11_play : Nat → mCal := fun a => match a with
  | 0 => calX11_isBall
  | 1 => calX11_fails
  | 2 => calX11_within
  | 3 => calX11_bowled
  | 4 => calX11_catchOf
  | 5 => calX11_draw
  | 6 => calX11_runsOf
  | 7 => calX11_chases
  | _ => (yX11_play, cX11_play, 9, (some .int), (0, 0, 0, 0))
def calX11_play : mCal := (yX11_play, cX11_play, 9, (some .int), (11, 262, 0, 0))
def cutX11_play : Nat → Option (List Bool) := fun t => mLk t [(61, [true, true, true, false, true, true, false, false, false])]
theorem okX11_play : mOK (yX11_play.cls, cX11_play, TX11_play, (some .int), (11, 262, 0, 0), 9, mAcf [], mAcf []) kX11_play = true := by decide +kernel
set_option maxRecDepth 100000 in
theorem sfxX11_play_18 : mSfx 18 kX11_play = kX11_play_18 := rfl
theorem cutX11_play_18 : cutX11_play 18 = none := by decide
set_option maxRecDepth 100000 in
theorem sfxX11_play_36 : mSfx 36 kX11_play = kX11_play_36 := rfl
theorem cutX11_play_36 : cutX11_play 36 = none := by decide
set_option maxRecDepth 100000 in
theorem sfxX11_play_50 : mSfx 50 kX11_play = kX11_play_50 := rfl
theorem cutX11_play_50 : cutX11_play 50 = none := by decide
set_option maxRecDepth 100000 in
theorem sfxX11_play_61 : mSfx 61 kX11_play = kX11_play_61 := rfl
theorem cutX11_play_61 : cutX11_play 61 = some [true, true, true, false, true, true, false, false, false] := by decide
set_option maxRecDepth 100000 in
theorem sfxX11_play_124 : mSfx 124 kX11_play = kX11_play_124 := rfl
theorem cutX11_play_124 : cutX11_play 124 = none := by decide
set_option maxRecDepth 100000 in
theorem sfxX11_play_161 : mSfx 161 kX11_play = kX11_play_161 := rfl
theorem cutX11_play_161 : cutX11_play 161 = none := by decide
set_option maxRecDepth 100000 in
theorem sfxX11_play_190 : mSfx 190 kX11_play = kX11_play_190 := rfl
theorem cutX11_play_190 : cutX11_play 190 = none := by decide
set_option maxRecDepth 100000 in
theorem sfxX11_play_196 : mSfx 196 kX11_play = kX11_play_196 := rfl
theorem cutX11_play_196 : cutX11_play 196 = none := by decide
def kX11_score_30 : List mIn := (30, 33, 0, 1, 0, 0, []) :: []
def kX11_score_29 : List mIn := (29, 0, (-1), 0, 0, 0, []) :: kX11_score_30
def kX11_score_0 : List mIn := (0, 4, 0, 0, 1, 0, []) :: (1, 0, 0, 0, 0, 0, []) :: (2, 25, 0, 11, 3, 74, [1578]) :: (5, 2, 0, 1, 1, 0, []) :: (6, 13, 0, 0, 0, 0, []) :: (7, 1, 0, 0, 0, 0, []) :: (8, 1, 3, 1, 346, 2017, []) :: (11, 32, 1, 0, 3, 79, [1697, 1698, 116, 1699]) :: (14, 20, 0, 0, 29, 0, []) :: (17, 4, 0, 0, 1, 0, []) :: (18, 24, 0, 11, 0, 9, [1575]) :: (21, 0, 9, 1, 0, 0, []) :: (23, 2, 0, 1, 1, 0, []) :: (24, 9, 0, 0, 0, 0, []) :: (25, 26, 0, 20, 0, 0, []) :: (26, 22, 0, 0, 30, 0, []) :: kX11_score_29
def kX11_score : List mIn := kX11_score_0
def TX11_score : Nat → mCal := fun a => match a with
  | 0 => calX11_within
  | _ => (yX11_score, cX11_score, 2, (some .int), (0, 0, 0, 0))
def calX11_score : mCal := (yX11_score, cX11_score, 2, (some .int), (1, 25, 0, 0))
def cutX11_score : Nat → Option (List Bool) := fun t => mLk t []
theorem okX11_score : mOK (yX11_score.cls, cX11_score, TX11_score, (some .int), (1, 25, 0, 0), 2, mAcf [], mAcf []) kX11_score = true := by decide +kernel
set_option maxRecDepth 100000 in
theorem sfxX11_score_29 : mSfx 29 kX11_score = kX11_score_29 := rfl
theorem cutX11_score_29 : cutX11_score 29 = none := by decide
set_option maxRecDepth 100000 in
theorem sfxX11_score_30 : mSfx 30 kX11_score = kX11_score_30 := rfl
theorem cutX11_score_30 : cutX11_score 30 = none := by decide
def kX11_tray_95 : List mIn := (95, 33, 0, 0, 0, 0, []) :: []
def kX11_tray_69 : List mIn := (69, 2, 0, 4, 2, 0, []) :: (71, 0, 40, 1, 0, 0, []) :: (73, 19, 0, 3, 95, 0, []) :: (76, 4, 0, 0, 1, 0, []) :: (77, 24, 0, 11, 35, 67, [1610]) :: (80, 0, 40, 1, 0, 0, []) :: (82, 2, 0, 1, 1, 0, []) :: (83, 9, 0, 2, 0, 0, []) :: (84, 2, 0, 4, 2, 0, []) :: (86, 9, 0, 0, 0, 0, []) :: (87, 1, 0, 0, 0, 0, []) :: (88, 27, 0, 23, 0, 0, []) :: (89, 8, 1, 4, 0, 0, []) :: (92, 22, 0, 0, 69, 0, []) :: kX11_tray_95
def kX11_tray_52 : List mIn := (52, 4, 0, 0, 1, 0, []) :: (53, 24, 0, 11, 33, 61, [1608]) :: (56, 2, 0, 1, 1, 0, []) :: (57, 2, 0, 2, 1, 0, []) :: (58, 27, 0, 20, 0, 0, []) :: (59, 4, 0, 0, 1, 0, []) :: (60, 24, 0, 11, 34, 64, [1609]) :: (63, 2, 0, 1, 1, 0, []) :: (64, 2, 0, 3, 1, 0, []) :: (65, 27, 0, 20, 0, 0, []) :: (66, 0, 0, 0, 0, 0, []) :: (67, 5, 0, 4, 2, 0, []) :: (69, 43, 0, 0, 69, 0, []) :: kX11_tray_69
def kX11_tray_41 : List mIn := (41, 25, 0, 11, 3, 74, [1578]) :: (44, 4, 0, 0, 1, 0, []) :: (45, 24, 0, 11, 3, 74, [1578]) :: (48, 20, 0, 5, 52, 0, []) :: (51, 33, 0, 0, 0, 0, []) :: kX11_tray_52
def kX11_tray_40 : List mIn := (40, 0, 0, 0, 0, 0, []) :: kX11_tray_41
def kX11_tray_36 : List mIn := (36, 0, 2, 0, 0, 0, []) :: (37, 22, 0, 0, 41, 0, []) :: kX11_tray_40
def kX11_tray_12 : List mIn := (12, 2, 0, 2, 1, 0, []) :: (13, 13, 0, 0, 0, 0, []) :: (14, 1, 0, 0, 0, 0, []) :: (15, 1, 3, 1, 346, 2017, []) :: (18, 32, 1, 1, 3, 79, [1697, 1698, 116, 1699]) :: (21, 20, 0, 0, 36, 0, []) :: (24, 2, 0, 3, 1, 0, []) :: (25, 13, 0, 0, 0, 0, []) :: (26, 1, 0, 0, 0, 0, []) :: (27, 1, 40, 1, 425, 2147, []) :: (30, 32, 1, 1, 3, 79, [1697, 1698, 116, 1699]) :: (33, 20, 0, 1, 40, 0, []) :: kX11_tray_36
def kX11_tray_0 : List mIn := (0, 4, 0, 0, 1, 0, []) :: (1, 2, 0, 1, 1, 0, []) :: (2, 32, 1, 0, 1, 388, [2060, 2061, 116, 2062]) :: (5, 20, 0, 1, 12, 0, []) :: (8, 0, 1, 0, 0, 0, []) :: (9, 22, 0, 0, 41, 0, []) :: kX11_tray_12
def kX11_tray : List mIn := kX11_tray_0
def TX11_tray : Nat → mCal := fun a => match a with
  | 0 => calX11_isTray
  | 1 => calX11_within
  | _ => (yX11_tray, cX11_tray, 5, none, (0, 0, 0, 0))
def calX11_tray : mCal := (yX11_tray, cX11_tray, 5, none, (2, 45, 0, 0))
def cutX11_tray : Nat → Option (List Bool) := fun t => mLk t [(69, [true, true, false, false, true])]
theorem okX11_tray : mOK (yX11_tray.cls, cX11_tray, TX11_tray, none, (2, 45, 0, 0), 5, mAcf [], mAcf []) kX11_tray = true := by decide +kernel
set_option maxRecDepth 100000 in
theorem sfxX11_tray_12 : mSfx 12 kX11_tray = kX11_tray_12 := rfl
theorem cutX11_tray_12 : cutX11_tray 12 = none := by decide
set_option maxRecDepth 100000 in
theorem sfxX11_tray_36 : mSfx 36 kX11_tray = kX11_tray_36 := rfl
theorem cutX11_tray_36 : cutX11_tray 36 = none := by decide
set_option maxRecDepth 100000 in
theorem sfxX11_tray_40 : mSfx 40 kX11_tray = kX11_tray_40 := rfl
theorem cutX11_tray_40 : cutX11_tray 40 = none := by decide
set_option maxRecDepth 100000 in
theorem sfxX11_tray_41 : mSfx 41 kX11_tray = kX11_tray_41 := rfl
theorem cutX11_tray_41 : cutX11_tray 41 = none := by decide
set_option maxRecDepth 100000 in
theorem sfxX11_tray_52 : mSfx 52 kX11_tray = kX11_tray_52 := rfl
theorem cutX11_tray_52 : cutX11_tray 52 = none := by decide
set_option maxRecDepth 100000 in
theorem sfxX11_tray_69 : mSfx 69 kX11_tray = kX11_tray_69 := rfl
theorem cutX11_tray_69 : cutX11_tray 69 = some [true, true, false, false, true] := by decide
set_option maxRecDepth 100000 in
theorem sfxX11_tray_95 : mSfx 95 kX11_tray = kX11_tray_95 := rfl
theorem cutX11_tray_95 : cutX11_tray 95 = none := by decide
def kX11_write_61 : List mIn := (61, 0, 64, 1, 0, 0, []) :: (63, 0, 8, 1, 0, 0, []) :: (65, 4, 0, 0, 1, 0, []) :: (66, 24, 0, 11, 33, 61, [1608]) :: (69, 2, 0, 1, 1, 0, []) :: (70, 26, 0, 20, 0, 0, []) :: (71, 9, 0, 6, 0, 0, []) :: (72, 9, 0, 1, 0, 0, []) :: (73, 5, 0, 5, 2, 0, []) :: (75, 4, 0, 0, 1, 0, []) :: (76, 24, 0, 11, 35, 67, [1610]) :: (79, 0, 40, 1, 0, 0, []) :: (81, 2, 0, 1, 1, 0, []) :: (82, 9, 0, 2, 0, 0, []) :: (83, 2, 0, 2, 1, 0, []) :: (84, 9, 0, 0, 0, 0, []) :: (85, 3, 0, 3, 1, 0, []) :: (86, 2, 0, 5, 2, 0, []) :: (88, 18, 0, 0, 0, 0, []) :: (89, 2, 0, 5, 2, 0, []) :: (91, 18, 0, 1, 0, 0, []) :: (92, 27, 0, 23, 0, 0, []) :: (93, 4, 0, 0, 1, 0, []) :: (94, 24, 0, 11, 35, 67, [1610]) :: (97, 0, 40, 1, 0, 0, []) :: (99, 2, 0, 1, 1, 0, []) :: (100, 9, 0, 2, 0, 0, []) :: (101, 2, 0, 2, 1, 0, []) :: (102, 9, 0, 0, 0, 0, []) :: (103, 26, 0, 23, 0, 0, []) :: (104, 33, 0, 2, 0, 0, []) :: []
def kX11_write_36 : List mIn := (36, 2, 0, 2, 1, 0, []) :: (37, 13, 0, 0, 0, 0, []) :: (38, 1, 0, 0, 0, 0, []) :: (39, 4, 0, 0, 1, 0, []) :: (40, 24, 0, 11, 34, 64, [1609]) :: (43, 2, 0, 1, 1, 0, []) :: (44, 26, 0, 20, 0, 0, []) :: (45, 0, 1, 0, 0, 0, []) :: (46, 9, 0, 1, 0, 0, []) :: (47, 13, 0, 0, 0, 0, []) :: (48, 32, 1, 2, 3, 79, [1697, 1698, 116, 1699]) :: (51, 20, 0, 1, 61, 0, []) :: (54, 4, 0, 0, 1, 0, []) :: (55, 0, 3, 0, 0, 0, []) :: (56, 32, 0, 1, 2, 178, [11, 1700, 1702, 49, 116, 1703]) :: (59, 13, 0, 0, 0, 0, []) :: (60, 33, 0, 2, 0, 0, []) :: kX11_write_61
def kX11_write_19 : List mIn := (19, 4, 0, 0, 1, 0, []) :: (20, 24, 0, 11, 33, 61, [1608]) :: (23, 2, 0, 1, 1, 0, []) :: (24, 26, 0, 20, 0, 0, []) :: (25, 0, (-1), 0, 0, 0, []) :: (26, 19, 0, 1, 36, 0, []) :: (29, 4, 0, 0, 1, 0, []) :: (30, 0, 2, 0, 0, 0, []) :: (31, 32, 0, 1, 2, 178, [11, 1700, 1702, 49, 116, 1703]) :: (34, 13, 0, 0, 0, 0, []) :: (35, 33, 0, 2, 0, 0, []) :: kX11_write_36
def kX11_write_0 : List mIn := (0, 4, 0, 0, 1, 0, []) :: (1, 0, 0, 0, 0, 0, []) :: (2, 25, 0, 11, 3, 74, [1578]) :: (5, 2, 0, 1, 1, 0, []) :: (6, 32, 1, 0, 1, 388, [2060, 2061, 116, 2062]) :: (9, 20, 0, 1, 19, 0, []) :: (12, 4, 0, 0, 1, 0, []) :: (13, 0, 1, 0, 0, 0, []) :: (14, 32, 0, 1, 2, 178, [11, 1700, 1702, 49, 116, 1703]) :: (17, 13, 0, 0, 0, 0, []) :: (18, 33, 0, 2, 0, 0, []) :: kX11_write_19
def kX11_write : List mIn := kX11_write_0
def TX11_write : Nat → mCal := fun a => match a with
  | 0 => calX11_isTray
  | 1 => calX11_fails
  | 2 => calX11_within
  | _ => (yX11_write, cX11_write, 6, (some .long), (0, 0, 0, 0))
def calX11_write : mCal := (yX11_write, cX11_write, 6, (some .long), (2, 45, 0, 0))
def cutX11_write : Nat → Option (List Bool) := fun t => mLk t []
theorem okX11_write : mOK (yX11_write.cls, cX11_write, TX11_write, (some .long), (2, 45, 0, 0), 6, mAcf [], mAcf []) kX11_write = true := by decide +kernel
set_option maxRecDepth 100000 in
theorem sfxX11_write_19 : mSfx 19 kX11_write = kX11_write_19 := rfl
theorem cutX11_write_19 : cutX11_write 19 = none := by decide
set_option maxRecDepth 100000 in
theorem sfxX11_write_36 : mSfx 36 kX11_write = kX11_write_36 := rfl
theorem cutX11_write_36 : cutX11_write 36 = none := by decide
set_option maxRecDepth 100000 in
theorem sfxX11_write_61 : mSfx 61 kX11_write = kX11_write_61 := rfl
theorem cutX11_write_61 : cutX11_write 61 = none := by decide
def kX11_pour_137 : List mIn := (137, 2, 0, 2, 1, 0, []) :: (138, 33, 0, 1, 0, 0, []) :: []
def kX11_pour_109 : List mIn := (109, 2, 0, 3, 1, 0, []) :: (110, 2, 0, 2, 1, 0, []) :: (111, 19, 0, 3, 137, 0, []) :: (114, 4, 0, 0, 1, 0, []) :: (115, 2, 0, 3, 1, 0, []) :: (116, 4, 0, 0, 1, 0, []) :: (117, 24, 0, 11, 35, 67, [1610]) :: (120, 0, 40, 1, 0, 0, []) :: (122, 2, 0, 1, 1, 0, []) :: (123, 9, 0, 2, 0, 0, []) :: (124, 2, 0, 3, 1, 0, []) :: (125, 9, 0, 0, 0, 0, []) :: (126, 26, 0, 23, 0, 0, []) :: (127, 14, 0, 0, 0, 0, []) :: (128, 32, 0, 3, 3, 253, [11, 1846, 1848, 69, 116, 1849]) :: (131, 8, 1, 3, 0, 0, []) :: (134, 22, 0, 0, 109, 0, []) :: kX11_pour_137
def kX11_pour_107 : List mIn := (107, 0, 0, 0, 0, 0, []) :: (108, 5, 0, 3, 1, 0, []) :: (109, 43, 0, 0, 109, 0, []) :: kX11_pour_109
def kX11_pour_101 : List mIn := (101, 8, 1, 3, 0, 0, []) :: (104, 22, 0, 0, 55, 0, []) :: kX11_pour_107
def kX11_pour_55 : List mIn := (55, 2, 0, 3, 1, 0, []) :: (56, 2, 0, 2, 1, 0, []) :: (57, 19, 0, 3, 107, 0, []) :: (60, 4, 0, 0, 1, 0, []) :: (61, 24, 0, 11, 35, 67, [1610]) :: (64, 0, 40, 1, 0, 0, []) :: (66, 2, 0, 1, 1, 0, []) :: (67, 9, 0, 2, 0, 0, []) :: (68, 2, 0, 3, 1, 0, []) :: (69, 9, 0, 0, 0, 0, []) :: (70, 26, 0, 23, 0, 0, []) :: (71, 1, (-1), 1, 427, 2156, []) :: (74, 21, 0, 0, 101, 0, []) :: (78, 4, 0, 0, 1, 0, []) :: (79, 24, 0, 11, 35, 67, [1610]) :: (82, 0, 40, 1, 0, 0, []) :: (84, 2, 0, 1, 1, 0, []) :: (85, 9, 0, 2, 0, 0, []) :: (86, 2, 0, 3, 1, 0, []) :: (87, 9, 0, 0, 0, 0, []) :: (88, 26, 0, 23, 0, 0, []) :: (89, 32, 1, 2, 1, 246, [1838, 1839, 116, 1840]) :: (92, 20, 0, 1, 101, 0, []) :: (95, 4, 0, 0, 1, 0, []) :: (96, 0, 3, 0, 0, 0, []) :: (97, 32, 0, 1, 2, 178, [11, 1700, 1702, 49, 116, 1703]) :: (100, 33, 0, 1, 0, 0, []) :: kX11_pour_101
def kX11_pour_53 : List mIn := (53, 0, 0, 0, 0, 0, []) :: (54, 5, 0, 3, 1, 0, []) :: (55, 43, 0, 0, 55, 0, []) :: kX11_pour_55
def kX11_pour_34 : List mIn := (34, 4, 0, 0, 1, 0, []) :: (35, 24, 0, 11, 34, 64, [1609]) :: (38, 2, 0, 1, 1, 0, []) :: (39, 26, 0, 20, 0, 0, []) :: (40, 5, 0, 2, 1, 0, []) :: (41, 2, 0, 2, 1, 0, []) :: (42, 0, 9, 1, 0, 0, []) :: (44, 19, 0, 5, 53, 0, []) :: (47, 4, 0, 0, 1, 0, []) :: (48, 0, 3, 0, 0, 0, []) :: (49, 32, 0, 1, 2, 178, [11, 1700, 1702, 49, 116, 1703]) :: (52, 33, 0, 1, 0, 0, []) :: kX11_pour_53
def kX11_pour_18 : List mIn := (18, 4, 0, 0, 1, 0, []) :: (19, 24, 0, 11, 33, 61, [1608]) :: (22, 2, 0, 1, 1, 0, []) :: (23, 26, 0, 20, 0, 0, []) :: (24, 0, (-1), 0, 0, 0, []) :: (25, 19, 0, 1, 34, 0, []) :: (28, 4, 0, 0, 1, 0, []) :: (29, 0, 2, 0, 0, 0, []) :: (30, 32, 0, 1, 2, 178, [11, 1700, 1702, 49, 116, 1703]) :: (33, 33, 0, 1, 0, 0, []) :: kX11_pour_34
def kX11_pour_0 : List mIn := (0, 4, 0, 0, 1, 0, []) :: (1, 0, 0, 0, 0, 0, []) :: (2, 25, 0, 11, 3, 74, [1578]) :: (5, 2, 0, 1, 1, 0, []) :: (6, 32, 1, 0, 1, 388, [2060, 2061, 116, 2062]) :: (9, 20, 0, 1, 18, 0, []) :: (12, 4, 0, 0, 1, 0, []) :: (13, 0, 1, 0, 0, 0, []) :: (14, 32, 0, 1, 2, 178, [11, 1700, 1702, 49, 116, 1703]) :: (17, 33, 0, 1, 0, 0, []) :: kX11_pour_18
def kX11_pour : List mIn := kX11_pour_0
def TX11_pour : Nat → mCal := fun a => match a with
  | 0 => calX11_isTray
  | 1 => calX11_fails
  | 2 => calX11_isCell
  | 3 => calX11_puts
  | _ => (yX11_pour, cX11_pour, 4, (some .int), (0, 0, 0, 0))
def calX11_pour : mCal := (yX11_pour, cX11_pour, 4, (some .int), (2, 46, 0, 0))
def cutX11_pour : Nat → Option (List Bool) := fun t => mLk t [(55, [true, true, true, true]), (109, [true, true, true, true])]
theorem okX11_pour : mOK (yX11_pour.cls, cX11_pour, TX11_pour, (some .int), (2, 46, 0, 0), 4, mAcf [], mAcf []) kX11_pour = true := by decide +kernel
set_option maxRecDepth 100000 in
theorem sfxX11_pour_18 : mSfx 18 kX11_pour = kX11_pour_18 := rfl
theorem cutX11_pour_18 : cutX11_pour 18 = none := by decide
set_option maxRecDepth 100000 in
theorem sfxX11_pour_34 : mSfx 34 kX11_pour = kX11_pour_34 := rfl
theorem cutX11_pour_34 : cutX11_pour 34 = none := by decide
set_option maxRecDepth 100000 in
theorem sfxX11_pour_53 : mSfx 53 kX11_pour = kX11_pour_53 := rfl
theorem cutX11_pour_53 : cutX11_pour 53 = none := by decide
set_option maxRecDepth 100000 in
theorem sfxX11_pour_55 : mSfx 55 kX11_pour = kX11_pour_55 := rfl
theorem cutX11_pour_55 : cutX11_pour 55 = some [true, true, true, true] := by decide
set_option maxRecDepth 100000 in
theorem sfxX11_pour_101 : mSfx 101 kX11_pour = kX11_pour_101 := rfl
theorem cutX11_pour_101 : cutX11_pour 101 = none := by decide
set_option maxRecDepth 100000 in
theorem sfxX11_pour_107 : mSfx 107 kX11_pour = kX11_pour_107 := rfl
theorem cutX11_pour_107 : cutX11_pour 107 = none := by decide
set_option maxRecDepth 100000 in
theorem sfxX11_pour_109 : mSfx 109 kX11_pour = kX11_pour_109 := rfl
theorem cutX11_pour_109 : cutX11_pour 109 = some [true, true, true, true] := by decide
set_option maxRecDepth 100000 in
theorem sfxX11_pour_137 : mSfx 137 kX11_pour = kX11_pour_137 := rfl
theorem cutX11_pour_137 : cutX11_pour 137 = none := by decide
def kX11_image_69 : List mIn := (69, 33, 0, 0, 0, 0, []) :: []
def kX11_image_38 : List mIn := (38, 2, 0, 2, 1, 0, []) :: (39, 0, 635, 2, 0, 0, []) :: (42, 19, 0, 3, 69, 0, []) :: (45, 4, 0, 0, 1, 0, []) :: (46, 24, 0, 11, 1, 13, [1576]) :: (49, 0, 635, 2, 0, 0, []) :: (52, 2, 0, 1, 1, 0, []) :: (53, 9, 0, 2, 0, 0, []) :: (54, 2, 0, 2, 1, 0, []) :: (55, 9, 0, 0, 0, 0, []) :: (56, 4, 0, 0, 1, 0, []) :: (57, 24, 0, 11, 0, 9, [1575]) :: (60, 2, 0, 2, 1, 0, []) :: (61, 26, 0, 20, 0, 0, []) :: (62, 27, 0, 20, 0, 0, []) :: (63, 8, 1, 2, 0, 0, []) :: (66, 22, 0, 0, 38, 0, []) :: kX11_image_69
def kX11_image_29 : List mIn := (29, 4, 0, 0, 1, 0, []) :: (30, 24, 0, 11, 2, 16, [1577]) :: (33, 2, 0, 1, 1, 0, []) :: (34, 0, 1, 0, 0, 0, []) :: (35, 27, 0, 22, 0, 0, []) :: (36, 0, 0, 0, 0, 0, []) :: (37, 5, 0, 2, 1, 0, []) :: (38, 43, 0, 0, 38, 0, []) :: kX11_image_38
def kX11_image_18 : List mIn := (18, 25, 0, 11, 3, 74, [1578]) :: (21, 4, 0, 0, 1, 0, []) :: (22, 24, 0, 11, 3, 74, [1578]) :: (25, 20, 0, 5, 29, 0, []) :: (28, 33, 0, 0, 0, 0, []) :: kX11_image_29
def kX11_image_17 : List mIn := (17, 0, 1, 0, 0, 0, []) :: kX11_image_18
def kX11_image_0 : List mIn := (0, 4, 0, 0, 1, 0, []) :: (1, 2, 0, 1, 1, 0, []) :: (2, 13, 0, 0, 0, 0, []) :: (3, 1, 0, 0, 0, 0, []) :: (4, 1, 2, 1, 429, 2161, []) :: (7, 32, 1, 0, 3, 79, [1697, 1698, 116, 1699]) :: (10, 20, 0, 0, 17, 0, []) :: (13, 0, 0, 0, 0, 0, []) :: (14, 22, 0, 0, 18, 0, []) :: kX11_image_17
def kX11_image : List mIn := kX11_image_0
def TX11_image : Nat → mCal := fun a => match a with
  | 0 => calX11_within
  | _ => (yX11_image, cX11_image, 3, none, (0, 0, 0, 0))
def calX11_image : mCal := (yX11_image, cX11_image, 3, none, (1, 25, 0, 0))
def cutX11_image : Nat → Option (List Bool) := fun t => mLk t [(38, [true, true, true])]
theorem okX11_image : mOK (yX11_image.cls, cX11_image, TX11_image, none, (1, 25, 0, 0), 3, mAcf [], mAcf []) kX11_image = true := by decide +kernel
set_option maxRecDepth 100000 in
theorem sfxX11_image_17 : mSfx 17 kX11_image = kX11_image_17 := rfl
theorem cutX11_image_17 : cutX11_image 17 = none := by decide
set_option maxRecDepth 100000 in
theorem sfxX11_image_18 : mSfx 18 kX11_image = kX11_image_18 := rfl
theorem cutX11_image_18 : cutX11_image 18 = none := by decide
set_option maxRecDepth 100000 in
theorem sfxX11_image_29 : mSfx 29 kX11_image = kX11_image_29 := rfl
theorem cutX11_image_29 : cutX11_image 29 = none := by decide
set_option maxRecDepth 100000 in
theorem sfxX11_image_38 : mSfx 38 kX11_image = kX11_image_38 := rfl
theorem cutX11_image_38 : cutX11_image 38 = some [true, true, true] := by decide
set_option maxRecDepth 100000 in
theorem sfxX11_image_69 : mSfx 69 kX11_image = kX11_image_69 := rfl
theorem cutX11_image_69 : cutX11_image 69 = none := by decide
def kX11_restore_75 : List mIn := (75, 33, 0, 0, 0, 0, []) :: []
def kX11_restore_44 : List mIn := (44, 2, 0, 2, 1, 0, []) :: (45, 0, 635, 2, 0, 0, []) :: (48, 19, 0, 3, 75, 0, []) :: (51, 4, 0, 0, 1, 0, []) :: (52, 24, 0, 11, 0, 9, [1575]) :: (55, 2, 0, 2, 1, 0, []) :: (56, 4, 0, 0, 1, 0, []) :: (57, 24, 0, 11, 1, 13, [1576]) :: (60, 0, 635, 2, 0, 0, []) :: (63, 2, 0, 1, 1, 0, []) :: (64, 9, 0, 2, 0, 0, []) :: (65, 2, 0, 2, 1, 0, []) :: (66, 9, 0, 0, 0, 0, []) :: (67, 26, 0, 20, 0, 0, []) :: (68, 27, 0, 20, 0, 0, []) :: (69, 8, 1, 2, 0, 0, []) :: (72, 22, 0, 0, 44, 0, []) :: kX11_restore_75
def kX11_restore_42 : List mIn := (42, 0, 0, 0, 0, 0, []) :: (43, 5, 0, 2, 1, 0, []) :: (44, 43, 0, 0, 44, 0, []) :: kX11_restore_44
def kX11_restore_31 : List mIn := (31, 25, 0, 11, 3, 74, [1578]) :: (34, 4, 0, 0, 1, 0, []) :: (35, 24, 0, 11, 3, 74, [1578]) :: (38, 20, 0, 5, 42, 0, []) :: (41, 33, 0, 0, 0, 0, []) :: kX11_restore_42
def kX11_restore_30 : List mIn := (30, 0, 0, 0, 0, 0, []) :: kX11_restore_31
def kX11_restore_17 : List mIn := (17, 4, 0, 0, 1, 0, []) :: (18, 24, 0, 11, 2, 16, [1577]) :: (21, 2, 0, 1, 1, 0, []) :: (22, 26, 0, 22, 0, 0, []) :: (23, 20, 0, 1, 30, 0, []) :: (26, 0, 2, 0, 0, 0, []) :: (27, 22, 0, 0, 31, 0, []) :: kX11_restore_30
def kX11_restore_0 : List mIn := (0, 4, 0, 0, 1, 0, []) :: (1, 2, 0, 1, 1, 0, []) :: (2, 13, 0, 0, 0, 0, []) :: (3, 1, 0, 0, 0, 0, []) :: (4, 1, 2, 1, 429, 2161, []) :: (7, 32, 1, 0, 3, 79, [1697, 1698, 116, 1699]) :: (10, 20, 0, 1, 17, 0, []) :: (13, 0, 1, 0, 0, 0, []) :: (14, 22, 0, 0, 31, 0, []) :: kX11_restore_17
def kX11_restore : List mIn := kX11_restore_0
def TX11_restore : Nat → mCal := fun a => match a with
  | 0 => calX11_within
  | _ => (yX11_restore, cX11_restore, 3, none, (0, 0, 0, 0))
def calX11_restore : mCal := (yX11_restore, cX11_restore, 3, none, (1, 25, 0, 0))
def cutX11_restore : Nat → Option (List Bool) := fun t => mLk t [(44, [true, true, true])]
theorem okX11_restore : mOK (yX11_restore.cls, cX11_restore, TX11_restore, none, (1, 25, 0, 0), 3, mAcf [], mAcf []) kX11_restore = true := by decide +kernel
set_option maxRecDepth 100000 in
theorem sfxX11_restore_17 : mSfx 17 kX11_restore = kX11_restore_17 := rfl
theorem cutX11_restore_17 : cutX11_restore 17 = none := by decide
set_option maxRecDepth 100000 in
theorem sfxX11_restore_30 : mSfx 30 kX11_restore = kX11_restore_30 := rfl
theorem cutX11_restore_30 : cutX11_restore 30 = none := by decide
set_option maxRecDepth 100000 in
theorem sfxX11_restore_31 : mSfx 31 kX11_restore = kX11_restore_31 := rfl
theorem cutX11_restore_31 : cutX11_restore 31 = none := by decide
set_option maxRecDepth 100000 in
theorem sfxX11_restore_42 : mSfx 42 kX11_restore = kX11_restore_42 := rfl
theorem cutX11_restore_42 : cutX11_restore 42 = none := by decide
set_option maxRecDepth 100000 in
theorem sfxX11_restore_44 : mSfx 44 kX11_restore = kX11_restore_44 := rfl
theorem cutX11_restore_44 : cutX11_restore 44 = some [true, true, true] := by decide
set_option maxRecDepth 100000 in
theorem sfxX11_restore_75 : mSfx 75 kX11_restore = kX11_restore_75 := rfl
theorem cutX11_restore_75 : cutX11_restore 75 = none := by decide
def kX11_count_191 : List mIn := (191, 0, (-1), 0, 0, 0, []) :: (192, 33, 0, 1, 0, 0, []) :: []
def kX11_count_189 : List mIn := (189, 2, 0, 2, 1, 0, []) :: (190, 33, 0, 1, 0, 0, []) :: kX11_count_191
def kX11_count_160 : List mIn := (160, 2, 0, 3, 1, 0, []) :: (161, 0, 4, 0, 0, 0, []) :: (162, 19, 0, 3, 189, 0, []) :: (165, 2, 0, 2, 1, 0, []) :: (166, 4, 0, 0, 1, 0, []) :: (167, 24, 0, 11, 0, 9, [1575]) :: (170, 0, 595, 2, 0, 0, []) :: (173, 0, 10, 1, 0, 0, []) :: (175, 2, 0, 3, 1, 0, []) :: (176, 9, 0, 2, 0, 0, []) :: (177, 9, 0, 0, 0, 0, []) :: (178, 26, 0, 20, 0, 0, []) :: (179, 2, 0, 3, 1, 0, []) :: (180, 9, 0, 6, 0, 0, []) :: (181, 9, 0, 4, 0, 0, []) :: (182, 5, 0, 2, 1, 0, []) :: (183, 8, 1, 3, 0, 0, []) :: (186, 22, 0, 0, 160, 0, []) :: kX11_count_189
def kX11_count_158 : List mIn := (158, 0, 0, 0, 0, 0, []) :: (159, 5, 0, 3, 1, 0, []) :: (160, 43, 0, 0, 160, 0, []) :: kX11_count_160
def kX11_count_150 : List mIn := (150, 4, 0, 0, 1, 0, []) :: (151, 24, 0, 11, 0, 9, [1575]) :: (154, 0, 8, 1, 0, 0, []) :: (156, 26, 0, 20, 0, 0, []) :: (157, 33, 0, 1, 0, 0, []) :: kX11_count_158
def kX11_count_142 : List mIn := (142, 4, 0, 0, 1, 0, []) :: (143, 24, 0, 11, 0, 9, [1575]) :: (146, 0, 7, 1, 0, 0, []) :: (148, 26, 0, 20, 0, 0, []) :: (149, 33, 0, 1, 0, 0, []) :: kX11_count_150
def kX11_count_134 : List mIn := (134, 4, 0, 0, 1, 0, []) :: (135, 24, 0, 11, 0, 9, [1575]) :: (138, 0, 6, 1, 0, 0, []) :: (140, 26, 0, 20, 0, 0, []) :: (141, 33, 0, 1, 0, 0, []) :: kX11_count_142
def kX11_count_129 : List mIn := (129, 4, 0, 0, 1, 0, []) :: (130, 24, 0, 11, 6, 83, [1581]) :: (133, 33, 0, 1, 0, 0, []) :: kX11_count_134
def kX11_count_127 : List mIn := (127, 2, 0, 2, 1, 0, []) :: (128, 33, 0, 1, 0, 0, []) :: kX11_count_129
def kX11_count_119 : List mIn := (119, 9, 0, 0, 0, 0, []) :: (120, 5, 0, 2, 1, 0, []) :: (121, 8, 1, 3, 0, 0, []) :: (124, 22, 0, 0, 98, 0, []) :: kX11_count_127
def kX11_count_118 : List mIn := (118, 0, 1, 0, 0, 0, []) :: kX11_count_119
def kX11_count_98 : List mIn := (98, 2, 0, 3, 1, 0, []) :: (99, 0, 9, 1, 0, 0, []) :: (101, 19, 0, 3, 127, 0, []) :: (104, 2, 0, 2, 1, 0, []) :: (105, 4, 0, 0, 1, 0, []) :: (106, 2, 0, 3, 1, 0, []) :: (107, 32, 0, 1, 2, 250, [11, 1842, 1844, 68, 116, 1845]) :: (110, 0, (-1), 0, 0, 0, []) :: (111, 19, 0, 1, 118, 0, []) :: (114, 0, 0, 0, 0, 0, []) :: (115, 22, 0, 0, 119, 0, []) :: kX11_count_118
def kX11_count_96 : List mIn := (96, 0, 0, 0, 0, 0, []) :: (97, 5, 0, 3, 1, 0, []) :: (98, 43, 0, 0, 98, 0, []) :: kX11_count_98
def kX11_count_55 : List mIn := (55, 2, 0, 1, 1, 0, []) :: (56, 34, 6, 6, 191, 40, [96, 129, 134, 142, 150, 158]) :: kX11_count_96
def kX11_count_28 : List mIn := (28, 2, 0, 1, 1, 0, []) :: (29, 13, 0, 0, 0, 0, []) :: (30, 1, 100, 1, 242, 1832, []) :: (33, 1, 388, 1, 431, 2170, []) :: (36, 32, 1, 0, 3, 79, [1697, 1698, 116, 1699]) :: (39, 20, 0, 0, 55, 0, []) :: (42, 4, 0, 0, 1, 0, []) :: (43, 24, 0, 11, 0, 9, [1575]) :: (46, 0, 20, 1, 0, 0, []) :: (48, 2, 0, 1, 1, 0, []) :: (49, 9, 0, 0, 0, 0, []) :: (50, 0, 100, 1, 0, 0, []) :: (52, 9, 0, 1, 0, 0, []) :: (53, 26, 0, 20, 0, 0, []) :: (54, 33, 0, 1, 0, 0, []) :: kX11_count_55
def kX11_count_0 : List mIn := (0, 4, 0, 0, 1, 0, []) :: (1, 0, 0, 0, 0, 0, []) :: (2, 25, 0, 11, 3, 74, [1578]) :: (5, 0, 0, 0, 0, 0, []) :: (6, 5, 0, 2, 1, 0, []) :: (7, 2, 0, 1, 1, 0, []) :: (8, 13, 0, 0, 0, 0, []) :: (9, 1, 0, 0, 0, 0, []) :: (10, 1, 5, 1, 187, 1775, []) :: (13, 32, 1, 0, 3, 79, [1697, 1698, 116, 1699]) :: (16, 20, 0, 0, 28, 0, []) :: (19, 4, 0, 0, 1, 0, []) :: (20, 24, 0, 11, 0, 9, [1575]) :: (23, 0, 0, 0, 0, 0, []) :: (24, 2, 0, 1, 1, 0, []) :: (25, 9, 0, 0, 0, 0, []) :: (26, 26, 0, 20, 0, 0, []) :: (27, 33, 0, 1, 0, 0, []) :: kX11_count_28
def kX11_count : List mIn := kX11_count_0
def TX11_count : Nat → mCal := fun a => match a with
  | 0 => calX11_within
  | 1 => calX11_standOf
  | _ => (yX11_count, cX11_count, 4, (some .int), (0, 0, 0, 0))
def calX11_count : mCal := (yX11_count, cX11_count, 4, (some .int), (1, 25, 0, 0))
def cutX11_count : Nat → Option (List Bool) := fun t => mLk t [(98, [true, false, true, true]), (160, [true, false, true, true])]
theorem okX11_count : mOK (yX11_count.cls, cX11_count, TX11_count, (some .int), (1, 25, 0, 0), 4, mAcf [], mAcf []) kX11_count = true := by decide +kernel
set_option maxRecDepth 100000 in
theorem sfxX11_count_28 : mSfx 28 kX11_count = kX11_count_28 := rfl
theorem cutX11_count_28 : cutX11_count 28 = none := by decide
set_option maxRecDepth 100000 in
theorem sfxX11_count_55 : mSfx 55 kX11_count = kX11_count_55 := rfl
theorem cutX11_count_55 : cutX11_count 55 = none := by decide
set_option maxRecDepth 100000 in
theorem sfxX11_count_96 : mSfx 96 kX11_count = kX11_count_96 := rfl
theorem cutX11_count_96 : cutX11_count 96 = none := by decide
set_option maxRecDepth 100000 in
theorem sfxX11_count_98 : mSfx 98 kX11_count = kX11_count_98 := rfl
theorem cutX11_count_98 : cutX11_count 98 = some [true, false, true, true] := by decide
set_option maxRecDepth 100000 in
theorem sfxX11_count_118 : mSfx 118 kX11_count = kX11_count_118 := rfl
theorem cutX11_count_118 : cutX11_count 118 = none := by decide
set_option maxRecDepth 100000 in
theorem sfxX11_count_119 : mSfx 119 kX11_count = kX11_count_119 := rfl
theorem cutX11_count_119 : cutX11_count 119 = none := by decide
set_option maxRecDepth 100000 in
theorem sfxX11_count_127 : mSfx 127 kX11_count = kX11_count_127 := rfl
theorem cutX11_count_127 : cutX11_count 127 = none := by decide
set_option maxRecDepth 100000 in
theorem sfxX11_count_129 : mSfx 129 kX11_count = kX11_count_129 := rfl
theorem cutX11_count_129 : cutX11_count 129 = none := by decide
set_option maxRecDepth 100000 in
theorem sfxX11_count_134 : mSfx 134 kX11_count = kX11_count_134 := rfl
theorem cutX11_count_134 : cutX11_count 134 = none := by decide
set_option maxRecDepth 100000 in
theorem sfxX11_count_142 : mSfx 142 kX11_count = kX11_count_142 := rfl
theorem cutX11_count_142 : cutX11_count 142 = none := by decide
set_option maxRecDepth 100000 in
theorem sfxX11_count_150 : mSfx 150 kX11_count = kX11_count_150 := rfl
theorem cutX11_count_150 : cutX11_count 150 = none := by decide
set_option maxRecDepth 100000 in
theorem sfxX11_count_158 : mSfx 158 kX11_count = kX11_count_158 := rfl
theorem cutX11_count_158 : cutX11_count 158 = none := by decide
set_option maxRecDepth 100000 in
theorem sfxX11_count_160 : mSfx 160 kX11_count = kX11_count_160 := rfl
theorem cutX11_count_160 : cutX11_count 160 = some [true, false, true, true] := by decide
set_option maxRecDepth 100000 in
theorem sfxX11_count_189 : mSfx 189 kX11_count = kX11_count_189 := rfl
theorem cutX11_count_189 : cutX11_count 189 = none := by decide
set_option maxRecDepth 100000 in
theorem sfxX11_count_191 : mSfx 191 kX11_count = kX11_count_191 := rfl
theorem cutX11_count_191 : cutX11_count 191 = none := by decide
