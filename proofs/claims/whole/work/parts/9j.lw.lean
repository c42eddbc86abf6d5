section LWR
def tOne (c d : mCal) : Nat → mCal := fun a => if a = 100 then c else d
def mOne (sp : mSp) : Nat → mSp := fun a => if a = 100 then sp else fun _ _ _ _ => False
theorem mOne_100 (sp : mSp) : mOne sp 100 = sp := if_pos rfl
theorem one_ok {l : Launch} {c d : mCal} {sp : mSp} (h : mCtr l c sp) : ∀ a, 100 ≤ a → mCtr l (tOne c d a) (mOne sp a) := fun a _ => by
  unfold tOne mOne
  by_cases h9 : a = 100
  · rw [if_pos h9, if_pos h9]; exact h
  · rw [if_neg h9, if_neg h9]; exact mCtr_no
theorem one_no {l : Launch} {c d : mCal} {sp : mSp} {hs : Nat → List (Nat × Nat × Nat × Nat)} : ∀ a, a < 100 → mCtrH l (hs a) (tOne c d a) (mOne sp a) := fun a ha => by
  unfold mOne
  rw [if_neg (by omega)]
  exact fun _ _ _ _ _ _ _ h => h.elim
def kL_field_15 : List mIn := (15, 0, 0, 0, 0, 0, []) :: (16, 33, 0, 1, 0, 0, []) :: []
def kL_field_0 : List mIn := (0, 4, 0, 2, 1, 0, []) :: (1, 0, 0, 0, 0, 0, []) :: (2, 4, 0, 0, 1, 0, []) :: (3, 2, 0, 1, 1, 0, []) :: (4, 32, 0, 100, 2, 7, [10, 739, 740, 741, 105, 742]) :: (7, 47, 0, 0, 0, 0, []) :: (8, 27, 0, 23, 0, 0, []) :: (9, 22, 0, 0, 15, 0, []) :: (12, 7, 0, 3, 1, 0, []) :: (13, 0, 1, 0, 0, 0, []) :: (14, 33, 0, 1, 0, 0, []) :: kL_field_15
def kL_field : List mIn := kL_field_0
def TL_field : Nat → mCal := tOne calX10_field (yL_field, cL_field, 4, some .int, (0, 0, 0, 0))
def calL_field : mCal := (yL_field, cL_field, 4, some .int, (11, 274, 1, 6))
def tabL_field : List (Nat × Nat × Nat × Nat) := [(1, 12, 13, 738)]
theorem okL_field : mOKL (fun _ => []) (yL_field.cls, cL_field, TL_field, some .int, (11, 274, 1, 6), 4, mAcf [(4, 1)], mAcf [(4, 6)]) kL_field = true := by decide +kernel
theorem okHL_field : kL_field.all (fun q => decide (q.2.1 = 32 → q.1 = 4)) = true ∧ (hBds yL_field.cls cL_field 3 0 tabL_field && decide (3 < 4 ∧ 0 ≤ 4 ∧ 4 < 9 ∧ yL_field.cls ≠ RX10)) = true := by decide +kernel
theorem sfxL_field_15 : mSfx 15 kL_field = kL_field_15 := rfl
def kL_hits_15 : List mIn := (15, 0, 0, 0, 0, 0, []) :: (16, 33, 0, 1, 0, 0, []) :: []
def kL_hits_0 : List mIn := (0, 4, 0, 2, 1, 0, []) :: (1, 0, 0, 0, 0, 0, []) :: (2, 4, 0, 0, 1, 0, []) :: (3, 2, 0, 1, 1, 0, []) :: (4, 32, 0, 100, 2, 15, [10, 960, 961, 962, 105, 963]) :: (7, 47, 0, 0, 0, 0, []) :: (8, 27, 0, 23, 0, 0, []) :: (9, 22, 0, 0, 15, 0, []) :: (12, 7, 0, 3, 1, 0, []) :: (13, 0, 1, 0, 0, 0, []) :: (14, 33, 0, 1, 0, 0, []) :: kL_hits_15
def kL_hits : List mIn := kL_hits_0
def TL_hits : Nat → mCal := tOne calX10_hits (yL_hits, cL_hits, 4, some .int, (0, 0, 0, 0))
def calL_hits : mCal := (yL_hits, cL_hits, 4, some .int, (8, 131, 1, 6))
def tabL_hits : List (Nat × Nat × Nat × Nat) := [(0, 12, 18, 959)]
theorem okL_hits : mOKL (fun _ => []) (yL_hits.cls, cL_hits, TL_hits, some .int, (8, 131, 1, 6), 4, mAcf [(4, 1)], mAcf [(4, 6)]) kL_hits = true := by decide +kernel
theorem okHL_hits : kL_hits.all (fun q => decide (q.2.1 = 32 → q.1 = 4)) = true ∧ (hBds yL_hits.cls cL_hits 3 0 tabL_hits && decide (3 < 4 ∧ 0 ≤ 4 ∧ 4 < 9 ∧ yL_hits.cls ≠ RX10)) = true := by decide +kernel
theorem sfxL_hits_15 : mSfx 15 kL_hits = kL_hits_15 := rfl
def kL_hit_23 : List mIn := (23, 0, 0, 0, 0, 0, []) :: (24, 33, 0, 1, 0, 0, []) :: []
def kL_hit_0 : List mIn := (0, 4, 0, 4, 2, 0, []) :: (2, 0, 0, 0, 0, 0, []) :: (3, 4, 0, 0, 1, 0, []) :: (4, 2, 0, 1, 1, 0, []) :: (5, 2, 0, 2, 1, 0, []) :: (6, 2, 0, 3, 1, 0, []) :: (7, 32, 0, 100, 4, 20, [10, 987, 988, 989, 105, 990]) :: (10, 47, 0, 0, 0, 0, []) :: (11, 27, 0, 23, 0, 0, []) :: (12, 22, 0, 0, 23, 0, []) :: (15, 7, 0, 5, 2, 0, []) :: (17, 0, 1, 0, 0, 0, []) :: (18, 33, 0, 1, 0, 0, []) :: (19, 7, 0, 5, 2, 0, []) :: (21, 0, 2, 0, 0, 0, []) :: (22, 33, 0, 1, 0, 0, []) :: kL_hit_23
def kL_hit : List mIn := kL_hit_0
def TL_hit : Nat → mCal := tOne calX10_hit (yL_hit, cL_hit, 6, some .int, (0, 0, 0, 0))
def calL_hit : mCal := (yL_hit, cL_hit, 6, some .int, (9, 155, 3, 18))
def tabL_hit : List (Nat × Nat × Nat × Nat) := [(0, 15, 18, 959), (1, 19, 13, 738)]
theorem okL_hit : mOKL (fun _ => []) (yL_hit.cls, cL_hit, TL_hit, some .int, (9, 155, 3, 18), 6, mAcf [(7, 3)], mAcf [(7, 18)]) kL_hit = true := by decide +kernel
theorem okHL_hit : kL_hit.all (fun q => decide (q.2.1 = 32 → q.1 = 7)) = true ∧ (hBds yL_hit.cls cL_hit 5 0 tabL_hit && decide (5 < 6 ∧ 0 ≤ 7 ∧ 7 < 12 ∧ yL_hit.cls ≠ RX10)) = true := by decide +kernel
theorem sfxL_hit_23 : mSfx 23 kL_hit = kL_hit_23 := rfl
def kL_tick_23 : List mIn := (23, 0, 0, 0, 0, 0, []) :: (24, 33, 0, 1, 0, 0, []) :: []
def kL_tick_0 : List mIn := (0, 4, 0, 4, 2, 0, []) :: (2, 0, 0, 0, 0, 0, []) :: (3, 4, 0, 0, 1, 0, []) :: (4, 2, 0, 1, 1, 0, []) :: (5, 2, 0, 2, 1, 0, []) :: (6, 2, 0, 3, 1, 0, []) :: (7, 32, 0, 100, 4, 24, [10, 1000, 1001, 1002, 105, 1003]) :: (10, 47, 0, 0, 0, 0, []) :: (11, 27, 0, 23, 0, 0, []) :: (12, 22, 0, 0, 23, 0, []) :: (15, 7, 0, 5, 2, 0, []) :: (17, 0, 1, 0, 0, 0, []) :: (18, 33, 0, 1, 0, 0, []) :: (19, 7, 0, 5, 2, 0, []) :: (21, 0, 2, 0, 0, 0, []) :: (22, 33, 0, 1, 0, 0, []) :: kL_tick_23
def kL_tick : List mIn := kL_tick_0
def TL_tick : Nat → mCal := tOne calX10_tick (yL_tick, cL_tick, 6, some .int, (0, 0, 0, 0))
def calL_tick : mCal := (yL_tick, cL_tick, 6, some .int, (9, 155, 3, 18))
def tabL_tick : List (Nat × Nat × Nat × Nat) := [(0, 15, 18, 959), (1, 19, 13, 738)]
theorem okL_tick : mOKL (fun _ => []) (yL_tick.cls, cL_tick, TL_tick, some .int, (9, 155, 3, 18), 6, mAcf [(7, 3)], mAcf [(7, 18)]) kL_tick = true := by decide +kernel
theorem okHL_tick : kL_tick.all (fun q => decide (q.2.1 = 32 → q.1 = 7)) = true ∧ (hBds yL_tick.cls cL_tick 5 0 tabL_tick && decide (5 < 6 ∧ 0 ≤ 7 ∧ 7 < 12 ∧ yL_tick.cls ≠ RX10)) = true := by decide +kernel
theorem sfxL_tick_23 : mSfx 23 kL_tick = kL_tick_23 := rfl
def kL_fielder_22 : List mIn := (22, 0, 0, 0, 0, 0, []) :: (23, 33, 0, 1, 0, 0, []) :: []
def kL_fielder_0 : List mIn := (0, 4, 0, 0, 1, 0, []) :: (1, 2, 0, 1, 1, 0, []) :: (2, 2, 0, 2, 1, 0, []) :: (3, 2, 0, 3, 1, 0, []) :: (4, 2, 0, 4, 2, 0, []) :: (6, 2, 0, 5, 2, 0, []) :: (8, 32, 0, 100, 6, 27, [10, 1009, 1010, 1011, 105, 1012]) :: (11, 22, 0, 0, 22, 0, []) :: (14, 7, 0, 6, 2, 0, []) :: (16, 0, 1, 0, 0, 0, []) :: (17, 33, 0, 1, 0, 0, []) :: (18, 7, 0, 6, 2, 0, []) :: (20, 0, 2, 0, 0, 0, []) :: (21, 33, 0, 1, 0, 0, []) :: kL_fielder_22
def kL_fielder : List mIn := kL_fielder_0
def TL_fielder : Nat → mCal := tOne calX10_fielder (yL_fielder, cL_fielder, 7, some .int, (0, 0, 0, 0))
def calL_fielder : mCal := (yL_fielder, cL_fielder, 7, some .int, (8, 137, 5, 30))
def tabL_fielder : List (Nat × Nat × Nat × Nat) := [(0, 14, 18, 959), (1, 18, 13, 738)]
theorem okL_fielder : mOKL (fun _ => []) (yL_fielder.cls, cL_fielder, TL_fielder, some .int, (8, 137, 5, 30), 7, mAcf [(8, 5)], mAcf [(8, 30)]) kL_fielder = true := by decide +kernel
theorem okHL_fielder : kL_fielder.all (fun q => decide (q.2.1 = 32 → q.1 = 8)) = true ∧ (hBds yL_fielder.cls cL_fielder 6 0 tabL_fielder && decide (6 < 7 ∧ 0 ≤ 8 ∧ 8 < 11 ∧ yL_fielder.cls ≠ RX10)) = true := by decide +kernel
theorem sfxL_fielder_22 : mSfx 22 kL_fielder = kL_fielder_22 := rfl
def kL_stand_21 : List mIn := (21, 0, 0, 0, 0, 0, []) :: (22, 33, 0, 1, 0, 0, []) :: []
def kL_stand_0 : List mIn := (0, 4, 0, 3, 1, 0, []) :: (1, 0, 0, 0, 0, 0, []) :: (2, 4, 0, 0, 1, 0, []) :: (3, 2, 0, 1, 1, 0, []) :: (4, 2, 0, 2, 1, 0, []) :: (5, 32, 0, 100, 3, 31, [10, 1024, 1025, 1026, 105, 1027]) :: (8, 47, 0, 0, 0, 0, []) :: (9, 27, 0, 23, 0, 0, []) :: (10, 22, 0, 0, 21, 0, []) :: (13, 7, 0, 4, 2, 0, []) :: (15, 0, 1, 0, 0, 0, []) :: (16, 33, 0, 1, 0, 0, []) :: (17, 7, 0, 4, 2, 0, []) :: (19, 0, 2, 0, 0, 0, []) :: (20, 33, 0, 1, 0, 0, []) :: kL_stand_21
def kL_stand : List mIn := kL_stand_0
def TL_stand : Nat → mCal := tOne calX10_stand (yL_stand, cL_stand, 5, some .int, (0, 0, 0, 0))
def calL_stand : mCal := (yL_stand, cL_stand, 5, some .int, (8, 135, 2, 12))
def tabL_stand : List (Nat × Nat × Nat × Nat) := [(0, 13, 18, 959), (1, 17, 13, 738)]
theorem okL_stand : mOKL (fun _ => []) (yL_stand.cls, cL_stand, TL_stand, some .int, (8, 135, 2, 12), 5, mAcf [(5, 2)], mAcf [(5, 12)]) kL_stand = true := by decide +kernel
theorem okHL_stand : kL_stand.all (fun q => decide (q.2.1 = 32 → q.1 = 5)) = true ∧ (hBds yL_stand.cls cL_stand 4 0 tabL_stand && decide (4 < 5 ∧ 0 ≤ 5 ∧ 5 < 10 ∧ yL_stand.cls ≠ RX10)) = true := by decide +kernel
theorem sfxL_stand_21 : mSfx 21 kL_stand = kL_stand_21 := rfl
def kL_of_21 : List mIn := (21, 0, 0, 0, 0, 0, []) :: (22, 33, 0, 1, 0, 0, []) :: []
def kL_of_0 : List mIn := (0, 4, 0, 3, 1, 0, []) :: (1, 0, 0, 0, 0, 0, []) :: (2, 4, 0, 0, 1, 0, []) :: (3, 2, 0, 1, 1, 0, []) :: (4, 2, 0, 2, 1, 0, []) :: (5, 32, 0, 100, 3, 35, [10, 1031, 1032, 1033, 105, 1034]) :: (8, 47, 0, 0, 0, 0, []) :: (9, 27, 0, 23, 0, 0, []) :: (10, 22, 0, 0, 21, 0, []) :: (13, 7, 0, 4, 2, 0, []) :: (15, 0, 1, 0, 0, 0, []) :: (16, 33, 0, 1, 0, 0, []) :: (17, 7, 0, 4, 2, 0, []) :: (19, 0, 2, 0, 0, 0, []) :: (20, 33, 0, 1, 0, 0, []) :: kL_of_21
def kL_of : List mIn := kL_of_0
def TL_of : Nat → mCal := tOne calX10_of (yL_of, cL_of, 5, some .int, (0, 0, 0, 0))
def calL_of : mCal := (yL_of, cL_of, 5, some .int, (8, 132, 2, 12))
def tabL_of : List (Nat × Nat × Nat × Nat) := [(0, 13, 18, 959), (1, 17, 13, 738)]
theorem okL_of : mOKL (fun _ => []) (yL_of.cls, cL_of, TL_of, some .int, (8, 132, 2, 12), 5, mAcf [(5, 2)], mAcf [(5, 12)]) kL_of = true := by decide +kernel
theorem okHL_of : kL_of.all (fun q => decide (q.2.1 = 32 → q.1 = 5)) = true ∧ (hBds yL_of.cls cL_of 4 0 tabL_of && decide (4 < 5 ∧ 0 ≤ 5 ∧ 5 < 10 ∧ yL_of.cls ≠ RX10)) = true := by decide +kernel
theorem sfxL_of_21 : mSfx 21 kL_of = kL_of_21 := rfl
def kL_batter_12 : List mIn := (12, 0, 0, 0, 0, 0, []) :: (13, 33, 0, 1, 0, 0, []) :: []
def kL_batter_0 : List mIn := (0, 4, 0, 0, 1, 0, []) :: (1, 2, 0, 1, 1, 0, []) :: (2, 2, 0, 2, 1, 0, []) :: (3, 32, 0, 100, 3, 38, [10, 1038, 1039, 1040, 105, 1041]) :: (6, 22, 0, 0, 12, 0, []) :: (9, 7, 0, 3, 1, 0, []) :: (10, 0, 1, 0, 0, 0, []) :: (11, 33, 0, 1, 0, 0, []) :: kL_batter_12
def kL_batter : List mIn := kL_batter_0
def TL_batter : Nat → mCal := tOne calX10_batter (yL_batter, cL_batter, 4, some .int, (0, 0, 0, 0))
def calL_batter : mCal := (yL_batter, cL_batter, 4, some .int, (8, 134, 2, 12))
def tabL_batter : List (Nat × Nat × Nat × Nat) := [(1, 9, 13, 738)]
theorem okL_batter : mOKL (fun _ => []) (yL_batter.cls, cL_batter, TL_batter, some .int, (8, 134, 2, 12), 4, mAcf [(3, 2)], mAcf [(3, 12)]) kL_batter = true := by decide +kernel
theorem okHL_batter : kL_batter.all (fun q => decide (q.2.1 = 32 → q.1 = 3)) = true ∧ (hBds yL_batter.cls cL_batter 3 0 tabL_batter && decide (3 < 4 ∧ 0 ≤ 3 ∧ 3 < 6 ∧ yL_batter.cls ≠ RX10)) = true := by decide +kernel
theorem sfxL_batter_12 : mSfx 12 kL_batter = kL_batter_12 := rfl
def kL_catcher_17 : List mIn := (17, 0, 0, 0, 0, 0, []) :: (18, 33, 0, 1, 0, 0, []) :: []
def kL_catcher_0 : List mIn := (0, 4, 0, 3, 1, 0, []) :: (1, 0, 0, 0, 0, 0, []) :: (2, 4, 0, 0, 1, 0, []) :: (3, 2, 0, 1, 1, 0, []) :: (4, 2, 0, 2, 1, 0, []) :: (5, 32, 0, 100, 3, 42, [10, 1045, 1046, 1047, 105, 1048]) :: (8, 47, 0, 0, 0, 0, []) :: (9, 27, 0, 23, 0, 0, []) :: (10, 22, 0, 0, 17, 0, []) :: (13, 7, 0, 4, 2, 0, []) :: (15, 0, 1, 0, 0, 0, []) :: (16, 33, 0, 1, 0, 0, []) :: kL_catcher_17
def kL_catcher : List mIn := kL_catcher_0
def TL_catcher : Nat → mCal := tOne calX10_catcher (yL_catcher, cL_catcher, 5, some .int, (0, 0, 0, 0))
def calL_catcher : mCal := (yL_catcher, cL_catcher, 5, some .int, (10, 176, 2, 12))
def tabL_catcher : List (Nat × Nat × Nat × Nat) := [(0, 13, 18, 959)]
theorem okL_catcher : mOKL (fun _ => []) (yL_catcher.cls, cL_catcher, TL_catcher, some .int, (10, 176, 2, 12), 5, mAcf [(5, 2)], mAcf [(5, 12)]) kL_catcher = true := by decide +kernel
theorem okHL_catcher : kL_catcher.all (fun q => decide (q.2.1 = 32 → q.1 = 5)) = true ∧ (hBds yL_catcher.cls cL_catcher 4 0 tabL_catcher && decide (4 < 5 ∧ 0 ≤ 5 ∧ 5 < 10 ∧ yL_catcher.cls ≠ RX10)) = true := by decide +kernel
theorem sfxL_catcher_17 : mSfx 17 kL_catcher = kL_catcher_17 := rfl
def kL_caught_17 : List mIn := (17, 0, 0, 0, 0, 0, []) :: (18, 33, 0, 1, 0, 0, []) :: []
def kL_caught_0 : List mIn := (0, 4, 0, 3, 1, 0, []) :: (1, 0, 0, 0, 0, 0, []) :: (2, 4, 0, 0, 1, 0, []) :: (3, 2, 0, 1, 1, 0, []) :: (4, 2, 0, 2, 1, 0, []) :: (5, 32, 0, 100, 3, 45, [10, 1057, 1058, 1059, 105, 1060]) :: (8, 47, 0, 0, 0, 0, []) :: (9, 27, 0, 23, 0, 0, []) :: (10, 22, 0, 0, 17, 0, []) :: (13, 7, 0, 4, 2, 0, []) :: (15, 0, 1, 0, 0, 0, []) :: (16, 33, 0, 1, 0, 0, []) :: kL_caught_17
def kL_caught : List mIn := kL_caught_0
def TL_caught : Nat → mCal := tOne calX10_caught (yL_caught, cL_caught, 5, some .int, (0, 0, 0, 0))
def calL_caught : mCal := (yL_caught, cL_caught, 5, some .int, (10, 176, 2, 12))
def tabL_caught : List (Nat × Nat × Nat × Nat) := [(0, 13, 18, 959)]
theorem okL_caught : mOKL (fun _ => []) (yL_caught.cls, cL_caught, TL_caught, some .int, (10, 176, 2, 12), 5, mAcf [(5, 2)], mAcf [(5, 12)]) kL_caught = true := by decide +kernel
theorem okHL_caught : kL_caught.all (fun q => decide (q.2.1 = 32 → q.1 = 5)) = true ∧ (hBds yL_caught.cls cL_caught 4 0 tabL_caught && decide (4 < 5 ∧ 0 ≤ 5 ∧ 5 < 10 ∧ yL_caught.cls ≠ RX10)) = true := by decide +kernel
theorem sfxL_caught_17 : mSfx 17 kL_caught = kL_caught_17 := rfl
def kL_stopper_17 : List mIn := (17, 0, 0, 0, 0, 0, []) :: (18, 33, 0, 1, 0, 0, []) :: []
def kL_stopper_0 : List mIn := (0, 4, 0, 3, 1, 0, []) :: (1, 0, 0, 0, 0, 0, []) :: (2, 4, 0, 0, 1, 0, []) :: (3, 2, 0, 1, 1, 0, []) :: (4, 2, 0, 2, 1, 0, []) :: (5, 32, 0, 100, 3, 48, [10, 1064, 1065, 1066, 105, 1067]) :: (8, 47, 0, 0, 0, 0, []) :: (9, 27, 0, 23, 0, 0, []) :: (10, 22, 0, 0, 17, 0, []) :: (13, 7, 0, 4, 2, 0, []) :: (15, 0, 1, 0, 0, 0, []) :: (16, 33, 0, 1, 0, 0, []) :: kL_stopper_17
def kL_stopper : List mIn := kL_stopper_0
def TL_stopper : Nat → mCal := tOne calX10_stopper (yL_stopper, cL_stopper, 5, some .int, (0, 0, 0, 0))
def calL_stopper : mCal := (yL_stopper, cL_stopper, 5, some .int, (10, 176, 2, 12))
def tabL_stopper : List (Nat × Nat × Nat × Nat) := [(0, 13, 18, 959)]
theorem okL_stopper : mOKL (fun _ => []) (yL_stopper.cls, cL_stopper, TL_stopper, some .int, (10, 176, 2, 12), 5, mAcf [(5, 2)], mAcf [(5, 12)]) kL_stopper = true := by decide +kernel
theorem okHL_stopper : kL_stopper.all (fun q => decide (q.2.1 = 32 → q.1 = 5)) = true ∧ (hBds yL_stopper.cls cL_stopper 4 0 tabL_stopper && decide (4 < 5 ∧ 0 ≤ 5 ∧ 5 < 10 ∧ yL_stopper.cls ≠ RX10)) = true := by decide +kernel
theorem sfxL_stopper_17 : mSfx 17 kL_stopper = kL_stopper_17 := rfl
def kL_stops_17 : List mIn := (17, 0, 0, 0, 0, 0, []) :: (18, 33, 0, 1, 0, 0, []) :: []
def kL_stops_0 : List mIn := (0, 4, 0, 3, 1, 0, []) :: (1, 0, 0, 0, 0, 0, []) :: (2, 4, 0, 0, 1, 0, []) :: (3, 2, 0, 1, 1, 0, []) :: (4, 2, 0, 2, 1, 0, []) :: (5, 32, 0, 100, 3, 51, [10, 1071, 1072, 1073, 105, 1074]) :: (8, 47, 0, 0, 0, 0, []) :: (9, 27, 0, 23, 0, 0, []) :: (10, 22, 0, 0, 17, 0, []) :: (13, 7, 0, 4, 2, 0, []) :: (15, 0, 1, 0, 0, 0, []) :: (16, 33, 0, 1, 0, 0, []) :: kL_stops_17
def kL_stops : List mIn := kL_stops_0
def TL_stops : Nat → mCal := tOne calX10_stops (yL_stops, cL_stops, 5, some .int, (0, 0, 0, 0))
def calL_stops : mCal := (yL_stops, cL_stops, 5, some .int, (10, 176, 2, 12))
def tabL_stops : List (Nat × Nat × Nat × Nat) := [(0, 13, 18, 959)]
theorem okL_stops : mOKL (fun _ => []) (yL_stops.cls, cL_stops, TL_stops, some .int, (10, 176, 2, 12), 5, mAcf [(5, 2)], mAcf [(5, 12)]) kL_stops = true := by decide +kernel
theorem okHL_stops : kL_stops.all (fun q => decide (q.2.1 = 32 → q.1 = 5)) = true ∧ (hBds yL_stops.cls cL_stops 4 0 tabL_stops && decide (4 < 5 ∧ 0 ≤ 5 ∧ 5 < 10 ∧ yL_stops.cls ≠ RX10)) = true := by decide +kernel
theorem sfxL_stops_17 : mSfx 17 kL_stops = kL_stops_17 := rfl
def kL_runs_17 : List mIn := (17, 0, 0, 0, 0, 0, []) :: (18, 33, 0, 1, 0, 0, []) :: []
def kL_runs_0 : List mIn := (0, 4, 0, 3, 1, 0, []) :: (1, 0, 0, 0, 0, 0, []) :: (2, 4, 0, 0, 1, 0, []) :: (3, 2, 0, 1, 1, 0, []) :: (4, 2, 0, 2, 1, 0, []) :: (5, 32, 0, 100, 3, 54, [10, 1078, 1079, 1080, 105, 1081]) :: (8, 47, 0, 0, 0, 0, []) :: (9, 27, 0, 23, 0, 0, []) :: (10, 22, 0, 0, 17, 0, []) :: (13, 7, 0, 4, 2, 0, []) :: (15, 0, 1, 0, 0, 0, []) :: (16, 33, 0, 1, 0, 0, []) :: kL_runs_17
def kL_runs : List mIn := kL_runs_0
def TL_runs : Nat → mCal := tOne calX10_runs (yL_runs, cL_runs, 5, some .int, (0, 0, 0, 0))
def calL_runs : mCal := (yL_runs, cL_runs, 5, some .int, (10, 176, 2, 12))
def tabL_runs : List (Nat × Nat × Nat × Nat) := [(0, 13, 18, 959)]
theorem okL_runs : mOKL (fun _ => []) (yL_runs.cls, cL_runs, TL_runs, some .int, (10, 176, 2, 12), 5, mAcf [(5, 2)], mAcf [(5, 12)]) kL_runs = true := by decide +kernel
theorem okHL_runs : kL_runs.all (fun q => decide (q.2.1 = 32 → q.1 = 5)) = true ∧ (hBds yL_runs.cls cL_runs 4 0 tabL_runs && decide (4 < 5 ∧ 0 ≤ 5 ∧ 5 < 10 ∧ yL_runs.cls ≠ RX10)) = true := by decide +kernel
theorem sfxL_runs_17 : mSfx 17 kL_runs = kL_runs_17 := rfl
def kL_cost_17 : List mIn := (17, 0, 0, 0, 0, 0, []) :: (18, 33, 0, 1, 0, 0, []) :: []
def kL_cost_0 : List mIn := (0, 4, 0, 3, 1, 0, []) :: (1, 0, 0, 0, 0, 0, []) :: (2, 4, 0, 0, 1, 0, []) :: (3, 2, 0, 1, 1, 0, []) :: (4, 2, 0, 2, 1, 0, []) :: (5, 32, 0, 100, 3, 57, [10, 1085, 1086, 1087, 105, 1088]) :: (8, 47, 0, 0, 0, 0, []) :: (9, 27, 0, 23, 0, 0, []) :: (10, 22, 0, 0, 17, 0, []) :: (13, 7, 0, 4, 2, 0, []) :: (15, 0, 1, 0, 0, 0, []) :: (16, 33, 0, 1, 0, 0, []) :: kL_cost_17
def kL_cost : List mIn := kL_cost_0
def TL_cost : Nat → mCal := tOne calX10_cost (yL_cost, cL_cost, 5, some .int, (0, 0, 0, 0))
def calL_cost : mCal := (yL_cost, cL_cost, 5, some .int, (10, 176, 2, 12))
def tabL_cost : List (Nat × Nat × Nat × Nat) := [(0, 13, 18, 959)]
theorem okL_cost : mOKL (fun _ => []) (yL_cost.cls, cL_cost, TL_cost, some .int, (10, 176, 2, 12), 5, mAcf [(5, 2)], mAcf [(5, 12)]) kL_cost = true := by decide +kernel
theorem okHL_cost : kL_cost.all (fun q => decide (q.2.1 = 32 → q.1 = 5)) = true ∧ (hBds yL_cost.cls cL_cost 4 0 tabL_cost && decide (4 < 5 ∧ 0 ≤ 5 ∧ 5 < 10 ∧ yL_cost.cls ≠ RX10)) = true := by decide +kernel
theorem sfxL_cost_17 : mSfx 17 kL_cost = kL_cost_17 := rfl
def kL_mean_22 : List mIn := (22, 0, 0, 0, 0, 0, []) :: (23, 33, 0, 1, 0, 0, []) :: []
def kL_mean_15 : List mIn := (15, 27, 0, 23, 0, 0, []) :: (16, 22, 0, 0, 22, 0, []) :: (19, 7, 0, 3, 1, 0, []) :: (20, 0, 1, 0, 0, 0, []) :: (21, 33, 0, 1, 0, 0, []) :: kL_mean_22
def kL_mean_14 : List mIn := (14, 1, 0, 0, 0, 0, []) :: kL_mean_15
def kL_mean_0 : List mIn := (0, 4, 0, 2, 1, 0, []) :: (1, 0, 0, 0, 0, 0, []) :: (2, 4, 0, 0, 1, 0, []) :: (3, 2, 0, 1, 1, 0, []) :: (4, 32, 0, 100, 2, 60, [10, 1092, 1093, 1094, 105, 1095]) :: (7, 20, 0, 0, 14, 0, []) :: (10, 1, 1, 0, 1, 0, []) :: (11, 22, 0, 0, 15, 0, []) :: kL_mean_14
def kL_mean : List mIn := kL_mean_0
def TL_mean : Nat → mCal := tOne calX10_mean (yL_mean, cL_mean, 4, some .int, (0, 0, 0, 0))
def calL_mean : mCal := (yL_mean, cL_mean, 4, some .int, (8, 148, 1, 6))
def tabL_mean : List (Nat × Nat × Nat × Nat) := [(0, 19, 18, 959)]
theorem okL_mean : mOKL (fun _ => []) (yL_mean.cls, cL_mean, TL_mean, some .int, (8, 148, 1, 6), 4, mAcf [(4, 1)], mAcf [(4, 6)]) kL_mean = true := by decide +kernel
theorem okHL_mean : kL_mean.all (fun q => decide (q.2.1 = 32 → q.1 = 4)) = true ∧ (hBds yL_mean.cls cL_mean 3 0 tabL_mean && decide (3 < 4 ∧ 0 ≤ 4 ∧ 4 < 16 ∧ yL_mean.cls ≠ RX10)) = true := by decide +kernel
theorem sfxL_mean_14 : mSfx 14 kL_mean = kL_mean_14 := rfl
theorem sfxL_mean_15 : mSfx 15 kL_mean = kL_mean_15 := rfl
theorem sfxL_mean_22 : mSfx 22 kL_mean = kL_mean_22 := rfl
def kL_one_21 : List mIn := (21, 0, 0, 0, 0, 0, []) :: (22, 33, 0, 1, 0, 0, []) :: []
def kL_one_0 : List mIn := (0, 4, 0, 3, 1, 0, []) :: (1, 0, 0, 0, 0, 0, []) :: (2, 4, 0, 0, 1, 0, []) :: (3, 2, 0, 1, 1, 0, []) :: (4, 2, 0, 2, 1, 0, []) :: (5, 32, 0, 100, 3, 64, [10, 1112, 1113, 1114, 105, 1115]) :: (8, 47, 0, 0, 0, 0, []) :: (9, 27, 0, 23, 0, 0, []) :: (10, 22, 0, 0, 21, 0, []) :: (13, 7, 0, 4, 2, 0, []) :: (15, 0, 1, 0, 0, 0, []) :: (16, 33, 0, 1, 0, 0, []) :: (17, 7, 0, 4, 2, 0, []) :: (19, 0, 2, 0, 0, 0, []) :: (20, 33, 0, 1, 0, 0, []) :: kL_one_21
def kL_one : List mIn := kL_one_0
def TL_one : Nat → mCal := tOne calX10_one (yL_one, cL_one, 5, some .int, (0, 0, 0, 0))
def calL_one : mCal := (yL_one, cL_one, 5, some .int, (8, 176, 3, 18))
def tabL_one : List (Nat × Nat × Nat × Nat) := [(0, 13, 18, 959), (2, 17, 67, 1111)]
theorem okL_one : mOKL (fun _ => []) (yL_one.cls, cL_one, TL_one, some .int, (8, 176, 3, 18), 5, mAcf [(5, 3)], mAcf [(5, 18)]) kL_one = true := by decide +kernel
theorem okHL_one : kL_one.all (fun q => decide (q.2.1 = 32 → q.1 = 5)) = true ∧ (hBds yL_one.cls cL_one 4 0 tabL_one && decide (4 < 5 ∧ 0 ≤ 5 ∧ 5 < 10 ∧ yL_one.cls ≠ RX10)) = true := by decide +kernel
theorem sfxL_one_21 : mSfx 21 kL_one = kL_one_21 := rfl
def kL_settle_21 : List mIn := (21, 0, 0, 0, 0, 0, []) :: (22, 33, 0, 1, 0, 0, []) :: []
def kL_settle_0 : List mIn := (0, 4, 0, 3, 1, 0, []) :: (1, 0, 0, 0, 0, 0, []) :: (2, 4, 0, 0, 1, 0, []) :: (3, 2, 0, 1, 1, 0, []) :: (4, 2, 0, 2, 1, 0, []) :: (5, 32, 0, 100, 3, 69, [10, 1193, 1194, 1195, 105, 1196]) :: (8, 47, 0, 0, 0, 0, []) :: (9, 27, 0, 23, 0, 0, []) :: (10, 22, 0, 0, 21, 0, []) :: (13, 7, 0, 4, 2, 0, []) :: (15, 0, 1, 0, 0, 0, []) :: (16, 33, 0, 1, 0, 0, []) :: (17, 7, 0, 4, 2, 0, []) :: (19, 0, 2, 0, 0, 0, []) :: (20, 33, 0, 1, 0, 0, []) :: kL_settle_21
def kL_settle : List mIn := kL_settle_0
def TL_settle : Nat → mCal := tOne calX10_settle (yL_settle, cL_settle, 5, some .int, (0, 0, 0, 0))
def calL_settle : mCal := (yL_settle, cL_settle, 5, some .int, (8, 181, 2, 12))
def tabL_settle : List (Nat × Nat × Nat × Nat) := [(0, 13, 18, 959), (1, 17, 13, 738)]
theorem okL_settle : mOKL (fun _ => []) (yL_settle.cls, cL_settle, TL_settle, some .int, (8, 181, 2, 12), 5, mAcf [(5, 2)], mAcf [(5, 12)]) kL_settle = true := by decide +kernel
theorem okHL_settle : kL_settle.all (fun q => decide (q.2.1 = 32 → q.1 = 5)) = true ∧ (hBds yL_settle.cls cL_settle 4 0 tabL_settle && decide (4 < 5 ∧ 0 ≤ 5 ∧ 5 < 10 ∧ yL_settle.cls ≠ RX10)) = true := by decide +kernel
theorem sfxL_settle_21 : mSfx 21 kL_settle = kL_settle_21 := rfl
def kL_bound_22 : List mIn := (22, 0, 0, 0, 0, 0, []) :: (23, 33, 0, 1, 0, 0, []) :: []
def kL_bound_15 : List mIn := (15, 27, 0, 23, 0, 0, []) :: (16, 22, 0, 0, 22, 0, []) :: (19, 7, 0, 3, 1, 0, []) :: (20, 0, 1, 0, 0, 0, []) :: (21, 33, 0, 1, 0, 0, []) :: kL_bound_22
def kL_bound_14 : List mIn := (14, 1, 0, 0, 0, 0, []) :: kL_bound_15
def kL_bound_0 : List mIn := (0, 4, 0, 2, 1, 0, []) :: (1, 0, 0, 0, 0, 0, []) :: (2, 4, 0, 0, 1, 0, []) :: (3, 2, 0, 1, 1, 0, []) :: (4, 32, 0, 100, 2, 72, [10, 1200, 1201, 1202, 105, 1203]) :: (7, 20, 0, 0, 14, 0, []) :: (10, 1, 1, 0, 1, 0, []) :: (11, 22, 0, 0, 15, 0, []) :: kL_bound_14
def kL_bound : List mIn := kL_bound_0
def TL_bound : Nat → mCal := tOne calX10_bound (yL_bound, cL_bound, 4, some .int, (0, 0, 0, 0))
def calL_bound : mCal := (yL_bound, cL_bound, 4, some .int, (8, 157, 1, 6))
def tabL_bound : List (Nat × Nat × Nat × Nat) := [(0, 19, 18, 959)]
theorem okL_bound : mOKL (fun _ => []) (yL_bound.cls, cL_bound, TL_bound, some .int, (8, 157, 1, 6), 4, mAcf [(4, 1)], mAcf [(4, 6)]) kL_bound = true := by decide +kernel
theorem okHL_bound : kL_bound.all (fun q => decide (q.2.1 = 32 → q.1 = 4)) = true ∧ (hBds yL_bound.cls cL_bound 3 0 tabL_bound && decide (3 < 4 ∧ 0 ≤ 4 ∧ 4 < 16 ∧ yL_bound.cls ≠ RX10)) = true := by decide +kernel
theorem sfxL_bound_14 : mSfx 14 kL_bound = kL_bound_14 := rfl
theorem sfxL_bound_15 : mSfx 15 kL_bound = kL_bound_15 := rfl
theorem sfxL_bound_22 : mSfx 22 kL_bound = kL_bound_22 := rfl
def kL_gap_22 : List mIn := (22, 0, 0, 0, 0, 0, []) :: (23, 33, 0, 1, 0, 0, []) :: []
def kL_gap_15 : List mIn := (15, 27, 0, 23, 0, 0, []) :: (16, 22, 0, 0, 22, 0, []) :: (19, 7, 0, 3, 1, 0, []) :: (20, 0, 1, 0, 0, 0, []) :: (21, 33, 0, 1, 0, 0, []) :: kL_gap_22
def kL_gap_14 : List mIn := (14, 1, 0, 0, 0, 0, []) :: kL_gap_15
def kL_gap_0 : List mIn := (0, 4, 0, 2, 1, 0, []) :: (1, 0, 0, 0, 0, 0, []) :: (2, 4, 0, 0, 1, 0, []) :: (3, 2, 0, 1, 1, 0, []) :: (4, 32, 0, 100, 2, 75, [10, 1234, 1235, 1236, 105, 1237]) :: (7, 20, 0, 0, 14, 0, []) :: (10, 1, 1, 0, 1, 0, []) :: (11, 22, 0, 0, 15, 0, []) :: kL_gap_14
def kL_gap : List mIn := kL_gap_0
def TL_gap : Nat → mCal := tOne calX10_gap (yL_gap, cL_gap, 4, some .int, (0, 0, 0, 0))
def calL_gap : mCal := (yL_gap, cL_gap, 4, some .int, (8, 157, 1, 6))
def tabL_gap : List (Nat × Nat × Nat × Nat) := [(0, 19, 18, 959)]
theorem okL_gap : mOKL (fun _ => []) (yL_gap.cls, cL_gap, TL_gap, some .int, (8, 157, 1, 6), 4, mAcf [(4, 1)], mAcf [(4, 6)]) kL_gap = true := by decide +kernel
theorem okHL_gap : kL_gap.all (fun q => decide (q.2.1 = 32 → q.1 = 4)) = true ∧ (hBds yL_gap.cls cL_gap 3 0 tabL_gap && decide (3 < 4 ∧ 0 ≤ 4 ∧ 4 < 16 ∧ yL_gap.cls ≠ RX10)) = true := by decide +kernel
theorem sfxL_gap_14 : mSfx 14 kL_gap = kL_gap_14 := rfl
theorem sfxL_gap_15 : mSfx 15 kL_gap = kL_gap_15 := rfl
theorem sfxL_gap_22 : mSfx 22 kL_gap = kL_gap_22 := rfl
def kL_way_18 : List mIn := (18, 0, 0, 0, 0, 0, []) :: (19, 33, 0, 1, 0, 0, []) :: []
def kL_way_0 : List mIn := (0, 4, 0, 0, 1, 0, []) :: (1, 2, 0, 1, 1, 0, []) :: (2, 2, 0, 2, 1, 0, []) :: (3, 32, 0, 100, 3, 78, [10, 1241, 1242, 1243, 105, 1244]) :: (6, 22, 0, 0, 18, 0, []) :: (9, 7, 0, 3, 1, 0, []) :: (10, 0, 1, 0, 0, 0, []) :: (11, 33, 0, 1, 0, 0, []) :: (12, 7, 0, 3, 1, 0, []) :: (13, 0, 2, 0, 0, 0, []) :: (14, 33, 0, 1, 0, 0, []) :: (15, 7, 0, 3, 1, 0, []) :: (16, 0, 3, 0, 0, 0, []) :: (17, 33, 0, 1, 0, 0, []) :: kL_way_18
def kL_way : List mIn := kL_way_0
def TL_way : Nat → mCal := tOne calX10_way (yL_way, cL_way, 4, some .int, (0, 0, 0, 0))
def calL_way : mCal := (yL_way, cL_way, 4, some .int, (8, 134, 3, 18))
def tabL_way : List (Nat × Nat × Nat × Nat) := [(0, 9, 18, 959), (1, 12, 13, 738), (2, 15, 67, 1111)]
theorem okL_way : mOKL (fun _ => []) (yL_way.cls, cL_way, TL_way, some .int, (8, 134, 3, 18), 4, mAcf [(3, 3)], mAcf [(3, 18)]) kL_way = true := by decide +kernel
theorem okHL_way : kL_way.all (fun q => decide (q.2.1 = 32 → q.1 = 3)) = true ∧ (hBds yL_way.cls cL_way 3 0 tabL_way && decide (3 < 4 ∧ 0 ≤ 3 ∧ 3 < 6 ∧ yL_way.cls ≠ RX10)) = true := by decide +kernel
theorem sfxL_way_18 : mSfx 18 kL_way = kL_way_18 := rfl
def kL_rest_36 : List mIn := (36, 0, 0, 0, 0, 0, []) :: (37, 33, 0, 1, 0, 0, []) :: []
def kL_rest_20 : List mIn := (20, 27, 0, 23, 0, 0, []) :: (21, 22, 0, 0, 36, 0, []) :: (24, 7, 0, 6, 2, 0, []) :: (26, 0, 1, 0, 0, 0, []) :: (27, 33, 0, 1, 0, 0, []) :: (28, 7, 0, 6, 2, 0, []) :: (30, 0, 2, 0, 0, 0, []) :: (31, 33, 0, 1, 0, 0, []) :: (32, 7, 0, 6, 2, 0, []) :: (34, 0, 3, 0, 0, 0, []) :: (35, 33, 0, 1, 0, 0, []) :: kL_rest_36
def kL_rest_19 : List mIn := (19, 1, 0, 0, 0, 0, []) :: kL_rest_20
def kL_rest_0 : List mIn := (0, 4, 0, 5, 2, 0, []) :: (2, 0, 0, 0, 0, 0, []) :: (3, 4, 0, 0, 1, 0, []) :: (4, 2, 0, 1, 1, 0, []) :: (5, 2, 0, 2, 1, 0, []) :: (6, 2, 0, 3, 1, 0, []) :: (7, 2, 0, 4, 2, 0, []) :: (9, 32, 0, 100, 5, 81, [10, 1266, 1267, 1268, 105, 1269]) :: (12, 20, 0, 0, 19, 0, []) :: (15, 1, 1, 0, 1, 0, []) :: (16, 22, 0, 0, 20, 0, []) :: kL_rest_19
def kL_rest : List mIn := kL_rest_0
def TL_rest : Nat → mCal := tOne calX10_rest (yL_rest, cL_rest, 7, some .int, (0, 0, 0, 0))
def calL_rest : mCal := (yL_rest, cL_rest, 7, some .int, (8, 149, 6, 36))
def tabL_rest : List (Nat × Nat × Nat × Nat) := [(0, 24, 18, 959), (1, 28, 13, 738), (2, 32, 67, 1111)]
theorem okL_rest : mOKL (fun _ => []) (yL_rest.cls, cL_rest, TL_rest, some .int, (8, 149, 6, 36), 7, mAcf [(9, 6)], mAcf [(9, 36)]) kL_rest = true := by decide +kernel
theorem okHL_rest : kL_rest.all (fun q => decide (q.2.1 = 32 → q.1 = 9)) = true ∧ (hBds yL_rest.cls cL_rest 6 0 tabL_rest && decide (6 < 7 ∧ 0 ≤ 9 ∧ 9 < 21 ∧ yL_rest.cls ≠ RX10)) = true := by decide +kernel
theorem sfxL_rest_19 : mSfx 19 kL_rest = kL_rest_19 := rfl
theorem sfxL_rest_20 : mSfx 20 kL_rest = kL_rest_20 := rfl
theorem sfxL_rest_36 : mSfx 36 kL_rest = kL_rest_36 := rfl
def kL_walk_21 : List mIn := (21, 0, 0, 0, 0, 0, []) :: (22, 33, 0, 1, 0, 0, []) :: []
def kL_walk_0 : List mIn := (0, 4, 0, 3, 1, 0, []) :: (1, 0, 0, 0, 0, 0, []) :: (2, 4, 0, 0, 1, 0, []) :: (3, 2, 0, 1, 1, 0, []) :: (4, 2, 0, 2, 1, 0, []) :: (5, 32, 0, 100, 3, 85, [10, 1293, 1294, 1295, 105, 1296]) :: (8, 47, 0, 0, 0, 0, []) :: (9, 27, 0, 23, 0, 0, []) :: (10, 22, 0, 0, 21, 0, []) :: (13, 7, 0, 4, 2, 0, []) :: (15, 0, 1, 0, 0, 0, []) :: (16, 33, 0, 1, 0, 0, []) :: (17, 7, 0, 4, 2, 0, []) :: (19, 0, 2, 0, 0, 0, []) :: (20, 33, 0, 1, 0, 0, []) :: kL_walk_21
def kL_walk : List mIn := kL_walk_0
def TL_walk : Nat → mCal := tOne calX10_walk (yL_walk, cL_walk, 5, some .int, (0, 0, 0, 0))
def calL_walk : mCal := (yL_walk, cL_walk, 5, some .int, (8, 134, 4, 24))
def tabL_walk : List (Nat × Nat × Nat × Nat) := [(0, 13, 18, 959), (2, 17, 67, 1111)]
theorem okL_walk : mOKL (fun _ => []) (yL_walk.cls, cL_walk, TL_walk, some .int, (8, 134, 4, 24), 5, mAcf [(5, 4)], mAcf [(5, 24)]) kL_walk = true := by decide +kernel
theorem okHL_walk : kL_walk.all (fun q => decide (q.2.1 = 32 → q.1 = 5)) = true ∧ (hBds yL_walk.cls cL_walk 4 0 tabL_walk && decide (4 < 5 ∧ 0 ≤ 5 ∧ 5 < 10 ∧ yL_walk.cls ≠ RX10)) = true := by decide +kernel
theorem sfxL_walk_21 : mSfx 21 kL_walk = kL_walk_21 := rfl
def kL_tells_21 : List mIn := (21, 0, 0, 0, 0, 0, []) :: (22, 33, 0, 1, 0, 0, []) :: []
def kL_tells_0 : List mIn := (0, 4, 0, 3, 1, 0, []) :: (1, 0, 0, 0, 0, 0, []) :: (2, 4, 0, 0, 1, 0, []) :: (3, 2, 0, 1, 1, 0, []) :: (4, 2, 0, 2, 1, 0, []) :: (5, 32, 0, 100, 3, 88, [10, 1316, 1317, 1318, 105, 1319]) :: (8, 47, 0, 0, 0, 0, []) :: (9, 27, 0, 23, 0, 0, []) :: (10, 22, 0, 0, 21, 0, []) :: (13, 7, 0, 4, 2, 0, []) :: (15, 0, 1, 0, 0, 0, []) :: (16, 33, 0, 1, 0, 0, []) :: (17, 7, 0, 4, 2, 0, []) :: (19, 0, 2, 0, 0, 0, []) :: (20, 33, 0, 1, 0, 0, []) :: kL_tells_21
def kL_tells : List mIn := kL_tells_0
def TL_tells : Nat → mCal := tOne calX10_tells (yL_tells, cL_tells, 5, some .int, (0, 0, 0, 0))
def calL_tells : mCal := (yL_tells, cL_tells, 5, some .int, (8, 181, 4, 24))
def tabL_tells : List (Nat × Nat × Nat × Nat) := [(0, 13, 18, 959), (2, 17, 67, 1111)]
theorem okL_tells : mOKL (fun _ => []) (yL_tells.cls, cL_tells, TL_tells, some .int, (8, 181, 4, 24), 5, mAcf [(5, 4)], mAcf [(5, 24)]) kL_tells = true := by decide +kernel
theorem okHL_tells : kL_tells.all (fun q => decide (q.2.1 = 32 → q.1 = 5)) = true ∧ (hBds yL_tells.cls cL_tells 4 0 tabL_tells && decide (4 < 5 ∧ 0 ≤ 5 ∧ 5 < 10 ∧ yL_tells.cls ≠ RX10)) = true := by decide +kernel
theorem sfxL_tells_21 : mSfx 21 kL_tells = kL_tells_21 := rfl
def kL_match_33 : List mIn := (33, 0, 0, 0, 0, 0, []) :: (34, 33, 0, 1, 0, 0, []) :: []
def kL_match_0 : List mIn := (0, 4, 0, 5, 2, 0, []) :: (2, 0, 0, 0, 0, 0, []) :: (3, 4, 0, 0, 1, 0, []) :: (4, 2, 0, 1, 1, 0, []) :: (5, 2, 0, 2, 1, 0, []) :: (6, 2, 0, 3, 1, 0, []) :: (7, 2, 0, 4, 2, 0, []) :: (9, 32, 0, 100, 5, 91, [10, 1328, 1329, 1330, 105, 1331]) :: (12, 47, 0, 0, 0, 0, []) :: (13, 27, 0, 23, 0, 0, []) :: (14, 22, 0, 0, 33, 0, []) :: (17, 7, 0, 6, 2, 0, []) :: (19, 0, 1, 0, 0, 0, []) :: (20, 33, 0, 1, 0, 0, []) :: (21, 7, 0, 6, 2, 0, []) :: (23, 0, 2, 0, 0, 0, []) :: (24, 33, 0, 1, 0, 0, []) :: (25, 7, 0, 6, 2, 0, []) :: (27, 0, 3, 0, 0, 0, []) :: (28, 33, 0, 1, 0, 0, []) :: (29, 7, 0, 6, 2, 0, []) :: (31, 0, 4, 0, 0, 0, []) :: (32, 33, 0, 1, 0, 0, []) :: kL_match_33
def kL_match : List mIn := kL_match_0
def TL_match : Nat → mCal := tOne calX10_match (yL_match, cL_match, 7, some .int, (0, 0, 0, 0))
def calL_match : mCal := (yL_match, cL_match, 7, some .int, (8, 181, 5, 30))
def tabL_match : List (Nat × Nat × Nat × Nat) := [(0, 17, 18, 959), (2, 21, 67, 1111), (1, 25, 13, 738), (3, 29, 95, 1327)]
theorem okL_match : mOKL (fun _ => []) (yL_match.cls, cL_match, TL_match, some .int, (8, 181, 5, 30), 7, mAcf [(9, 5)], mAcf [(9, 30)]) kL_match = true := by decide +kernel
theorem okHL_match : kL_match.all (fun q => decide (q.2.1 = 32 → q.1 = 9)) = true ∧ (hBds yL_match.cls cL_match 6 0 tabL_match && decide (6 < 7 ∧ 0 ≤ 9 ∧ 9 < 14 ∧ yL_match.cls ≠ RX10)) = true := by decide +kernel
theorem sfxL_match_33 : mSfx 33 kL_match = kL_match_33 := rfl
def kL_worth_28 : List mIn := (28, 0, 0, 0, 0, 0, []) :: (29, 33, 0, 1, 0, 0, []) :: []
def kL_worth_16 : List mIn := (16, 27, 0, 23, 0, 0, []) :: (17, 22, 0, 0, 28, 0, []) :: (20, 7, 0, 4, 2, 0, []) :: (22, 0, 1, 0, 0, 0, []) :: (23, 33, 0, 1, 0, 0, []) :: (24, 7, 0, 4, 2, 0, []) :: (26, 0, 2, 0, 0, 0, []) :: (27, 33, 0, 1, 0, 0, []) :: kL_worth_28
def kL_worth_15 : List mIn := (15, 1, 0, 0, 0, 0, []) :: kL_worth_16
def kL_worth_0 : List mIn := (0, 4, 0, 3, 1, 0, []) :: (1, 0, 0, 0, 0, 0, []) :: (2, 4, 0, 0, 1, 0, []) :: (3, 2, 0, 1, 1, 0, []) :: (4, 2, 0, 2, 1, 0, []) :: (5, 32, 0, 100, 3, 97, [10, 1380, 1381, 1382, 105, 1383]) :: (8, 20, 0, 0, 15, 0, []) :: (11, 1, 1, 0, 1, 0, []) :: (12, 22, 0, 0, 16, 0, []) :: kL_worth_15
def kL_worth : List mIn := kL_worth_0
def TL_worth : Nat → mCal := tOne calX10_worth (yL_worth, cL_worth, 5, some .int, (0, 0, 0, 0))
def calL_worth : mCal := (yL_worth, cL_worth, 5, some .int, (8, 171, 3, 18))
def tabL_worth : List (Nat × Nat × Nat × Nat) := [(0, 20, 18, 959), (2, 24, 67, 1111)]
theorem okL_worth : mOKL (fun _ => []) (yL_worth.cls, cL_worth, TL_worth, some .int, (8, 171, 3, 18), 5, mAcf [(5, 3)], mAcf [(5, 18)]) kL_worth = true := by decide +kernel
theorem okHL_worth : kL_worth.all (fun q => decide (q.2.1 = 32 → q.1 = 5)) = true ∧ (hBds yL_worth.cls cL_worth 4 0 tabL_worth && decide (4 < 5 ∧ 0 ≤ 5 ∧ 5 < 17 ∧ yL_worth.cls ≠ RX10)) = true := by decide +kernel
theorem sfxL_worth_15 : mSfx 15 kL_worth = kL_worth_15 := rfl
theorem sfxL_worth_16 : mSfx 16 kL_worth = kL_worth_16 := rfl
theorem sfxL_worth_28 : mSfx 28 kL_worth = kL_worth_28 := rfl
def kL_brave_34 : List mIn := (34, 0, 0, 0, 0, 0, []) :: (35, 33, 0, 1, 0, 0, []) :: []
def kL_brave_18 : List mIn := (18, 27, 0, 23, 0, 0, []) :: (19, 22, 0, 0, 34, 0, []) :: (22, 7, 0, 5, 2, 0, []) :: (24, 0, 1, 0, 0, 0, []) :: (25, 33, 0, 1, 0, 0, []) :: (26, 7, 0, 5, 2, 0, []) :: (28, 0, 2, 0, 0, 0, []) :: (29, 33, 0, 1, 0, 0, []) :: (30, 7, 0, 5, 2, 0, []) :: (32, 0, 3, 0, 0, 0, []) :: (33, 33, 0, 1, 0, 0, []) :: kL_brave_34
def kL_brave_17 : List mIn := (17, 1, 0, 0, 0, 0, []) :: kL_brave_18
def kL_brave_0 : List mIn := (0, 4, 0, 4, 2, 0, []) :: (2, 0, 0, 0, 0, 0, []) :: (3, 4, 0, 0, 1, 0, []) :: (4, 2, 0, 1, 1, 0, []) :: (5, 2, 0, 2, 1, 0, []) :: (6, 2, 0, 3, 1, 0, []) :: (7, 32, 0, 100, 4, 101, [10, 1391, 1392, 1393, 105, 1394]) :: (10, 20, 0, 0, 17, 0, []) :: (13, 1, 1, 0, 1, 0, []) :: (14, 22, 0, 0, 18, 0, []) :: kL_brave_17
def kL_brave : List mIn := kL_brave_0
def TL_brave : Nat → mCal := tOne calX10_brave (yL_brave, cL_brave, 6, some .int, (0, 0, 0, 0))
def calL_brave : mCal := (yL_brave, cL_brave, 6, some .int, (8, 172, 4, 24))
def tabL_brave : List (Nat × Nat × Nat × Nat) := [(0, 22, 18, 959), (2, 26, 67, 1111), (1, 30, 13, 738)]
theorem okL_brave : mOKL (fun _ => []) (yL_brave.cls, cL_brave, TL_brave, some .int, (8, 172, 4, 24), 6, mAcf [(7, 4)], mAcf [(7, 24)]) kL_brave = true := by decide +kernel
theorem okHL_brave : kL_brave.all (fun q => decide (q.2.1 = 32 → q.1 = 7)) = true ∧ (hBds yL_brave.cls cL_brave 5 0 tabL_brave && decide (5 < 6 ∧ 0 ≤ 7 ∧ 7 < 19 ∧ yL_brave.cls ≠ RX10)) = true := by decide +kernel
theorem sfxL_brave_17 : mSfx 17 kL_brave = kL_brave_17 := rfl
theorem sfxL_brave_18 : mSfx 18 kL_brave = kL_brave_18 := rfl
theorem sfxL_brave_34 : mSfx 34 kL_brave = kL_brave_34 := rfl
def kL_both_28 : List mIn := (28, 0, 0, 0, 0, 0, []) :: (29, 33, 0, 1, 0, 0, []) :: []
def kL_both_16 : List mIn := (16, 27, 0, 23, 0, 0, []) :: (17, 22, 0, 0, 28, 0, []) :: (20, 7, 0, 4, 2, 0, []) :: (22, 0, 1, 0, 0, 0, []) :: (23, 33, 0, 1, 0, 0, []) :: (24, 7, 0, 4, 2, 0, []) :: (26, 0, 2, 0, 0, 0, []) :: (27, 33, 0, 1, 0, 0, []) :: kL_both_28
def kL_both_15 : List mIn := (15, 1, 0, 0, 0, 0, []) :: kL_both_16
def kL_both_0 : List mIn := (0, 4, 0, 3, 1, 0, []) :: (1, 0, 0, 0, 0, 0, []) :: (2, 4, 0, 0, 1, 0, []) :: (3, 2, 0, 1, 1, 0, []) :: (4, 2, 0, 2, 1, 0, []) :: (5, 32, 0, 100, 3, 105, [10, 1398, 1399, 1400, 105, 1401]) :: (8, 20, 0, 0, 15, 0, []) :: (11, 1, 1, 0, 1, 0, []) :: (12, 22, 0, 0, 16, 0, []) :: kL_both_15
def kL_both : List mIn := kL_both_0
def TL_both : Nat → mCal := tOne calX10_both (yL_both, cL_both, 5, some .int, (0, 0, 0, 0))
def calL_both : mCal := (yL_both, cL_both, 5, some .int, (8, 153, 2, 12))
def tabL_both : List (Nat × Nat × Nat × Nat) := [(0, 20, 18, 959), (1, 24, 13, 738)]
theorem okL_both : mOKL (fun _ => []) (yL_both.cls, cL_both, TL_both, some .int, (8, 153, 2, 12), 5, mAcf [(5, 2)], mAcf [(5, 12)]) kL_both = true := by decide +kernel
theorem okHL_both : kL_both.all (fun q => decide (q.2.1 = 32 → q.1 = 5)) = true ∧ (hBds yL_both.cls cL_both 4 0 tabL_both && decide (4 < 5 ∧ 0 ≤ 5 ∧ 5 < 17 ∧ yL_both.cls ≠ RX10)) = true := by decide +kernel
theorem sfxL_both_15 : mSfx 15 kL_both = kL_both_15 := rfl
theorem sfxL_both_16 : mSfx 16 kL_both = kL_both_16 := rfl
theorem sfxL_both_28 : mSfx 28 kL_both = kL_both_28 := rfl
def kL_book_23 : List mIn := (23, 0, 0, 0, 0, 0, []) :: (24, 33, 0, 1, 0, 0, []) :: []
def kL_book_0 : List mIn := (0, 4, 0, 4, 2, 0, []) :: (2, 0, 0, 0, 0, 0, []) :: (3, 4, 0, 0, 1, 0, []) :: (4, 2, 0, 1, 1, 0, []) :: (5, 2, 0, 2, 1, 0, []) :: (6, 2, 0, 3, 1, 0, []) :: (7, 32, 0, 100, 4, 108, [10, 1405, 1406, 1407, 105, 1408]) :: (10, 47, 0, 0, 0, 0, []) :: (11, 27, 0, 23, 0, 0, []) :: (12, 22, 0, 0, 23, 0, []) :: (15, 7, 0, 5, 2, 0, []) :: (17, 0, 1, 0, 0, 0, []) :: (18, 33, 0, 1, 0, 0, []) :: (19, 7, 0, 5, 2, 0, []) :: (21, 0, 2, 0, 0, 0, []) :: (22, 33, 0, 1, 0, 0, []) :: kL_book_23
def kL_book : List mIn := kL_book_0
def TL_book : Nat → mCal := tOne calX10_book (yL_book, cL_book, 6, some .int, (0, 0, 0, 0))
def calL_book : mCal := (yL_book, cL_book, 6, some .int, (9, 156, 3, 18))
def tabL_book : List (Nat × Nat × Nat × Nat) := [(0, 15, 18, 959), (1, 19, 13, 738)]
theorem okL_book : mOKL (fun _ => []) (yL_book.cls, cL_book, TL_book, some .int, (9, 156, 3, 18), 6, mAcf [(7, 3)], mAcf [(7, 18)]) kL_book = true := by decide +kernel
theorem okHL_book : kL_book.all (fun q => decide (q.2.1 = 32 → q.1 = 7)) = true ∧ (hBds yL_book.cls cL_book 5 0 tabL_book && decide (5 < 6 ∧ 0 ≤ 7 ∧ 7 < 12 ∧ yL_book.cls ≠ RX10)) = true := by decide +kernel
theorem sfxL_book_23 : mSfx 23 kL_book = kL_book_23 := rfl
def kL_learn_15 : List mIn := (15, 0, 0, 0, 0, 0, []) :: (16, 33, 0, 1, 0, 0, []) :: []
def kL_learn_0 : List mIn := (0, 4, 0, 2, 1, 0, []) :: (1, 0, 0, 0, 0, 0, []) :: (2, 4, 0, 0, 1, 0, []) :: (3, 2, 0, 1, 1, 0, []) :: (4, 32, 0, 100, 2, 111, [10, 1412, 1413, 1414, 105, 1415]) :: (7, 47, 0, 0, 0, 0, []) :: (8, 27, 0, 23, 0, 0, []) :: (9, 22, 0, 0, 15, 0, []) :: (12, 7, 0, 3, 1, 0, []) :: (13, 0, 1, 0, 0, 0, []) :: (14, 33, 0, 1, 0, 0, []) :: kL_learn_15
def kL_learn : List mIn := kL_learn_0
def TL_learn : Nat → mCal := tOne calX10_learn (yL_learn, cL_learn, 4, some .int, (0, 0, 0, 0))
def calL_learn : mCal := (yL_learn, cL_learn, 4, some .int, (8, 134, 1, 6))
def tabL_learn : List (Nat × Nat × Nat × Nat) := [(0, 12, 18, 959)]
theorem okL_learn : mOKL (fun _ => []) (yL_learn.cls, cL_learn, TL_learn, some .int, (8, 134, 1, 6), 4, mAcf [(4, 1)], mAcf [(4, 6)]) kL_learn = true := by decide +kernel
theorem okHL_learn : kL_learn.all (fun q => decide (q.2.1 = 32 → q.1 = 4)) = true ∧ (hBds yL_learn.cls cL_learn 3 0 tabL_learn && decide (3 < 4 ∧ 0 ≤ 4 ∧ 4 < 9 ∧ yL_learn.cls ≠ RX10)) = true := by decide +kernel
theorem sfxL_learn_15 : mSfx 15 kL_learn = kL_learn_15 := rfl
def kL_ends_26 : List mIn := (26, 0, 0, 0, 0, 0, []) :: (27, 33, 0, 1, 0, 0, []) :: []
def kL_ends_18 : List mIn := (18, 27, 0, 23, 0, 0, []) :: (19, 22, 0, 0, 26, 0, []) :: (22, 7, 0, 5, 2, 0, []) :: (24, 0, 1, 0, 0, 0, []) :: (25, 33, 0, 1, 0, 0, []) :: kL_ends_26
def kL_ends_17 : List mIn := (17, 1, 0, 0, 0, 0, []) :: kL_ends_18
def kL_ends_0 : List mIn := (0, 4, 0, 4, 2, 0, []) :: (2, 0, 0, 0, 0, 0, []) :: (3, 4, 0, 0, 1, 0, []) :: (4, 2, 0, 1, 1, 0, []) :: (5, 2, 0, 2, 1, 0, []) :: (6, 2, 0, 3, 1, 0, []) :: (7, 32, 0, 100, 4, 114, [10, 1424, 1425, 1426, 105, 1427]) :: (10, 20, 0, 0, 17, 0, []) :: (13, 1, 1, 0, 1, 0, []) :: (14, 22, 0, 0, 18, 0, []) :: kL_ends_17
def kL_ends : List mIn := kL_ends_0
def TL_ends : Nat → mCal := tOne calX10_ends (yL_ends, cL_ends, 6, some .int, (0, 0, 0, 0))
def calL_ends : mCal := (yL_ends, cL_ends, 6, some .int, (9, 158, 2, 12))
def tabL_ends : List (Nat × Nat × Nat × Nat) := [(0, 22, 18, 959)]
theorem okL_ends : mOKL (fun _ => []) (yL_ends.cls, cL_ends, TL_ends, some .int, (9, 158, 2, 12), 6, mAcf [(7, 2)], mAcf [(7, 12)]) kL_ends = true := by decide +kernel
theorem okHL_ends : kL_ends.all (fun q => decide (q.2.1 = 32 → q.1 = 7)) = true ∧ (hBds yL_ends.cls cL_ends 5 0 tabL_ends && decide (5 < 6 ∧ 0 ≤ 7 ∧ 7 < 19 ∧ yL_ends.cls ≠ RX10)) = true := by decide +kernel
theorem sfxL_ends_17 : mSfx 17 kL_ends = kL_ends_17 := rfl
theorem sfxL_ends_18 : mSfx 18 kL_ends = kL_ends_18 := rfl
theorem sfxL_ends_26 : mSfx 26 kL_ends = kL_ends_26 := rfl
def kL_enough_23 : List mIn := (23, 0, 0, 0, 0, 0, []) :: (24, 33, 0, 1, 0, 0, []) :: []
def kL_enough_0 : List mIn := (0, 4, 0, 4, 2, 0, []) :: (2, 0, 0, 0, 0, 0, []) :: (3, 4, 0, 0, 1, 0, []) :: (4, 2, 0, 1, 1, 0, []) :: (5, 2, 0, 2, 1, 0, []) :: (6, 2, 0, 3, 1, 0, []) :: (7, 32, 0, 100, 4, 118, [10, 1434, 1435, 1436, 105, 1437]) :: (10, 47, 0, 0, 0, 0, []) :: (11, 27, 0, 23, 0, 0, []) :: (12, 22, 0, 0, 23, 0, []) :: (15, 7, 0, 5, 2, 0, []) :: (17, 0, 1, 0, 0, 0, []) :: (18, 33, 0, 1, 0, 0, []) :: (19, 7, 0, 5, 2, 0, []) :: (21, 0, 2, 0, 0, 0, []) :: (22, 33, 0, 1, 0, 0, []) :: kL_enough_23
def kL_enough : List mIn := kL_enough_0
def TL_enough : Nat → mCal := tOne calX10_enough (yL_enough, cL_enough, 6, some .int, (0, 0, 0, 0))
def calL_enough : mCal := (yL_enough, cL_enough, 6, some .int, (9, 158, 3, 18))
def tabL_enough : List (Nat × Nat × Nat × Nat) := [(0, 15, 18, 959), (1, 19, 13, 738)]
theorem okL_enough : mOKL (fun _ => []) (yL_enough.cls, cL_enough, TL_enough, some .int, (9, 158, 3, 18), 6, mAcf [(7, 3)], mAcf [(7, 18)]) kL_enough = true := by decide +kernel
theorem okHL_enough : kL_enough.all (fun q => decide (q.2.1 = 32 → q.1 = 7)) = true ∧ (hBds yL_enough.cls cL_enough 5 0 tabL_enough && decide (5 < 6 ∧ 0 ≤ 7 ∧ 7 < 12 ∧ yL_enough.cls ≠ RX10)) = true := by decide +kernel
theorem sfxL_enough_23 : mSfx 23 kL_enough = kL_enough_23 := rfl
def kL_play_23 : List mIn := (23, 0, 0, 0, 0, 0, []) :: (24, 33, 0, 1, 0, 0, []) :: []
def kL_play_0 : List mIn := (0, 4, 0, 4, 2, 0, []) :: (2, 0, 0, 0, 0, 0, []) :: (3, 4, 0, 0, 1, 0, []) :: (4, 2, 0, 1, 1, 0, []) :: (5, 2, 0, 2, 1, 0, []) :: (6, 2, 0, 3, 1, 0, []) :: (7, 32, 0, 100, 4, 121, [10, 1442, 1443, 1444, 105, 1445]) :: (10, 47, 0, 0, 0, 0, []) :: (11, 27, 0, 23, 0, 0, []) :: (12, 22, 0, 0, 23, 0, []) :: (15, 7, 0, 5, 2, 0, []) :: (17, 0, 1, 0, 0, 0, []) :: (18, 33, 0, 1, 0, 0, []) :: (19, 7, 0, 5, 2, 0, []) :: (21, 0, 2, 0, 0, 0, []) :: (22, 33, 0, 1, 0, 0, []) :: kL_play_23
def kL_play : List mIn := kL_play_0
def TL_play : Nat → mCal := tOne calX10_play (yL_play, cL_play, 6, some .int, (0, 0, 0, 0))
def calL_play : mCal := (yL_play, cL_play, 6, some .int, (8, 171, 2, 12))
def tabL_play : List (Nat × Nat × Nat × Nat) := [(0, 15, 18, 959), (1, 19, 13, 738)]
theorem okL_play : mOKL (fun _ => []) (yL_play.cls, cL_play, TL_play, some .int, (8, 171, 2, 12), 6, mAcf [(7, 2)], mAcf [(7, 12)]) kL_play = true := by decide +kernel
theorem okHL_play : kL_play.all (fun q => decide (q.2.1 = 32 → q.1 = 7)) = true ∧ (hBds yL_play.cls cL_play 5 0 tabL_play && decide (5 < 6 ∧ 0 ≤ 7 ∧ 7 < 12 ∧ yL_play.cls ≠ RX10)) = true := by decide +kernel
theorem sfxL_play_23 : mSfx 23 kL_play = kL_play_23 := rfl
def kL_write_26 : List mIn := (26, 0, 0, 0, 0, 0, []) :: (27, 33, 0, 1, 0, 0, []) :: []
def kL_write_0 : List mIn := (0, 4, 0, 5, 2, 0, []) :: (2, 0, 0, 0, 0, 0, []) :: (3, 4, 0, 0, 1, 0, []) :: (4, 2, 0, 1, 1, 0, []) :: (5, 2, 0, 2, 1, 0, []) :: (6, 3, 0, 3, 1, 0, []) :: (7, 32, 0, 100, 4, 128, [10, 1516, 1517, 1518, 105, 1519]) :: (10, 27, 0, 23, 0, 0, []) :: (11, 22, 0, 0, 26, 0, []) :: (14, 7, 0, 6, 2, 0, []) :: (16, 0, 1, 0, 0, 0, []) :: (17, 33, 0, 1, 0, 0, []) :: (18, 7, 0, 6, 2, 0, []) :: (20, 0, 2, 0, 0, 0, []) :: (21, 33, 0, 1, 0, 0, []) :: (22, 7, 0, 6, 2, 0, []) :: (24, 0, 3, 0, 0, 0, []) :: (25, 33, 0, 1, 0, 0, []) :: kL_write_26
def kL_write : List mIn := kL_write_0
def TL_write : Nat → mCal := tOne calX10_write (yL_write, cL_write, 7, some .int, (0, 0, 0, 0))
def calL_write : mCal := (yL_write, cL_write, 7, some .int, (8, 136, 2, 12))
def tabL_write : List (Nat × Nat × Nat × Nat) := [(0, 14, 18, 959), (2, 18, 67, 1111), (3, 22, 95, 1327)]
theorem okL_write : mOKL (fun _ => []) (yL_write.cls, cL_write, TL_write, some .int, (8, 136, 2, 12), 7, mAcf [(7, 2)], mAcf [(7, 12)]) kL_write = true := by decide +kernel
theorem okHL_write : kL_write.all (fun q => decide (q.2.1 = 32 → q.1 = 7)) = true ∧ (hBds yL_write.cls cL_write 6 0 tabL_write && decide (6 < 7 ∧ 0 ≤ 7 ∧ 7 < 11 ∧ yL_write.cls ≠ RX10)) = true := by decide +kernel
theorem sfxL_write_26 : mSfx 26 kL_write = kL_write_26 := rfl
def kL_pour_21 : List mIn := (21, 0, 0, 0, 0, 0, []) :: (22, 33, 0, 1, 0, 0, []) :: []
def kL_pour_0 : List mIn := (0, 4, 0, 2, 1, 0, []) :: (1, 0, 0, 0, 0, 0, []) :: (2, 4, 0, 0, 1, 0, []) :: (3, 2, 0, 1, 1, 0, []) :: (4, 32, 0, 100, 2, 132, [10, 1528, 1529, 1530, 105, 1531]) :: (7, 47, 0, 0, 0, 0, []) :: (8, 27, 0, 23, 0, 0, []) :: (9, 22, 0, 0, 21, 0, []) :: (12, 7, 0, 3, 1, 0, []) :: (13, 0, 1, 0, 0, 0, []) :: (14, 33, 0, 1, 0, 0, []) :: (15, 7, 0, 3, 1, 0, []) :: (16, 0, 2, 0, 0, 0, []) :: (17, 33, 0, 1, 0, 0, []) :: (18, 7, 0, 3, 1, 0, []) :: (19, 0, 3, 0, 0, 0, []) :: (20, 33, 0, 1, 0, 0, []) :: kL_pour_21
def kL_pour : List mIn := kL_pour_0
def TL_pour : Nat → mCal := tOne calX10_pour (yL_pour, cL_pour, 4, some .int, (0, 0, 0, 0))
def calL_pour : mCal := (yL_pour, cL_pour, 4, some .int, (8, 134, 2, 12))
def tabL_pour : List (Nat × Nat × Nat × Nat) := [(0, 12, 18, 959), (2, 15, 67, 1111), (1, 18, 13, 738)]
theorem okL_pour : mOKL (fun _ => []) (yL_pour.cls, cL_pour, TL_pour, some .int, (8, 134, 2, 12), 4, mAcf [(4, 2)], mAcf [(4, 12)]) kL_pour = true := by decide +kernel
theorem okHL_pour : kL_pour.all (fun q => decide (q.2.1 = 32 → q.1 = 4)) = true ∧ (hBds yL_pour.cls cL_pour 3 0 tabL_pour && decide (3 < 4 ∧ 0 ≤ 4 ∧ 4 < 9 ∧ yL_pour.cls ≠ RX10)) = true := by decide +kernel
theorem sfxL_pour_21 : mSfx 21 kL_pour = kL_pour_21 := rfl
def kL_restore_14 : List mIn := (14, 0, 0, 0, 0, 0, []) :: (15, 33, 0, 1, 0, 0, []) :: []
def kL_restore_0 : List mIn := (0, 4, 0, 0, 1, 0, []) :: (1, 2, 0, 1, 1, 0, []) :: (2, 32, 0, 100, 2, 139, [10, 1561, 1562, 1563, 105, 1564]) :: (5, 22, 0, 0, 14, 0, []) :: (8, 7, 0, 2, 1, 0, []) :: (9, 0, 1, 0, 0, 0, []) :: (10, 33, 0, 1, 0, 0, []) :: (11, 7, 0, 2, 1, 0, []) :: (12, 0, 2, 0, 0, 0, []) :: (13, 33, 0, 1, 0, 0, []) :: kL_restore_14
def kL_restore : List mIn := kL_restore_0
def TL_restore : Nat → mCal := tOne calX10_restore (yL_restore, cL_restore, 3, some .int, (0, 0, 0, 0))
def calL_restore : mCal := (yL_restore, cL_restore, 3, some .int, (8, 145, 2, 12))
def tabL_restore : List (Nat × Nat × Nat × Nat) := [(0, 8, 18, 959), (2, 11, 67, 1111)]
theorem okL_restore : mOKL (fun _ => []) (yL_restore.cls, cL_restore, TL_restore, some .int, (8, 145, 2, 12), 3, mAcf [(2, 2)], mAcf [(2, 12)]) kL_restore = true := by decide +kernel
theorem okHL_restore : kL_restore.all (fun q => decide (q.2.1 = 32 → q.1 = 2)) = true ∧ (hBds yL_restore.cls cL_restore 2 0 tabL_restore && decide (2 < 3 ∧ 0 ≤ 2 ∧ 2 < 5 ∧ yL_restore.cls ≠ RX10)) = true := by decide +kernel
theorem sfxL_restore_14 : mSfx 14 kL_restore = kL_restore_14 := rfl
end LWR
