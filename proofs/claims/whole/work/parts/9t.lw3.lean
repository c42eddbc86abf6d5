section LLIS
theorem copyM_in (I : mM) (a : Nat) (lo : Int) (g : Int → Int) {n q : Int} (h0 : lo ≤ q) (h1 : q < lo + n) : copyM I a lo g n a q = g (q - lo) := if_pos ⟨rfl, h0, h1⟩
theorem copyM_out (I : mM) (a : Nat) (lo : Int) (g : Int → Int) {n q : Int} (h : ¬ (lo ≤ q ∧ q < lo + n)) : copyM I a lo g n a q = I a q := if_neg (fun z => h z.2)
theorem LI_tray {fl : Nat → Bool} {I J : mM} {t s n : Int} (H : LI fl I) (z : trayP t) (y : (0 ≤ s ∧ s ≤ 3) ∧ (0 ≤ n ∧ n ≤ 40)) (hJ0 : ∀ i, i ≠ 170 + 2 * t.toNat → i ≠ 171 + 2 * t.toNat → J i = I i) (hJ1 : J (170 + 2 * t.toNat) 0 = s ∧ J (170 + 2 * t.toNat) 1 = n) (hJ2 : ∀ q : Int, 0 ≤ q → q < 40 → J (171 + 2 * t.toNat) q = 0) :
    qV (flS fl (3 + t.toNat)) 0 (.inl none) (copyM (mSet (mSet (mSet J 200 3 0) 216 t s) 217 t n) 218 (40 * t) (fun _ => 0) 40) := by
  have z : 0 ≤ t ∧ t < 4 := z
  obtain ⟨k, hk⟩ : ∃ k : Nat, t = (k : Int) := ⟨t.toNat, by omega⟩
  subst hk
  rw [show ((k : Int)).toNat = k from Int.toNat_natCast k] at *
  have hk4 : k < 4 := by omega
  obtain ⟨h1, ⟨b1, b2, b3, b4⟩, ⟨n1, n2, n3⟩, n4, n5, n6, n7⟩ := H
  obtain ⟨K, hK⟩ : ∃ K, K = copyM (mSet (mSet (mSet J 200 3 0) 216 k s) 217 k n) 218 (40 * k) (fun _ => 0) 40 := ⟨_, rfl⟩
  rw [← hK]
  have e0 : ∀ i, i ≠ 200 → i ≠ 216 → i ≠ 217 → i ≠ 218 → K i = J i := fun i a b c d => by
    rw [hK, copyM_ne _ _ _ _ d, set_ne c, set_ne b, set_ne a]
  have e1 : ∀ i, i ≠ 200 → i ≠ 216 → i ≠ 217 → i ≠ 218 → i ≠ 170 + 2 * k → i ≠ 171 + 2 * k → K i = I i := fun i a b c d f g => by rw [e0 i a b c d, hJ0 i f g]
  have e200 : ∀ p : Int, p ≠ 3 → K 200 p = I 200 p := fun p hp => by
    rw [hK, copyM_ne _ _ _ _ (by decide), set_ne (by decide), set_ne (by decide), set_nq hp, hJ0 200 (by omega) (by omega)]
  have e3 : K 200 3 = 0 := by rw [hK, copyM_ne _ _ _ _ (by decide), set_ne (by decide), set_ne (by decide), set_eq]
  have e216 : ∀ p : Int, K 216 p = if p = k then s else I 216 p := fun p => by
    rw [hK, copyM_ne _ _ _ _ (by decide), set_ne (by decide)]
    by_cases h : p = k
    · rw [h, set_eq, if_pos rfl]
    · rw [set_nq h, set_ne (by decide), if_neg h, hJ0 216 (by omega) (by omega)]
  have e217 : ∀ p : Int, K 217 p = if p = k then n else I 217 p := fun p => by
    rw [hK, copyM_ne _ _ _ _ (by decide)]
    by_cases h : p = k
    · rw [h, set_eq, if_pos rfl]
    · rw [set_nq h, set_ne (by decide), set_ne (by decide), if_neg h, hJ0 217 (by omega) (by omega)]
  have e218 : ∀ q : Int, K 218 q = if 40 * (k : Int) ≤ q ∧ q < 40 * k + 40 then 0 else I 218 q := fun q => by
    rw [hK]
    by_cases h : 40 * (k : Int) ≤ q ∧ q < 40 * k + 40
    · rw [copyM_in _ _ _ _ h.1 h.2, if_pos h]
    · rw [copyM_out _ _ _ _ h, set_ne (by decide), set_ne (by decide), set_ne (by decide), if_neg h, hJ0 218 (by omega) (by omega)]
  have e100 := e1 100 (by decide) (by decide) (by decide) (by decide) (by omega) (by omega)
  have ez := e1 0 (by decide) (by decide) (by decide) (by decide) (by omega) (by omega)
  refine ⟨rfl, e3, clsI_of (fun i hi => e1 i (by omega) (by omega) (by omega) (by omega) (by omega) (by omega)) h1, ⟨?_, ⟨fun p p0 p1 => ?_, fun q q0 q1 => ?_⟩, fun j hj => ?_, fun j hj => ?_⟩, ?_, ?_, ?_, ?_, ?_⟩
  · rw [e1 101 (by decide) (by decide) (by decide) (by decide) (by omega) (by omega), e1 204 (by decide) (by decide) (by decide) (by decide) (by omega) (by omega)]
    exact b1
  · rw [e216, e217]
    by_cases h : p = k
    · rw [if_pos h, if_pos h]; omega
    · rw [if_neg h, if_neg h]; exact b2.1 p p0 p1
  · rw [e218]
    by_cases h : 40 * (k : Int) ≤ q ∧ q < 40 * k + 40
    · rw [if_pos h]; exact ⟨by decide, by decide⟩
    · rw [if_neg h]; exact b2.2 q q0 q1
  · by_cases h : j = k
    · subst h
      have f1 : flS fl (3 + j) (3 + j) = true := flS_eq
      rw [e216, if_pos rfl, e217, if_pos rfl]
      refine ⟨⟨fun _ => by omega, fun _ => f1⟩, fun _ => ⟨?_, ?_, fun q q0 q1 => ?_⟩⟩
      · rw [e0 _ (by omega) (by omega) (by omega) (by omega)]; exact hJ1.1
      · rw [e0 _ (by omega) (by omega) (by omega) (by omega)]; exact hJ1.2
      · rw [e0 _ (by omega) (by omega) (by omega) (by omega), hJ2 q q0 q1, e218, if_pos (by omega)]
    · have f1 : flS fl (3 + k) (3 + j) = fl (3 + j) := flS_ne (by omega)
      rw [f1, e216, if_neg (by omega), e217, if_neg (by omega), e1 (170 + 2 * j) (by omega) (by omega) (by omega) (by omega) (by omega) (by omega), e1 (171 + 2 * j) (by omega) (by omega) (by omega) (by omega) (by omega) (by omega)]
      refine ⟨(b3 j hj).1, fun hf => ⟨((b3 j hj).2 hf).1, ((b3 j hj).2 hf).2.1, fun q q0 q1 => ?_⟩⟩
      rw [e218, if_neg (by omega)]
      exact ((b3 j hj).2 hf).2.2 q q0 q1
  · have f1 : flS fl (3 + k) j = fl j := flS_ne (by omega)
    rw [f1, e1 203 (by decide) (by decide) (by decide) (by decide) (by omega) (by omega), e1 202 (by decide) (by decide) (by decide) (by decide) (by omega) (by omega)]
    obtain ⟨c1, c2, c3⟩ := b4 j hj
    exact ⟨c1, c2, fun hf => ⟨(c3 hf).1, repS_of (fun i i0 i1 => e1 i (by omega) (by omega) (by omega) (by omega) (by omega) (by omega)) (c3 hf).2⟩⟩
  · rw [e100, e200 6 (by decide)]; exact ⟨n1, n2, n3⟩
  · rw [e100, e200 14 (by decide), e200 15 (by decide)]; exact n4
  · rw [e200 11 (by decide)]; exact n5
  · rw [ez, e200 16 (by decide)]; exact n6
  · rw [ez, e200 17 (by decide)]; exact n7
theorem LI_image {fl : Nat → Bool} {I I2 J : mM} {t : Int} (H : LI fl I) (z : 0 ≤ t ∧ t ≤ 2) (h2 : ∀ i, ¬ (30 + 20 * t.toNat ≤ i ∧ i ≤ 30 + 20 * t.toNat + 17) → I2 i = I i) (hJ : cpS J I2 (30 + 20 * t.toNat) 10) :
    qV (flS fl t.toNat) 0 (.inl none) (copyM (mSet (mSet J 200 3 0) 203 t 1) 202 (635 * t) (J 201) 635) := by
  obtain ⟨k, hk⟩ : ∃ k : Nat, t = (k : Int) := ⟨t.toNat, by omega⟩
  subst hk
  rw [show ((k : Int)).toNat = k from Int.toNat_natCast k] at *
  have hk3 : k < 3 := by omega
  obtain ⟨h1, ⟨b1, b2, b3, b4⟩, ⟨n1, n2, n3⟩, n4, n5, n6, n7⟩ := H
  have hJ0 : ∀ i, ¬ (30 + 20 * k ≤ i ∧ i ≤ 30 + 20 * k + 17) → J i = I i := fun i hi => by rw [hJ.1 i (by omega), h2 i hi]
  have hr0 : repS I 10 (I 201) := ⟨h1.2.1, h1.2.2.1, h1.2.2.2⟩
  have hr1 : repS I2 10 (I 201) := repS_of (fun i i0 i1 => h2 i (by omega)) hr0
  have hr2 : repS J (30 + 20 * k) (I 201) := repS_cp h1.1.c8 hJ hr1
  have e201 := hJ0 201 (by omega)
  rw [e201]
  obtain ⟨K, hK⟩ : ∃ K, K = copyM (mSet (mSet J 200 3 0) 203 k 1) 202 (635 * k) (I 201) 635 := ⟨_, rfl⟩
  rw [← hK]
  have e0 : ∀ i, i ≠ 200 → i ≠ 202 → i ≠ 203 → K i = J i := fun i a b c => by
    rw [hK, copyM_ne _ _ _ _ b, set_ne c, set_ne a]
  have e1 : ∀ i, i ≠ 200 → i ≠ 202 → i ≠ 203 → ¬ (30 + 20 * k ≤ i ∧ i ≤ 30 + 20 * k + 17) → K i = I i := fun i a b c d => by rw [e0 i a b c, hJ0 i d]
  have e200 : ∀ p : Int, p ≠ 3 → K 200 p = I 200 p := fun p hp => by
    rw [hK, copyM_ne _ _ _ _ (by decide), set_ne (by decide), set_nq hp, hJ0 200 (by omega)]
  have e3 : K 200 3 = 0 := by rw [hK, copyM_ne _ _ _ _ (by decide), set_ne (by decide), set_eq]
  have e203 : ∀ p : Int, K 203 p = if p = k then 1 else I 203 p := fun p => by
    rw [hK, copyM_ne _ _ _ _ (by decide)]
    by_cases h : p = k
    · rw [h, set_eq, if_pos rfl]
    · rw [set_nq h, set_ne (by decide), if_neg h, hJ0 203 (by omega)]
  have e202 : ∀ q : Int, K 202 q = if 635 * (k : Int) ≤ q ∧ q < 635 * k + 635 then I 201 (q - 635 * k) else I 202 q := fun q => by
    rw [hK]
    by_cases h : 635 * (k : Int) ≤ q ∧ q < 635 * k + 635
    · rw [copyM_in _ _ _ _ h.1 h.2, if_pos h]
    · rw [copyM_out _ _ _ _ h, set_ne (by decide), set_ne (by decide), if_neg h, hJ0 202 (by omega)]
  have e100 := e1 100 (by decide) (by decide) (by decide) (by omega)
  have ez := e1 0 (by decide) (by decide) (by decide) (by omega)
  refine ⟨rfl, e3, clsI_of (fun i hi => e1 i (by omega) (by omega) (by omega) (by omega)) h1, ⟨?_, ?_, fun j hj => ?_, fun j hj => ?_⟩, ?_, ?_, ?_, ?_, ?_⟩
  · rw [e1 101 (by decide) (by decide) (by decide) (by omega), e1 204 (by decide) (by decide) (by decide) (by omega)]
    exact b1
  · unfold trW
    rw [e1 216 (by decide) (by decide) (by decide) (by omega), e1 217 (by decide) (by decide) (by decide) (by omega), e1 218 (by decide) (by decide) (by decide) (by omega)]
    exact b2
  · have f1 : flS fl k (3 + j) = fl (3 + j) := flS_ne (by omega)
    rw [f1, e1 216 (by decide) (by decide) (by decide) (by omega), e1 217 (by decide) (by decide) (by decide) (by omega), e1 218 (by decide) (by decide) (by decide) (by omega), e1 (170 + 2 * j) (by omega) (by omega) (by omega) (by omega), e1 (171 + 2 * j) (by omega) (by omega) (by omega) (by omega)]
    exact b3 j hj
  · by_cases h : j = k
    · subst h
      have f1 : flS fl j j = true := flS_eq
      rw [e203, if_pos rfl]
      have e5 : ∀ q : Int, 0 ≤ q → q < 635 → K 202 (635 * j + q) = I 201 q := fun q q0 q1 => by
        rw [e202, if_pos (by omega), show 635 * (j : Int) + q - 635 * j = q by omega]
      have wf : WFt (fun q => K 202 (635 * j + q)) := WFt_e h1.1 e5
      refine ⟨Or.inr rfl, ⟨fun _ => rfl, fun _ => f1⟩, fun _ => ⟨wf, ?_⟩⟩
      exact repS_of (fun i i0 i1 => e0 i (by omega) (by omega) (by omega)) (repS_x h1.1.c8 (fun q q0 q1 => e5 q q0 q1) hr2)
    · have f1 : flS fl k j = fl j := flS_ne h
      rw [f1, e203, if_neg (by omega)]
      obtain ⟨c1, c2, c3⟩ := b4 j hj
      have e5 : ∀ q : Int, 0 ≤ q → q < 635 → K 202 (635 * j + q) = I 202 (635 * j + q) := fun q q0 q1 => by
        rw [e202, if_neg (by omega)]
      exact ⟨c1, c2, fun hf => ⟨WFt_e (c3 hf).1 e5, repS_of (fun i i0 i1 => e1 i (by omega) (by omega) (by omega) (by omega)) (repS_x (c3 hf).1.c8 (fun q q0 q1 => e5 q q0 q1) (c3 hf).2)⟩⟩
  · rw [e100, e200 6 (by decide)]; exact ⟨n1, n2, n3⟩
  · rw [e100, e200 14 (by decide), e200 15 (by decide)]; exact n4
  · rw [e200 11 (by decide)]; exact n5
  · rw [ez, e200 16 (by decide)]; exact n6
  · rw [ez, e200 17 (by decide)]; exact n7
end LLIS
section LW3
theorem wl_cut {S : Nat → mSp} {J : Nat → mK} {Q : mO → mM → Prop} {X : String → mLv → mM → Prop} {fl : Nat → Bool} {ro : mRo} {pc a b c : Nat} {x : Int} {ts : List Nat} {r : List mIn} {lv : mLv} {st : mSt} {I : mM} : mWpL S J Q X fl ro ((pc, 43, x, a, b, c, ts) :: r) lv st I = J b lv st I := propext Iff.rfl
theorem flS_id {fl : Nat → Bool} {a : Nat} (h : fl a = true) : flS fl a = fl := funext fun q => by
  unfold flS
  split
  · rename_i e; rw [e, h]
  · rfl
def cutB : Nat → Option (List Bool) := fun t => mLk t [(3066, [true, true, true, true, true, false, false, false])]
theorem cutB_3066 : cutB 3066 = some [true, true, true, true, true, false, false, false] := by decide
theorem LI_13 {fl : Nat → Bool} {I : mM} (H : LI fl I) : I 13 2 = 0 ∨ I 13 2 = 1 := by
  have h8 := H.1.1.1.2.2.2.2.2.2.2.2
  have e := H.1.2.2.2.2.2.1
  rw [e]
  omega
theorem P_tray {fl : Nat → Bool} {I : mM} {t s n : Int} (H : LI fl I) (mt : mrg t) (ms : mrg s) (mn : mrg n) (hc : trayP t → ((0 ≤ s ∧ s ≤ 3) ∧ (0 ≤ n ∧ n ≤ 40)) → fl (3 + t.toNat) = true) : spL_tray fl [mR (some 0), mI t, mI s, mI n] I (KV fl spX11_tray [mR (some 200), mI t, mI s, mI n]) := by
  refine ⟨t, s, n, rfl, _, ?_, fun _ _ z => z⟩
  show spX10_tray fl [mR (some 0), mI t, mI s, mI n] I (wKv (tabL_tray.map (fun q => q.1)) (KV fl spX11_tray [mR (some 200), mI t, mI s, mI n]))
  refine ⟨rfl, mt, ms, mn, fun h => ⟨0, by decide, rfl, 1, rfl, 1, rfl, ⟨by decide, by decide⟩, ?_⟩, fun hz h => ⟨1, by decide, rfl, 2, rfl, 2, rfl, ⟨by decide, by decide⟩, ?_⟩, fun hz hy => ⟨hc hz hy, ⟨0, rfl, ⟨by decide, by decide⟩, ?_⟩⟩⟩
  · exact ⟨rfl, mt, ms, mn, fun _ => qV_k H (RD_rfl I) (RM_h H (RD_rfl I) (RM_3 1)), fun h2 => absurd h2 h, fun h2 => absurd h2 h⟩
  · exact ⟨rfl, mt, ms, mn, fun h2 => absurd hz h2, fun _ _ => qV_k H (RD_rfl I) (RM_h H (RD_rfl I) (RM_3 2)), fun _ h2 => absurd h2 h⟩
  · refine ⟨rfl, mt, ms, mn, fun h2 => absurd hz h2, fun _ h2 => absurd hy h2, fun _ _ => ?_⟩
    have e := flS_id (hc hz hy)
    have h9 := LI_tray (J := copyM (mSet (mSet I (170 + 2 * t.toNat) 0 s) (170 + 2 * t.toNat) 1 n) (171 + 2 * t.toNat) 0 (fun _ => 0) 40) H hz hy (fun i a b => by rw [copyM_ne _ _ _ _ b, set_ne a, set_ne a]) ⟨by rw [copyM_ne _ _ _ _ (by omega), set_nq (by decide), set_eq], by rw [copyM_ne _ _ _ _ (by omega), set_eq]⟩ (fun q q0 q1 => copyM_in _ _ _ _ q0 (by omega))
    rw [e] at h9
    exact h9
theorem P_image {fl : Nat → Bool} {I : mM} {t : Int} (H : LI fl I) (mt : mrg t) (hc : (0 ≤ t ∧ t ≤ 2) → fl t.toNat = true) : spL_image fl [mR (some 0), mI t] I (KV fl spX11_image [mR (some 200), mI t]) := by
  refine ⟨t, rfl, _, ?_, fun _ _ z => z⟩
  show spX10_image fl [mR (some 0), mI t] I (wKv (tabL_image.map (fun q => q.1)) (KV fl spX11_image [mR (some 200), mI t]))
  refine ⟨rfl, mt, fun h => ⟨0, by decide, rfl, 1, rfl, 1, rfl, ⟨by decide, by decide⟩, ?_⟩, fun hz => ⟨hc hz, ?_, fun I' hI => ⟨0, rfl, ⟨by decide, by decide⟩, ?_⟩⟩⟩
  · exact ⟨rfl, mt, fun _ => qV_k H (RD_rfl I) (RM_h H (RD_rfl I) (RM_3 1)), fun h2 => absurd h2 h⟩
  · exact LI_13 H
  · refine ⟨rfl, mt, fun h2 => absurd hz h2, fun _ => ?_⟩
    have e := flS_id (hc hz)
    have h9 := LI_image (I2 := I) H hz (fun _ _ => rfl) hI
    rw [e] at h9
    exact h9
def kL_tr_2799 : List mIn := (2799, 22, 0, 0, 3066, 0, []) :: []
def kL_tr_2764 : List mIn := (2764, 5, 0, 5, 2, 0, []) :: (2766, 4, 0, 2, 1, 0, []) :: (2767, 4, 0, 0, 1, 0, []) :: (2768, 2, 0, 4, 2, 0, []) :: (2770, 0, 1, 0, 0, 0, []) :: (2771, 9, 0, 0, 0, 0, []) :: (2772, 26, 0, 20, 0, 0, []) :: (2773, 4, 0, 0, 1, 0, []) :: (2774, 2, 0, 4, 2, 0, []) :: (2776, 0, 2, 0, 0, 0, []) :: (2777, 9, 0, 0, 0, 0, []) :: (2778, 26, 0, 20, 0, 0, []) :: (2779, 4, 0, 0, 1, 0, []) :: (2780, 2, 0, 4, 2, 0, []) :: (2782, 0, 3, 0, 0, 0, []) :: (2783, 9, 0, 0, 0, 0, []) :: (2784, 26, 0, 20, 0, 0, []) :: (2785, 32, 0, 101, 4, 293, [11, 2143, 2144, 2145, 116, 2146]) :: (2788, 4, 0, 2, 1, 0, []) :: (2789, 32, 0, 102, 1, 157, [11, 1685, 1686, 1687, 116, 1688]) :: (2792, 2, 0, 5, 2, 0, []) :: (2794, 45, 0, 0, 2799, 0, []) :: (2797, 0, 0, 0, 0, 0, []) :: (2798, 33, 0, 4, 0, 0, []) :: kL_tr_2799
def kL_tr_2761 : List mIn := (2761, 32, 4, 32, 4, 290, [1481, 1482, 104, 1483]) :: kL_tr_2764
def kL_tr_2742 : List mIn := (2742, 4, 0, 1, 1, 0, []) :: (2743, 4, 0, 0, 1, 0, []) :: (2744, 2, 0, 4, 2, 0, []) :: (2746, 0, 1, 0, 0, 0, []) :: (2747, 9, 0, 0, 0, 0, []) :: (2748, 26, 0, 20, 0, 0, []) :: (2749, 4, 0, 0, 1, 0, []) :: (2750, 2, 0, 4, 2, 0, []) :: (2752, 0, 2, 0, 0, 0, []) :: (2753, 9, 0, 0, 0, 0, []) :: (2754, 26, 0, 20, 0, 0, []) :: (2755, 4, 0, 0, 1, 0, []) :: (2756, 2, 0, 4, 2, 0, []) :: (2758, 0, 3, 0, 0, 0, []) :: (2759, 9, 0, 0, 0, 0, []) :: (2760, 26, 0, 20, 0, 0, []) :: (2761, 43, 0, 0, 2761, 0, []) :: kL_tr_2761
def kL_tr : List mIn := kL_tr_2742
def TL_tr : Nat → mCal := fun a => if a = 32 then calL_tray else if a = 101 then calX11_tray else if a = 102 then calX11_thrown else (yL_law, cL_law, 8, some .boolean, (0, 0, 0, 0))
def SL_tr : Nat → mSp := fun a => if a = 32 then mUp spL_tray else if a = 101 then mUp spX11_tray else if a = 102 then spX11_thrown else fun _ _ _ _ => False
theorem SL_tr_32 : SL_tr 32 = mUp spL_tray := rfl
theorem SL_tr_101 : SL_tr 101 = mUp spX11_tray := rfl
theorem SL_tr_102 : SL_tr 102 = spX11_thrown := rfl
def hsL_tr : Nat → List (Nat × Nat × Nat × Nat) := fun a => if a = 32 then hTab 0 7 tabL_tray else []
theorem okL_tr : mOKL hsL_tr (yL_law.cls, cL_law, TL_tr, some .boolean, (15, 646, 5, 61), 8, mAcf [(2761, 5)], mAcf [(2761, 61)]) kL_tr = true := by decide +kernel
theorem hCL_tr {l : Launch} (hst : l.stackTraces = false) (hT : mTxM l) : ∀ a, 100 ≤ a → mCtr l (TL_tr a) (SL_tr a) := fun a ha => by
  unfold TL_tr SL_tr
  rw [if_neg (show ¬ a = 32 by omega), if_neg (show ¬ a = 32 by omega)]
  by_cases h1 : a = 101
  · rw [if_pos h1, if_pos h1]; exact mCtr_up (ctrX11_tray hst hT)
  · rw [if_neg h1, if_neg h1]
    by_cases h2 : a = 102
    · rw [if_pos h2, if_pos h2]; exact ctrX11_thrown hst hT
    · rw [if_neg h2, if_neg h2]; exact mCtr_no
theorem hCHL_tr {l : Launch} (hst : l.stackTraces = false) (hT : mTxM l) : ∀ a, a < 100 → mCtrH l (hsL_tr a) (TL_tr a) (SL_tr a) := fun a ha => by
  unfold TL_tr SL_tr hsL_tr
  by_cases h1 : a = 32
  · rw [if_pos h1, if_pos h1, if_pos h1]; exact mCtrH_up (ctrL_tray hst hT)
  · rw [if_neg h1, if_neg h1, if_neg h1, if_neg (show ¬ a = 101 by omega), if_neg (show ¬ a = 101 by omega), if_neg (show ¬ a = 102 by omega), if_neg (show ¬ a = 102 by omega)]
    exact fun _ _ _ _ _ _ _ h => h.elim
def cutL_tr : Nat → Option (List Bool) := fun t => mLk t [(2761, [true, true, true, true, true, false, false, false]), (3066, [true, true, true, true, true, false, false, false])]
theorem cutL_tr_2761 : cutL_tr 2761 = some [true, true, true, true, true, false, false, false] := by decide
set_option maxRecDepth 100000 in
theorem sfxL_tr_2761 : mSfx 2761 kL_tr = kL_tr_2761 := rfl
set_option maxRecDepth 100000 in
theorem sfxL_tr_2764 : mSfx 2764 kL_tr = kL_tr_2764 := rfl
set_option maxRecDepth 100000 in
theorem sfxL_tr_2799 : mSfx 2799 kL_tr = kL_tr_2799 := rfl
theorem cutB_2761 : cutB 2761 = none := by decide
theorem cutB_2799 : cutB 2799 = none := by decide
set_option maxRecDepth 100000 in
theorem WL_tr {fl : Nat → Bool} {I : mM} {f : Int → Int} {L : Nat} {i : Int} (H : LI fl I) (hi : 0 ≤ i) (hL : i + 6 ≤ (L : Int)) (hf : ∀ q : Int, mrg (f q)) (hc : trayP (f (i + 1)) → ((0 ≤ f (i + 2) ∧ f (i + 2) ≤ 3) ∧ (0 ≤ f (i + 3) ∧ f (i + 3) ≤ 40)) → fl (3 + (f (i + 1)).toNat) = true) : mWpL SL_tr (mGoL SL_tr (fun _ _ => False) (fun _ _ _ => False) fl (roL L f) kL_tr cutB (CL i fl L I) 60) (fun _ _ => False) (fun _ _ _ => False) fl (roL L f) kL_tr_2742 (lvL i) [] I := by
  have b1 : (0 ≤ i + 1) = True := eq_true (by omega)
  have c1 : (i + 1 < (L : Int)) = True := eq_true (by omega)
  have m1 : mrg (f (i + 1)) = True := eq_true (hf _)
  have b2 : (0 ≤ i + 2) = True := eq_true (by omega)
  have c2 : (i + 2 < (L : Int)) = True := eq_true (by omega)
  have m2 : mrg (f (i + 2)) = True := eq_true (hf _)
  have b3 : (0 ≤ i + 3) = True := eq_true (by omega)
  have c3 : (i + 3 < (L : Int)) = True := eq_true (by omega)
  have m3 : mrg (f (i + 3)) = True := eq_true (hf _)
  have b4 : (0 ≤ i + 4) = True := eq_true (by omega)
  have c4 : (i + 4 < (L : Int)) = True := eq_true (by omega)
  have m4 : mrg (f (i + 4)) = True := eq_true (hf _)
  have b5 : (0 ≤ i + 5) = True := eq_true (by omega)
  have c5 : (i + 5 < (L : Int)) = True := eq_true (by omega)
  have m5 : mrg (f (i + 5)) = True := eq_true (hf _)
  simp only [false_and, and_false, true_or, or_true, false_or, or_false, true_and, and_true, true_implies, false_implies, implies_true, not_true_eq_false, not_false_eq_true, and_self, List.length_cons, List.length_nil, mNoCut_, mCat_n, mCat_I, mCat_L, mCat_R, mIsL_n, mIsL_I, mIsL_R, mIsL_L, Nat.reduceAdd, Nat.reduceSub, Nat.reduceLeDiff, Nat.reduceLT, Nat.reduceEqDiff, Nat.zero_le, Int.reduceEq, Int.reduceLT, Int.reduceLE, Int.reduceNeg, Int.reduceAdd, if_true, if_false, reduceIte, reduceCtorEq, Bool.false_eq_true, ne_eq, qCmp_0, qCmp_1, qCmp_2, qCmp_3, qCmp_4, qCmp_5, ib_0, ib_1, ib_2, lb_0, lb_1, lb_2, dv_0, dv_1, wl_cut, wl_ic, wl_ld_i, wl_ld_a, wl_st_i, wl_ib, wl_goto, wl_ald, wl_ret1, wl_eqI, ldR1, ldR0, ldI4, wl_callS4_4, SL_tr_32, stI5, ldR2, wl_callV4_0, SL_tr_101, wl_callV1_0, SL_tr_102, ldI5, mrg_0_, mrg_1_, mPut_s, mPut_I0, mPut_R0, mPut_L0, mPut_I1, mPut_R1, mPut_L1, mGoL_n, mGoL_c, mMask_t, mMask_f, mMask_n, kL_tr_2742, kL_tr_2761, kL_tr_2764, kL_tr_2799, sk_0, al_0, sk_200, al_200, sk_230, al_230, sn_230, ald_r2, ald_230, shqR_, spX11_thrown, Option.some.injEq, ncast, b1, b2, b3, b4, b5, c1, c2, c3, c4, c5, m1, m2, m3, m4, m5, sfxL_tr_2761, sfxL_tr_2799, cutB_2761, cutB_2799, cutB_3066]
  refine ⟨_, P_tray H (hf _) (hf _) (hf _) hc, fun o I1 hq => ?_⟩
  obtain ⟨k, rfl, hk, hq⟩ := hq
  simp only [false_and, and_false, true_or, or_true, false_or, or_false, true_and, and_true, true_implies, false_implies, implies_true, not_true_eq_false, not_false_eq_true, and_self, List.length_cons, List.length_nil, mNoCut_, mCat_n, mCat_I, mCat_L, mCat_R, mIsL_n, mIsL_I, mIsL_R, mIsL_L, Nat.reduceAdd, Nat.reduceSub, Nat.reduceLeDiff, Nat.reduceLT, Nat.reduceEqDiff, Nat.zero_le, Int.reduceEq, Int.reduceLT, Int.reduceLE, Int.reduceNeg, Int.reduceAdd, if_true, if_false, reduceIte, reduceCtorEq, Bool.false_eq_true, ne_eq, qCmp_0, qCmp_1, qCmp_2, qCmp_3, qCmp_4, qCmp_5, ib_0, ib_1, ib_2, lb_0, lb_1, lb_2, dv_0, dv_1, wl_cut, wl_ic, wl_ld_i, wl_ld_a, wl_st_i, wl_ib, wl_goto, wl_ald, wl_ret1, wl_eqI, ldR1, ldR0, ldI4, wl_callS4_4, SL_tr_32, stI5, ldR2, wl_callV4_0, SL_tr_101, wl_callV1_0, SL_tr_102, ldI5, mrg_0_, mrg_1_, mPut_s, mPut_I0, mPut_R0, mPut_L0, mPut_I1, mPut_R1, mPut_L1, mGoL_n, mGoL_c, mMask_t, mMask_f, mMask_n, kL_tr_2742, kL_tr_2761, kL_tr_2764, kL_tr_2799, sk_0, al_0, sk_200, al_200, sk_230, al_230, sn_230, ald_r2, ald_230, shqR_, spX11_thrown, Option.some.injEq, ncast, b1, b2, b3, b4, b5, c1, c2, c3, c4, c5, m1, m2, m3, m4, m5, sfxL_tr_2761, sfxL_tr_2799, cutB_2761, cutB_2799, cutB_3066]
  refine ⟨_, hq, fun o2 I2 h2 => ?_⟩
  obtain ⟨rfl, h3, hI2⟩ := h2
  simp only [false_and, and_false, true_or, or_true, false_or, or_false, true_and, and_true, true_implies, false_implies, implies_true, not_true_eq_false, not_false_eq_true, and_self, List.length_cons, List.length_nil, mNoCut_, mCat_n, mCat_I, mCat_L, mCat_R, mIsL_n, mIsL_I, mIsL_R, mIsL_L, Nat.reduceAdd, Nat.reduceSub, Nat.reduceLeDiff, Nat.reduceLT, Nat.reduceEqDiff, Nat.zero_le, Int.reduceEq, Int.reduceLT, Int.reduceLE, Int.reduceNeg, Int.reduceAdd, if_true, if_false, reduceIte, reduceCtorEq, Bool.false_eq_true, ne_eq, qCmp_0, qCmp_1, qCmp_2, qCmp_3, qCmp_4, qCmp_5, ib_0, ib_1, ib_2, lb_0, lb_1, lb_2, dv_0, dv_1, wl_cut, wl_ic, wl_ld_i, wl_ld_a, wl_st_i, wl_ib, wl_goto, wl_ald, wl_ret1, wl_eqI, ldR1, ldR0, ldI4, wl_callS4_4, SL_tr_32, stI5, ldR2, wl_callV4_0, SL_tr_101, wl_callV1_0, SL_tr_102, ldI5, mrg_0_, mrg_1_, mPut_s, mPut_I0, mPut_R0, mPut_L0, mPut_I1, mPut_R1, mPut_L1, mGoL_n, mGoL_c, mMask_t, mMask_f, mMask_n, kL_tr_2742, kL_tr_2761, kL_tr_2764, kL_tr_2799, sk_0, al_0, sk_200, al_200, sk_230, al_230, sn_230, ald_r2, ald_230, shqR_, spX11_thrown, Option.some.injEq, ncast, b1, b2, b3, b4, b5, c1, c2, c3, c4, c5, m1, m2, m3, m4, m5, sfxL_tr_2761, sfxL_tr_2799, cutB_2761, cutB_2799, cutB_3066]
  have hC : CL i fl L I 3066 (lvL i) [] I2 := ⟨rfl, rfl, Or.inl ⟨rfl, hI2⟩⟩
  repeat' (first | exact hC | exact h3 | apply And.intro | intro _)
  all_goals first | exact h3 | (unfold mrg; omega) | omega
set_option maxRecDepth 100000 in
theorem WL_tr_pre {fl : Nat → Bool} {I : mM} {f : Int → Int} {L : Nat} {i : Int} (hi : 0 ≤ i) (hL : i + 6 ≤ (L : Int)) (hf : ∀ q : Int, mrg (f q)) {C : Nat → mK} (hC : C 2761 (lvL i) [mI (f (i + 3)), mI (f (i + 2)), mI (f (i + 1)), mR (some 0)] I) : mWpL SL_tr (mGoL SL_tr (fun _ _ => False) (fun _ _ _ => False) fl (roL L f) kL_tr cutL_tr C 60) (fun _ _ => False) (fun _ _ _ => False) fl (roL L f) kL_tr_2742 (lvL i) [] I := by
  have b1 : (0 ≤ i + 1) = True := eq_true (by omega)
  have c1 : (i + 1 < (L : Int)) = True := eq_true (by omega)
  have m1 : mrg (f (i + 1)) = True := eq_true (hf _)
  have b2 : (0 ≤ i + 2) = True := eq_true (by omega)
  have c2 : (i + 2 < (L : Int)) = True := eq_true (by omega)
  have m2 : mrg (f (i + 2)) = True := eq_true (hf _)
  have b3 : (0 ≤ i + 3) = True := eq_true (by omega)
  have c3 : (i + 3 < (L : Int)) = True := eq_true (by omega)
  have m3 : mrg (f (i + 3)) = True := eq_true (hf _)
  have b4 : (0 ≤ i + 4) = True := eq_true (by omega)
  have c4 : (i + 4 < (L : Int)) = True := eq_true (by omega)
  have m4 : mrg (f (i + 4)) = True := eq_true (hf _)
  have b5 : (0 ≤ i + 5) = True := eq_true (by omega)
  have c5 : (i + 5 < (L : Int)) = True := eq_true (by omega)
  have m5 : mrg (f (i + 5)) = True := eq_true (hf _)
  simp only [false_and, and_false, true_or, or_true, false_or, or_false, true_and, and_true, true_implies, false_implies, implies_true, not_true_eq_false, not_false_eq_true, and_self, List.length_cons, List.length_nil, mNoCut_, mCat_n, mCat_I, mCat_L, mCat_R, mIsL_n, mIsL_I, mIsL_R, mIsL_L, Nat.reduceAdd, Nat.reduceSub, Nat.reduceLeDiff, Nat.reduceLT, Nat.reduceEqDiff, Nat.zero_le, Int.reduceEq, Int.reduceLT, Int.reduceLE, Int.reduceNeg, Int.reduceAdd, if_true, if_false, reduceIte, reduceCtorEq, Bool.false_eq_true, ne_eq, qCmp_0, qCmp_1, qCmp_2, qCmp_3, qCmp_4, qCmp_5, ib_0, ib_1, ib_2, lb_0, lb_1, lb_2, dv_0, dv_1, wl_cut, wl_ic, wl_ld_i, wl_ld_a, wl_st_i, wl_ib, wl_goto, wl_ald, wl_ret1, wl_eqI, ldR1, ldR0, ldI4, wl_callS4_4, SL_tr_32, stI5, ldR2, wl_callV4_0, SL_tr_101, wl_callV1_0, SL_tr_102, ldI5, mrg_0_, mrg_1_, mPut_s, mPut_I0, mPut_R0, mPut_L0, mPut_I1, mPut_R1, mPut_L1, mGoL_n, mGoL_c, mMask_t, mMask_f, mMask_n, kL_tr_2742, kL_tr_2761, kL_tr_2764, kL_tr_2799, sk_0, al_0, sk_200, al_200, sk_230, al_230, sn_230, ald_r2, ald_230, shqR_, spX11_thrown, Option.some.injEq, ncast, b1, b2, b3, b4, b5, c1, c2, c3, c4, c5, m1, m2, m3, m4, m5, cutL_tr_2761]
  exact hC
set_option maxRecDepth 100000 in
theorem WL_tr_suf {fl : Nat → Bool} {I : mM} {f : Int → Int} {L : Nat} {i : Int} (hi : 0 ≤ i) (hL : i + 6 ≤ (L : Int)) (hf : ∀ q : Int, mrg (f q)) {J : mM} (hq : spX11_tray fl [mR (some 200), mI (f (i + 1)), mI (f (i + 2)), mI (f (i + 3))] J (qV fl 0)) : mWpL SL_tr (mGoL SL_tr (fun _ _ => False) (fun _ _ _ => False) fl (roL L f) kL_tr cutB (CL i fl L I) 60) (fun _ _ => False) (fun _ _ _ => False) fl (roL L f) (mSfx 2764 kL_tr) (lvL i) [mI 0] J := by
  have b1 : (0 ≤ i + 1) = True := eq_true (by omega)
  have c1 : (i + 1 < (L : Int)) = True := eq_true (by omega)
  have m1 : mrg (f (i + 1)) = True := eq_true (hf _)
  have b2 : (0 ≤ i + 2) = True := eq_true (by omega)
  have c2 : (i + 2 < (L : Int)) = True := eq_true (by omega)
  have m2 : mrg (f (i + 2)) = True := eq_true (hf _)
  have b3 : (0 ≤ i + 3) = True := eq_true (by omega)
  have c3 : (i + 3 < (L : Int)) = True := eq_true (by omega)
  have m3 : mrg (f (i + 3)) = True := eq_true (hf _)
  have b4 : (0 ≤ i + 4) = True := eq_true (by omega)
  have c4 : (i + 4 < (L : Int)) = True := eq_true (by omega)
  have m4 : mrg (f (i + 4)) = True := eq_true (hf _)
  have b5 : (0 ≤ i + 5) = True := eq_true (by omega)
  have c5 : (i + 5 < (L : Int)) = True := eq_true (by omega)
  have m5 : mrg (f (i + 5)) = True := eq_true (hf _)
  rw [sfxL_tr_2764]
  simp only [false_and, and_false, true_or, or_true, false_or, or_false, true_and, and_true, true_implies, false_implies, implies_true, not_true_eq_false, not_false_eq_true, and_self, List.length_cons, List.length_nil, mNoCut_, mCat_n, mCat_I, mCat_L, mCat_R, mIsL_n, mIsL_I, mIsL_R, mIsL_L, Nat.reduceAdd, Nat.reduceSub, Nat.reduceLeDiff, Nat.reduceLT, Nat.reduceEqDiff, Nat.zero_le, Int.reduceEq, Int.reduceLT, Int.reduceLE, Int.reduceNeg, Int.reduceAdd, if_true, if_false, reduceIte, reduceCtorEq, Bool.false_eq_true, ne_eq, qCmp_0, qCmp_1, qCmp_2, qCmp_3, qCmp_4, qCmp_5, ib_0, ib_1, ib_2, lb_0, lb_1, lb_2, dv_0, dv_1, wl_cut, wl_ic, wl_ld_i, wl_ld_a, wl_st_i, wl_ib, wl_goto, wl_ald, wl_ret1, wl_eqI, ldR1, ldR0, ldI4, wl_callS4_4, SL_tr_32, stI5, ldR2, wl_callV4_0, SL_tr_101, wl_callV1_0, SL_tr_102, ldI5, mrg_0_, mrg_1_, mPut_s, mPut_I0, mPut_R0, mPut_L0, mPut_I1, mPut_R1, mPut_L1, mGoL_n, mGoL_c, mMask_t, mMask_f, mMask_n, kL_tr_2742, kL_tr_2761, kL_tr_2764, kL_tr_2799, sk_0, al_0, sk_200, al_200, sk_230, al_230, sn_230, ald_r2, ald_230, shqR_, spX11_thrown, Option.some.injEq, ncast, b1, b2, b3, b4, b5, c1, c2, c3, c4, c5, m1, m2, m3, m4, m5, sfxL_tr_2761, sfxL_tr_2799, cutB_2761, cutB_2799, cutB_3066]
  refine ⟨_, hq, fun o2 I2 h2 => ?_⟩
  obtain ⟨rfl, h3, hI2⟩ := h2
  simp only [false_and, and_false, true_or, or_true, false_or, or_false, true_and, and_true, true_implies, false_implies, implies_true, not_true_eq_false, not_false_eq_true, and_self, List.length_cons, List.length_nil, mNoCut_, mCat_n, mCat_I, mCat_L, mCat_R, mIsL_n, mIsL_I, mIsL_R, mIsL_L, Nat.reduceAdd, Nat.reduceSub, Nat.reduceLeDiff, Nat.reduceLT, Nat.reduceEqDiff, Nat.zero_le, Int.reduceEq, Int.reduceLT, Int.reduceLE, Int.reduceNeg, Int.reduceAdd, if_true, if_false, reduceIte, reduceCtorEq, Bool.false_eq_true, ne_eq, qCmp_0, qCmp_1, qCmp_2, qCmp_3, qCmp_4, qCmp_5, ib_0, ib_1, ib_2, lb_0, lb_1, lb_2, dv_0, dv_1, wl_cut, wl_ic, wl_ld_i, wl_ld_a, wl_st_i, wl_ib, wl_goto, wl_ald, wl_ret1, wl_eqI, ldR1, ldR0, ldI4, wl_callS4_4, SL_tr_32, stI5, ldR2, wl_callV4_0, SL_tr_101, wl_callV1_0, SL_tr_102, ldI5, mrg_0_, mrg_1_, mPut_s, mPut_I0, mPut_R0, mPut_L0, mPut_I1, mPut_R1, mPut_L1, mGoL_n, mGoL_c, mMask_t, mMask_f, mMask_n, kL_tr_2742, kL_tr_2761, kL_tr_2764, kL_tr_2799, sk_0, al_0, sk_200, al_200, sk_230, al_230, sn_230, ald_r2, ald_230, shqR_, spX11_thrown, Option.some.injEq, ncast, b1, b2, b3, b4, b5, c1, c2, c3, c4, c5, m1, m2, m3, m4, m5, sfxL_tr_2761, sfxL_tr_2799, cutB_2761, cutB_2799, cutB_3066]
  have hC : CL i fl L I 3066 (lvL i) [] I2 := ⟨rfl, rfl, Or.inl ⟨rfl, hI2⟩⟩
  repeat' (first | exact hC | exact h3 | apply And.intro | intro _)
  all_goals first | exact h3 | (unfold mrg; omega) | omega
def kL_im_3002 : List mIn := (3002, 22, 0, 0, 3066, 0, []) :: []
def kL_im_2979 : List mIn := (2979, 5, 0, 5, 2, 0, []) :: (2981, 4, 0, 2, 1, 0, []) :: (2982, 4, 0, 0, 1, 0, []) :: (2983, 2, 0, 4, 2, 0, []) :: (2985, 0, 1, 0, 0, 0, []) :: (2986, 9, 0, 0, 0, 0, []) :: (2987, 26, 0, 20, 0, 0, []) :: (2988, 32, 0, 101, 2, 306, [11, 2157, 2158, 2159, 116, 2160]) :: (2991, 4, 0, 2, 1, 0, []) :: (2992, 32, 0, 102, 1, 157, [11, 1685, 1686, 1687, 116, 1688]) :: (2995, 2, 0, 5, 2, 0, []) :: (2997, 45, 0, 0, 3002, 0, []) :: (3000, 0, 0, 0, 0, 0, []) :: (3001, 33, 0, 4, 0, 0, []) :: kL_im_3002
def kL_im_2976 : List mIn := (2976, 32, 4, 35, 2, 303, [1533, 1534, 104, 1535]) :: kL_im_2979
def kL_im_2969 : List mIn := (2969, 4, 0, 1, 1, 0, []) :: (2970, 4, 0, 0, 1, 0, []) :: (2971, 2, 0, 4, 2, 0, []) :: (2973, 0, 1, 0, 0, 0, []) :: (2974, 9, 0, 0, 0, 0, []) :: (2975, 26, 0, 20, 0, 0, []) :: (2976, 43, 0, 0, 2976, 0, []) :: kL_im_2976
def kL_im : List mIn := kL_im_2969
def TL_im : Nat → mCal := fun a => if a = 35 then calL_image else if a = 101 then calX11_image else if a = 102 then calX11_thrown else (yL_law, cL_law, 8, some .boolean, (0, 0, 0, 0))
def SL_im : Nat → mSp := fun a => if a = 35 then mUp spL_image else if a = 101 then mUp spX11_image else if a = 102 then spX11_thrown else fun _ _ _ _ => False
theorem SL_im_35 : SL_im 35 = mUp spL_image := rfl
theorem SL_im_101 : SL_im 101 = mUp spX11_image := rfl
theorem SL_im_102 : SL_im 102 = spX11_thrown := rfl
def hsL_im : Nat → List (Nat × Nat × Nat × Nat) := fun a => if a = 35 then hTab 0 5 tabL_image else []
theorem okL_im : mOKL hsL_im (yL_law.cls, cL_law, TL_im, some .boolean, (15, 646, 19, 653), 8, mAcf [(2976, 19)], mAcf [(2976, 653)]) kL_im = true := by decide +kernel
theorem hCL_im {l : Launch} (hst : l.stackTraces = false) (hT : mTxM l) : ∀ a, 100 ≤ a → mCtr l (TL_im a) (SL_im a) := fun a ha => by
  unfold TL_im SL_im
  rw [if_neg (show ¬ a = 35 by omega), if_neg (show ¬ a = 35 by omega)]
  by_cases h1 : a = 101
  · rw [if_pos h1, if_pos h1]; exact mCtr_up (ctrX11_image hst hT)
  · rw [if_neg h1, if_neg h1]
    by_cases h2 : a = 102
    · rw [if_pos h2, if_pos h2]; exact ctrX11_thrown hst hT
    · rw [if_neg h2, if_neg h2]; exact mCtr_no
theorem hCHL_im {l : Launch} (hst : l.stackTraces = false) (hT : mTxM l) : ∀ a, a < 100 → mCtrH l (hsL_im a) (TL_im a) (SL_im a) := fun a ha => by
  unfold TL_im SL_im hsL_im
  by_cases h1 : a = 35
  · rw [if_pos h1, if_pos h1, if_pos h1]; exact mCtrH_up (ctrL_image hst hT)
  · rw [if_neg h1, if_neg h1, if_neg h1, if_neg (show ¬ a = 101 by omega), if_neg (show ¬ a = 101 by omega), if_neg (show ¬ a = 102 by omega), if_neg (show ¬ a = 102 by omega)]
    exact fun _ _ _ _ _ _ _ h => h.elim
def cutL_im : Nat → Option (List Bool) := fun t => mLk t [(2976, [true, true, true, true, true, false, false, false]), (3066, [true, true, true, true, true, false, false, false])]
theorem cutL_im_2976 : cutL_im 2976 = some [true, true, true, true, true, false, false, false] := by decide
set_option maxRecDepth 100000 in
theorem sfxL_im_2976 : mSfx 2976 kL_im = kL_im_2976 := rfl
set_option maxRecDepth 100000 in
theorem sfxL_im_2979 : mSfx 2979 kL_im = kL_im_2979 := rfl
set_option maxRecDepth 100000 in
theorem sfxL_im_3002 : mSfx 3002 kL_im = kL_im_3002 := rfl
theorem cutB_2976 : cutB 2976 = none := by decide
theorem cutB_3002 : cutB 3002 = none := by decide
set_option maxRecDepth 100000 in
theorem WL_im {fl : Nat → Bool} {I : mM} {f : Int → Int} {L : Nat} {i : Int} (H : LI fl I) (hi : 0 ≤ i) (hL : i + 6 ≤ (L : Int)) (hf : ∀ q : Int, mrg (f q)) (hc : (0 ≤ f (i + 1) ∧ f (i + 1) ≤ 2) → fl (f (i + 1)).toNat = true) : mWpL SL_im (mGoL SL_im (fun _ _ => False) (fun _ _ _ => False) fl (roL L f) kL_im cutB (CL i fl L I) 60) (fun _ _ => False) (fun _ _ _ => False) fl (roL L f) kL_im_2969 (lvL i) [] I := by
  have b1 : (0 ≤ i + 1) = True := eq_true (by omega)
  have c1 : (i + 1 < (L : Int)) = True := eq_true (by omega)
  have m1 : mrg (f (i + 1)) = True := eq_true (hf _)
  have b2 : (0 ≤ i + 2) = True := eq_true (by omega)
  have c2 : (i + 2 < (L : Int)) = True := eq_true (by omega)
  have m2 : mrg (f (i + 2)) = True := eq_true (hf _)
  have b3 : (0 ≤ i + 3) = True := eq_true (by omega)
  have c3 : (i + 3 < (L : Int)) = True := eq_true (by omega)
  have m3 : mrg (f (i + 3)) = True := eq_true (hf _)
  have b4 : (0 ≤ i + 4) = True := eq_true (by omega)
  have c4 : (i + 4 < (L : Int)) = True := eq_true (by omega)
  have m4 : mrg (f (i + 4)) = True := eq_true (hf _)
  have b5 : (0 ≤ i + 5) = True := eq_true (by omega)
  have c5 : (i + 5 < (L : Int)) = True := eq_true (by omega)
  have m5 : mrg (f (i + 5)) = True := eq_true (hf _)
  simp only [false_and, and_false, true_or, or_true, false_or, or_false, true_and, and_true, true_implies, false_implies, implies_true, not_true_eq_false, not_false_eq_true, and_self, List.length_cons, List.length_nil, mNoCut_, mCat_n, mCat_I, mCat_L, mCat_R, mIsL_n, mIsL_I, mIsL_R, mIsL_L, Nat.reduceAdd, Nat.reduceSub, Nat.reduceLeDiff, Nat.reduceLT, Nat.reduceEqDiff, Nat.zero_le, Int.reduceEq, Int.reduceLT, Int.reduceLE, Int.reduceNeg, Int.reduceAdd, if_true, if_false, reduceIte, reduceCtorEq, Bool.false_eq_true, ne_eq, qCmp_0, qCmp_1, qCmp_2, qCmp_3, qCmp_4, qCmp_5, ib_0, ib_1, ib_2, lb_0, lb_1, lb_2, dv_0, dv_1, wl_cut, wl_ic, wl_ld_i, wl_ld_a, wl_st_i, wl_ib, wl_goto, wl_ald, wl_ret1, wl_eqI, ldR1, ldR0, ldI4, wl_callS2_4, SL_im_35, stI5, ldR2, wl_callV2_0, SL_im_101, wl_callV1_0, SL_im_102, ldI5, mrg_0_, mrg_1_, mPut_s, mPut_I0, mPut_R0, mPut_L0, mPut_I1, mPut_R1, mPut_L1, mGoL_n, mGoL_c, mMask_t, mMask_f, mMask_n, kL_im_2969, kL_im_2976, kL_im_2979, kL_im_3002, sk_0, al_0, sk_200, al_200, sk_230, al_230, sn_230, ald_r2, ald_230, shqR_, spX11_thrown, Option.some.injEq, ncast, b1, b2, b3, b4, b5, c1, c2, c3, c4, c5, m1, m2, m3, m4, m5, sfxL_im_2976, sfxL_im_3002, cutB_2976, cutB_3002, cutB_3066]
  refine ⟨_, P_image H (hf _) hc, fun o I1 hq => ?_⟩
  obtain ⟨k, rfl, hk, hq⟩ := hq
  simp only [false_and, and_false, true_or, or_true, false_or, or_false, true_and, and_true, true_implies, false_implies, implies_true, not_true_eq_false, not_false_eq_true, and_self, List.length_cons, List.length_nil, mNoCut_, mCat_n, mCat_I, mCat_L, mCat_R, mIsL_n, mIsL_I, mIsL_R, mIsL_L, Nat.reduceAdd, Nat.reduceSub, Nat.reduceLeDiff, Nat.reduceLT, Nat.reduceEqDiff, Nat.zero_le, Int.reduceEq, Int.reduceLT, Int.reduceLE, Int.reduceNeg, Int.reduceAdd, if_true, if_false, reduceIte, reduceCtorEq, Bool.false_eq_true, ne_eq, qCmp_0, qCmp_1, qCmp_2, qCmp_3, qCmp_4, qCmp_5, ib_0, ib_1, ib_2, lb_0, lb_1, lb_2, dv_0, dv_1, wl_cut, wl_ic, wl_ld_i, wl_ld_a, wl_st_i, wl_ib, wl_goto, wl_ald, wl_ret1, wl_eqI, ldR1, ldR0, ldI4, wl_callS2_4, SL_im_35, stI5, ldR2, wl_callV2_0, SL_im_101, wl_callV1_0, SL_im_102, ldI5, mrg_0_, mrg_1_, mPut_s, mPut_I0, mPut_R0, mPut_L0, mPut_I1, mPut_R1, mPut_L1, mGoL_n, mGoL_c, mMask_t, mMask_f, mMask_n, kL_im_2969, kL_im_2976, kL_im_2979, kL_im_3002, sk_0, al_0, sk_200, al_200, sk_230, al_230, sn_230, ald_r2, ald_230, shqR_, spX11_thrown, Option.some.injEq, ncast, b1, b2, b3, b4, b5, c1, c2, c3, c4, c5, m1, m2, m3, m4, m5, sfxL_im_2976, sfxL_im_3002, cutB_2976, cutB_3002, cutB_3066]
  refine ⟨_, hq, fun o2 I2 h2 => ?_⟩
  obtain ⟨rfl, h3, hI2⟩ := h2
  simp only [false_and, and_false, true_or, or_true, false_or, or_false, true_and, and_true, true_implies, false_implies, implies_true, not_true_eq_false, not_false_eq_true, and_self, List.length_cons, List.length_nil, mNoCut_, mCat_n, mCat_I, mCat_L, mCat_R, mIsL_n, mIsL_I, mIsL_R, mIsL_L, Nat.reduceAdd, Nat.reduceSub, Nat.reduceLeDiff, Nat.reduceLT, Nat.reduceEqDiff, Nat.zero_le, Int.reduceEq, Int.reduceLT, Int.reduceLE, Int.reduceNeg, Int.reduceAdd, if_true, if_false, reduceIte, reduceCtorEq, Bool.false_eq_true, ne_eq, qCmp_0, qCmp_1, qCmp_2, qCmp_3, qCmp_4, qCmp_5, ib_0, ib_1, ib_2, lb_0, lb_1, lb_2, dv_0, dv_1, wl_cut, wl_ic, wl_ld_i, wl_ld_a, wl_st_i, wl_ib, wl_goto, wl_ald, wl_ret1, wl_eqI, ldR1, ldR0, ldI4, wl_callS2_4, SL_im_35, stI5, ldR2, wl_callV2_0, SL_im_101, wl_callV1_0, SL_im_102, ldI5, mrg_0_, mrg_1_, mPut_s, mPut_I0, mPut_R0, mPut_L0, mPut_I1, mPut_R1, mPut_L1, mGoL_n, mGoL_c, mMask_t, mMask_f, mMask_n, kL_im_2969, kL_im_2976, kL_im_2979, kL_im_3002, sk_0, al_0, sk_200, al_200, sk_230, al_230, sn_230, ald_r2, ald_230, shqR_, spX11_thrown, Option.some.injEq, ncast, b1, b2, b3, b4, b5, c1, c2, c3, c4, c5, m1, m2, m3, m4, m5, sfxL_im_2976, sfxL_im_3002, cutB_2976, cutB_3002, cutB_3066]
  have hC : CL i fl L I 3066 (lvL i) [] I2 := ⟨rfl, rfl, Or.inl ⟨rfl, hI2⟩⟩
  repeat' (first | exact hC | exact h3 | apply And.intro | intro _)
  all_goals first | exact h3 | (unfold mrg; omega) | omega
set_option maxRecDepth 100000 in
theorem WL_im_pre {fl : Nat → Bool} {I : mM} {f : Int → Int} {L : Nat} {i : Int} (hi : 0 ≤ i) (hL : i + 6 ≤ (L : Int)) (hf : ∀ q : Int, mrg (f q)) {C : Nat → mK} (hC : C 2976 (lvL i) [mI (f (i + 1)), mR (some 0)] I) : mWpL SL_im (mGoL SL_im (fun _ _ => False) (fun _ _ _ => False) fl (roL L f) kL_im cutL_im C 60) (fun _ _ => False) (fun _ _ _ => False) fl (roL L f) kL_im_2969 (lvL i) [] I := by
  have b1 : (0 ≤ i + 1) = True := eq_true (by omega)
  have c1 : (i + 1 < (L : Int)) = True := eq_true (by omega)
  have m1 : mrg (f (i + 1)) = True := eq_true (hf _)
  have b2 : (0 ≤ i + 2) = True := eq_true (by omega)
  have c2 : (i + 2 < (L : Int)) = True := eq_true (by omega)
  have m2 : mrg (f (i + 2)) = True := eq_true (hf _)
  have b3 : (0 ≤ i + 3) = True := eq_true (by omega)
  have c3 : (i + 3 < (L : Int)) = True := eq_true (by omega)
  have m3 : mrg (f (i + 3)) = True := eq_true (hf _)
  have b4 : (0 ≤ i + 4) = True := eq_true (by omega)
  have c4 : (i + 4 < (L : Int)) = True := eq_true (by omega)
  have m4 : mrg (f (i + 4)) = True := eq_true (hf _)
  have b5 : (0 ≤ i + 5) = True := eq_true (by omega)
  have c5 : (i + 5 < (L : Int)) = True := eq_true (by omega)
  have m5 : mrg (f (i + 5)) = True := eq_true (hf _)
  simp only [false_and, and_false, true_or, or_true, false_or, or_false, true_and, and_true, true_implies, false_implies, implies_true, not_true_eq_false, not_false_eq_true, and_self, List.length_cons, List.length_nil, mNoCut_, mCat_n, mCat_I, mCat_L, mCat_R, mIsL_n, mIsL_I, mIsL_R, mIsL_L, Nat.reduceAdd, Nat.reduceSub, Nat.reduceLeDiff, Nat.reduceLT, Nat.reduceEqDiff, Nat.zero_le, Int.reduceEq, Int.reduceLT, Int.reduceLE, Int.reduceNeg, Int.reduceAdd, if_true, if_false, reduceIte, reduceCtorEq, Bool.false_eq_true, ne_eq, qCmp_0, qCmp_1, qCmp_2, qCmp_3, qCmp_4, qCmp_5, ib_0, ib_1, ib_2, lb_0, lb_1, lb_2, dv_0, dv_1, wl_cut, wl_ic, wl_ld_i, wl_ld_a, wl_st_i, wl_ib, wl_goto, wl_ald, wl_ret1, wl_eqI, ldR1, ldR0, ldI4, wl_callS2_4, SL_im_35, stI5, ldR2, wl_callV2_0, SL_im_101, wl_callV1_0, SL_im_102, ldI5, mrg_0_, mrg_1_, mPut_s, mPut_I0, mPut_R0, mPut_L0, mPut_I1, mPut_R1, mPut_L1, mGoL_n, mGoL_c, mMask_t, mMask_f, mMask_n, kL_im_2969, kL_im_2976, kL_im_2979, kL_im_3002, sk_0, al_0, sk_200, al_200, sk_230, al_230, sn_230, ald_r2, ald_230, shqR_, spX11_thrown, Option.some.injEq, ncast, b1, b2, b3, b4, b5, c1, c2, c3, c4, c5, m1, m2, m3, m4, m5, cutL_im_2976]
  exact hC
set_option maxRecDepth 100000 in
theorem WL_im_suf {fl : Nat → Bool} {I : mM} {f : Int → Int} {L : Nat} {i : Int} (hi : 0 ≤ i) (hL : i + 6 ≤ (L : Int)) (hf : ∀ q : Int, mrg (f q)) {J : mM} (hq : spX11_image fl [mR (some 200), mI (f (i + 1))] J (qV fl 0)) : mWpL SL_im (mGoL SL_im (fun _ _ => False) (fun _ _ _ => False) fl (roL L f) kL_im cutB (CL i fl L I) 60) (fun _ _ => False) (fun _ _ _ => False) fl (roL L f) (mSfx 2979 kL_im) (lvL i) [mI 0] J := by
  have b1 : (0 ≤ i + 1) = True := eq_true (by omega)
  have c1 : (i + 1 < (L : Int)) = True := eq_true (by omega)
  have m1 : mrg (f (i + 1)) = True := eq_true (hf _)
  have b2 : (0 ≤ i + 2) = True := eq_true (by omega)
  have c2 : (i + 2 < (L : Int)) = True := eq_true (by omega)
  have m2 : mrg (f (i + 2)) = True := eq_true (hf _)
  have b3 : (0 ≤ i + 3) = True := eq_true (by omega)
  have c3 : (i + 3 < (L : Int)) = True := eq_true (by omega)
  have m3 : mrg (f (i + 3)) = True := eq_true (hf _)
  have b4 : (0 ≤ i + 4) = True := eq_true (by omega)
  have c4 : (i + 4 < (L : Int)) = True := eq_true (by omega)
  have m4 : mrg (f (i + 4)) = True := eq_true (hf _)
  have b5 : (0 ≤ i + 5) = True := eq_true (by omega)
  have c5 : (i + 5 < (L : Int)) = True := eq_true (by omega)
  have m5 : mrg (f (i + 5)) = True := eq_true (hf _)
  rw [sfxL_im_2979]
  simp only [false_and, and_false, true_or, or_true, false_or, or_false, true_and, and_true, true_implies, false_implies, implies_true, not_true_eq_false, not_false_eq_true, and_self, List.length_cons, List.length_nil, mNoCut_, mCat_n, mCat_I, mCat_L, mCat_R, mIsL_n, mIsL_I, mIsL_R, mIsL_L, Nat.reduceAdd, Nat.reduceSub, Nat.reduceLeDiff, Nat.reduceLT, Nat.reduceEqDiff, Nat.zero_le, Int.reduceEq, Int.reduceLT, Int.reduceLE, Int.reduceNeg, Int.reduceAdd, if_true, if_false, reduceIte, reduceCtorEq, Bool.false_eq_true, ne_eq, qCmp_0, qCmp_1, qCmp_2, qCmp_3, qCmp_4, qCmp_5, ib_0, ib_1, ib_2, lb_0, lb_1, lb_2, dv_0, dv_1, wl_cut, wl_ic, wl_ld_i, wl_ld_a, wl_st_i, wl_ib, wl_goto, wl_ald, wl_ret1, wl_eqI, ldR1, ldR0, ldI4, wl_callS2_4, SL_im_35, stI5, ldR2, wl_callV2_0, SL_im_101, wl_callV1_0, SL_im_102, ldI5, mrg_0_, mrg_1_, mPut_s, mPut_I0, mPut_R0, mPut_L0, mPut_I1, mPut_R1, mPut_L1, mGoL_n, mGoL_c, mMask_t, mMask_f, mMask_n, kL_im_2969, kL_im_2976, kL_im_2979, kL_im_3002, sk_0, al_0, sk_200, al_200, sk_230, al_230, sn_230, ald_r2, ald_230, shqR_, spX11_thrown, Option.some.injEq, ncast, b1, b2, b3, b4, b5, c1, c2, c3, c4, c5, m1, m2, m3, m4, m5, sfxL_im_2976, sfxL_im_3002, cutB_2976, cutB_3002, cutB_3066]
  refine ⟨_, hq, fun o2 I2 h2 => ?_⟩
  obtain ⟨rfl, h3, hI2⟩ := h2
  simp only [false_and, and_false, true_or, or_true, false_or, or_false, true_and, and_true, true_implies, false_implies, implies_true, not_true_eq_false, not_false_eq_true, and_self, List.length_cons, List.length_nil, mNoCut_, mCat_n, mCat_I, mCat_L, mCat_R, mIsL_n, mIsL_I, mIsL_R, mIsL_L, Nat.reduceAdd, Nat.reduceSub, Nat.reduceLeDiff, Nat.reduceLT, Nat.reduceEqDiff, Nat.zero_le, Int.reduceEq, Int.reduceLT, Int.reduceLE, Int.reduceNeg, Int.reduceAdd, if_true, if_false, reduceIte, reduceCtorEq, Bool.false_eq_true, ne_eq, qCmp_0, qCmp_1, qCmp_2, qCmp_3, qCmp_4, qCmp_5, ib_0, ib_1, ib_2, lb_0, lb_1, lb_2, dv_0, dv_1, wl_cut, wl_ic, wl_ld_i, wl_ld_a, wl_st_i, wl_ib, wl_goto, wl_ald, wl_ret1, wl_eqI, ldR1, ldR0, ldI4, wl_callS2_4, SL_im_35, stI5, ldR2, wl_callV2_0, SL_im_101, wl_callV1_0, SL_im_102, ldI5, mrg_0_, mrg_1_, mPut_s, mPut_I0, mPut_R0, mPut_L0, mPut_I1, mPut_R1, mPut_L1, mGoL_n, mGoL_c, mMask_t, mMask_f, mMask_n, kL_im_2969, kL_im_2976, kL_im_2979, kL_im_3002, sk_0, al_0, sk_200, al_200, sk_230, al_230, sn_230, ald_r2, ald_230, shqR_, spX11_thrown, Option.some.injEq, ncast, b1, b2, b3, b4, b5, c1, c2, c3, c4, c5, m1, m2, m3, m4, m5, sfxL_im_2976, sfxL_im_3002, cutB_2976, cutB_3002, cutB_3066]
  have hC : CL i fl L I 3066 (lvL i) [] I2 := ⟨rfl, rfl, Or.inl ⟨rfl, hI2⟩⟩
  repeat' (first | exact hC | exact h3 | apply And.intro | intro _)
  all_goals first | exact h3 | (unfold mrg; omega) | omega
end LW3
