section LPR2
theorem mrl_lsh (a : Nat) (x y : Int) : mrl (lsh a x y) := by
  unfold lsh mrl
  split
  · exact ⟨Int64.le_toInt _, Int64.toInt_lt _⟩
  · exact ⟨Int64.le_toInt _, Int64.toInt_lt _⟩
theorem P_feed {fl : Nat → Bool} {I : mM} {a b c d e : Int} (H : LI fl I) (ma : mrg a) (mb : mrg b) (mc : mrg c) (md : mrg d) (me : mrg e) : spX10_feed fl [mR (some 0), mI a, mI b, mI c, mI d, mI e] I (KD fl spX11_feed [mR (some 200), mI a, mI b, mI c, mI d, mI e]) := by
  obtain ⟨n1, n2, n3⟩ := H.2.2.1
  refine ⟨rfl, ma, mb, mc, md, me, ⟨by omega, by omega⟩, fun h => ⟨_, rfl, ?_⟩, fun h I' hA => ⟨_, rfl, S_feed H ma mb mc md me h hA⟩⟩
  exact ⟨rfl, ma, mb, mc, md, me, ⟨n2, n3⟩, fun _ => qD_0 H (RD_rfl I) (RM_h H (RD_rfl I) (RM_3 0)) rfl, fun h2 => absurd h2 (by omega)⟩
theorem P_chase {fl : Nat → Bool} {I : mM} {n : Int} (H : LI fl I) (hn : n = 0 ∨ n = 1) : spX10_chase fl [mR (some 0), mI n] I (KD fl spX11_chase [mR (some 200), mI n]) := by
  have h8 := H.1.1.1.2.2.2.2.2.2.2.2
  have e := H.1.2.2.2.2.2.1
  exact ⟨rfl, hn, by rw [e]; omega, ⟨_, rfl, S_chase H hn⟩⟩
theorem P_field {fl : Nat → Bool} {I : mM} {n : Int} (H : LI fl I) (mn : mrg n) : spL_field fl [mR (some 0), mI n, mR (some 230)] I (KI fl spX11_field [mR (some 200), mI n]) := by
  obtain ⟨⟨n1, n2, n3⟩, n4, n5, n6, n7⟩ := H.2.2
  have ht := H.2.1.1
  refine ⟨n, rfl, _, ?_, fun _ _ z => z⟩
  show spX10_field fl [mR (some 0), mI n] I (wKi (tabL_field.map (fun q => q.1)) (KI fl spX11_field [mR (some 200), mI n]))
  refine ⟨rfl, mn, ⟨by omega, by omega⟩, fun h => ⟨1, by decide, rfl, 1, rfl, 1, rfl, ⟨by decide, by decide⟩, ?_⟩, fun h => ⟨I 204, ht, beT, fun _ _ _ => rfl, fun I' F => ⟨0, rfl, ⟨by decide, by decide⟩, S_field H mn h F⟩⟩⟩
  exact ⟨rfl, mn, ⟨n2, n3⟩, n5, I 204, fun j j0 j1 => ⟨rfl, (ht j j0 j1).2⟩, fun _ => qI_k (by decide) H (RD_rfl I) (RM_h H (RD_rfl I) (RM_3 1)), fun h2 => absurd ⟨h2.1, by omega⟩ h⟩
theorem P_play {fl : Nat → Bool} {I : mM} {b n s : Int} (H : LI fl I) (mb : mrg b) (mn : mrg n) (ms : mrg s) : spL_play fl [mR (some 0), mI b, mI n, mI s, mR (some 230)] I (KI fl spX11_play [mR (some 200), mI b, mI n, mI s]) := by
  refine ⟨b, n, s, rfl, _, ?_, fun _ _ z => z⟩
  show spX10_play fl [mR (some 0), mI b, mI n, mI s] I (wKi (tabL_play.map (fun q => q.1)) (KI fl spX11_play [mR (some 200), mI b, mI n, mI s]))
  refine ⟨rfl, H.1, mb, mn, ms, fun h => ⟨0, by decide, rfl, 1, rfl, 1, rfl, ⟨by decide, by decide⟩, ?_⟩, fun hb h => ⟨1, by decide, rfl, 2, rfl, 2, rfl, ⟨by decide, by decide⟩, ?_⟩, fun hb hn h I' hI => ⟨0, rfl, ⟨by decide, by decide⟩, ?_⟩, fun hb hn h I' h1 h2 h3 h4 h5 => ⟨0, rfl, ⟨by decide, by decide⟩, S_play H mb mn ms hb hn h h1 h2 h3 h4 h5⟩⟩
  · exact ⟨rfl, H.1.1, mb, mn, ms, fun _ => qI_k (by decide) H (RD_rfl I) (RM_h H (RD_rfl I) (RM_3 1)), fun h2 => absurd h2 h, fun h2 => absurd h2 h, fun h2 => absurd h2 h⟩
  · exact ⟨rfl, H.1.1, mb, mn, ms, fun h2 => absurd hb h2, fun _ _ => qI_k (by decide) H (RD_rfl I) (RM_h H (RD_rfl I) (RM_3 2)), fun _ h2 => absurd h2 h, fun _ h2 => absurd h2 h⟩
  · have R := (RD.c hI).out (wI (-1))
    have e1 := R.1 201 (by decide) (by decide) (by decide) (by decide)
    refine ⟨rfl, by rw [e1]; exact H.1.1, mb, mn, ms, fun h2 => absurd hb h2, fun _ h2 => absurd hn h2, fun _ _ _ => qI_0 H R (RM_h H R (RM_3 0)) set_eq, fun _ _ h2 => absurd (by rw [e1]; exact h) h2⟩
theorem P_restore {fl : Nat → Bool} {I : mM} {k : Int} (H : LI fl I) (mk0 : mrg k) : spL_restore fl [mR (some 0), mI k] I (KV fl spX11_restore [mR (some 200), mI k]) := by
  have hz := H.2.1.2.2.2
  refine ⟨k, rfl, _, ?_, fun _ _ z => z⟩
  show spX10_restore fl [mR (some 0), mI k] I (wKv (tabL_restore.map (fun q => q.1)) (KV fl spX11_restore [mR (some 200), mI k]))
  have h01 : (0 ≤ k ∧ k ≤ 2) → I 203 k = 0 ∨ I 203 k = 1 := fun h => by
    have := (hz k.toNat (by omega)).1
    rwa [show ((k.toNat : Nat) : Int) = k by omega] at this
  refine ⟨rfl, mk0, fun h => ⟨0, by decide, rfl, 1, rfl, 1, rfl, ⟨by decide, by decide⟩, ?_⟩, fun hk h => ⟨2, by decide, rfl, 2, rfl, 2, rfl, ⟨by decide, by decide⟩, ?_⟩, fun hk hf => ⟨?_, fun I' hI => ⟨0, rfl, ⟨by decide, by decide⟩, S_restore H mk0 hk hf hI⟩⟩⟩
  · exact ⟨rfl, mk0, h01, fun _ => qV_k H (RD_rfl I) (RM_h H (RD_rfl I) (RM_3 1)), fun h2 => absurd ⟨h2.1, by omega⟩ h, fun h2 => absurd ⟨h2.1, by omega⟩ h⟩
  · obtain ⟨z1, z2, z3⟩ := hz k.toNat (by omega)
    rw [show ((k.toNat : Nat) : Int) = k by omega] at z1 z2
    have h1 : ¬ I 203 k = 1 := fun e => by rw [z2.mpr e] at h; cases h
    exact ⟨rfl, mk0, h01, fun h2 => absurd ⟨hk.1, by omega⟩ h2, fun _ _ => qV_k H (RD_rfl I) (RM_h H (RD_rfl I) (RM_3 2)), fun _ h2 => absurd h2 h1⟩
  · obtain ⟨z1, z2, z3⟩ := hz k.toNat (by omega)
    obtain ⟨w1, w2⟩ := z3 hf
    have h8 := w1.1.2.2.2.2.2.2.2.2
    have e := w2.2.2.2.2.1
    rw [show 33 + 20 * k.toNat = 30 + 20 * k.toNat + 3 by omega, e]
    omega
theorem P_write {fl : Nat → Bool} {I : mM} {t p v : Int} (H : LI fl I) (mt : mrg t) (mp : mrg p) (mv : mrl v) : spL_write fl [mR (some 0), mI t, mI p, mL v, mR (some 230)] I (KL fl spX11_write [mR (some 200), mI t, mI p, mL v]) := by
  have tw := H.2.1.2.1
  refine ⟨t, p, v, rfl, _, ?_, fun _ _ z => z⟩
  show spX10_write fl [mR (some 0), mI t, mI p, mL v] I (wKl (tabL_write.map (fun q => q.1)) (KL fl spX11_write [mR (some 200), mI t, mI p, mL v]))
  refine ⟨rfl, mt, mp, mv, fun h => ⟨0, by decide, rfl, 1, rfl, 1, rfl, ⟨by decide, by decide⟩, ?_⟩, fun ht h => ⟨2, by decide, rfl, 2, rfl, 2, rfl, ⟨by decide, by decide⟩, ?_⟩, fun ht hf => ?_⟩
  · exact ⟨rfl, tw, mt, mp, mv, fun _ => qL_k (by decide) H (RD_rfl I) (RM_h H (RD_rfl I) (RM_3 1)), fun h2 => absurd h2 h, fun h2 => absurd h2 h, fun h2 => absurd h2 h⟩
  · obtain ⟨q1, q2⟩ := H.2.1.2.2.1 t.toNat (by omega)
    rw [show ((t.toNat : Nat) : Int) = t by omega] at q1
    have h1 : I 216 t = -1 := Classical.byContradiction fun e => by rw [q1.mpr e] at h; cases h
    exact ⟨rfl, tw, mt, mp, mv, fun h2 => absurd ht h2, fun _ _ => qL_k (by decide) H (RD_rfl I) (RM_h H (RD_rfl I) (RM_3 2)), fun _ h2 => absurd h1 h2, fun _ h2 => absurd h1 h2⟩
  · obtain ⟨q1, q2⟩ := H.2.1.2.2.1 t.toNat (by omega)
    obtain ⟨q3, q4, q5⟩ := q2 hf
    rw [show ((t.toNat : Nat) : Int) = t by omega] at q1 q3 q4
    have t1 := tw.1 t ht.1 ht.2
    have h1 := q1.mp hf
    refine ⟨⟨by omega, by omega⟩, fun h => ⟨3, by decide, rfl, 3, rfl, 3, rfl, ⟨by decide, by decide⟩, ?_⟩, fun p0 p1 => ⟨0, rfl, ⟨by decide, by decide⟩, S_write H mt mp mv ht hf p0 p1 (mrl_lsh _ _ _)⟩⟩
    exact ⟨rfl, tw, mt, mp, mv, fun h2 => absurd ht h2, fun _ h2 => absurd h2 h1, fun _ _ _ => qL_k (by decide) H (RD_rfl I) (RM_h H (RD_rfl I) (RM_3 3)), fun _ _ h2 => absurd (by rw [q4]; exact h2) h⟩
theorem P_pour {fl : Nat → Bool} {I : mM} {t : Int} (H : LI fl I) (mt : mrg t) : spL_pour fl [mR (some 0), mI t, mR (some 230)] I (KI fl spX11_pour [mR (some 200), mI t]) := by
  have tw := H.2.1.2.1
  refine ⟨t, rfl, _, ?_, fun _ _ z => z⟩
  show spX10_pour fl [mR (some 0), mI t] I (wKi (tabL_pour.map (fun q => q.1)) (KI fl spX11_pour [mR (some 200), mI t]))
  refine ⟨rfl, mt, fun h => ⟨0, by decide, rfl, 1, rfl, 1, rfl, ⟨by decide, by decide⟩, ?_⟩, fun ht h => ⟨2, by decide, rfl, 2, rfl, 2, rfl, ⟨by decide, by decide⟩, ?_⟩, fun ht hf => ?_⟩
  · exact ⟨rfl, tw, mt, fun _ => qI_k (by decide) H (RD_rfl I) (RM_h H (RD_rfl I) (RM_3 1)), fun h2 => absurd h2 h, fun h2 => absurd h2 h, fun h2 => absurd h2 h⟩
  · obtain ⟨q1, q2⟩ := H.2.1.2.2.1 t.toNat (by omega)
    rw [show ((t.toNat : Nat) : Int) = t by omega] at q1
    have h1 : I 216 t = -1 := Classical.byContradiction fun e => by rw [q1.mpr e] at h; cases h
    exact ⟨rfl, tw, mt, fun h2 => absurd ht h2, fun _ _ => qI_k (by decide) H (RD_rfl I) (RM_h H (RD_rfl I) (RM_3 2)), fun _ h2 => absurd h1 h2, fun _ h2 => absurd h1 h2⟩
  · obtain ⟨q1, q2⟩ := H.2.1.2.2.1 t.toNat (by omega)
    obtain ⟨q3, q4, q5⟩ := q2 hf
    rw [show ((t.toNat : Nat) : Int) = t by omega] at q1 q3 q4 q5
    have t1 := tw.1 t ht.1 ht.2
    have h1 := q1.mp hf
    refine ⟨⟨by omega, fun q q0 q9 => by rw [q5 q q0 q9]; exact tw.2 _ (by omega) (by omega)⟩, fun h => ⟨1, by decide, rfl, 3, rfl, 3, rfl, ⟨by decide, by decide⟩, ?_⟩, fun h => ⟨0, rfl, ⟨by decide, by decide⟩, S_pour H mt ht hf h⟩⟩
    refine ⟨rfl, tw, mt, fun h2 => absurd ht h2, fun _ h2 => absurd h2 h1, fun _ _ _ => qI_k (by decide) H (RD_rfl I) (RM_h H (RD_rfl I) (RM_3 3)), fun _ _ h2 => absurd ?_ h⟩
    obtain ⟨a1, a2⟩ := h2
    refine ⟨by omega, fun q q0 q9 => ?_⟩
    rw [q5 q q0 (by omega)]
    have := a2 q q0 (by omega)
    omega
end LPR2
section LPR
set_option maxRecDepth 100000 in
theorem P_hits {fl : Nat → Bool} {I : mM} {b : Int} (H : LI fl I) (mb : mrg b) : spL_hits fl [mR (some 0), mI b, mR (some 230)] I (KI fl spX11_hits [mR (some 200), mI b]) := by
  refine ⟨b, rfl, _, ?_, fun _ _ z => z⟩
  show spX10_hits fl [mR (some 0), mI b] I (wKi (tabL_hits.map (fun q => q.1)) (KI fl spX11_hits [mR (some 200), mI b]))
  refine ⟨rfl, H.1, mb, ?_, ?_⟩
  · intro c0
    refine ⟨0, by decide, rfl, 1, rfl, 1, rfl, ⟨by decide, by decide⟩, ?_⟩
    have R := (RD_rfl I)
    have e1 := R.1 201 (by decide) (by decide) (by decide) (by decide)
    have e2 := R.1 200 (by decide) (by decide) (by decide) (by decide)
    have wf := H.1.1
    refine ⟨rfl, by rw [e1]; exact wf, mb, ?_, ?_⟩
    · try rw [e1]
      intro d0
      first
      | (exfalso; (first | contradiction | omega); done)
      | (exact qI_k (by decide) H R (RM_h H R (RM_3 1)))
    · try rw [e1]
      intro d0
      exfalso; (first | contradiction | omega)
  · intro c0
    refine ⟨0, rfl, ⟨by decide, by decide⟩, ?_⟩
    have R := (RD_rfl I).out (wI (I 201 (13 + b)))
    have e1 := R.1 201 (by decide) (by decide) (by decide) (by decide)
    have e2 := R.1 200 (by decide) (by decide) (by decide) (by decide)
    have wf := H.1.1
    refine ⟨rfl, by rw [e1]; exact wf, mb, ?_, ?_⟩
    · try rw [e1]
      intro d0
      exfalso; (first | contradiction | omega)
    · try rw [e1]
      intro d0
      first
      | (exfalso; (first | contradiction | omega); done)
      | (exact qI_0 H R (RM_h H R (RM_3 0)) set_eq)
set_option maxRecDepth 100000 in
theorem P_hit {fl : Nat → Bool} {I : mM} {b h w : Int} (H : LI fl I) (mb : mrg b) (mh : mrg h) (mw : mrg w) : spL_hit fl [mR (some 0), mI b, mI h, mI w, mR (some 230)] I (KI fl spX11_hit [mR (some 200), mI b, mI h, mI w]) := by
  refine ⟨b, h, w, rfl, _, ?_, fun _ _ z => z⟩
  show spX10_hit fl [mR (some 0), mI b, mI h, mI w] I (wKi (tabL_hit.map (fun q => q.1)) (KI fl spX11_hit [mR (some 200), mI b, mI h, mI w]))
  refine ⟨rfl, H.1, mb, mh, mw, ?_, ?_, ?_, ?_, ?_, ?_, ?_, ?_⟩
  · intro c0
    refine ⟨0, by decide, rfl, 1, rfl, 1, rfl, ⟨by decide, by decide⟩, ?_⟩
    have R := (RD_rfl I)
    have e1 := R.1 201 (by decide) (by decide) (by decide) (by decide)
    have e2 := R.1 200 (by decide) (by decide) (by decide) (by decide)
    have wf := H.1.1
    refine ⟨rfl, by rw [e1]; exact wf, mb, mh, mw, ?_, ?_, ?_, ?_, ?_, ?_, ?_, ?_⟩
    · try rw [e1]
      intro d0
      first
      | (exfalso; (first | contradiction | omega); done)
      | (exact qI_k (by decide) H R (RM_h H R (RM_3 1)))
    · try rw [e1]
      intro d0 d1
      exfalso; (first | contradiction | omega)
    · try rw [e1]
      intro d0 d1
      exfalso; (first | contradiction | omega)
    · try rw [e1]
      intro d0 d1
      exfalso; (first | contradiction | omega)
    · try rw [e1]
      intro d0 d1
      exfalso; (first | contradiction | omega)
    · try rw [e1]
      intro d0 d1
      exfalso; (first | contradiction | omega)
    · try rw [e1]
      intro d0 d1
      exfalso; (first | contradiction | omega)
    · try rw [e1]
      intro d0 d1
      exfalso; (first | contradiction | omega)
  · intro c0 c1
    refine ⟨1, by decide, rfl, 2, rfl, 2, rfl, ⟨by decide, by decide⟩, ?_⟩
    have R := (RD_rfl I)
    have e1 := R.1 201 (by decide) (by decide) (by decide) (by decide)
    have e2 := R.1 200 (by decide) (by decide) (by decide) (by decide)
    have wf := H.1.1
    refine ⟨rfl, by rw [e1]; exact wf, mb, mh, mw, ?_, ?_, ?_, ?_, ?_, ?_, ?_, ?_⟩
    · try rw [e1]
      intro d0
      exfalso; (first | contradiction | omega)
    · try rw [e1]
      intro d0 d1
      first
      | (exfalso; (first | contradiction | omega); done)
      | (exact qI_k (by decide) H R (RM_h H R (RM_3 2)))
    · try rw [e1]
      intro d0 d1
      exfalso; (first | contradiction | omega)
    · try rw [e1]
      intro d0 d1
      exfalso; (first | contradiction | omega)
    · try rw [e1]
      intro d0 d1
      exfalso; (first | contradiction | omega)
    · try rw [e1]
      intro d0 d1
      exfalso; (first | contradiction | omega)
    · try rw [e1]
      intro d0 d1
      exfalso; (first | contradiction | omega)
    · try rw [e1]
      intro d0 d1
      exfalso; (first | contradiction | omega)
  · intro c0 c1 I' hI
    refine ⟨0, rfl, ⟨by decide, by decide⟩, ?_⟩
    have R := (RD.c hI).out (wI (wayT (I 201) b h))
    have e1 := R.1 201 (by decide) (by decide) (by decide) (by decide)
    have e2 := R.1 200 (by decide) (by decide) (by decide) (by decide)
    have wf := H.1.1
    refine ⟨rfl, by rw [e1]; exact wf, mb, mh, mw, ?_, ?_, ?_, ?_, ?_, ?_, ?_, ?_⟩
    · try rw [e1]
      intro d0
      exfalso; (first | contradiction | omega)
    · try rw [e1]
      intro d0 d1
      exfalso; (first | contradiction | omega)
    · try rw [e1]
      intro d0 d1
      first
      | (exfalso; (first | contradiction | omega); done)
      | (exact qI_0 H R (RM_h H R (RM_3 0)) set_eq)
    · try rw [e1]
      intro d0 d1
      first
      | (exfalso; (first | contradiction | omega); done)
      | (exact qI_0 H R (RM_h H R (RM_3 0)) set_eq)
    · try rw [e1]
      intro d0 d1
      first
      | (exfalso; (first | contradiction | omega); done)
      | (exact qI_0 H R (RM_h H R (RM_3 0)) set_eq)
    · try rw [e1]
      intro d0 d1
      first
      | (exfalso; (first | contradiction | omega); done)
      | (exact qI_0 H R (RM_h H R (RM_3 0)) set_eq)
    · try rw [e1]
      intro d0 d1
      first
      | (exfalso; (first | contradiction | omega); done)
      | (exact qI_0 H R (RM_h H R (RM_3 0)) set_eq)
    · try rw [e1]
      intro d0 d1
      first
      | (exfalso; (first | contradiction | omega); done)
      | (exact qI_0 H R (RM_h H R (RM_3 0)) set_eq)
  · intro c0 c1 I' hI
    refine ⟨0, rfl, ⟨by decide, by decide⟩, ?_⟩
    have R := (RD.c hI).out (wI (rawT (I 201) b h 1))
    have e1 := R.1 201 (by decide) (by decide) (by decide) (by decide)
    have e2 := R.1 200 (by decide) (by decide) (by decide) (by decide)
    have wf := H.1.1
    refine ⟨rfl, by rw [e1]; exact wf, mb, mh, mw, ?_, ?_, ?_, ?_, ?_, ?_, ?_, ?_⟩
    · try rw [e1]
      intro d0
      exfalso; (first | contradiction | omega)
    · try rw [e1]
      intro d0 d1
      exfalso; (first | contradiction | omega)
    · try rw [e1]
      intro d0 d1
      first
      | (exfalso; (first | contradiction | omega); done)
      | (exact qI_0 H R (RM_h H R (RM_3 0)) set_eq)
    · try rw [e1]
      intro d0 d1
      first
      | (exfalso; (first | contradiction | omega); done)
      | (exact qI_0 H R (RM_h H R (RM_3 0)) set_eq)
    · try rw [e1]
      intro d0 d1
      first
      | (exfalso; (first | contradiction | omega); done)
      | (exact qI_0 H R (RM_h H R (RM_3 0)) set_eq)
    · try rw [e1]
      intro d0 d1
      first
      | (exfalso; (first | contradiction | omega); done)
      | (exact qI_0 H R (RM_h H R (RM_3 0)) set_eq)
    · try rw [e1]
      intro d0 d1
      first
      | (exfalso; (first | contradiction | omega); done)
      | (exact qI_0 H R (RM_h H R (RM_3 0)) set_eq)
    · try rw [e1]
      intro d0 d1
      first
      | (exfalso; (first | contradiction | omega); done)
      | (exact qI_0 H R (RM_h H R (RM_3 0)) set_eq)
  · intro c0 c1 I' hI
    refine ⟨0, rfl, ⟨by decide, by decide⟩, ?_⟩
    have R := (RD.c hI).out (wI (airT (I 201) b h))
    have e1 := R.1 201 (by decide) (by decide) (by decide) (by decide)
    have e2 := R.1 200 (by decide) (by decide) (by decide) (by decide)
    have wf := H.1.1
    refine ⟨rfl, by rw [e1]; exact wf, mb, mh, mw, ?_, ?_, ?_, ?_, ?_, ?_, ?_, ?_⟩
    · try rw [e1]
      intro d0
      exfalso; (first | contradiction | omega)
    · try rw [e1]
      intro d0 d1
      exfalso; (first | contradiction | omega)
    · try rw [e1]
      intro d0 d1
      first
      | (exfalso; (first | contradiction | omega); done)
      | (exact qI_0 H R (RM_h H R (RM_3 0)) set_eq)
    · try rw [e1]
      intro d0 d1
      first
      | (exfalso; (first | contradiction | omega); done)
      | (exact qI_0 H R (RM_h H R (RM_3 0)) set_eq)
    · try rw [e1]
      intro d0 d1
      first
      | (exfalso; (first | contradiction | omega); done)
      | (exact qI_0 H R (RM_h H R (RM_3 0)) set_eq)
    · try rw [e1]
      intro d0 d1
      first
      | (exfalso; (first | contradiction | omega); done)
      | (exact qI_0 H R (RM_h H R (RM_3 0)) set_eq)
    · try rw [e1]
      intro d0 d1
      first
      | (exfalso; (first | contradiction | omega); done)
      | (exact qI_0 H R (RM_h H R (RM_3 0)) set_eq)
    · try rw [e1]
      intro d0 d1
      first
      | (exfalso; (first | contradiction | omega); done)
      | (exact qI_0 H R (RM_h H R (RM_3 0)) set_eq)
  · intro c0 c1 I' hI
    refine ⟨0, rfl, ⟨by decide, by decide⟩, ?_⟩
    have R := (RD.c hI).out (wI (rawT (I 201) b h 3))
    have e1 := R.1 201 (by decide) (by decide) (by decide) (by decide)
    have e2 := R.1 200 (by decide) (by decide) (by decide) (by decide)
    have wf := H.1.1
    refine ⟨rfl, by rw [e1]; exact wf, mb, mh, mw, ?_, ?_, ?_, ?_, ?_, ?_, ?_, ?_⟩
    · try rw [e1]
      intro d0
      exfalso; (first | contradiction | omega)
    · try rw [e1]
      intro d0 d1
      exfalso; (first | contradiction | omega)
    · try rw [e1]
      intro d0 d1
      first
      | (exfalso; (first | contradiction | omega); done)
      | (exact qI_0 H R (RM_h H R (RM_3 0)) set_eq)
    · try rw [e1]
      intro d0 d1
      first
      | (exfalso; (first | contradiction | omega); done)
      | (exact qI_0 H R (RM_h H R (RM_3 0)) set_eq)
    · try rw [e1]
      intro d0 d1
      first
      | (exfalso; (first | contradiction | omega); done)
      | (exact qI_0 H R (RM_h H R (RM_3 0)) set_eq)
    · try rw [e1]
      intro d0 d1
      first
      | (exfalso; (first | contradiction | omega); done)
      | (exact qI_0 H R (RM_h H R (RM_3 0)) set_eq)
    · try rw [e1]
      intro d0 d1
      first
      | (exfalso; (first | contradiction | omega); done)
      | (exact qI_0 H R (RM_h H R (RM_3 0)) set_eq)
    · try rw [e1]
      intro d0 d1
      first
      | (exfalso; (first | contradiction | omega); done)
      | (exact qI_0 H R (RM_h H R (RM_3 0)) set_eq)
  · intro c0 c1 I' hI
    refine ⟨0, rfl, ⟨by decide, by decide⟩, ?_⟩
    have R := (RD.c hI).out (wI (stepsT (I 201) b h))
    have e1 := R.1 201 (by decide) (by decide) (by decide) (by decide)
    have e2 := R.1 200 (by decide) (by decide) (by decide) (by decide)
    have wf := H.1.1
    refine ⟨rfl, by rw [e1]; exact wf, mb, mh, mw, ?_, ?_, ?_, ?_, ?_, ?_, ?_, ?_⟩
    · try rw [e1]
      intro d0
      exfalso; (first | contradiction | omega)
    · try rw [e1]
      intro d0 d1
      exfalso; (first | contradiction | omega)
    · try rw [e1]
      intro d0 d1
      first
      | (exfalso; (first | contradiction | omega); done)
      | (exact qI_0 H R (RM_h H R (RM_3 0)) set_eq)
    · try rw [e1]
      intro d0 d1
      first
      | (exfalso; (first | contradiction | omega); done)
      | (exact qI_0 H R (RM_h H R (RM_3 0)) set_eq)
    · try rw [e1]
      intro d0 d1
      first
      | (exfalso; (first | contradiction | omega); done)
      | (exact qI_0 H R (RM_h H R (RM_3 0)) set_eq)
    · try rw [e1]
      intro d0 d1
      first
      | (exfalso; (first | contradiction | omega); done)
      | (exact qI_0 H R (RM_h H R (RM_3 0)) set_eq)
    · try rw [e1]
      intro d0 d1
      first
      | (exfalso; (first | contradiction | omega); done)
      | (exact qI_0 H R (RM_h H R (RM_3 0)) set_eq)
    · try rw [e1]
      intro d0 d1
      first
      | (exfalso; (first | contradiction | omega); done)
      | (exact qI_0 H R (RM_h H R (RM_3 0)) set_eq)
  · intro c0 c1 I' hI
    refine ⟨0, rfl, ⟨by decide, by decide⟩, ?_⟩
    have R := (RD.c hI).out (wI (rawT (I 201) b h 4))
    have e1 := R.1 201 (by decide) (by decide) (by decide) (by decide)
    have e2 := R.1 200 (by decide) (by decide) (by decide) (by decide)
    have wf := H.1.1
    refine ⟨rfl, by rw [e1]; exact wf, mb, mh, mw, ?_, ?_, ?_, ?_, ?_, ?_, ?_, ?_⟩
    · try rw [e1]
      intro d0
      exfalso; (first | contradiction | omega)
    · try rw [e1]
      intro d0 d1
      exfalso; (first | contradiction | omega)
    · try rw [e1]
      intro d0 d1
      first
      | (exfalso; (first | contradiction | omega); done)
      | (exact qI_0 H R (RM_h H R (RM_3 0)) set_eq)
    · try rw [e1]
      intro d0 d1
      first
      | (exfalso; (first | contradiction | omega); done)
      | (exact qI_0 H R (RM_h H R (RM_3 0)) set_eq)
    · try rw [e1]
      intro d0 d1
      first
      | (exfalso; (first | contradiction | omega); done)
      | (exact qI_0 H R (RM_h H R (RM_3 0)) set_eq)
    · try rw [e1]
      intro d0 d1
      first
      | (exfalso; (first | contradiction | omega); done)
      | (exact qI_0 H R (RM_h H R (RM_3 0)) set_eq)
    · try rw [e1]
      intro d0 d1
      first
      | (exfalso; (first | contradiction | omega); done)
      | (exact qI_0 H R (RM_h H R (RM_3 0)) set_eq)
    · try rw [e1]
      intro d0 d1
      first
      | (exfalso; (first | contradiction | omega); done)
      | (exact qI_0 H R (RM_h H R (RM_3 0)) set_eq)
set_option maxRecDepth 100000 in
theorem P_tick {fl : Nat → Bool} {I : mM} {b h k : Int} (H : LI fl I) (mb : mrg b) (mh : mrg h) (mk : mrg k) : spL_tick fl [mR (some 0), mI b, mI h, mI k, mR (some 230)] I (KI fl spX11_tick [mR (some 200), mI b, mI h, mI k]) := by
  refine ⟨b, h, k, rfl, _, ?_, fun _ _ z => z⟩
  show spX10_tick fl [mR (some 0), mI b, mI h, mI k] I (wKi (tabL_tick.map (fun q => q.1)) (KI fl spX11_tick [mR (some 200), mI b, mI h, mI k]))
  refine ⟨rfl, H.1, mb, mh, mk, ?_, ?_, ?_⟩
  · intro c0
    refine ⟨0, by decide, rfl, 1, rfl, 1, rfl, ⟨by decide, by decide⟩, ?_⟩
    have R := (RD_rfl I)
    have e1 := R.1 201 (by decide) (by decide) (by decide) (by decide)
    have e2 := R.1 200 (by decide) (by decide) (by decide) (by decide)
    have wf := H.1.1
    refine ⟨rfl, by rw [e1]; exact wf, mb, mh, mk, ?_, ?_, ?_⟩
    · try rw [e1]
      intro d0
      first
      | (exfalso; (first | contradiction | omega); done)
      | (exact qI_k (by decide) H R (RM_h H R (RM_3 1)))
    · try rw [e1]
      intro d0 d1
      exfalso; (first | contradiction | omega)
    · try rw [e1]
      intro d0 d1
      exfalso; (first | contradiction | omega)
  · intro c0 c1 I' hI
    refine ⟨1, by decide, rfl, 2, rfl, 2, rfl, ⟨by decide, by decide⟩, ?_⟩
    have R := (RD.c hI)
    have e1 := R.1 201 (by decide) (by decide) (by decide) (by decide)
    have e2 := R.1 200 (by decide) (by decide) (by decide) (by decide)
    have wf := H.1.1
    refine ⟨rfl, by rw [e1]; exact wf, mb, mh, mk, ?_, ?_, ?_⟩
    · try rw [e1]
      intro d0
      exfalso; (first | contradiction | omega)
    · try rw [e1]
      intro d0 d1
      first
      | (exfalso; (first | contradiction | omega); done)
      | (exact qI_k (by decide) H R (RM_h H R (RM_3 2)))
    · try rw [e1]
      intro d0 d1
      exfalso; (first | contradiction | omega)
  · intro c0 c1 I' hI
    refine ⟨0, rfl, ⟨by decide, by decide⟩, ?_⟩
    have R := (RD.c hI).out (wI (tickT (I 201) b h k))
    have e1 := R.1 201 (by decide) (by decide) (by decide) (by decide)
    have e2 := R.1 200 (by decide) (by decide) (by decide) (by decide)
    have wf := H.1.1
    refine ⟨rfl, by rw [e1]; exact wf, mb, mh, mk, ?_, ?_, ?_⟩
    · try rw [e1]
      intro d0
      exfalso; (first | contradiction | omega)
    · try rw [e1]
      intro d0 d1
      exfalso; (first | contradiction | omega)
    · try rw [e1]
      intro d0 d1
      first
      | (exfalso; (first | contradiction | omega); done)
      | (exact qI_0 H R (RM_h H R (RM_3 0)) set_eq)
set_option maxRecDepth 100000 in
theorem P_of {fl : Nat → Bool} {I : mM} {f w : Int} (H : LI fl I) (mf : mrg f) (mw : mrg w) : spL_of fl [mR (some 0), mI f, mI w, mR (some 230)] I (KI fl spX11_of [mR (some 200), mI f, mI w]) := by
  refine ⟨f, w, rfl, _, ?_, fun _ _ z => z⟩
  show spX10_of fl [mR (some 0), mI f, mI w] I (wKi (tabL_of.map (fun q => q.1)) (KI fl spX11_of [mR (some 200), mI f, mI w]))
  refine ⟨rfl, H.1, mf, mw, ?_, ?_, ?_⟩
  · intro c0
    refine ⟨0, by decide, rfl, 1, rfl, 1, rfl, ⟨by decide, by decide⟩, ?_⟩
    have R := (RD_rfl I)
    have e1 := R.1 201 (by decide) (by decide) (by decide) (by decide)
    have e2 := R.1 200 (by decide) (by decide) (by decide) (by decide)
    have wf := H.1.1
    refine ⟨rfl, mf, mw, ?_, ?_, ?_⟩
    · try rw [e1]
      intro d0
      first
      | (exfalso; (first | contradiction | omega); done)
      | (exact qI_k (by decide) H R (RM_h H R (RM_3 1)))
    · try rw [e1]
      intro d0 d1
      exfalso; (first | contradiction | omega)
    · try rw [e1]
      intro d0 d1
      exfalso; (first | contradiction | omega)
  · intro c0 c1
    refine ⟨1, by decide, rfl, 2, rfl, 2, rfl, ⟨by decide, by decide⟩, ?_⟩
    have R := (RD_rfl I)
    have e1 := R.1 201 (by decide) (by decide) (by decide) (by decide)
    have e2 := R.1 200 (by decide) (by decide) (by decide) (by decide)
    have wf := H.1.1
    refine ⟨rfl, mf, mw, ?_, ?_, ?_⟩
    · try rw [e1]
      intro d0
      exfalso; (first | contradiction | omega)
    · try rw [e1]
      intro d0 d1
      first
      | (exfalso; (first | contradiction | omega); done)
      | (exact qI_k (by decide) H R (RM_h H R (RM_3 2)))
    · try rw [e1]
      intro d0 d1
      exfalso; (first | contradiction | omega)
  · intro c0 c1
    refine ⟨0, rfl, ⟨by decide, by decide⟩, ?_⟩
    have R := (RD_rfl I).out (wI (I 201 (550 + 5 * f + w)))
    have e1 := R.1 201 (by decide) (by decide) (by decide) (by decide)
    have e2 := R.1 200 (by decide) (by decide) (by decide) (by decide)
    have wf := H.1.1
    refine ⟨rfl, mf, mw, ?_, ?_, ?_⟩
    · try rw [e1]
      intro d0
      exfalso; (first | contradiction | omega)
    · try rw [e1]
      intro d0 d1
      exfalso; (first | contradiction | omega)
    · try rw [e1]
      intro d0 d1
      first
      | (exfalso; (first | contradiction | omega); done)
      | (exact qI_0 H R (RM_h H R (RM_3 0)) set_eq)
set_option maxRecDepth 100000 in
theorem P_judge {fl : Nat → Bool} {I : mM} (H : LI fl I)  : spX10_judge fl [mR (some 0)] I (KD fl spX11_judge [mR (some 200)]) := by
  refine ⟨rfl, H.1, ?_⟩
  · skip
    refine ⟨_, rfl, ?_⟩
    have R := (RD_rfl I)
    have e1 := R.1 201 (by decide) (by decide) (by decide) (by decide)
    have e2 := R.1 200 (by decide) (by decide) (by decide) (by decide)
    have wf := H.1.1
    refine ⟨rfl, by rw [e1]; exact wf, ?_⟩
    · try rw [e1]
      exact qD_0 H R (RM_h H R (RM_3 0)) (rfl)
set_option maxRecDepth 100000 in
theorem P_catcher {fl : Nat → Bool} {I : mM} {b h : Int} (H : LI fl I) (mb : mrg b) (mh : mrg h) : spL_catcher fl [mR (some 0), mI b, mI h, mR (some 230)] I (KI fl spX11_catcher [mR (some 200), mI b, mI h]) := by
  refine ⟨b, h, rfl, _, ?_, fun _ _ z => z⟩
  show spX10_catcher fl [mR (some 0), mI b, mI h] I (wKi (tabL_catcher.map (fun q => q.1)) (KI fl spX11_catcher [mR (some 200), mI b, mI h]))
  refine ⟨rfl, H.1, mb, mh, ?_, ?_⟩
  · intro c0
    refine ⟨0, by decide, rfl, 1, rfl, 1, rfl, ⟨by decide, by decide⟩, ?_⟩
    have R := (RD_rfl I)
    have e1 := R.1 201 (by decide) (by decide) (by decide) (by decide)
    have e2 := R.1 200 (by decide) (by decide) (by decide) (by decide)
    have wf := H.1.1
    refine ⟨rfl, by rw [e1]; exact wf, mb, mh, ?_, ?_⟩
    · try rw [e1]
      intro d0
      first
      | (exfalso; (first | contradiction | omega); done)
      | (exact qI_k (by decide) H R (RM_h H R (RM_3 1)))
    · try rw [e1]
      intro d0
      exfalso; (first | contradiction | omega)
  · intro c0 I' hI
    refine ⟨0, rfl, ⟨by decide, by decide⟩, ?_⟩
    have R := (RD.c hI).out (wI (catcherT (stT (I 201)) (pcT (I 201)) (cellT (I 201) b h) (tickT (I 201) b h) (airT (I 201) b h) (stepsT (I 201) b h)))
    have e1 := R.1 201 (by decide) (by decide) (by decide) (by decide)
    have e2 := R.1 200 (by decide) (by decide) (by decide) (by decide)
    have wf := H.1.1
    refine ⟨rfl, by rw [e1]; exact wf, mb, mh, ?_, ?_⟩
    · try rw [e1]
      intro d0
      exfalso; (first | contradiction | omega)
    · try rw [e1]
      intro d0
      first
      | (exfalso; (first | contradiction | omega); done)
      | (exact qI_0 H R (RM_h H R (RM_3 0)) set_eq)
set_option maxRecDepth 100000 in
theorem P_caught {fl : Nat → Bool} {I : mM} {b h : Int} (H : LI fl I) (mb : mrg b) (mh : mrg h) : spL_caught fl [mR (some 0), mI b, mI h, mR (some 230)] I (KI fl spX11_caught [mR (some 200), mI b, mI h]) := by
  refine ⟨b, h, rfl, _, ?_, fun _ _ z => z⟩
  show spX10_caught fl [mR (some 0), mI b, mI h] I (wKi (tabL_caught.map (fun q => q.1)) (KI fl spX11_caught [mR (some 200), mI b, mI h]))
  refine ⟨rfl, H.1, mb, mh, ?_, ?_⟩
  · intro c0
    refine ⟨0, by decide, rfl, 1, rfl, 1, rfl, ⟨by decide, by decide⟩, ?_⟩
    have R := (RD_rfl I)
    have e1 := R.1 201 (by decide) (by decide) (by decide) (by decide)
    have e2 := R.1 200 (by decide) (by decide) (by decide) (by decide)
    have wf := H.1.1
    refine ⟨rfl, by rw [e1]; exact wf, mb, mh, ?_, ?_⟩
    · try rw [e1]
      intro d0
      first
      | (exfalso; (first | contradiction | omega); done)
      | (exact qI_k (by decide) H R (RM_h H R (RM_3 1)))
    · try rw [e1]
      intro d0
      exfalso; (first | contradiction | omega)
  · intro c0 I' hI
    refine ⟨0, rfl, ⟨by decide, by decide⟩, ?_⟩
    have R := (RD.c hI).out (wI (caughtT (I 201) b h))
    have e1 := R.1 201 (by decide) (by decide) (by decide) (by decide)
    have e2 := R.1 200 (by decide) (by decide) (by decide) (by decide)
    have wf := H.1.1
    refine ⟨rfl, by rw [e1]; exact wf, mb, mh, ?_, ?_⟩
    · try rw [e1]
      intro d0
      exfalso; (first | contradiction | omega)
    · try rw [e1]
      intro d0
      first
      | (exfalso; (first | contradiction | omega); done)
      | (exact qI_0 H R (RM_h H R (RM_3 0)) set_eq)
set_option maxRecDepth 100000 in
theorem P_stopper {fl : Nat → Bool} {I : mM} {b h : Int} (H : LI fl I) (mb : mrg b) (mh : mrg h) : spL_stopper fl [mR (some 0), mI b, mI h, mR (some 230)] I (KI fl spX11_stopper [mR (some 200), mI b, mI h]) := by
  refine ⟨b, h, rfl, _, ?_, fun _ _ z => z⟩
  show spX10_stopper fl [mR (some 0), mI b, mI h] I (wKi (tabL_stopper.map (fun q => q.1)) (KI fl spX11_stopper [mR (some 200), mI b, mI h]))
  refine ⟨rfl, H.1, mb, mh, ?_, ?_⟩
  · intro c0
    refine ⟨0, by decide, rfl, 1, rfl, 1, rfl, ⟨by decide, by decide⟩, ?_⟩
    have R := (RD_rfl I)
    have e1 := R.1 201 (by decide) (by decide) (by decide) (by decide)
    have e2 := R.1 200 (by decide) (by decide) (by decide) (by decide)
    have wf := H.1.1
    refine ⟨rfl, by rw [e1]; exact wf, mb, mh, ?_, ?_⟩
    · try rw [e1]
      intro d0
      first
      | (exfalso; (first | contradiction | omega); done)
      | (exact qI_k (by decide) H R (RM_h H R (RM_3 1)))
    · try rw [e1]
      intro d0
      exfalso; (first | contradiction | omega)
  · intro c0 I' hI
    refine ⟨0, rfl, ⟨by decide, by decide⟩, ?_⟩
    have R := (RD.c hI).out (wI (stopperT (I 201) b h))
    have e1 := R.1 201 (by decide) (by decide) (by decide) (by decide)
    have e2 := R.1 200 (by decide) (by decide) (by decide) (by decide)
    have wf := H.1.1
    refine ⟨rfl, by rw [e1]; exact wf, mb, mh, ?_, ?_⟩
    · try rw [e1]
      intro d0
      exfalso; (first | contradiction | omega)
    · try rw [e1]
      intro d0
      first
      | (exfalso; (first | contradiction | omega); done)
      | (exact qI_0 H R (RM_h H R (RM_3 0)) set_eq)
set_option maxRecDepth 100000 in
theorem P_stops {fl : Nat → Bool} {I : mM} {b h : Int} (H : LI fl I) (mb : mrg b) (mh : mrg h) : spL_stops fl [mR (some 0), mI b, mI h, mR (some 230)] I (KI fl spX11_stops [mR (some 200), mI b, mI h]) := by
  refine ⟨b, h, rfl, _, ?_, fun _ _ z => z⟩
  show spX10_stops fl [mR (some 0), mI b, mI h] I (wKi (tabL_stops.map (fun q => q.1)) (KI fl spX11_stops [mR (some 200), mI b, mI h]))
  refine ⟨rfl, H.1, mb, mh, ?_, ?_⟩
  · intro c0
    refine ⟨0, by decide, rfl, 1, rfl, 1, rfl, ⟨by decide, by decide⟩, ?_⟩
    have R := (RD_rfl I)
    have e1 := R.1 201 (by decide) (by decide) (by decide) (by decide)
    have e2 := R.1 200 (by decide) (by decide) (by decide) (by decide)
    have wf := H.1.1
    refine ⟨rfl, by rw [e1]; exact wf, mb, mh, ?_, ?_⟩
    · try rw [e1]
      intro d0
      first
      | (exfalso; (first | contradiction | omega); done)
      | (exact qI_k (by decide) H R (RM_h H R (RM_3 1)))
    · try rw [e1]
      intro d0
      exfalso; (first | contradiction | omega)
  · intro c0 I' hI
    refine ⟨0, rfl, ⟨by decide, by decide⟩, ?_⟩
    have R := (RD.c hI).out (wI (stopsT (I 201) b h))
    have e1 := R.1 201 (by decide) (by decide) (by decide) (by decide)
    have e2 := R.1 200 (by decide) (by decide) (by decide) (by decide)
    have wf := H.1.1
    refine ⟨rfl, by rw [e1]; exact wf, mb, mh, ?_, ?_⟩
    · try rw [e1]
      intro d0
      exfalso; (first | contradiction | omega)
    · try rw [e1]
      intro d0
      first
      | (exfalso; (first | contradiction | omega); done)
      | (exact qI_0 H R (RM_h H R (RM_3 0)) set_eq)
set_option maxRecDepth 100000 in
theorem P_runs {fl : Nat → Bool} {I : mM} {b h : Int} (H : LI fl I) (mb : mrg b) (mh : mrg h) : spL_runs fl [mR (some 0), mI b, mI h, mR (some 230)] I (KI fl spX11_runs [mR (some 200), mI b, mI h]) := by
  refine ⟨b, h, rfl, _, ?_, fun _ _ z => z⟩
  show spX10_runs fl [mR (some 0), mI b, mI h] I (wKi (tabL_runs.map (fun q => q.1)) (KI fl spX11_runs [mR (some 200), mI b, mI h]))
  refine ⟨rfl, H.1, mb, mh, ?_, ?_⟩
  · intro c0
    refine ⟨0, by decide, rfl, 1, rfl, 1, rfl, ⟨by decide, by decide⟩, ?_⟩
    have R := (RD_rfl I)
    have e1 := R.1 201 (by decide) (by decide) (by decide) (by decide)
    have e2 := R.1 200 (by decide) (by decide) (by decide) (by decide)
    have wf := H.1.1
    refine ⟨rfl, by rw [e1]; exact wf, mb, mh, ?_, ?_⟩
    · try rw [e1]
      intro d0
      first
      | (exfalso; (first | contradiction | omega); done)
      | (exact qI_k (by decide) H R (RM_h H R (RM_3 1)))
    · try rw [e1]
      intro d0
      exfalso; (first | contradiction | omega)
  · intro c0 I' hI
    refine ⟨0, rfl, ⟨by decide, by decide⟩, ?_⟩
    have R := (RD.c hI).out (wI (runsT (I 201) b h))
    have e1 := R.1 201 (by decide) (by decide) (by decide) (by decide)
    have e2 := R.1 200 (by decide) (by decide) (by decide) (by decide)
    have wf := H.1.1
    refine ⟨rfl, by rw [e1]; exact wf, mb, mh, ?_, ?_⟩
    · try rw [e1]
      intro d0
      exfalso; (first | contradiction | omega)
    · try rw [e1]
      intro d0
      first
      | (exfalso; (first | contradiction | omega); done)
      | (exact qI_0 H R (RM_h H R (RM_3 0)) set_eq)
set_option maxRecDepth 100000 in
theorem P_cost {fl : Nat → Bool} {I : mM} {b h : Int} (H : LI fl I) (mb : mrg b) (mh : mrg h) : spL_cost fl [mR (some 0), mI b, mI h, mR (some 230)] I (KI fl spX11_cost [mR (some 200), mI b, mI h]) := by
  refine ⟨b, h, rfl, _, ?_, fun _ _ z => z⟩
  show spX10_cost fl [mR (some 0), mI b, mI h] I (wKi (tabL_cost.map (fun q => q.1)) (KI fl spX11_cost [mR (some 200), mI b, mI h]))
  refine ⟨rfl, H.1, mb, mh, ?_, ?_⟩
  · intro c0
    refine ⟨0, by decide, rfl, 1, rfl, 1, rfl, ⟨by decide, by decide⟩, ?_⟩
    have R := (RD_rfl I)
    have e1 := R.1 201 (by decide) (by decide) (by decide) (by decide)
    have e2 := R.1 200 (by decide) (by decide) (by decide) (by decide)
    have wf := H.1.1
    refine ⟨rfl, by rw [e1]; exact wf, mb, mh, ?_, ?_⟩
    · try rw [e1]
      intro d0
      first
      | (exfalso; (first | contradiction | omega); done)
      | (exact qI_k (by decide) H R (RM_h H R (RM_3 1)))
    · try rw [e1]
      intro d0
      exfalso; (first | contradiction | omega)
  · intro c0 I' hI
    refine ⟨0, rfl, ⟨by decide, by decide⟩, ?_⟩
    have R := (RD.c hI).out (wI (costT (I 201) b h))
    have e1 := R.1 201 (by decide) (by decide) (by decide) (by decide)
    have e2 := R.1 200 (by decide) (by decide) (by decide) (by decide)
    have wf := H.1.1
    refine ⟨rfl, by rw [e1]; exact wf, mb, mh, ?_, ?_⟩
    · try rw [e1]
      intro d0
      exfalso; (first | contradiction | omega)
    · try rw [e1]
      intro d0
      first
      | (exfalso; (first | contradiction | omega); done)
      | (exact qI_0 H R (RM_h H R (RM_3 0)) set_eq)
set_option maxRecDepth 100000 in
theorem P_mean {fl : Nat → Bool} {I : mM} {b : Int} (H : LI fl I) (mb : mrg b) : spL_mean fl [mR (some 0), mI b, mR (some 230)] I (KB fl spX11_mean [mR (some 200), mI b]) := by
  refine ⟨b, rfl, _, ?_, fun _ _ z => z⟩
  show spX10_mean fl [mR (some 0), mI b] I (wKb (tabL_mean.map (fun q => q.1)) (KB fl spX11_mean [mR (some 200), mI b]))
  refine ⟨rfl, H.1, mb, ?_, ?_, ?_⟩
  · intro c0
    refine ⟨0, by decide, rfl, 1, rfl, 1, rfl, ⟨by decide, by decide⟩, ?_⟩
    have R := (RD_rfl I)
    have e1 := R.1 201 (by decide) (by decide) (by decide) (by decide)
    have e2 := R.1 200 (by decide) (by decide) (by decide) (by decide)
    have wf := H.1.1
    refine ⟨rfl, by rw [e1]; exact wf, mb, ?_, ?_, ?_⟩
    · try rw [e1]
      intro d0
      first
      | (exfalso; (first | contradiction | omega); done)
      | (exact qB_k (by decide) H R (RM_h H R (RM_3 1)) (by decide))
    · try rw [e1]
      intro d0 d1
      exfalso; (first | contradiction | omega)
    · try rw [e1]
      intro d0 d1
      exfalso; (first | contradiction | omega)
  · intro c0 c1 I' hI
    refine ⟨(by unfold mrg; omega), fun z => ?_, fun z => ?_⟩
    rotate_left
    · exact absurd rfl z
    refine ⟨0, rfl, ⟨by decide, by decide⟩, ?_⟩
    have R := (RD.c hI).out 0
    have e1 := R.1 201 (by decide) (by decide) (by decide) (by decide)
    have e2 := R.1 200 (by decide) (by decide) (by decide) (by decide)
    have wf := H.1.1
    refine ⟨rfl, by rw [e1]; exact wf, mb, ?_, ?_, ?_⟩
    · try rw [e1]
      intro d0
      exfalso; (first | contradiction | omega)
    · try rw [e1]
      intro d0 d1
      first
      | (exfalso; (first | contradiction | omega); done)
      | (exact qB_0 H R (RM_f 0 _ _) set_eq (by decide))
    · try rw [e1]
      intro d0 d1
      first
      | (exfalso; (first | contradiction | omega); done)
      | (exact qB_0 H R (RM_f 0 _ _) set_eq (by decide))
  · intro c0 c1 I' hI
    refine ⟨(by unfold mrg; omega), fun z => ?_, fun z => ?_⟩
    · exact absurd z (by decide)
    skip
    refine ⟨0, rfl, ⟨by decide, by decide⟩, ?_⟩
    have R := (RD.c hI).out 1
    have e1 := R.1 201 (by decide) (by decide) (by decide) (by decide)
    have e2 := R.1 200 (by decide) (by decide) (by decide) (by decide)
    have wf := H.1.1
    refine ⟨rfl, by rw [e1]; exact wf, mb, ?_, ?_, ?_⟩
    · try rw [e1]
      intro d0
      exfalso; (first | contradiction | omega)
    · try rw [e1]
      intro d0 d1
      first
      | (exfalso; (first | contradiction | omega); done)
      | (exact qB_0 H R (RM_f 0 _ _) set_eq (by decide))
    · try rw [e1]
      intro d0 d1
      first
      | (exfalso; (first | contradiction | omega); done)
      | (exact qB_0 H R (RM_f 0 _ _) set_eq (by decide))
set_option maxRecDepth 100000 in
theorem P_one {fl : Nat → Bool} {I : mM} {f b : Int} (H : LI fl I) (mf : mrg f) (mb : mrg b) : spL_one fl [mR (some 0), mI f, mI b, mR (some 230)] I (KI fl spX11_one [mR (some 200), mI f, mI b]) := by
  refine ⟨f, b, rfl, _, ?_, fun _ _ z => z⟩
  show spX10_one fl [mR (some 0), mI f, mI b] I (wKi (tabL_one.map (fun q => q.1)) (KI fl spX11_one [mR (some 200), mI f, mI b]))
  refine ⟨rfl, H.1, mf, mb, ?_, ?_, ?_⟩
  · intro c0
    refine ⟨0, by decide, rfl, 1, rfl, 1, rfl, ⟨by decide, by decide⟩, ?_⟩
    have R := (RD_rfl I)
    have e1 := R.1 201 (by decide) (by decide) (by decide) (by decide)
    have e2 := R.1 200 (by decide) (by decide) (by decide) (by decide)
    have wf := H.1.1
    refine ⟨rfl, by rw [e1]; exact wf, mf, mb, ?_, ?_, ?_⟩
    · try rw [e1]
      intro d0
      first
      | (exfalso; (first | contradiction | omega); done)
      | (exact qI_k (by decide) H R (RM_h H R (RM_3 1)))
    · try rw [e1]
      intro d0 d1
      exfalso; (first | contradiction | omega)
    · try rw [e1]
      intro d0 d1
      exfalso; (first | contradiction | omega)
  · intro c0 c1
    refine ⟨2, by decide, rfl, 2, rfl, 2, rfl, ⟨by decide, by decide⟩, ?_⟩
    have R := (RD_rfl I)
    have e1 := R.1 201 (by decide) (by decide) (by decide) (by decide)
    have e2 := R.1 200 (by decide) (by decide) (by decide) (by decide)
    have wf := H.1.1
    refine ⟨rfl, by rw [e1]; exact wf, mf, mb, ?_, ?_, ?_⟩
    · try rw [e1]
      intro d0
      exfalso; (first | contradiction | omega)
    · try rw [e1]
      intro d0 d1
      first
      | (exfalso; (first | contradiction | omega); done)
      | (exact qI_k (by decide) H R (RM_h H R (RM_3 2)))
    · try rw [e1]
      intro d0 d1
      exfalso; (first | contradiction | omega)
  · intro c0 c1 I' hI
    refine ⟨0, rfl, ⟨by decide, by decide⟩, ?_⟩
    have R := (RD.f hI).out (wI (oneT (I 201) f b 0).1)
    have e1 := R.1 201 (by decide) (by decide) (by decide) (by decide)
    have e2 := R.1 200 (by decide) (by decide) (by decide) (by decide)
    have wf := H.1.1
    refine ⟨rfl, by rw [e1]; exact wf, mf, mb, ?_, ?_, ?_⟩
    · try rw [e1]
      intro d0
      exfalso; (first | contradiction | omega)
    · try rw [e1]
      intro d0 d1
      exfalso; (first | contradiction | omega)
    · try rw [e1]
      intro d0 d1
      first
      | (exfalso; (first | contradiction | omega); done)
      | (exact qI_0 H R (RM_h H R (RM_k 18 _ (RM_3 0) (by decide))) (set_eq.trans (congrArg wI (oneT_w _ _ _ _ _).1)))
set_option maxRecDepth 100000 in
theorem P_bound {fl : Nat → Bool} {I : mM} {b : Int} (H : LI fl I) (mb : mrg b) : spL_bound fl [mR (some 0), mI b, mR (some 230)] I (KB fl spX11_bound [mR (some 200), mI b]) := by
  refine ⟨b, rfl, _, ?_, fun _ _ z => z⟩
  show spX10_bound fl [mR (some 0), mI b] I (wKb (tabL_bound.map (fun q => q.1)) (KB fl spX11_bound [mR (some 200), mI b]))
  refine ⟨rfl, H.1, mb, ?_, ?_, ?_⟩
  · intro c0
    refine ⟨0, by decide, rfl, 1, rfl, 1, rfl, ⟨by decide, by decide⟩, ?_⟩
    have R := (RD_rfl I)
    have e1 := R.1 201 (by decide) (by decide) (by decide) (by decide)
    have e2 := R.1 200 (by decide) (by decide) (by decide) (by decide)
    have wf := H.1.1
    refine ⟨rfl, by rw [e1]; exact wf, mb, ?_, ?_, ?_⟩
    · try rw [e1]
      intro d0
      first
      | (exfalso; (first | contradiction | omega); done)
      | (exact qB_k (by decide) H R (RM_h H R (RM_3 1)) (by decide))
    · try rw [e1]
      intro d0 d1 K hK
      exfalso; (first | contradiction | omega)
    · try rw [e1]
      intro d0 d1 K hK
      exfalso; (first | contradiction | omega)
  · intro c0 c1 I' hI
    refine ⟨(by unfold mrg; omega), fun z => ?_, fun z => ?_⟩
    rotate_left
    · exact absurd rfl z
    refine ⟨0, rfl, ⟨by decide, by decide⟩, ?_⟩
    have R := (RD.c hI).out 0
    have e1 := R.1 201 (by decide) (by decide) (by decide) (by decide)
    have e2 := R.1 200 (by decide) (by decide) (by decide) (by decide)
    have wf := H.1.1
    refine ⟨rfl, by rw [e1]; exact wf, mb, ?_, ?_, ?_⟩
    · try rw [e1]
      intro d0
      exfalso; (first | contradiction | omega)
    · try rw [e1]
      intro d0 d1 K hK
      first
      | (exfalso; (first | contradiction | omega); done)
      | (exact qB_0 H R (RM_p e1 hK) set_eq (by decide))
    · try rw [e1]
      intro d0 d1 K hK
      first
      | (exfalso; (first | contradiction | omega); done)
      | (exact qB_0 H R (RM_p e1 hK) set_eq (by decide))
  · intro c0 c1 I' hI
    refine ⟨(by unfold mrg; omega), fun z => ?_, fun z => ?_⟩
    · exact absurd z (by decide)
    skip
    refine ⟨0, rfl, ⟨by decide, by decide⟩, ?_⟩
    have R := (RD.c hI).out 1
    have e1 := R.1 201 (by decide) (by decide) (by decide) (by decide)
    have e2 := R.1 200 (by decide) (by decide) (by decide) (by decide)
    have wf := H.1.1
    refine ⟨rfl, by rw [e1]; exact wf, mb, ?_, ?_, ?_⟩
    · try rw [e1]
      intro d0
      exfalso; (first | contradiction | omega)
    · try rw [e1]
      intro d0 d1 K hK
      first
      | (exfalso; (first | contradiction | omega); done)
      | (exact qB_0 H R (RM_p e1 hK) set_eq (by decide))
    · try rw [e1]
      intro d0 d1 K hK
      first
      | (exfalso; (first | contradiction | omega); done)
      | (exact qB_0 H R (RM_p e1 hK) set_eq (by decide))
set_option maxRecDepth 100000 in
theorem P_gap {fl : Nat → Bool} {I : mM} {b : Int} (H : LI fl I) (mb : mrg b) : spL_gap fl [mR (some 0), mI b, mR (some 230)] I (KB fl spX11_gap [mR (some 200), mI b]) := by
  refine ⟨b, rfl, _, ?_, fun _ _ z => z⟩
  show spX10_gap fl [mR (some 0), mI b] I (wKb (tabL_gap.map (fun q => q.1)) (KB fl spX11_gap [mR (some 200), mI b]))
  refine ⟨rfl, H.1, mb, ?_, ?_, ?_⟩
  · intro c0
    refine ⟨0, by decide, rfl, 1, rfl, 1, rfl, ⟨by decide, by decide⟩, ?_⟩
    have R := (RD_rfl I)
    have e1 := R.1 201 (by decide) (by decide) (by decide) (by decide)
    have e2 := R.1 200 (by decide) (by decide) (by decide) (by decide)
    have wf := H.1.1
    refine ⟨rfl, by rw [e1]; exact wf, mb, ?_, ?_, ?_⟩
    · try rw [e1]
      intro d0
      first
      | (exfalso; (first | contradiction | omega); done)
      | (exact qB_k (by decide) H R (RM_h H R (RM_3 1)) (by decide))
    · try rw [e1]
      intro d0 d1 K hK
      exfalso; (first | contradiction | omega)
    · try rw [e1]
      intro d0 d1 K hK
      exfalso; (first | contradiction | omega)
  · intro c0 c1 I' hI
    refine ⟨(by unfold mrg; omega), fun z => ?_, fun z => ?_⟩
    rotate_left
    · exact absurd rfl z
    refine ⟨0, rfl, ⟨by decide, by decide⟩, ?_⟩
    have R := (RD.c hI).out 0
    have e1 := R.1 201 (by decide) (by decide) (by decide) (by decide)
    have e2 := R.1 200 (by decide) (by decide) (by decide) (by decide)
    have wf := H.1.1
    refine ⟨rfl, by rw [e1]; exact wf, mb, ?_, ?_, ?_⟩
    · try rw [e1]
      intro d0
      exfalso; (first | contradiction | omega)
    · try rw [e1]
      intro d0 d1 K hK
      first
      | (exfalso; (first | contradiction | omega); done)
      | (exact qB_0 H R (RM_p e1 hK) set_eq (by decide))
    · try rw [e1]
      intro d0 d1 K hK
      first
      | (exfalso; (first | contradiction | omega); done)
      | (exact qB_0 H R (RM_p e1 hK) set_eq (by decide))
  · intro c0 c1 I' hI
    refine ⟨(by unfold mrg; omega), fun z => ?_, fun z => ?_⟩
    · exact absurd z (by decide)
    skip
    refine ⟨0, rfl, ⟨by decide, by decide⟩, ?_⟩
    have R := (RD.c hI).out 1
    have e1 := R.1 201 (by decide) (by decide) (by decide) (by decide)
    have e2 := R.1 200 (by decide) (by decide) (by decide) (by decide)
    have wf := H.1.1
    refine ⟨rfl, by rw [e1]; exact wf, mb, ?_, ?_, ?_⟩
    · try rw [e1]
      intro d0
      exfalso; (first | contradiction | omega)
    · try rw [e1]
      intro d0 d1 K hK
      first
      | (exfalso; (first | contradiction | omega); done)
      | (exact qB_0 H R (RM_p e1 hK) set_eq (by decide))
    · try rw [e1]
      intro d0 d1 K hK
      first
      | (exfalso; (first | contradiction | omega); done)
      | (exact qB_0 H R (RM_p e1 hK) set_eq (by decide))
set_option maxRecDepth 100000 in
theorem P_rest {fl : Nat → Bool} {I : mM} {a b c w : Int} (H : LI fl I) (ma : mrg a) (mb : mrg b) (mc : mrg c) (mw : mrg w) : spL_rest fl [mR (some 0), mI a, mI b, mI c, mI w, mR (some 230)] I (KB fl spX11_rest [mR (some 200), mI a, mI b, mI c, mI w]) := by
  refine ⟨a, b, c, w, rfl, _, ?_, fun _ _ z => z⟩
  show spX10_rest fl [mR (some 0), mI a, mI b, mI c, mI w] I (wKb (tabL_rest.map (fun q => q.1)) (KB fl spX11_rest [mR (some 200), mI a, mI b, mI c, mI w]))
  refine ⟨rfl, H.1, ma, mb, mc, mw, ?_, ?_, ?_, ?_, ?_, ?_⟩
  · intro c0
    refine ⟨0, by decide, rfl, 1, rfl, 1, rfl, ⟨by decide, by decide⟩, ?_⟩
    have R := (RD_rfl I)
    have e1 := R.1 201 (by decide) (by decide) (by decide) (by decide)
    have e2 := R.1 200 (by decide) (by decide) (by decide) (by decide)
    have wf := H.1.1
    refine ⟨rfl, by rw [e1]; exact wf, ma, mb, mc, mw, ?_, ?_, ?_, ?_, ?_, ?_⟩
    · try rw [e1]
      intro d0
      first
      | (exfalso; (first | contradiction | omega); done)
      | (exact qB_k (by decide) H R (RM_h H R (RM_3 1)) (by decide))
    · try rw [e1]
      intro d0 d1
      exfalso; (first | contradiction | omega)
    · try rw [e1]
      intro d0 d1 d2
      exfalso; (first | contradiction | omega)
    · try rw [e1]
      intro d0 d1 d2 d3 K hK
      exfalso; (first | contradiction | omega)
    · try rw [e1]
      intro d0 d1 d2 d3 K hK
      exfalso; (first | contradiction | omega)
    · try rw [e1]
      intro d0 d1 d2 d3 K hK
      exfalso; (first | contradiction | omega)
  · intro c0 c1
    refine ⟨1, by decide, rfl, 2, rfl, 2, rfl, ⟨by decide, by decide⟩, ?_⟩
    have R := (RD_rfl I)
    have e1 := R.1 201 (by decide) (by decide) (by decide) (by decide)
    have e2 := R.1 200 (by decide) (by decide) (by decide) (by decide)
    have wf := H.1.1
    refine ⟨rfl, by rw [e1]; exact wf, ma, mb, mc, mw, ?_, ?_, ?_, ?_, ?_, ?_⟩
    · try rw [e1]
      intro d0
      exfalso; (first | contradiction | omega)
    · try rw [e1]
      intro d0 d1
      first
      | (exfalso; (first | contradiction | omega); done)
      | (exact qB_k (by decide) H R (RM_h H R (RM_3 2)) (by decide))
    · try rw [e1]
      intro d0 d1 d2
      exfalso; (first | contradiction | omega)
    · try rw [e1]
      intro d0 d1 d2 d3 K hK
      exfalso; (first | contradiction | omega)
    · try rw [e1]
      intro d0 d1 d2 d3 K hK
      exfalso; (first | contradiction | omega)
    · try rw [e1]
      intro d0 d1 d2 d3 K hK
      exfalso; (first | contradiction | omega)
  · intro c0 c1 c2
    refine ⟨2, by decide, rfl, 3, rfl, 3, rfl, ⟨by decide, by decide⟩, ?_⟩
    have R := (RD_rfl I)
    have e1 := R.1 201 (by decide) (by decide) (by decide) (by decide)
    have e2 := R.1 200 (by decide) (by decide) (by decide) (by decide)
    have wf := H.1.1
    refine ⟨rfl, by rw [e1]; exact wf, ma, mb, mc, mw, ?_, ?_, ?_, ?_, ?_, ?_⟩
    · try rw [e1]
      intro d0
      exfalso; (first | contradiction | omega)
    · try rw [e1]
      intro d0 d1
      exfalso; (first | contradiction | omega)
    · try rw [e1]
      intro d0 d1 d2
      first
      | (exfalso; (first | contradiction | omega); done)
      | (exact qB_k (by decide) H R (RM_h H R (RM_3 3)) (by decide))
    · try rw [e1]
      intro d0 d1 d2 d3 K hK
      exfalso; (first | contradiction | omega)
    · try rw [e1]
      intro d0 d1 d2 d3 K hK
      exfalso; (first | contradiction | omega)
    · try rw [e1]
      intro d0 d1 d2 d3 K hK
      exfalso; (first | contradiction | omega)
  · intro c0 c1 c2 c3 I' hI
    refine ⟨(by unfold mrg; omega), fun z => ?_, fun z => ?_⟩
    rotate_left
    · exact absurd rfl z
    refine ⟨0, rfl, ⟨by decide, by decide⟩, ?_⟩
    have R := (RD.c hI).out 0
    have e1 := R.1 201 (by decide) (by decide) (by decide) (by decide)
    have e2 := R.1 200 (by decide) (by decide) (by decide) (by decide)
    have wf := H.1.1
    refine ⟨rfl, by rw [e1]; exact wf, ma, mb, mc, mw, ?_, ?_, ?_, ?_, ?_, ?_⟩
    · try rw [e1]
      intro d0
      exfalso; (first | contradiction | omega)
    · try rw [e1]
      intro d0 d1
      exfalso; (first | contradiction | omega)
    · try rw [e1]
      intro d0 d1 d2
      exfalso; (first | contradiction | omega)
    · try rw [e1]
      intro d0 d1 d2 d3 K hK
      first
      | (exfalso; (first | contradiction | omega); done)
      | (exact qB_0 H R (RM_p e1 hK) set_eq (by decide))
    · try rw [e1]
      intro d0 d1 d2 d3 K hK
      first
      | (exfalso; (first | contradiction | omega); done)
      | (exact qB_0 H R (RM_p e1 hK) set_eq (by decide))
    · try rw [e1]
      intro d0 d1 d2 d3 K hK
      first
      | (exfalso; (first | contradiction | omega); done)
      | (exact qB_0 H R (RM_p e1 hK) set_eq (by decide))
  · intro c0 c1 c2 c3 I' hI
    refine ⟨(by unfold mrg; omega), fun z => ?_, fun z => ?_⟩
    · exact absurd z (by decide)
    skip
    refine ⟨0, rfl, ⟨by decide, by decide⟩, ?_⟩
    have R := (RD.c hI).out 1
    have e1 := R.1 201 (by decide) (by decide) (by decide) (by decide)
    have e2 := R.1 200 (by decide) (by decide) (by decide) (by decide)
    have wf := H.1.1
    refine ⟨rfl, by rw [e1]; exact wf, ma, mb, mc, mw, ?_, ?_, ?_, ?_, ?_, ?_⟩
    · try rw [e1]
      intro d0
      exfalso; (first | contradiction | omega)
    · try rw [e1]
      intro d0 d1
      exfalso; (first | contradiction | omega)
    · try rw [e1]
      intro d0 d1 d2
      exfalso; (first | contradiction | omega)
    · try rw [e1]
      intro d0 d1 d2 d3 K hK
      first
      | (exfalso; (first | contradiction | omega); done)
      | (exact qB_0 H R (RM_p e1 hK) set_eq (by decide))
    · try rw [e1]
      intro d0 d1 d2 d3 K hK
      first
      | (exfalso; (first | contradiction | omega); done)
      | (exact qB_0 H R (RM_p e1 hK) set_eq (by decide))
    · try rw [e1]
      intro d0 d1 d2 d3 K hK
      first
      | (exfalso; (first | contradiction | omega); done)
      | (exact qB_0 H R (RM_p e1 hK) set_eq (by decide))
  · intro c0 c1 c2 c3 I' hI
    refine ⟨(by unfold mrg; omega), fun z => ?_, fun z => ?_⟩
    · exact absurd z (by decide)
    skip
    refine ⟨0, rfl, ⟨by decide, by decide⟩, ?_⟩
    have R := (RD.c hI).out 1
    have e1 := R.1 201 (by decide) (by decide) (by decide) (by decide)
    have e2 := R.1 200 (by decide) (by decide) (by decide) (by decide)
    have wf := H.1.1
    refine ⟨rfl, by rw [e1]; exact wf, ma, mb, mc, mw, ?_, ?_, ?_, ?_, ?_, ?_⟩
    · try rw [e1]
      intro d0
      exfalso; (first | contradiction | omega)
    · try rw [e1]
      intro d0 d1
      exfalso; (first | contradiction | omega)
    · try rw [e1]
      intro d0 d1 d2
      exfalso; (first | contradiction | omega)
    · try rw [e1]
      intro d0 d1 d2 d3 K hK
      first
      | (exfalso; (first | contradiction | omega); done)
      | (exact qB_0 H R (RM_p e1 hK) set_eq (by decide))
    · try rw [e1]
      intro d0 d1 d2 d3 K hK
      first
      | (exfalso; (first | contradiction | omega); done)
      | (exact qB_0 H R (RM_p e1 hK) set_eq (by decide))
    · try rw [e1]
      intro d0 d1 d2 d3 K hK
      first
      | (exfalso; (first | contradiction | omega); done)
      | (exact qB_0 H R (RM_p e1 hK) set_eq (by decide))
set_option maxRecDepth 100000 in
theorem P_tells {fl : Nat → Bool} {I : mM} {a b : Int} (H : LI fl I) (ma : mrg a) (mb : mrg b) : spL_tells fl [mR (some 0), mI a, mI b, mR (some 230)] I (KI fl spX11_tells [mR (some 200), mI a, mI b]) := by
  refine ⟨a, b, rfl, _, ?_, fun _ _ z => z⟩
  show spX10_tells fl [mR (some 0), mI a, mI b] I (wKi (tabL_tells.map (fun q => q.1)) (KI fl spX11_tells [mR (some 200), mI a, mI b]))
  refine ⟨rfl, H.1, ma, mb, ?_, ?_, ?_⟩
  · intro c0
    refine ⟨0, by decide, rfl, 1, rfl, 1, rfl, ⟨by decide, by decide⟩, ?_⟩
    have R := (RD_rfl I)
    have e1 := R.1 201 (by decide) (by decide) (by decide) (by decide)
    have e2 := R.1 200 (by decide) (by decide) (by decide) (by decide)
    have wf := H.1.1
    refine ⟨rfl, by rw [e1]; exact wf, ma, mb, ?_, ?_, ?_⟩
    · try rw [e1]
      intro d0
      first
      | (exfalso; (first | contradiction | omega); done)
      | (exact qI_k (by decide) H R (RM_h H R (RM_3 1)))
    · try rw [e1]
      intro d0 d1
      exfalso; (first | contradiction | omega)
    · try rw [e1]
      intro d0 d1 K hK
      exfalso; (first | contradiction | omega)
  · intro c0 c1
    refine ⟨2, by decide, rfl, 2, rfl, 2, rfl, ⟨by decide, by decide⟩, ?_⟩
    have R := (RD_rfl I)
    have e1 := R.1 201 (by decide) (by decide) (by decide) (by decide)
    have e2 := R.1 200 (by decide) (by decide) (by decide) (by decide)
    have wf := H.1.1
    refine ⟨rfl, by rw [e1]; exact wf, ma, mb, ?_, ?_, ?_⟩
    · try rw [e1]
      intro d0
      exfalso; (first | contradiction | omega)
    · try rw [e1]
      intro d0 d1
      first
      | (exfalso; (first | contradiction | omega); done)
      | (exact qI_k (by decide) H R (RM_h H R (RM_3 2)))
    · try rw [e1]
      intro d0 d1 K hK
      exfalso; (first | contradiction | omega)
  · intro c0 c1 I' hI
    refine ⟨0, rfl, ⟨by decide, by decide⟩, ?_⟩
    have R := (RD.c hI).out (wI (tellsN (I 201) a b 6).1)
    have e1 := R.1 201 (by decide) (by decide) (by decide) (by decide)
    have e2 := R.1 200 (by decide) (by decide) (by decide) (by decide)
    have wf := H.1.1
    refine ⟨rfl, by rw [e1]; exact wf, ma, mb, ?_, ?_, ?_⟩
    · try rw [e1]
      intro d0
      exfalso; (first | contradiction | omega)
    · try rw [e1]
      intro d0 d1
      exfalso; (first | contradiction | omega)
    · try rw [e1]
      intro d0 d1 K hK
      first
      | (exfalso; (first | contradiction | omega); done)
      | (exact qI_0 H R (RM_h H R (RM_p e1 hK)) set_eq)
set_option maxRecDepth 100000 in
theorem P_bowl {fl : Nat → Bool} {I : mM} (H : LI fl I)  : spX10_bowl fl [mR (some 0)] I (KD fl spX11_bowl [mR (some 200)]) := by
  refine ⟨rfl, H.1, ?_⟩
  · intro I' hI
    refine ⟨_, rfl, ?_⟩
    have R := (RD.c hI)
    have e1 := R.1 201 (by decide) (by decide) (by decide) (by decide)
    have e2 := R.1 200 (by decide) (by decide) (by decide) (by decide)
    have wf := H.1.1
    refine ⟨rfl, by rw [e1]; exact wf, ?_⟩
    · try rw [e1]
      exact qD_0 H R (RM_h H R (RM_3 0)) (rfl)
set_option maxRecDepth 100000 in
theorem P_worth {fl : Nat → Bool} {I : mM} {f b : Int} (H : LI fl I) (mf : mrg f) (mb : mrg b) : spL_worth fl [mR (some 0), mI f, mI b, mR (some 230)] I (KB fl spX11_worth [mR (some 200), mI f, mI b]) := by
  refine ⟨f, b, rfl, _, ?_, fun _ _ z => z⟩
  show spX10_worth fl [mR (some 0), mI f, mI b] I (wKb (tabL_worth.map (fun q => q.1)) (KB fl spX11_worth [mR (some 200), mI f, mI b]))
  refine ⟨rfl, H.1, mf, mb, ?_, ?_, ?_, ?_⟩
  · intro c0
    refine ⟨0, by decide, rfl, 1, rfl, 1, rfl, ⟨by decide, by decide⟩, ?_⟩
    have R := (RD_rfl I)
    have e1 := R.1 201 (by decide) (by decide) (by decide) (by decide)
    have e2 := R.1 200 (by decide) (by decide) (by decide) (by decide)
    have wf := H.1.1
    refine ⟨rfl, by rw [e1]; exact wf, mf, mb, ?_, ?_, ?_, ?_⟩
    · try rw [e1]
      intro d0
      first
      | (exfalso; (first | contradiction | omega); done)
      | (exact qB_k (by decide) H R (RM_h H R (RM_3 1)) (by decide))
    · try rw [e1]
      intro d0 d1
      exfalso; (first | contradiction | omega)
    · try rw [e1]
      intro d0 d1 d2
      exfalso; (first | contradiction | omega)
    · try rw [e1]
      intro d0 d1 d2
      exfalso; (first | contradiction | omega)
  · intro c0 c1
    refine ⟨2, by decide, rfl, 2, rfl, 2, rfl, ⟨by decide, by decide⟩, ?_⟩
    have R := (RD_rfl I)
    have e1 := R.1 201 (by decide) (by decide) (by decide) (by decide)
    have e2 := R.1 200 (by decide) (by decide) (by decide) (by decide)
    have wf := H.1.1
    refine ⟨rfl, by rw [e1]; exact wf, mf, mb, ?_, ?_, ?_, ?_⟩
    · try rw [e1]
      intro d0
      exfalso; (first | contradiction | omega)
    · try rw [e1]
      intro d0 d1
      first
      | (exfalso; (first | contradiction | omega); done)
      | (exact qB_k (by decide) H R (RM_h H R (RM_3 2)) (by decide))
    · try rw [e1]
      intro d0 d1 d2
      exfalso; (first | contradiction | omega)
    · try rw [e1]
      intro d0 d1 d2
      exfalso; (first | contradiction | omega)
  · intro c0 c1 c2 I' hI
    refine ⟨(by unfold mrg; omega), fun z => ?_, fun z => ?_⟩
    rotate_left
    · exact absurd rfl z
    refine ⟨0, rfl, ⟨by decide, by decide⟩, ?_⟩
    have R := (RD.c hI).out 0
    have e1 := R.1 201 (by decide) (by decide) (by decide) (by decide)
    have e2 := R.1 200 (by decide) (by decide) (by decide) (by decide)
    have wf := H.1.1
    refine ⟨rfl, by rw [e1]; exact wf, mf, mb, ?_, ?_, ?_, ?_⟩
    · try rw [e1]
      intro d0
      exfalso; (first | contradiction | omega)
    · try rw [e1]
      intro d0 d1
      exfalso; (first | contradiction | omega)
    · try rw [e1]
      intro d0 d1 d2
      first
      | (exfalso; (first | contradiction | omega); done)
      | (exact qB_0 H R (RM_f 0 _ _) set_eq (by decide))
    · try rw [e1]
      intro d0 d1 d2
      first
      | (exfalso; (first | contradiction | omega); done)
      | (exact qB_0 H R (RM_f 0 _ _) set_eq (by decide))
  · intro c0 c1 c2 I' hI
    refine ⟨(by unfold mrg; omega), fun z => ?_, fun z => ?_⟩
    · exact absurd z (by decide)
    skip
    refine ⟨0, rfl, ⟨by decide, by decide⟩, ?_⟩
    have R := (RD.c hI).out 1
    have e1 := R.1 201 (by decide) (by decide) (by decide) (by decide)
    have e2 := R.1 200 (by decide) (by decide) (by decide) (by decide)
    have wf := H.1.1
    refine ⟨rfl, by rw [e1]; exact wf, mf, mb, ?_, ?_, ?_, ?_⟩
    · try rw [e1]
      intro d0
      exfalso; (first | contradiction | omega)
    · try rw [e1]
      intro d0 d1
      exfalso; (first | contradiction | omega)
    · try rw [e1]
      intro d0 d1 d2
      first
      | (exfalso; (first | contradiction | omega); done)
      | (exact qB_0 H R (RM_f 0 _ _) set_eq (by decide))
    · try rw [e1]
      intro d0 d1 d2
      first
      | (exfalso; (first | contradiction | omega); done)
      | (exact qB_0 H R (RM_f 0 _ _) set_eq (by decide))
set_option maxRecDepth 100000 in
theorem P_brave {fl : Nat → Bool} {I : mM} {f b c : Int} (H : LI fl I) (mf : mrg f) (mb : mrg b) (mc : mrg c) : spL_brave fl [mR (some 0), mI f, mI b, mI c, mR (some 230)] I (KB fl spX11_brave [mR (some 200), mI f, mI b, mI c]) := by
  refine ⟨f, b, c, rfl, _, ?_, fun _ _ z => z⟩
  show spX10_brave fl [mR (some 0), mI f, mI b, mI c] I (wKb (tabL_brave.map (fun q => q.1)) (KB fl spX11_brave [mR (some 200), mI f, mI b, mI c]))
  refine ⟨rfl, H.1, mf, mb, mc, ?_, ?_, ?_, ?_, ?_⟩
  · intro c0
    refine ⟨0, by decide, rfl, 1, rfl, 1, rfl, ⟨by decide, by decide⟩, ?_⟩
    have R := (RD_rfl I)
    have e1 := R.1 201 (by decide) (by decide) (by decide) (by decide)
    have e2 := R.1 200 (by decide) (by decide) (by decide) (by decide)
    have wf := H.1.1
    refine ⟨rfl, by rw [e1]; exact wf, mf, mb, mc, ?_, ?_, ?_, ?_, ?_⟩
    · try rw [e1]
      intro d0
      first
      | (exfalso; (first | contradiction | omega); done)
      | (exact qB_k (by decide) H R (RM_h H R (RM_3 1)) (by decide))
    · try rw [e1]
      intro d0 d1
      exfalso; (first | contradiction | omega)
    · try rw [e1]
      intro d0 d1 d2
      exfalso; (first | contradiction | omega)
    · try rw [e1]
      intro d0 d1 d2 d3
      exfalso; (first | contradiction | omega)
    · try rw [e1]
      intro d0 d1 d2 d3
      exfalso; (first | contradiction | omega)
  · intro c0 c1
    refine ⟨2, by decide, rfl, 2, rfl, 2, rfl, ⟨by decide, by decide⟩, ?_⟩
    have R := (RD_rfl I)
    have e1 := R.1 201 (by decide) (by decide) (by decide) (by decide)
    have e2 := R.1 200 (by decide) (by decide) (by decide) (by decide)
    have wf := H.1.1
    refine ⟨rfl, by rw [e1]; exact wf, mf, mb, mc, ?_, ?_, ?_, ?_, ?_⟩
    · try rw [e1]
      intro d0
      exfalso; (first | contradiction | omega)
    · try rw [e1]
      intro d0 d1
      first
      | (exfalso; (first | contradiction | omega); done)
      | (exact qB_k (by decide) H R (RM_h H R (RM_3 2)) (by decide))
    · try rw [e1]
      intro d0 d1 d2
      exfalso; (first | contradiction | omega)
    · try rw [e1]
      intro d0 d1 d2 d3
      exfalso; (first | contradiction | omega)
    · try rw [e1]
      intro d0 d1 d2 d3
      exfalso; (first | contradiction | omega)
  · intro c0 c1 c2
    refine ⟨1, by decide, rfl, 3, rfl, 3, rfl, ⟨by decide, by decide⟩, ?_⟩
    have R := (RD_rfl I)
    have e1 := R.1 201 (by decide) (by decide) (by decide) (by decide)
    have e2 := R.1 200 (by decide) (by decide) (by decide) (by decide)
    have wf := H.1.1
    refine ⟨rfl, by rw [e1]; exact wf, mf, mb, mc, ?_, ?_, ?_, ?_, ?_⟩
    · try rw [e1]
      intro d0
      exfalso; (first | contradiction | omega)
    · try rw [e1]
      intro d0 d1
      exfalso; (first | contradiction | omega)
    · try rw [e1]
      intro d0 d1 d2
      first
      | (exfalso; (first | contradiction | omega); done)
      | (exact qB_k (by decide) H R (RM_h H R (RM_3 3)) (by decide))
    · try rw [e1]
      intro d0 d1 d2 d3
      exfalso; (first | contradiction | omega)
    · try rw [e1]
      intro d0 d1 d2 d3
      exfalso; (first | contradiction | omega)
  · intro c0 c1 c2 c3 I' hI
    refine ⟨(by unfold mrg; omega), fun z => ?_, fun z => ?_⟩
    rotate_left
    · exact absurd rfl z
    refine ⟨0, rfl, ⟨by decide, by decide⟩, ?_⟩
    have R := (RD.c hI).out 0
    have e1 := R.1 201 (by decide) (by decide) (by decide) (by decide)
    have e2 := R.1 200 (by decide) (by decide) (by decide) (by decide)
    have wf := H.1.1
    refine ⟨rfl, by rw [e1]; exact wf, mf, mb, mc, ?_, ?_, ?_, ?_, ?_⟩
    · try rw [e1]
      intro d0
      exfalso; (first | contradiction | omega)
    · try rw [e1]
      intro d0 d1
      exfalso; (first | contradiction | omega)
    · try rw [e1]
      intro d0 d1 d2
      exfalso; (first | contradiction | omega)
    · try rw [e1]
      intro d0 d1 d2 d3
      first
      | (exfalso; (first | contradiction | omega); done)
      | (exact qB_0 H R (RM_f 0 _ _) set_eq (by decide))
    · try rw [e1]
      intro d0 d1 d2 d3
      first
      | (exfalso; (first | contradiction | omega); done)
      | (exact qB_0 H R (RM_f 0 _ _) set_eq (by decide))
  · intro c0 c1 c2 c3 I' hI
    refine ⟨(by unfold mrg; omega), fun z => ?_, fun z => ?_⟩
    · exact absurd z (by decide)
    skip
    refine ⟨0, rfl, ⟨by decide, by decide⟩, ?_⟩
    have R := (RD.c hI).out 1
    have e1 := R.1 201 (by decide) (by decide) (by decide) (by decide)
    have e2 := R.1 200 (by decide) (by decide) (by decide) (by decide)
    have wf := H.1.1
    refine ⟨rfl, by rw [e1]; exact wf, mf, mb, mc, ?_, ?_, ?_, ?_, ?_⟩
    · try rw [e1]
      intro d0
      exfalso; (first | contradiction | omega)
    · try rw [e1]
      intro d0 d1
      exfalso; (first | contradiction | omega)
    · try rw [e1]
      intro d0 d1 d2
      exfalso; (first | contradiction | omega)
    · try rw [e1]
      intro d0 d1 d2 d3
      first
      | (exfalso; (first | contradiction | omega); done)
      | (exact qB_0 H R (RM_f 0 _ _) set_eq (by decide))
    · try rw [e1]
      intro d0 d1 d2 d3
      first
      | (exfalso; (first | contradiction | omega); done)
      | (exact qB_0 H R (RM_f 0 _ _) set_eq (by decide))
set_option maxRecDepth 100000 in
theorem P_both {fl : Nat → Bool} {I : mM} {b l : Int} (H : LI fl I) (mb : mrg b) (ml : mrg l) : spL_both fl [mR (some 0), mI b, mI l, mR (some 230)] I (KB fl spX11_both [mR (some 200), mI b, mI l]) := by
  refine ⟨b, l, rfl, _, ?_, fun _ _ z => z⟩
  show spX10_both fl [mR (some 0), mI b, mI l] I (wKb (tabL_both.map (fun q => q.1)) (KB fl spX11_both [mR (some 200), mI b, mI l]))
  refine ⟨rfl, H.1, mb, ml, ?_, ?_, ?_, ?_⟩
  · intro c0
    refine ⟨0, by decide, rfl, 1, rfl, 1, rfl, ⟨by decide, by decide⟩, ?_⟩
    have R := (RD_rfl I)
    have e1 := R.1 201 (by decide) (by decide) (by decide) (by decide)
    have e2 := R.1 200 (by decide) (by decide) (by decide) (by decide)
    have wf := H.1.1
    refine ⟨rfl, by rw [e1]; exact wf, mb, ml, ?_, ?_, ?_, ?_⟩
    · try rw [e1]
      intro d0
      first
      | (exfalso; (first | contradiction | omega); done)
      | (exact qB_k (by decide) H R (RM_h H R (RM_3 1)) (by decide))
    · try rw [e1]
      intro d0 d1
      exfalso; (first | contradiction | omega)
    · try rw [e1]
      intro d0 d1 d2
      exfalso; (first | contradiction | omega)
    · try rw [e1]
      intro d0 d1 d2
      exfalso; (first | contradiction | omega)
  · intro c0 c1
    refine ⟨1, by decide, rfl, 2, rfl, 2, rfl, ⟨by decide, by decide⟩, ?_⟩
    have R := (RD_rfl I)
    have e1 := R.1 201 (by decide) (by decide) (by decide) (by decide)
    have e2 := R.1 200 (by decide) (by decide) (by decide) (by decide)
    have wf := H.1.1
    refine ⟨rfl, by rw [e1]; exact wf, mb, ml, ?_, ?_, ?_, ?_⟩
    · try rw [e1]
      intro d0
      exfalso; (first | contradiction | omega)
    · try rw [e1]
      intro d0 d1
      first
      | (exfalso; (first | contradiction | omega); done)
      | (exact qB_k (by decide) H R (RM_h H R (RM_3 2)) (by decide))
    · try rw [e1]
      intro d0 d1 d2
      exfalso; (first | contradiction | omega)
    · try rw [e1]
      intro d0 d1 d2
      exfalso; (first | contradiction | omega)
  · intro c0 c1 c2 I' hI
    refine ⟨(by unfold mrg; omega), fun z => ?_, fun z => ?_⟩
    rotate_left
    · exact absurd rfl z
    refine ⟨0, rfl, ⟨by decide, by decide⟩, ?_⟩
    have R := (RD.c hI).out 0
    have e1 := R.1 201 (by decide) (by decide) (by decide) (by decide)
    have e2 := R.1 200 (by decide) (by decide) (by decide) (by decide)
    have wf := H.1.1
    refine ⟨rfl, by rw [e1]; exact wf, mb, ml, ?_, ?_, ?_, ?_⟩
    · try rw [e1]
      intro d0
      exfalso; (first | contradiction | omega)
    · try rw [e1]
      intro d0 d1
      exfalso; (first | contradiction | omega)
    · try rw [e1]
      intro d0 d1 d2
      first
      | (exfalso; (first | contradiction | omega); done)
      | (exact qB_0 H R (RM_f 0 _ _) set_eq (by decide))
    · try rw [e1]
      intro d0 d1 d2
      first
      | (exfalso; (first | contradiction | omega); done)
      | (exact qB_0 H R (RM_f 0 _ _) set_eq (by decide))
  · intro c0 c1 c2 I' hI
    refine ⟨(by unfold mrg; omega), fun z => ?_, fun z => ?_⟩
    · exact absurd z (by decide)
    skip
    refine ⟨0, rfl, ⟨by decide, by decide⟩, ?_⟩
    have R := (RD.c hI).out 1
    have e1 := R.1 201 (by decide) (by decide) (by decide) (by decide)
    have e2 := R.1 200 (by decide) (by decide) (by decide) (by decide)
    have wf := H.1.1
    refine ⟨rfl, by rw [e1]; exact wf, mb, ml, ?_, ?_, ?_, ?_⟩
    · try rw [e1]
      intro d0
      exfalso; (first | contradiction | omega)
    · try rw [e1]
      intro d0 d1
      exfalso; (first | contradiction | omega)
    · try rw [e1]
      intro d0 d1 d2
      first
      | (exfalso; (first | contradiction | omega); done)
      | (exact qB_0 H R (RM_f 0 _ _) set_eq (by decide))
    · try rw [e1]
      intro d0 d1 d2
      first
      | (exfalso; (first | contradiction | omega); done)
      | (exact qB_0 H R (RM_f 0 _ _) set_eq (by decide))
set_option maxRecDepth 100000 in
theorem P_ends {fl : Nat → Bool} {I : mM} {b h m : Int} (H : LI fl I) (mb : mrg b) (mh : mrg h) (mm : mrg m) : spL_ends fl [mR (some 0), mI b, mI h, mI m, mR (some 230)] I (KB fl spX11_ends [mR (some 200), mI b, mI h, mI m]) := by
  refine ⟨b, h, m, rfl, _, ?_, fun _ _ z => z⟩
  show spX10_ends fl [mR (some 0), mI b, mI h, mI m] I (wKb (tabL_ends.map (fun q => q.1)) (KB fl spX11_ends [mR (some 200), mI b, mI h, mI m]))
  refine ⟨rfl, H.1, mb, mh, mm, ?_, ?_, ?_⟩
  · intro c0
    refine ⟨0, by decide, rfl, 1, rfl, 1, rfl, ⟨by decide, by decide⟩, ?_⟩
    have R := (RD_rfl I)
    have e1 := R.1 201 (by decide) (by decide) (by decide) (by decide)
    have e2 := R.1 200 (by decide) (by decide) (by decide) (by decide)
    have wf := H.1.1
    refine ⟨rfl, by rw [e1]; exact wf, mb, mh, mm, ?_, ?_, ?_⟩
    · try rw [e1]
      intro d0
      first
      | (exfalso; (first | contradiction | omega); done)
      | (exact qB_k (by decide) H R (RM_h H R (RM_3 1)) (by decide))
    · try rw [e1]
      intro d0 d1
      exfalso; (first | contradiction | omega)
    · try rw [e1]
      intro d0 d1
      exfalso; (first | contradiction | omega)
  · intro c0 c1
    refine ⟨(by unfold mrg; omega), fun z => ?_, fun z => ?_⟩
    rotate_left
    · exact absurd rfl z
    refine ⟨0, rfl, ⟨by decide, by decide⟩, ?_⟩
    have R := (RD.s (I := I) 0 0).out 0
    have e1 := R.1 201 (by decide) (by decide) (by decide) (by decide)
    have e2 := R.1 200 (by decide) (by decide) (by decide) (by decide)
    have wf := H.1.1
    refine ⟨rfl, by rw [e1]; exact wf, mb, mh, mm, ?_, ?_, ?_⟩
    · try rw [e1]
      intro d0
      exfalso; (first | contradiction | omega)
    · try rw [e1]
      intro d0 d1
      first
      | (exfalso; (first | contradiction | omega); done)
      | (exact qB_0 H R (RM_f 0 _ _) set_eq (by decide))
    · try rw [e1]
      intro d0 d1
      first
      | (exfalso; (first | contradiction | omega); done)
      | (exact qB_0 H R (RM_f 0 _ _) set_eq (by decide))
  · intro c0 c1
    refine ⟨(by unfold mrg; omega), fun z => ?_, fun z => ?_⟩
    · exact absurd z (by decide)
    skip
    refine ⟨0, rfl, ⟨by decide, by decide⟩, ?_⟩
    have R := (RD.s (I := I) (upT (endT (I 201) b h m) (seenT (I 201) b)) (loT (endT (I 201) b h m) (seenT (I 201) b))).out 1
    have e1 := R.1 201 (by decide) (by decide) (by decide) (by decide)
    have e2 := R.1 200 (by decide) (by decide) (by decide) (by decide)
    have wf := H.1.1
    refine ⟨rfl, by rw [e1]; exact wf, mb, mh, mm, ?_, ?_, ?_⟩
    · try rw [e1]
      intro d0
      exfalso; (first | contradiction | omega)
    · try rw [e1]
      intro d0 d1
      first
      | (exfalso; (first | contradiction | omega); done)
      | (exact qB_0 H R (RM_f 0 _ _) set_eq (by decide))
    · try rw [e1]
      intro d0 d1
      first
      | (exfalso; (first | contradiction | omega); done)
      | (exact qB_0 H R (RM_f 0 _ _) set_eq (by decide))
set_option maxRecDepth 100000 in
theorem P_enough {fl : Nat → Bool} {I : mM} {b h w : Int} (H : LI fl I) (mb : mrg b) (mh : mrg h) (mw : mrg w) : spL_enough fl [mR (some 0), mI b, mI h, mI w, mR (some 230)] I (KI fl spX11_enough [mR (some 200), mI b, mI h, mI w]) := by
  refine ⟨b, h, w, rfl, _, ?_, fun _ _ z => z⟩
  show spX10_enough fl [mR (some 0), mI b, mI h, mI w] I (wKi (tabL_enough.map (fun q => q.1)) (KI fl spX11_enough [mR (some 200), mI b, mI h, mI w]))
  refine ⟨rfl, H.1, mb, mh, mw, ?_, ?_, ?_⟩
  · intro c0
    refine ⟨0, by decide, rfl, 1, rfl, 1, rfl, ⟨by decide, by decide⟩, ?_⟩
    have R := (RD_rfl I)
    have e1 := R.1 201 (by decide) (by decide) (by decide) (by decide)
    have e2 := R.1 200 (by decide) (by decide) (by decide) (by decide)
    have wf := H.1.1
    refine ⟨rfl, by rw [e1]; exact wf, mb, mh, mw, ?_, ?_, ?_⟩
    · try rw [e1]
      intro d0
      first
      | (exfalso; (first | contradiction | omega); done)
      | (exact qI_k (by decide) H R (RM_h H R (RM_3 1)))
    · try rw [e1]
      intro d0 d1
      exfalso; (first | contradiction | omega)
    · try rw [e1]
      intro d0 d1
      exfalso; (first | contradiction | omega)
  · intro c0 c1
    refine ⟨1, by decide, rfl, 2, rfl, 2, rfl, ⟨by decide, by decide⟩, ?_⟩
    have R := (RD_rfl I)
    have e1 := R.1 201 (by decide) (by decide) (by decide) (by decide)
    have e2 := R.1 200 (by decide) (by decide) (by decide) (by decide)
    have wf := H.1.1
    refine ⟨rfl, by rw [e1]; exact wf, mb, mh, mw, ?_, ?_, ?_⟩
    · try rw [e1]
      intro d0
      exfalso; (first | contradiction | omega)
    · try rw [e1]
      intro d0 d1
      first
      | (exfalso; (first | contradiction | omega); done)
      | (exact qI_k (by decide) H R (RM_h H R (RM_3 2)))
    · try rw [e1]
      intro d0 d1
      exfalso; (first | contradiction | omega)
  · intro c0 c1
    refine ⟨0, rfl, ⟨by decide, by decide⟩, ?_⟩
    have R := (RD_rfl I).out (wI (enoughT (I 201) b h w))
    have e1 := R.1 201 (by decide) (by decide) (by decide) (by decide)
    have e2 := R.1 200 (by decide) (by decide) (by decide) (by decide)
    have wf := H.1.1
    refine ⟨rfl, by rw [e1]; exact wf, mb, mh, mw, ?_, ?_, ?_⟩
    · try rw [e1]
      intro d0
      exfalso; (first | contradiction | omega)
    · try rw [e1]
      intro d0 d1
      exfalso; (first | contradiction | omega)
    · try rw [e1]
      intro d0 d1
      first
      | (exfalso; (first | contradiction | omega); done)
      | (exact qI_0 H R (RM_h H R (RM_3 0)) set_eq)
set_option maxRecDepth 100000 in
theorem P_fault {fl : Nat → Bool} {I : mM} {w : Int} (H : LI fl I) (mw : mrg w) : spX10_fault fl [mR (some 0), mI w] I (KD fl spX11_fault [mR (some 200), mI w]) := by
  refine ⟨rfl, mw, ?_, ?_, ?_⟩
  · intro c0
    refine ⟨_, rfl, ?_⟩
    have R := (RD_rfl I)
    have e1 := R.1 201 (by decide) (by decide) (by decide) (by decide)
    have e2 := R.1 200 (by decide) (by decide) (by decide) (by decide)
    have wf := H.1.1
    refine ⟨rfl, mw, ?_, ?_, ?_⟩
    · try rw [e1]
      intro d0
      first
      | (exfalso; (first | contradiction | omega); done)
      | (exact qD_0 H R (RM_h H R (RM_3 0)) (by first | exact H.2.2.2.1.1 | exact H.2.2.2.1.2 | rfl))
    · try rw [e1]
      intro d0
      first
      | (exfalso; (first | contradiction | omega); done)
      | (exact qD_0 H R (RM_h H R (RM_3 0)) (by first | exact H.2.2.2.1.1 | exact H.2.2.2.1.2 | rfl))
    · try rw [e1]
      intro d0
      first
      | (exfalso; (first | contradiction | omega); done)
      | (exact qD_0 H R (RM_h H R (RM_3 0)) (by first | exact H.2.2.2.1.1 | exact H.2.2.2.1.2 | rfl))
  · intro c0
    refine ⟨_, rfl, ?_⟩
    have R := (RD_rfl I)
    have e1 := R.1 201 (by decide) (by decide) (by decide) (by decide)
    have e2 := R.1 200 (by decide) (by decide) (by decide) (by decide)
    have wf := H.1.1
    refine ⟨rfl, mw, ?_, ?_, ?_⟩
    · try rw [e1]
      intro d0
      first
      | (exfalso; (first | contradiction | omega); done)
      | (exact qD_0 H R (RM_h H R (RM_3 0)) (by first | exact H.2.2.2.1.1 | exact H.2.2.2.1.2 | rfl))
    · try rw [e1]
      intro d0
      first
      | (exfalso; (first | contradiction | omega); done)
      | (exact qD_0 H R (RM_h H R (RM_3 0)) (by first | exact H.2.2.2.1.1 | exact H.2.2.2.1.2 | rfl))
    · try rw [e1]
      intro d0
      first
      | (exfalso; (first | contradiction | omega); done)
      | (exact qD_0 H R (RM_h H R (RM_3 0)) (by first | exact H.2.2.2.1.1 | exact H.2.2.2.1.2 | rfl))
  · intro c0
    refine ⟨_, rfl, ?_⟩
    have R := (RD_rfl I)
    have e1 := R.1 201 (by decide) (by decide) (by decide) (by decide)
    have e2 := R.1 200 (by decide) (by decide) (by decide) (by decide)
    have wf := H.1.1
    refine ⟨rfl, mw, ?_, ?_, ?_⟩
    · try rw [e1]
      intro d0
      first
      | (exfalso; (first | contradiction | omega); done)
      | (exact qD_0 H R (RM_h H R (RM_3 0)) (by first | exact H.2.2.2.1.1 | exact H.2.2.2.1.2 | rfl))
    · try rw [e1]
      intro d0
      first
      | (exfalso; (first | contradiction | omega); done)
      | (exact qD_0 H R (RM_h H R (RM_3 0)) (by first | exact H.2.2.2.1.1 | exact H.2.2.2.1.2 | rfl))
    · try rw [e1]
      intro d0
      first
      | (exfalso; (first | contradiction | omega); done)
      | (exact qD_0 H R (RM_h H R (RM_3 0)) (by first | exact H.2.2.2.1.1 | exact H.2.2.2.1.2 | rfl))
set_option maxRecDepth 100000 in
theorem P_upper {fl : Nat → Bool} {I : mM} (H : LI fl I)  : spX10_upper fl [mR (some 0)] I (KDL fl spX11_upper [mR (some 200)]) := by
  refine ⟨rfl, ?_⟩
  · skip
    refine ⟨_, rfl, ?_⟩
    have R := (RD_rfl I)
    have e1 := R.1 201 (by decide) (by decide) (by decide) (by decide)
    have e2 := R.1 200 (by decide) (by decide) (by decide) (by decide)
    have wf := H.1.1
    refine ⟨rfl, ?_⟩
    · try rw [e1]
      exact qDL_0 H R (RM_h H R (RM_3 0)) (H.2.2.2.2.2.1)
set_option maxRecDepth 100000 in
theorem P_lower {fl : Nat → Bool} {I : mM} (H : LI fl I)  : spX10_lower fl [mR (some 0)] I (KDL fl spX11_lower [mR (some 200)]) := by
  refine ⟨rfl, ?_⟩
  · skip
    refine ⟨_, rfl, ?_⟩
    have R := (RD_rfl I)
    have e1 := R.1 201 (by decide) (by decide) (by decide) (by decide)
    have e2 := R.1 200 (by decide) (by decide) (by decide) (by decide)
    have wf := H.1.1
    refine ⟨rfl, ?_⟩
    · try rw [e1]
      exact qDL_0 H R (RM_h H R (RM_3 0)) (H.2.2.2.2.2.2)
set_option maxRecDepth 100000 in
theorem P_score {fl : Nat → Bool} {I : mM} {w : Int} (H : LI fl I) (mw : mrg w) : spX10_score fl [mR (some 0), mI w] I (KD fl spX11_score [mR (some 200), mI w]) := by
  refine ⟨rfl, mw, ?_, ?_⟩
  · intro c0
    refine ⟨_, rfl, ?_⟩
    have R := (RD_rfl I)
    have e1 := R.1 201 (by decide) (by decide) (by decide) (by decide)
    have e2 := R.1 200 (by decide) (by decide) (by decide) (by decide)
    have wf := H.1.1
    refine ⟨rfl, mw, ?_, ?_⟩
    · try rw [e1]
      intro d0
      first
      | (exfalso; (first | contradiction | omega); done)
      | (exact qD_0 H R (RM_h H R (RM_3 0)) (by first | rfl | exact H.1.2.2.2.2.2.2.2 w c0.1 (by omega)))
    · try rw [e1]
      intro d0
      first
      | (exfalso; (first | contradiction | omega); done)
      | (exact qD_0 H R (RM_h H R (RM_3 0)) (by first | rfl | exact H.1.2.2.2.2.2.2.2 w c0.1 (by omega)))
  · intro c0
    refine ⟨_, rfl, ?_⟩
    have R := (RD_rfl I)
    have e1 := R.1 201 (by decide) (by decide) (by decide) (by decide)
    have e2 := R.1 200 (by decide) (by decide) (by decide) (by decide)
    have wf := H.1.1
    refine ⟨rfl, mw, ?_, ?_⟩
    · try rw [e1]
      intro d0
      first
      | (exfalso; (first | contradiction | omega); done)
      | (exact qD_0 H R (RM_h H R (RM_3 0)) (by first | rfl | exact H.1.2.2.2.2.2.2.2 w c0.1 (by omega)))
    · try rw [e1]
      intro d0
      first
      | (exfalso; (first | contradiction | omega); done)
      | (exact qD_0 H R (RM_h H R (RM_3 0)) (by first | rfl | exact H.1.2.2.2.2.2.2.2 w c0.1 (by omega)))
set_option maxRecDepth 100000 in
theorem P_count {fl : Nat → Bool} {I : mM} {w : Int} (H : LI fl I) (mw : mrg w) : spX10_count fl [mR (some 0), mI w] I (KD fl spX11_count [mR (some 200), mI w]) := by
  refine ⟨rfl, H.1, mw, ?_, ?_, ?_, ?_, ?_, ?_, ?_, ?_, ?_⟩
  · intro c0
    refine ⟨_, rfl, ?_⟩
    have R := (RD_rfl I)
    have e1 := R.1 201 (by decide) (by decide) (by decide) (by decide)
    have e2 := R.1 200 (by decide) (by decide) (by decide) (by decide)
    have wf := H.1.1
    refine ⟨rfl, by rw [e1]; exact wf, mw, ?_, ?_, ?_, ?_, ?_, ?_, ?_, ?_, ?_⟩
    · try rw [e1]
      intro d0
      first
      | (exfalso; (first | contradiction | omega); done)
      | (exact qD_0 H R (RM_h H R (RM_3 0)) (by first | rfl | exact H.2.2.1.1))
    · try rw [e1]
      intro d0
      first
      | (exfalso; (first | contradiction | omega); done)
      | (exact qD_0 H R (RM_h H R (RM_3 0)) (by first | rfl | exact H.2.2.1.1))
    · try rw [e1]
      intro d0
      first
      | (exfalso; (first | contradiction | omega); done)
      | (exact qD_0 H R (RM_h H R (RM_3 0)) (by first | rfl | exact H.2.2.1.1))
    · try rw [e1]
      intro d0
      first
      | (exfalso; (first | contradiction | omega); done)
      | (exact qD_0 H R (RM_h H R (RM_3 0)) (by first | rfl | exact H.2.2.1.1))
    · try rw [e1]
      intro d0
      first
      | (exfalso; (first | contradiction | omega); done)
      | (exact qD_0 H R (RM_h H R (RM_3 0)) (by first | rfl | exact H.2.2.1.1))
    · try rw [e1]
      intro d0
      first
      | (exfalso; (first | contradiction | omega); done)
      | (exact qD_0 H R (RM_h H R (RM_3 0)) (by first | rfl | exact H.2.2.1.1))
    · try rw [e1]
      intro d0
      first
      | (exfalso; (first | contradiction | omega); done)
      | (exact qD_0 H R (RM_h H R (RM_3 0)) (by first | rfl | exact H.2.2.1.1))
    · try rw [e1]
      intro d0
      first
      | (exfalso; (first | contradiction | omega); done)
      | (exact qD_0 H R (RM_h H R (RM_3 0)) (by first | rfl | exact H.2.2.1.1))
    · try rw [e1]
      intro d0
      first
      | (exfalso; (first | contradiction | omega); done)
      | (exact qD_0 H R (RM_h H R (RM_3 0)) (by first | rfl | exact H.2.2.1.1))
  · intro c0
    refine ⟨_, rfl, ?_⟩
    have R := (RD_rfl I)
    have e1 := R.1 201 (by decide) (by decide) (by decide) (by decide)
    have e2 := R.1 200 (by decide) (by decide) (by decide) (by decide)
    have wf := H.1.1
    refine ⟨rfl, by rw [e1]; exact wf, mw, ?_, ?_, ?_, ?_, ?_, ?_, ?_, ?_, ?_⟩
    · try rw [e1]
      intro d0
      first
      | (exfalso; (first | contradiction | omega); done)
      | (exact qD_0 H R (RM_h H R (RM_3 0)) (by first | rfl | exact H.2.2.1.1))
    · try rw [e1]
      intro d0
      first
      | (exfalso; (first | contradiction | omega); done)
      | (exact qD_0 H R (RM_h H R (RM_3 0)) (by first | rfl | exact H.2.2.1.1))
    · try rw [e1]
      intro d0
      first
      | (exfalso; (first | contradiction | omega); done)
      | (exact qD_0 H R (RM_h H R (RM_3 0)) (by first | rfl | exact H.2.2.1.1))
    · try rw [e1]
      intro d0
      first
      | (exfalso; (first | contradiction | omega); done)
      | (exact qD_0 H R (RM_h H R (RM_3 0)) (by first | rfl | exact H.2.2.1.1))
    · try rw [e1]
      intro d0
      first
      | (exfalso; (first | contradiction | omega); done)
      | (exact qD_0 H R (RM_h H R (RM_3 0)) (by first | rfl | exact H.2.2.1.1))
    · try rw [e1]
      intro d0
      first
      | (exfalso; (first | contradiction | omega); done)
      | (exact qD_0 H R (RM_h H R (RM_3 0)) (by first | rfl | exact H.2.2.1.1))
    · try rw [e1]
      intro d0
      first
      | (exfalso; (first | contradiction | omega); done)
      | (exact qD_0 H R (RM_h H R (RM_3 0)) (by first | rfl | exact H.2.2.1.1))
    · try rw [e1]
      intro d0
      first
      | (exfalso; (first | contradiction | omega); done)
      | (exact qD_0 H R (RM_h H R (RM_3 0)) (by first | rfl | exact H.2.2.1.1))
    · try rw [e1]
      intro d0
      first
      | (exfalso; (first | contradiction | omega); done)
      | (exact qD_0 H R (RM_h H R (RM_3 0)) (by first | rfl | exact H.2.2.1.1))
  · intro c0
    refine ⟨_, rfl, ?_⟩
    have R := (RD_rfl I)
    have e1 := R.1 201 (by decide) (by decide) (by decide) (by decide)
    have e2 := R.1 200 (by decide) (by decide) (by decide) (by decide)
    have wf := H.1.1
    refine ⟨rfl, by rw [e1]; exact wf, mw, ?_, ?_, ?_, ?_, ?_, ?_, ?_, ?_, ?_⟩
    · try rw [e1]
      intro d0
      first
      | (exfalso; (first | contradiction | omega); done)
      | (exact qD_0 H R (RM_h H R (RM_3 0)) (by first | rfl | exact H.2.2.1.1))
    · try rw [e1]
      intro d0
      first
      | (exfalso; (first | contradiction | omega); done)
      | (exact qD_0 H R (RM_h H R (RM_3 0)) (by first | rfl | exact H.2.2.1.1))
    · try rw [e1]
      intro d0
      first
      | (exfalso; (first | contradiction | omega); done)
      | (exact qD_0 H R (RM_h H R (RM_3 0)) (by first | rfl | exact H.2.2.1.1))
    · try rw [e1]
      intro d0
      first
      | (exfalso; (first | contradiction | omega); done)
      | (exact qD_0 H R (RM_h H R (RM_3 0)) (by first | rfl | exact H.2.2.1.1))
    · try rw [e1]
      intro d0
      first
      | (exfalso; (first | contradiction | omega); done)
      | (exact qD_0 H R (RM_h H R (RM_3 0)) (by first | rfl | exact H.2.2.1.1))
    · try rw [e1]
      intro d0
      first
      | (exfalso; (first | contradiction | omega); done)
      | (exact qD_0 H R (RM_h H R (RM_3 0)) (by first | rfl | exact H.2.2.1.1))
    · try rw [e1]
      intro d0
      first
      | (exfalso; (first | contradiction | omega); done)
      | (exact qD_0 H R (RM_h H R (RM_3 0)) (by first | rfl | exact H.2.2.1.1))
    · try rw [e1]
      intro d0
      first
      | (exfalso; (first | contradiction | omega); done)
      | (exact qD_0 H R (RM_h H R (RM_3 0)) (by first | rfl | exact H.2.2.1.1))
    · try rw [e1]
      intro d0
      first
      | (exfalso; (first | contradiction | omega); done)
      | (exact qD_0 H R (RM_h H R (RM_3 0)) (by first | rfl | exact H.2.2.1.1))
  · intro c0
    refine ⟨_, rfl, ?_⟩
    have R := (RD_rfl I)
    have e1 := R.1 201 (by decide) (by decide) (by decide) (by decide)
    have e2 := R.1 200 (by decide) (by decide) (by decide) (by decide)
    have wf := H.1.1
    refine ⟨rfl, by rw [e1]; exact wf, mw, ?_, ?_, ?_, ?_, ?_, ?_, ?_, ?_, ?_⟩
    · try rw [e1]
      intro d0
      first
      | (exfalso; (first | contradiction | omega); done)
      | (exact qD_0 H R (RM_h H R (RM_3 0)) (by first | rfl | exact H.2.2.1.1))
    · try rw [e1]
      intro d0
      first
      | (exfalso; (first | contradiction | omega); done)
      | (exact qD_0 H R (RM_h H R (RM_3 0)) (by first | rfl | exact H.2.2.1.1))
    · try rw [e1]
      intro d0
      first
      | (exfalso; (first | contradiction | omega); done)
      | (exact qD_0 H R (RM_h H R (RM_3 0)) (by first | rfl | exact H.2.2.1.1))
    · try rw [e1]
      intro d0
      first
      | (exfalso; (first | contradiction | omega); done)
      | (exact qD_0 H R (RM_h H R (RM_3 0)) (by first | rfl | exact H.2.2.1.1))
    · try rw [e1]
      intro d0
      first
      | (exfalso; (first | contradiction | omega); done)
      | (exact qD_0 H R (RM_h H R (RM_3 0)) (by first | rfl | exact H.2.2.1.1))
    · try rw [e1]
      intro d0
      first
      | (exfalso; (first | contradiction | omega); done)
      | (exact qD_0 H R (RM_h H R (RM_3 0)) (by first | rfl | exact H.2.2.1.1))
    · try rw [e1]
      intro d0
      first
      | (exfalso; (first | contradiction | omega); done)
      | (exact qD_0 H R (RM_h H R (RM_3 0)) (by first | rfl | exact H.2.2.1.1))
    · try rw [e1]
      intro d0
      first
      | (exfalso; (first | contradiction | omega); done)
      | (exact qD_0 H R (RM_h H R (RM_3 0)) (by first | rfl | exact H.2.2.1.1))
    · try rw [e1]
      intro d0
      first
      | (exfalso; (first | contradiction | omega); done)
      | (exact qD_0 H R (RM_h H R (RM_3 0)) (by first | rfl | exact H.2.2.1.1))
  · intro c0
    refine ⟨_, rfl, ?_⟩
    have R := (RD_rfl I)
    have e1 := R.1 201 (by decide) (by decide) (by decide) (by decide)
    have e2 := R.1 200 (by decide) (by decide) (by decide) (by decide)
    have wf := H.1.1
    refine ⟨rfl, by rw [e1]; exact wf, mw, ?_, ?_, ?_, ?_, ?_, ?_, ?_, ?_, ?_⟩
    · try rw [e1]
      intro d0
      first
      | (exfalso; (first | contradiction | omega); done)
      | (exact qD_0 H R (RM_h H R (RM_3 0)) (by first | rfl | exact H.2.2.1.1))
    · try rw [e1]
      intro d0
      first
      | (exfalso; (first | contradiction | omega); done)
      | (exact qD_0 H R (RM_h H R (RM_3 0)) (by first | rfl | exact H.2.2.1.1))
    · try rw [e1]
      intro d0
      first
      | (exfalso; (first | contradiction | omega); done)
      | (exact qD_0 H R (RM_h H R (RM_3 0)) (by first | rfl | exact H.2.2.1.1))
    · try rw [e1]
      intro d0
      first
      | (exfalso; (first | contradiction | omega); done)
      | (exact qD_0 H R (RM_h H R (RM_3 0)) (by first | rfl | exact H.2.2.1.1))
    · try rw [e1]
      intro d0
      first
      | (exfalso; (first | contradiction | omega); done)
      | (exact qD_0 H R (RM_h H R (RM_3 0)) (by first | rfl | exact H.2.2.1.1))
    · try rw [e1]
      intro d0
      first
      | (exfalso; (first | contradiction | omega); done)
      | (exact qD_0 H R (RM_h H R (RM_3 0)) (by first | rfl | exact H.2.2.1.1))
    · try rw [e1]
      intro d0
      first
      | (exfalso; (first | contradiction | omega); done)
      | (exact qD_0 H R (RM_h H R (RM_3 0)) (by first | rfl | exact H.2.2.1.1))
    · try rw [e1]
      intro d0
      first
      | (exfalso; (first | contradiction | omega); done)
      | (exact qD_0 H R (RM_h H R (RM_3 0)) (by first | rfl | exact H.2.2.1.1))
    · try rw [e1]
      intro d0
      first
      | (exfalso; (first | contradiction | omega); done)
      | (exact qD_0 H R (RM_h H R (RM_3 0)) (by first | rfl | exact H.2.2.1.1))
  · intro c0
    refine ⟨_, rfl, ?_⟩
    have R := (RD_rfl I)
    have e1 := R.1 201 (by decide) (by decide) (by decide) (by decide)
    have e2 := R.1 200 (by decide) (by decide) (by decide) (by decide)
    have wf := H.1.1
    refine ⟨rfl, by rw [e1]; exact wf, mw, ?_, ?_, ?_, ?_, ?_, ?_, ?_, ?_, ?_⟩
    · try rw [e1]
      intro d0
      first
      | (exfalso; (first | contradiction | omega); done)
      | (exact qD_0 H R (RM_h H R (RM_3 0)) (by first | rfl | exact H.2.2.1.1))
    · try rw [e1]
      intro d0
      first
      | (exfalso; (first | contradiction | omega); done)
      | (exact qD_0 H R (RM_h H R (RM_3 0)) (by first | rfl | exact H.2.2.1.1))
    · try rw [e1]
      intro d0
      first
      | (exfalso; (first | contradiction | omega); done)
      | (exact qD_0 H R (RM_h H R (RM_3 0)) (by first | rfl | exact H.2.2.1.1))
    · try rw [e1]
      intro d0
      first
      | (exfalso; (first | contradiction | omega); done)
      | (exact qD_0 H R (RM_h H R (RM_3 0)) (by first | rfl | exact H.2.2.1.1))
    · try rw [e1]
      intro d0
      first
      | (exfalso; (first | contradiction | omega); done)
      | (exact qD_0 H R (RM_h H R (RM_3 0)) (by first | rfl | exact H.2.2.1.1))
    · try rw [e1]
      intro d0
      first
      | (exfalso; (first | contradiction | omega); done)
      | (exact qD_0 H R (RM_h H R (RM_3 0)) (by first | rfl | exact H.2.2.1.1))
    · try rw [e1]
      intro d0
      first
      | (exfalso; (first | contradiction | omega); done)
      | (exact qD_0 H R (RM_h H R (RM_3 0)) (by first | rfl | exact H.2.2.1.1))
    · try rw [e1]
      intro d0
      first
      | (exfalso; (first | contradiction | omega); done)
      | (exact qD_0 H R (RM_h H R (RM_3 0)) (by first | rfl | exact H.2.2.1.1))
    · try rw [e1]
      intro d0
      first
      | (exfalso; (first | contradiction | omega); done)
      | (exact qD_0 H R (RM_h H R (RM_3 0)) (by first | rfl | exact H.2.2.1.1))
  · intro c0
    refine ⟨_, rfl, ?_⟩
    have R := (RD_rfl I)
    have e1 := R.1 201 (by decide) (by decide) (by decide) (by decide)
    have e2 := R.1 200 (by decide) (by decide) (by decide) (by decide)
    have wf := H.1.1
    refine ⟨rfl, by rw [e1]; exact wf, mw, ?_, ?_, ?_, ?_, ?_, ?_, ?_, ?_, ?_⟩
    · try rw [e1]
      intro d0
      first
      | (exfalso; (first | contradiction | omega); done)
      | (exact qD_0 H R (RM_h H R (RM_3 0)) (by first | rfl | exact H.2.2.1.1))
    · try rw [e1]
      intro d0
      first
      | (exfalso; (first | contradiction | omega); done)
      | (exact qD_0 H R (RM_h H R (RM_3 0)) (by first | rfl | exact H.2.2.1.1))
    · try rw [e1]
      intro d0
      first
      | (exfalso; (first | contradiction | omega); done)
      | (exact qD_0 H R (RM_h H R (RM_3 0)) (by first | rfl | exact H.2.2.1.1))
    · try rw [e1]
      intro d0
      first
      | (exfalso; (first | contradiction | omega); done)
      | (exact qD_0 H R (RM_h H R (RM_3 0)) (by first | rfl | exact H.2.2.1.1))
    · try rw [e1]
      intro d0
      first
      | (exfalso; (first | contradiction | omega); done)
      | (exact qD_0 H R (RM_h H R (RM_3 0)) (by first | rfl | exact H.2.2.1.1))
    · try rw [e1]
      intro d0
      first
      | (exfalso; (first | contradiction | omega); done)
      | (exact qD_0 H R (RM_h H R (RM_3 0)) (by first | rfl | exact H.2.2.1.1))
    · try rw [e1]
      intro d0
      first
      | (exfalso; (first | contradiction | omega); done)
      | (exact qD_0 H R (RM_h H R (RM_3 0)) (by first | rfl | exact H.2.2.1.1))
    · try rw [e1]
      intro d0
      first
      | (exfalso; (first | contradiction | omega); done)
      | (exact qD_0 H R (RM_h H R (RM_3 0)) (by first | rfl | exact H.2.2.1.1))
    · try rw [e1]
      intro d0
      first
      | (exfalso; (first | contradiction | omega); done)
      | (exact qD_0 H R (RM_h H R (RM_3 0)) (by first | rfl | exact H.2.2.1.1))
  · intro c0
    refine ⟨_, rfl, ?_⟩
    have R := (RD_rfl I)
    have e1 := R.1 201 (by decide) (by decide) (by decide) (by decide)
    have e2 := R.1 200 (by decide) (by decide) (by decide) (by decide)
    have wf := H.1.1
    refine ⟨rfl, by rw [e1]; exact wf, mw, ?_, ?_, ?_, ?_, ?_, ?_, ?_, ?_, ?_⟩
    · try rw [e1]
      intro d0
      first
      | (exfalso; (first | contradiction | omega); done)
      | (exact qD_0 H R (RM_h H R (RM_3 0)) (by first | rfl | exact H.2.2.1.1))
    · try rw [e1]
      intro d0
      first
      | (exfalso; (first | contradiction | omega); done)
      | (exact qD_0 H R (RM_h H R (RM_3 0)) (by first | rfl | exact H.2.2.1.1))
    · try rw [e1]
      intro d0
      first
      | (exfalso; (first | contradiction | omega); done)
      | (exact qD_0 H R (RM_h H R (RM_3 0)) (by first | rfl | exact H.2.2.1.1))
    · try rw [e1]
      intro d0
      first
      | (exfalso; (first | contradiction | omega); done)
      | (exact qD_0 H R (RM_h H R (RM_3 0)) (by first | rfl | exact H.2.2.1.1))
    · try rw [e1]
      intro d0
      first
      | (exfalso; (first | contradiction | omega); done)
      | (exact qD_0 H R (RM_h H R (RM_3 0)) (by first | rfl | exact H.2.2.1.1))
    · try rw [e1]
      intro d0
      first
      | (exfalso; (first | contradiction | omega); done)
      | (exact qD_0 H R (RM_h H R (RM_3 0)) (by first | rfl | exact H.2.2.1.1))
    · try rw [e1]
      intro d0
      first
      | (exfalso; (first | contradiction | omega); done)
      | (exact qD_0 H R (RM_h H R (RM_3 0)) (by first | rfl | exact H.2.2.1.1))
    · try rw [e1]
      intro d0
      first
      | (exfalso; (first | contradiction | omega); done)
      | (exact qD_0 H R (RM_h H R (RM_3 0)) (by first | rfl | exact H.2.2.1.1))
    · try rw [e1]
      intro d0
      first
      | (exfalso; (first | contradiction | omega); done)
      | (exact qD_0 H R (RM_h H R (RM_3 0)) (by first | rfl | exact H.2.2.1.1))
  · intro c0
    refine ⟨_, rfl, ?_⟩
    have R := (RD_rfl I)
    have e1 := R.1 201 (by decide) (by decide) (by decide) (by decide)
    have e2 := R.1 200 (by decide) (by decide) (by decide) (by decide)
    have wf := H.1.1
    refine ⟨rfl, by rw [e1]; exact wf, mw, ?_, ?_, ?_, ?_, ?_, ?_, ?_, ?_, ?_⟩
    · try rw [e1]
      intro d0
      first
      | (exfalso; (first | contradiction | omega); done)
      | (exact qD_0 H R (RM_h H R (RM_3 0)) (by first | rfl | exact H.2.2.1.1))
    · try rw [e1]
      intro d0
      first
      | (exfalso; (first | contradiction | omega); done)
      | (exact qD_0 H R (RM_h H R (RM_3 0)) (by first | rfl | exact H.2.2.1.1))
    · try rw [e1]
      intro d0
      first
      | (exfalso; (first | contradiction | omega); done)
      | (exact qD_0 H R (RM_h H R (RM_3 0)) (by first | rfl | exact H.2.2.1.1))
    · try rw [e1]
      intro d0
      first
      | (exfalso; (first | contradiction | omega); done)
      | (exact qD_0 H R (RM_h H R (RM_3 0)) (by first | rfl | exact H.2.2.1.1))
    · try rw [e1]
      intro d0
      first
      | (exfalso; (first | contradiction | omega); done)
      | (exact qD_0 H R (RM_h H R (RM_3 0)) (by first | rfl | exact H.2.2.1.1))
    · try rw [e1]
      intro d0
      first
      | (exfalso; (first | contradiction | omega); done)
      | (exact qD_0 H R (RM_h H R (RM_3 0)) (by first | rfl | exact H.2.2.1.1))
    · try rw [e1]
      intro d0
      first
      | (exfalso; (first | contradiction | omega); done)
      | (exact qD_0 H R (RM_h H R (RM_3 0)) (by first | rfl | exact H.2.2.1.1))
    · try rw [e1]
      intro d0
      first
      | (exfalso; (first | contradiction | omega); done)
      | (exact qD_0 H R (RM_h H R (RM_3 0)) (by first | rfl | exact H.2.2.1.1))
    · try rw [e1]
      intro d0
      first
      | (exfalso; (first | contradiction | omega); done)
      | (exact qD_0 H R (RM_h H R (RM_3 0)) (by first | rfl | exact H.2.2.1.1))
set_option maxRecDepth 100000 in
theorem P_walk {fl : Nat → Bool} {I : mM} {a b : Int} (H : LI fl I) (ma : mrg a) (mb : mrg b) : spL_walk fl [mR (some 0), mI a, mI b, mR (some 230)] I (KI fl spX11_walk [mR (some 200), mI a, mI b]) := by
  refine ⟨a, b, rfl, _, ?_, fun _ _ z => z⟩
  show spX10_walk fl [mR (some 0), mI a, mI b] I (wKi (tabL_walk.map (fun q => q.1)) (KI fl spX11_walk [mR (some 200), mI a, mI b]))
  refine ⟨rfl, H.1, ma, mb, ?_, ?_, ?_⟩
  · intro c0
    refine ⟨0, by decide, rfl, 1, rfl, 1, rfl, ⟨by decide, by decide⟩, ?_⟩
    have R := (RD_rfl I)
    have e1 := R.1 201 (by decide) (by decide) (by decide) (by decide)
    have e2 := R.1 200 (by decide) (by decide) (by decide) (by decide)
    have wf := H.1.1
    refine ⟨rfl, by rw [e1]; exact wf, ma, mb, ?_, ?_, ?_⟩
    · try rw [e1]
      intro d0
      first
      | (exfalso; (first | contradiction | omega); done)
      | (exact qI_k (by decide) H R (RM_h H R (RM_3 1)))
    · try rw [e1]
      intro d0 d1
      exfalso; (first | contradiction | omega)
    · try rw [e1]
      intro d0 d1 K hK
      exfalso; (first | contradiction | omega)
  · intro c0 c1
    refine ⟨2, by decide, rfl, 2, rfl, 2, rfl, ⟨by decide, by decide⟩, ?_⟩
    have R := (RD_rfl I)
    have e1 := R.1 201 (by decide) (by decide) (by decide) (by decide)
    have e2 := R.1 200 (by decide) (by decide) (by decide) (by decide)
    have wf := H.1.1
    refine ⟨rfl, by rw [e1]; exact wf, ma, mb, ?_, ?_, ?_⟩
    · try rw [e1]
      intro d0
      exfalso; (first | contradiction | omega)
    · try rw [e1]
      intro d0 d1
      first
      | (exfalso; (first | contradiction | omega); done)
      | (exact qI_k (by decide) H R (RM_h H R (RM_3 2)))
    · try rw [e1]
      intro d0 d1 K hK
      exfalso; (first | contradiction | omega)
  · intro c0 c1 I' hI
    refine ⟨0, rfl, ⟨by decide, by decide⟩, ?_⟩
    have R := (RD.g hI).out (wI (walkT (I 201) a b))
    have e1 := R.1 201 (by decide) (by decide) (by decide) (by decide)
    have e2 := R.1 200 (by decide) (by decide) (by decide) (by decide)
    have wf := H.1.1
    refine ⟨rfl, by rw [e1]; exact wf, ma, mb, ?_, ?_, ?_⟩
    · try rw [e1]
      intro d0
      exfalso; (first | contradiction | omega)
    · try rw [e1]
      intro d0 d1
      exfalso; (first | contradiction | omega)
    · try rw [e1]
      intro d0 d1 K hK
      first
      | (exfalso; (first | contradiction | omega); done)
      | (exact qI_0 H R (RM_h H R (RM_fr3 hK)) set_eq)
set_option maxRecDepth 100000 in
theorem P_fielder {fl : Nat → Bool} {I : mM} {f p a r m : Int} (H : LI fl I) (mf : mrg f) (mp : mrg p) (ma : mrg a) (mr : mrg r) (mm : mrg m) : spL_fielder fl [mR (some 0), mI f, mI p, mI a, mI r, mI m] I (KV fl spX11_fielder [mR (some 200), mI f, mI p, mI a, mI r, mI m]) := by
  refine ⟨f, p, a, r, m, rfl, _, ?_, fun _ _ z => z⟩
  show spX10_fielder fl [mR (some 0), mI f, mI p, mI a, mI r, mI m] I (wKv (tabL_fielder.map (fun q => q.1)) (KV fl spX11_fielder [mR (some 200), mI f, mI p, mI a, mI r, mI m]))
  refine ⟨rfl, mf, mp, ma, mr, mm, ?_, ?_, ?_⟩
  · intro c0
    refine ⟨0, by decide, rfl, 1, rfl, 1, rfl, ⟨by decide, by decide⟩, ?_⟩
    have R := (RD_rfl I)
    have e1 := R.1 201 (by decide) (by decide) (by decide) (by decide)
    have e2 := R.1 200 (by decide) (by decide) (by decide) (by decide)
    have wf := H.1.1
    refine ⟨rfl, mf, mp, ma, mr, mm, ?_, ?_, ?_⟩
    · try rw [e1]
      intro d0
      first
      | (exfalso; (first | contradiction | omega); done)
      | (exact qV_k H R (RM_h H R (RM_3 1)))
    · try rw [e1]
      intro d0 d1
      exfalso; (first | contradiction | omega)
    · try rw [e1]
      intros; exfalso; (first | contradiction | omega)
  · intro c0 c1
    refine ⟨1, by decide, rfl, 2, rfl, 2, rfl, ⟨by decide, by decide⟩, ?_⟩
    have R := (RD_rfl I)
    have e1 := R.1 201 (by decide) (by decide) (by decide) (by decide)
    have e2 := R.1 200 (by decide) (by decide) (by decide) (by decide)
    have wf := H.1.1
    refine ⟨rfl, mf, mp, ma, mr, mm, ?_, ?_, ?_⟩
    · try rw [e1]
      intro d0
      exfalso; (first | contradiction | omega)
    · try rw [e1]
      intro d0 d1
      first
      | (exfalso; (first | contradiction | omega); done)
      | (exact qV_k H R (RM_h H R (RM_3 2)))
    · try rw [e1]
      intros; exfalso; (first | contradiction | omega)
  · intro c0 c1; exact ⟨0, rfl, ⟨by decide, by decide⟩, S_fielder H mf mp ma mr mm c0 c1⟩
set_option maxRecDepth 100000 in
theorem P_stand {fl : Nat → Bool} {I : mM} {f c : Int} (H : LI fl I) (mf : mrg f) (mc : mrg c) : spL_stand fl [mR (some 0), mI f, mI c, mR (some 230)] I (KI fl spX11_stand [mR (some 200), mI f, mI c]) := by
  refine ⟨f, c, rfl, _, ?_, fun _ _ z => z⟩
  show spX10_stand fl [mR (some 0), mI f, mI c] I (wKi (tabL_stand.map (fun q => q.1)) (KI fl spX11_stand [mR (some 200), mI f, mI c]))
  refine ⟨rfl, mf, mc, ?_, ?_, ?_⟩
  · intro c0
    refine ⟨0, by decide, rfl, 1, rfl, 1, rfl, ⟨by decide, by decide⟩, ?_⟩
    have R := (RD_rfl I)
    have e1 := R.1 201 (by decide) (by decide) (by decide) (by decide)
    have e2 := R.1 200 (by decide) (by decide) (by decide) (by decide)
    have wf := H.1.1
    refine ⟨rfl, mf, mc, ?_, ?_, ?_⟩
    · try rw [e1]
      intro d0
      first
      | (exfalso; (first | contradiction | omega); done)
      | (exact qI_k (by decide) H R (RM_h H R (RM_3 1)))
    · try rw [e1]
      intro d0 d1
      exfalso; (first | contradiction | omega)
    · try rw [e1]
      intros; exfalso; (first | contradiction | omega)
  · intro c0 c1
    refine ⟨1, by decide, rfl, 2, rfl, 2, rfl, ⟨by decide, by decide⟩, ?_⟩
    have R := (RD_rfl I)
    have e1 := R.1 201 (by decide) (by decide) (by decide) (by decide)
    have e2 := R.1 200 (by decide) (by decide) (by decide) (by decide)
    have wf := H.1.1
    refine ⟨rfl, mf, mc, ?_, ?_, ?_⟩
    · try rw [e1]
      intro d0
      exfalso; (first | contradiction | omega)
    · try rw [e1]
      intro d0 d1
      first
      | (exfalso; (first | contradiction | omega); done)
      | (exact qI_k (by decide) H R (RM_h H R (RM_3 2)))
    · try rw [e1]
      intros; exfalso; (first | contradiction | omega)
  · intro c0 c1; exact ⟨0, rfl, ⟨by decide, by decide⟩, S_stand H mf mc c0 c1⟩
set_option maxRecDepth 100000 in
theorem P_batter {fl : Nat → Bool} {I : mM} {k s : Int} (H : LI fl I) (mk : mrg k) (ms : mrg s) : spL_batter fl [mR (some 0), mI k, mI s] I (KV fl spX11_batter [mR (some 200), mI k, mI s]) := by
  refine ⟨k, s, rfl, _, ?_, fun _ _ z => z⟩
  show spX10_batter fl [mR (some 0), mI k, mI s] I (wKv (tabL_batter.map (fun q => q.1)) (KV fl spX11_batter [mR (some 200), mI k, mI s]))
  refine ⟨rfl, mk, ms, ?_, ?_⟩
  · intro c0
    refine ⟨1, by decide, rfl, 1, rfl, 1, rfl, ⟨by decide, by decide⟩, ?_⟩
    have R := (RD_rfl I)
    have e1 := R.1 201 (by decide) (by decide) (by decide) (by decide)
    have e2 := R.1 200 (by decide) (by decide) (by decide) (by decide)
    have wf := H.1.1
    refine ⟨rfl, mk, ms, ?_, ?_⟩
    · try rw [e1]
      intro d0
      first
      | (exfalso; (first | contradiction | omega); done)
      | (exact qV_k H R (RM_h H R (RM_3 1)))
    · try rw [e1]
      intros; exfalso; (first | contradiction | omega)
  · intro c0; exact ⟨0, rfl, ⟨by decide, by decide⟩, S_batter H mk ms c0⟩
set_option maxRecDepth 100000 in
theorem P_settle {fl : Nat → Bool} {I : mM} {b m : Int} (H : LI fl I) (mb : mrg b) (mm : mrg m) : spL_settle fl [mR (some 0), mI b, mI m, mR (some 230)] I (KI fl spX11_settle [mR (some 200), mI b, mI m]) := by
  refine ⟨b, m, rfl, _, ?_, fun _ _ z => z⟩
  show spX10_settle fl [mR (some 0), mI b, mI m] I (wKi (tabL_settle.map (fun q => q.1)) (KI fl spX11_settle [mR (some 200), mI b, mI m]))
  refine ⟨rfl, H.1, mb, mm, ?_, ?_, ?_⟩
  · intro c0
    refine ⟨0, by decide, rfl, 1, rfl, 1, rfl, ⟨by decide, by decide⟩, ?_⟩
    have R := (RD_rfl I)
    have e1 := R.1 201 (by decide) (by decide) (by decide) (by decide)
    have e2 := R.1 200 (by decide) (by decide) (by decide) (by decide)
    have wf := H.1.1
    refine ⟨rfl, by rw [e1]; exact wf, mb, mm, ?_, ?_, ?_⟩
    · try rw [e1]
      intro d0
      first
      | (exfalso; (first | contradiction | omega); done)
      | (exact qI_k (by decide) H R (RM_h H R (RM_3 1)))
    · try rw [e1]
      intro d0 d1
      exfalso; (first | contradiction | omega)
    · try rw [e1]
      intros; exfalso; (first | contradiction | omega)
  · intro c0 c1
    refine ⟨1, by decide, rfl, 2, rfl, 2, rfl, ⟨by decide, by decide⟩, ?_⟩
    have R := (RD_rfl I)
    have e1 := R.1 201 (by decide) (by decide) (by decide) (by decide)
    have e2 := R.1 200 (by decide) (by decide) (by decide) (by decide)
    have wf := H.1.1
    refine ⟨rfl, by rw [e1]; exact wf, mb, mm, ?_, ?_, ?_⟩
    · try rw [e1]
      intro d0
      exfalso; (first | contradiction | omega)
    · try rw [e1]
      intro d0 d1
      first
      | (exfalso; (first | contradiction | omega); done)
      | (exact qI_k (by decide) H R (RM_h H R (RM_3 2)))
    · try rw [e1]
      intros; exfalso; (first | contradiction | omega)
  · intro c0 c1 I' h1 h2; exact ⟨0, rfl, ⟨by decide, by decide⟩, S_settle H mb mm c0 c1 h1 h2⟩
set_option maxRecDepth 100000 in
theorem P_book {fl : Nat → Bool} {I : mM} {b h m : Int} (H : LI fl I) (mb : mrg b) (mh : mrg h) (mm : mrg m) : spL_book fl [mR (some 0), mI b, mI h, mI m, mR (some 230)] I (KI fl spX11_book [mR (some 200), mI b, mI h, mI m]) := by
  refine ⟨b, h, m, rfl, _, ?_, fun _ _ z => z⟩
  show spX10_book fl [mR (some 0), mI b, mI h, mI m] I (wKi (tabL_book.map (fun q => q.1)) (KI fl spX11_book [mR (some 200), mI b, mI h, mI m]))
  refine ⟨rfl, H.1, mb, mh, mm, ?_, ?_, ?_⟩
  · intro c0
    refine ⟨0, by decide, rfl, 1, rfl, 1, rfl, ⟨by decide, by decide⟩, ?_⟩
    have R := (RD_rfl I)
    have e1 := R.1 201 (by decide) (by decide) (by decide) (by decide)
    have e2 := R.1 200 (by decide) (by decide) (by decide) (by decide)
    have wf := H.1.1
    refine ⟨rfl, by rw [e1]; exact wf, mb, mh, mm, ?_, ?_, ?_⟩
    · try rw [e1]
      intro d0
      first
      | (exfalso; (first | contradiction | omega); done)
      | (exact qI_k (by decide) H R (RM_h H R (RM_3 1)))
    · try rw [e1]
      intro d0 d1
      exfalso; (first | contradiction | omega)
    · try rw [e1]
      intros; exfalso; (first | contradiction | omega)
  · intro c0 c1
    refine ⟨1, by decide, rfl, 2, rfl, 2, rfl, ⟨by decide, by decide⟩, ?_⟩
    have R := (RD_rfl I)
    have e1 := R.1 201 (by decide) (by decide) (by decide) (by decide)
    have e2 := R.1 200 (by decide) (by decide) (by decide) (by decide)
    have wf := H.1.1
    refine ⟨rfl, by rw [e1]; exact wf, mb, mh, mm, ?_, ?_, ?_⟩
    · try rw [e1]
      intro d0
      exfalso; (first | contradiction | omega)
    · try rw [e1]
      intro d0 d1
      first
      | (exfalso; (first | contradiction | omega); done)
      | (exact qI_k (by decide) H R (RM_h H R (RM_3 2)))
    · try rw [e1]
      intros; exfalso; (first | contradiction | omega)
  · intro c0 c1; exact ⟨0, rfl, ⟨by decide, by decide⟩, S_book H mb mh mm c0 c1⟩
set_option maxRecDepth 100000 in
theorem P_learn {fl : Nat → Bool} {I : mM} {b : Int} (H : LI fl I) (mb : mrg b) : spL_learn fl [mR (some 0), mI b, mR (some 230)] I (KI fl spX11_learn [mR (some 200), mI b]) := by
  refine ⟨b, rfl, _, ?_, fun _ _ z => z⟩
  show spX10_learn fl [mR (some 0), mI b] I (wKi (tabL_learn.map (fun q => q.1)) (KI fl spX11_learn [mR (some 200), mI b]))
  refine ⟨rfl, H.1, mb, ?_, ?_⟩
  · intro c0
    refine ⟨0, by decide, rfl, 1, rfl, 1, rfl, ⟨by decide, by decide⟩, ?_⟩
    have R := (RD_rfl I)
    have e1 := R.1 201 (by decide) (by decide) (by decide) (by decide)
    have e2 := R.1 200 (by decide) (by decide) (by decide) (by decide)
    have wf := H.1.1
    refine ⟨rfl, by rw [e1]; exact wf, mb, ?_, ?_⟩
    · try rw [e1]
      intro d0
      first
      | (exfalso; (first | contradiction | omega); done)
      | (exact qI_k (by decide) H R (RM_h H R (RM_3 1)))
    · try rw [e1]
      intros; exfalso; (first | contradiction | omega)
  · intro c0 I' h1 h2 h3; exact ⟨0, rfl, ⟨by decide, by decide⟩, S_learn H mb c0 h1 h2 h3⟩
set_option maxRecDepth 100000 in
theorem P_way {fl : Nat → Bool} {I : mM} {w m : Int} (H : LI fl I) (mw : mrg w) (mm : mrg m) : spL_way fl [mR (some 0), mI w, mI m] I (KV fl spX11_way [mR (some 200), mI w, mI m]) := by
  refine ⟨w, m, rfl, _, ?_, fun _ _ z => z⟩
  show spX10_way fl [mR (some 0), mI w, mI m] I (wKv (tabL_way.map (fun q => q.1)) (KV fl spX11_way [mR (some 200), mI w, mI m]))
  refine ⟨rfl, H.1, mw, mm, ?_, ?_, ?_, ?_, ?_⟩
  · intro c0
    refine ⟨0, by decide, rfl, 1, rfl, 1, rfl, ⟨by decide, by decide⟩, ?_⟩
    have R := (RD_rfl I)
    have e1 := R.1 201 (by decide) (by decide) (by decide) (by decide)
    have e2 := R.1 200 (by decide) (by decide) (by decide) (by decide)
    have wf := H.1.1
    refine ⟨rfl, by rw [e1]; exact wf, mw, mm, ?_, ?_, ?_, ?_, ?_⟩
    · try rw [e1]
      intro d0
      first
      | (exfalso; (first | contradiction | omega); done)
      | (exact qV_k H R (RM_h H R (RM_3 1)))
    · try rw [e1]
      intro d0 d1
      exfalso; (first | contradiction | omega)
    · try rw [e1]
      intro d0 d1 d2
      exfalso; (first | contradiction | omega)
    · try rw [e1]
      intros; exfalso; (first | contradiction | omega)
    · try rw [e1]
      intros; exfalso; (first | contradiction | omega)
  · intro c0 c1
    refine ⟨1, by decide, rfl, 2, rfl, 2, rfl, ⟨by decide, by decide⟩, ?_⟩
    have R := (RD_rfl I)
    have e1 := R.1 201 (by decide) (by decide) (by decide) (by decide)
    have e2 := R.1 200 (by decide) (by decide) (by decide) (by decide)
    have wf := H.1.1
    refine ⟨rfl, by rw [e1]; exact wf, mw, mm, ?_, ?_, ?_, ?_, ?_⟩
    · try rw [e1]
      intro d0
      exfalso; (first | contradiction | omega)
    · try rw [e1]
      intro d0 d1
      first
      | (exfalso; (first | contradiction | omega); done)
      | (exact qV_k H R (RM_h H R (RM_3 2)))
    · try rw [e1]
      intro d0 d1 d2
      exfalso; (first | contradiction | omega)
    · try rw [e1]
      intros; exfalso; (first | contradiction | omega)
    · try rw [e1]
      intros; exfalso; (first | contradiction | omega)
  · intro c0 c1 c2
    refine ⟨2, by decide, rfl, 3, rfl, 3, rfl, ⟨by decide, by decide⟩, ?_⟩
    have R := (RD_rfl I)
    have e1 := R.1 201 (by decide) (by decide) (by decide) (by decide)
    have e2 := R.1 200 (by decide) (by decide) (by decide) (by decide)
    have wf := H.1.1
    refine ⟨rfl, by rw [e1]; exact wf, mw, mm, ?_, ?_, ?_, ?_, ?_⟩
    · try rw [e1]
      intro d0
      exfalso; (first | contradiction | omega)
    · try rw [e1]
      intro d0 d1
      exfalso; (first | contradiction | omega)
    · try rw [e1]
      intro d0 d1 d2
      first
      | (exfalso; (first | contradiction | omega); done)
      | (exact qV_k H R (RM_h H R (RM_3 3)))
    · try rw [e1]
      intros; exfalso; (first | contradiction | omega)
    · try rw [e1]
      intros; exfalso; (first | contradiction | omega)
  · intro c0 c1 c2; exact ⟨0, rfl, ⟨by decide, by decide⟩, S_way1 H mw mm c0 c1 c2⟩
  · intro c0 c1; exact ⟨0, rfl, ⟨by decide, by decide⟩, S_way0 H mw mm c0 c1⟩
end LPR
section LPR3
theorem seat_c {t s c c' p : Int → Int} {n : Nat} (hp : ∀ q : Int, 0 ≤ q → q < n → 0 ≤ p q ∧ p q < n) (hc : ∀ q : Int, 0 ≤ q → q < n → c q = c' q) : stR t (seatS s c p n) = stR t (seatS s c' p n) := by
  funext q
  unfold stR
  split
  · rename_i z
    unfold seatS
    split
    · rename_i w
      have := hp _ (by omega) w
      exact hc _ this.1 this.2
    · rfl
  · rfl
theorem bst_c {n : Nat} {V V' : (Int → Int) → Int} {i : Int} (hV : ∀ (f : Nat) (p : Int → Int), okP n f p → V p = V' p) : ∀ (f : Nat) (p : Int → Int) (l x : Int), okP n f p → bstT n V i f p l x = bstT n V' i f p l x
  | 0, p, l, x, h => rfl
  | f + 1, p, l, x, h => by
    simp only [bstT]
    split
    · rfl
    · rename_i hz
      obtain ⟨f', e, h'⟩ := h.next hz
      cases e
      rw [hV f _ h']
      split
      · exact bst_c hV f _ _ _ h'
      · exact bst_c hV f _ _ _ h'
theorem matchT_c {t c c' : Int → Int} {b : Int} {n : Nat} {i : Int} (hn : 1 ≤ n ∧ n ≤ 6) (hc : ∀ q : Int, 0 ≤ q → q < n → c q = c' q) : matchT t c b n i = matchT t c' b n i := by
  have hid := okP_id hn (p := fun q => q) (fun _ _ _ => rfl)
  have hV : ∀ (f : Nat) (p : Int → Int), okP n f p → VT t (stT t) c b n p = VT t (stT t) c' b n p := fun f p h => by
    unfold VT
    rw [seat_c (fun q q0 q1 => h.rg q0 q1) hc]
  have hL : lawM t c n = lawM t c' n := by
    unfold lawM
    rw [seat_c (fun q q0 q1 => ⟨q0, q1⟩) hc]
  unfold matchT matT
  simp only [hL, hV _ _ hid, bst_c hV 719 _ _ _ hid]
theorem P_match {fl : Nat → Bool} {I : mM} {b t n j : Int} (H : LI fl I) (mb : mrg b) (mt : mrg t) (mn : mrg n) (mj : mrg j) : spL_match fl [mR (some 0), mI b, mI t, mI n, mI j, mR (some 230)] I (KI fl spX11_match [mR (some 200), mI b, mI t, mI n, mI j]) := by
  have tw := H.2.1.2.1
  refine ⟨b, t, n, j, rfl, _, ?_, fun _ _ z => z⟩
  show spX10_match fl [mR (some 0), mI b, mI t, mI n, mI j] I (wKi (tabL_match.map (fun q => q.1)) (KI fl spX11_match [mR (some 200), mI b, mI t, mI n, mI j]))
  have tr : trayP t → mrg (I 216 t) ∧ mrg (I 217 t) ∧ ∀ q : Int, 0 ≤ q → q < 40 → mrl (I 218 (40 * t + q)) := fun ht => by
    have := tw.1 t ht.1 ht.2
    unfold mrg
    exact ⟨by omega, by omega, fun q q0 q1 => tw.2 _ (by omega) (by omega)⟩
  refine ⟨rfl, H.1, mb, mt, mn, mj, fun h => ⟨0, by decide, rfl, 1, rfl, 1, rfl, ⟨by decide, by decide⟩, ?_⟩, fun ht h => ⟨2, by decide, rfl, 2, rfl, 2, rfl, ⟨by decide, by decide⟩, ?_⟩, fun ht hf => ?_⟩
  · exact ⟨rfl, H.1.1, mb, mt, mn, mj, tr, fun _ => qI_k (by decide) H (RD_rfl I) (RM_h H (RD_rfl I) (RM_3 1)), fun h2 => absurd h2 h, fun h2 => absurd h2 h, fun h2 => absurd h2 h, fun h2 => absurd h2 h⟩
  · obtain ⟨q1, q2⟩ := H.2.1.2.2.1 t.toNat (by omega)
    rw [show ((t.toNat : Nat) : Int) = t by omega] at q1
    have h1 : I 216 t = -1 := Classical.byContradiction fun e => by rw [q1.mpr e] at h; cases h
    exact ⟨rfl, H.1.1, mb, mt, mn, mj, tr, fun h2 => absurd ht h2, fun _ _ => qI_k (by decide) H (RD_rfl I) (RM_h H (RD_rfl I) (RM_3 2)), fun _ h2 => absurd h1 h2, fun _ h2 => absurd h1 h2, fun _ h2 => absurd h1 h2⟩
  · obtain ⟨q1, q2⟩ := H.2.1.2.2.1 t.toNat (by omega)
    obtain ⟨q3, q4, q5⟩ := q2 hf
    rw [show ((t.toNat : Nat) : Int) = t by omega] at q1 q3 q4 q5
    have t1 := tw.1 t ht.2.1 ht.2.2
    have h1 := q1.mp hf
    have ce : (∀ p : Int, 0 ≤ p → p < n → p < I (170 + 2 * t.toNat) 1 → 0 ≤ I (171 + 2 * t.toNat) p ∧ I (171 + 2 * t.toNat) p < 289) ↔ celP I t n := by
      unfold celP
      rw [q4]
      refine ⟨fun h p p0 p1 p2 => ?_, fun h p p0 p1 p2 => ?_⟩
      · have := h p p0 p1 p2
        rw [q5 p p0 (by omega)] at this
        omega
      · have := h p p0 p1 p2
        rw [q5 p p0 (by omega)]
        omega
    refine ⟨⟨by omega, fun q q0 q9 => by rw [q5 q q0 q9]; exact tw.2 _ (by omega) (by omega)⟩, fun h => ⟨1, by decide, rfl, 3, rfl, 3, rfl, ⟨by decide, by decide⟩, ?_⟩, fun h h9 => ⟨3, by decide, rfl, 4, rfl, 4, rfl, ⟨by decide, by decide⟩, ?_⟩, fun h h9 I' hI => ⟨0, rfl, ⟨by decide, by decide⟩, ?_⟩⟩
    · rw [ce] at h
      exact ⟨rfl, H.1.1, mb, mt, mn, mj, tr, fun h2 => absurd ht h2, fun _ h2 => absurd h2 h1, fun _ _ _ => qI_k (by decide) H (RD_rfl I) (RM_h H (RD_rfl I) (RM_3 3)), fun _ _ h2 => absurd h2 h, fun _ _ h2 => absurd h2 h⟩
    · rw [ce] at h
      rw [q4] at h9
      exact ⟨rfl, H.1.1, mb, mt, mn, mj, tr, fun h2 => absurd ht h2, fun _ h2 => absurd h2 h1, fun _ _ h2 => absurd h h2, fun _ _ _ _ => qI_k (by decide) H (RD_rfl I) (RM_h H (RD_rfl I) (RM_3 4)), fun _ _ _ h2 => absurd h9 h2⟩
    · rw [ce] at h
      rw [q4] at h9
      have R := (RD.f hI).out (wI (matchT (I 201) (I (171 + 2 * t.toNat)) b n.toNat j))
      have e1 := R.1 201 (by decide) (by decide) (by decide) (by decide)
      have e216 := R.1 216 (by decide) (by decide) (by decide) (by decide)
      have e217 := R.1 217 (by decide) (by decide) (by decide) (by decide)
      have e218 := R.1 218 (by decide) (by decide) (by decide) (by decide)
      have h' := h
      unfold celP at h'
      have v : matchT (I 201) (I (171 + 2 * t.toNat)) b n.toNat j = matchT (I 201) (fun q => I 218 (40 * t + q)) b n.toNat j := matchT_c (by omega) (fun q q0 q9 => q5 q q0 (by omega))
      refine ⟨rfl, by rw [e1]; exact H.1.1, mb, mt, mn, mj, by rw [e216, e217, e218]; exact tr, fun h2 => absurd ht h2, fun _ h2 => absurd (by rw [← e216]; exact h2) h1, fun _ _ h2 => absurd (by unfold celP; rw [e217, e218]; exact h) h2, fun _ _ _ h2 => absurd (by rw [← e217]; exact h2) h9, fun _ _ _ _ K hK => ?_⟩
      rw [e1, e218]
      refine qI_0 H R (RM_h H R (?_ : RM _ K 0 _ _)) (set_eq.trans (congrArg wI v))
      exact ⟨fun i a c => by rw [hK i (by omega) (by omega) (by omega), set_ne a], fun p hp => by rw [hK 200 (by decide) (by decide) (by decide), set_nq (by omega)], by rw [hK 200 (by decide) (by decide) (by decide), set_eq], by rw [hK 200 (by decide) (by decide) (by decide), set_nq (by decide)], by rw [hK 200 (by decide) (by decide) (by decide), set_nq (by decide)]⟩
end LPR3
