section SPC5
theorem wayT_stR (t s : Int → Int) {b h : Int} (hb : 0 ≤ b ∧ b < 6) (hh : 0 ≤ h ∧ h < 8) : wayT (stR t s) b h = wayT t b h := by
  unfold wayT
  rw [rawT_stR t s hb hh (by omega), stR_out t s (q := 6) (by omega)]
theorem airT_stR (t s : Int → Int) {b h : Int} (hb : 0 ≤ b ∧ b < 6) (hh : 0 ≤ h ∧ h < 8) : airT (stR t s) b h = airT t b h := by
  unfold airT
  rw [rawT_stR t s hb hh (by omega), stR_out t s (q := 6) (by omega)]
theorem cellT_stR (t s : Int → Int) {b h : Int} (hb : 0 ≤ b ∧ b < 6) (hh : 0 ≤ h ∧ h < 8) : cellT (stR t s) b h = cellT t b h := by
  funext k
  unfold cellT
  rw [wayT_stR t s hb hh]
theorem stepsT_stR (t s : Int → Int) {b h : Int} (hb : 0 ≤ b ∧ b < 6) (hh : 0 ≤ h ∧ h < 8) : stepsT (stR t s) b h = stepsT t b h := by
  have e : ∀ k, inK (stR t s) b h k = inK t b h k := fun k => by
    unfold inK insT
    rw [wayT_stR t s hb hh, stR_out t s (q := 1) (by omega)]
  unfold stepsT
  congr 1
  funext k
  simp only [e]
theorem tickN_stR {t : Int → Int} (H : WFt t) (s : Int → Int) {b h : Int} (hb : 0 ≤ b ∧ b < 6) (hh : 0 ≤ h ∧ h < 8) : ∀ n : Nat, (n : Int) ≤ stepsT t b h → tickN (stR t s) b h n = tickN t b h n
  | 0, _ => rfl
  | n + 1, hn => by
    have cl := cell_in H hb hh (k := ((n + 1 : Nat) : Int)) ⟨by omega, hn⟩
    simp only [tickN]
    rw [tickN_stR H s hb hh n (by omega), rawT_stR t s hb hh (by omega), airT_stR t s hb hh, cellT_stR t s hb hh, stR_out t s (q := 20 + cellT t b h ((n + 1 : Nat) : Int)) (by omega)]
theorem tickT_stR {t : Int → Int} (H : WFt t) (s : Int → Int) {b h k : Int} (hb : 0 ≤ b ∧ b < 6) (hh : 0 ≤ h ∧ h < 8) (hk : k ≤ stepsT t b h) (h0 : 0 ≤ k) : tickT (stR t s) b h k = tickT t b h k := tickN_stR H s hb hh k.toNat (by omega)
theorem pcT_stR (t s : Int → Int) : pcT (stR t s) = pcT t := by
  funext f
  exact stR_of t s ⟨by decide, by decide⟩
theorem hdT_stR (t s : Int → Int) : hdT (stR t s) = hdT t := by
  funext f
  exact stR_of t s ⟨by decide, by decide⟩
theorem prT_stR (t s : Int → Int) : prT (stR t s) = prT t := by
  funext f
  exact stR_of t s ⟨by decide, by decide⟩
theorem amT_stR (t s : Int → Int) : amT (stR t s) = amT t := by
  funext f
  exact stR_of t s ⟨by decide, by decide⟩
theorem soonU_cong {s s' : Int → Int} (pc : Int → Int) (c tk but : Int) : ∀ n : Nat, (∀ f : Int, 0 ≤ f → f < n → s f = s' f) → soonU s pc c tk but n = soonU s' pc c tk but n
  | 0, _ => rfl
  | n + 1, h => by
    have ih := soonU_cong pc c tk but n (fun f f0 f1 => h f f0 (by omega))
    have sb := soonU_bd s' pc c tk but n
    have hn := h n (by omega) (by omega)
    simp only [soonU]
    rw [ih, hn]
    by_cases z : soonU s' pc c tk but n = -1
    · rw [z]
      simp
    · rw [h (soonU s' pc c tk but n) (by omega) (by omega)]
theorem soonT_cong {s s' : Int → Int} (pc : Int → Int) (c tk but : Int) (h : ∀ f : Int, 0 ≤ f → f < 9 → s f = s' f) : soonT s pc c tk but = soonT s' pc c tk but := soonU_cong pc c tk but 9 h
theorem catcherT_cong {s s' cell cell' tick tick' : Int → Int} (pc : Int → Int) (a n : Int) (h : ∀ f : Int, 0 ≤ f → f < 9 → s f = s' f) (hk : ∀ k : Int, 1 ≤ k → k ≤ n → cell k = cell' k ∧ tick k = tick' k) : catcherT s pc cell tick a n = catcherT s' pc cell' tick' a n := by
  unfold catcherT
  split
  · rename_i z
    rw [(hk a z.1 z.2).1, (hk a z.1 z.2).2, soonT_cong pc _ _ _ h]
  · rfl
theorem stopGo_cong {s s' cell cell' tick tick' : Int → Int} (pc : Int → Int) (but : Int) (h : ∀ f : Int, 0 ≤ f → f < 9 → s f = s' f) : ∀ (m : Nat) (k : Int), (∀ j : Int, k ≤ j → j < k + m → cell j = cell' j ∧ tick j = tick' j) → stopGo s pc cell tick but m k = stopGo s' pc cell' tick' but m k
  | 0, _, _ => rfl
  | m + 1, k, hk => by
    have ih := stopGo_cong pc but h m (k + 1) (fun j j0 j1 => hk j (by omega) (by omega))
    have e := hk k (by omega) (by omega)
    simp only [stopGo]
    rw [ih, e.1, e.2, soonT_cong pc _ _ _ h]
theorem stopT_cong {s s' cell cell' tick tick' : Int → Int} (pc : Int → Int) (a n but : Int) (ha : 0 ≤ a) (h : ∀ f : Int, 0 ≤ f → f < 9 → s f = s' f) (hk : ∀ k : Int, 1 ≤ k → k ≤ n → cell k = cell' k ∧ tick k = tick' k) : stopT s pc cell tick a n but = stopT s' pc cell' tick' a n but :=
  stopGo_cong pc but h _ _ (fun j j0 j1 => hk j (by omega) (by omega))
/-- what comes of a HIT, by the STANDS s in the row t -/
def ctS (t s : Int → Int) (b h : Int) : Int := catcherT s (pcT t) (cellT t b h) (tickT t b h) (airT t b h) (stepsT t b h)
def chS (t s : Int → Int) (b h : Int) : Int := catchT (hdT t) (prT t) s (pcT t) (cellT t b h) (tickT t b h) (airT t b h) (stepsT t b h)
def spS (t s : Int → Int) (b h but : Int) : Int := stopT s (pcT t) (cellT t b h) (tickT t b h) (airT t b h) (stepsT t b h) but
def woS (t s : Int → Int) (b h but : Int) : Int := whoT s (pcT t) (cellT t b h) (tickT t b h) (spS t s b h but) but
def rnS (t s : Int → Int) (b h but : Int) : Int := runsButT (amT t) s (pcT t) (cellT t b h) (tickT t b h) (t 2) (airT t b h) (stepsT t b h) but
def coS (t s : Int → Int) (b h : Int) : Int := priceT (t 3) (chS t s b h) (rnS t s b h (ctS t s b h))
theorem ctS_eq {t : Int → Int} (H : WFt t) (s : Int → Int) {b h : Int} (hb : 0 ≤ b ∧ b < 6) (hh : 0 ≤ h ∧ h < 8) : catcherT (stT (stR t s)) (pcT (stR t s)) (cellT (stR t s) b h) (tickT (stR t s) b h) (airT (stR t s) b h) (stepsT (stR t s) b h) = ctS t s b h := by
  rw [pcT_stR, cellT_stR t s hb hh, airT_stR t s hb hh, stepsT_stR t s hb hh]
  exact catcherT_cong _ _ _ (fun f f0 f1 => stT_stR t s ⟨f0, f1⟩) (fun k k0 k1 => ⟨rfl, tickT_stR H s hb hh k1 (by omega)⟩)
theorem spS_eq {t : Int → Int} (H : WFt t) (s : Int → Int) {b h : Int} (but : Int) (hb : 0 ≤ b ∧ b < 6) (hh : 0 ≤ h ∧ h < 8) : stopT (stT (stR t s)) (pcT (stR t s)) (cellT (stR t s) b h) (tickT (stR t s) b h) (airT (stR t s) b h) (stepsT (stR t s) b h) but = spS t s b h but := by
  rw [pcT_stR, cellT_stR t s hb hh, airT_stR t s hb hh, stepsT_stR t s hb hh]
  exact stopT_cong _ _ _ _ (H.air hb hh).1 (fun f f0 f1 => stT_stR t s ⟨f0, f1⟩) (fun k k0 k1 => ⟨rfl, tickT_stR H s hb hh k1 (by omega)⟩)
theorem chS_eq {t : Int → Int} (H : WFt t) (s : Int → Int) {b h : Int} (hb : 0 ≤ b ∧ b < 6) (hh : 0 ≤ h ∧ h < 8) : caughtT (stR t s) b h = chS t s b h := by
  have cb := catcherT_bd s (pcT t) (cellT t b h) (tickT t b h) (airT t b h) (stepsT t b h)
  unfold caughtT catchT
  rw [ctS_eq H s hb hh, hdT_stR, prT_stR, cellT_stR t s hb hh, airT_stR t s hb hh]
  unfold chS catchT
  show (if ctS t s b h = -1 then _ else _) = (if ctS t s b h = -1 then _ else _)
  split
  · rfl
  · rename_i z
    unfold handsT
    rw [stT_stR t s ⟨by unfold ctS at *; omega, by unfold ctS at *; omega⟩]
    rfl
theorem spS_bd {t : Int → Int} (H : WFt t) (s : Int → Int) {b h : Int} (but : Int) (hb : 0 ≤ b ∧ b < 6) (hh : 0 ≤ h ∧ h < 8) : spS t s b h but = -1 ∨ (airT t b h + 1 ≤ spS t s b h but ∧ spS t s b h but ≤ stepsT t b h ∧ soonT s (pcT t) (cellT t b h (spS t s b h but)) (tickT t b h (spS t s b h but)) but ≠ -1) := stopT_sp s (pcT t) (cellT t b h) (tickT t b h) (airT t b h) (stepsT t b h) but (H.air hb hh).1
theorem rnS_eq {t : Int → Int} (H : WFt t) (s : Int → Int) {b h : Int} (but : Int) (hb : 0 ≤ b ∧ b < 6) (hh : 0 ≤ h ∧ h < 8) : runsButT (amT (stR t s)) (stT (stR t s)) (pcT (stR t s)) (cellT (stR t s) b h) (tickT (stR t s) b h) (stR t s 2) (airT (stR t s) b h) (stepsT (stR t s) b h) but = rnS t s b h but := by
  have ha := H.air hb hh
  have sp := spS_bd H s but hb hh
  unfold runsButT rnS runsButT
  rw [spS_eq H s but hb hh, amT_stR, pcT_stR, cellT_stR t s hb hh, airT_stR t s hb hh, stepsT_stR t s hb hh, stR_out t s (q := 2) (by omega)]
  show (if spS t s b h but = -1 then _ else _) = (if spS t s b h but = -1 then _ else _)
  split
  · rfl
  · rename_i z
    rw [tickT_stR H s hb hh (by omega) (by omega), soonT_cong _ _ _ _ (fun f f0 f1 => stT_stR t s ⟨f0, f1⟩)]
    unfold runsByT
    rw [tickT_stR H s hb hh (by omega) (by omega)]
    rfl
theorem runsS_eq {t : Int → Int} (H : WFt t) (s : Int → Int) {b h : Int} (hb : 0 ≤ b ∧ b < 6) (hh : 0 ≤ h ∧ h < 8) : runsT (stR t s) b h = rnS t s b h (ctS t s b h) := by
  unfold runsT
  rw [ctS_eq H s hb hh]
  exact rnS_eq H s _ hb hh
theorem coS_eq {t : Int → Int} (H : WFt t) (s : Int → Int) {b h : Int} (hb : 0 ≤ b ∧ b < 6) (hh : 0 ≤ h ∧ h < 8) : costT (stR t s) b h = coS t s b h := by
  unfold costT coS
  rw [chS_eq H s hb hh, runsS_eq H s hb hh, stR_out t s (q := 3) (by omega)]
theorem stopsS_eq {t : Int → Int} (H : WFt t) (s : Int → Int) {b h : Int} (hb : 0 ≤ b ∧ b < 6) (hh : 0 ≤ h ∧ h < 8) : stopsT (stR t s) b h = spS t s b h (ctS t s b h) := by
  unfold stopsT
  rw [ctS_eq H s hb hh]
  exact spS_eq H s _ hb hh
theorem stopperS_eq {t : Int → Int} (H : WFt t) (s : Int → Int) {b h : Int} (hb : 0 ≤ b ∧ b < 6) (hh : 0 ≤ h ∧ h < 8) : stopperT (stR t s) b h = woS t s b h (ctS t s b h) := by
  have sp := spS_bd H s (ctS t s b h) hb hh
  have ha := H.air hb hh
  unfold stopperT woS whoT
  rw [stopsS_eq H s hb hh, ctS_eq H s hb hh]
  split
  · rfl
  · rename_i z
    rw [pcT_stR, cellT_stR t s hb hh, tickT_stR H s hb hh (by omega) (by omega)]
    exact soonT_cong _ _ _ _ (fun f f0 f1 => stT_stR t s ⟨f0, f1⟩)
theorem uM_o (I : mM) (w k : Int) {p : Int} (h5 : p ≠ 5) (h6 : p ≠ 6) : uM I w k 130 p = I 130 p := by
  unfold uM
  rw [set_nq h6, set_nq h5]
theorem wg_facts {t : Int → Int} (H : WFt t) (s : Int → Int) {b h : Int} (c : Int) (hb : 0 ≤ b ∧ b < 6) (hh : 0 ≤ h ∧ h < 8) : (-1 ≤ woS t s b h c ∧ woS t s b h c < 9) ∧ (-1 ≤ spS t s b h c ∧ spS t s b h c ≤ 8) ∧ (woS t s b h c ≠ -1 → 1 ≤ spS t s b h c ∧ spS t s b h c ≤ stepsT t b h) ∧ (if woS t s b h c = -1 then (if stepsT t b h < airT t b h then 6 else 4) else runsByT (amT t) (cellT t b h) (tickT t b h) (t 2) (woS t s b h c) (spS t s b h c)) = rnS t s b h c := by
  have sp := spS_bd H s c hb hh
  have ha := H.air hb hh
  have st8 := (steps_spec H hb hh).1
  have e : rnS t s b h c = if spS t s b h c = -1 then (if airT t b h > stepsT t b h then 6 else 4) else runsByT (amT t) (cellT t b h) (tickT t b h) (t 2) (soonT s (pcT t) (cellT t b h (spS t s b h c)) (tickT t b h (spS t s b h c)) c) (spS t s b h c) := rfl
  rw [e]
  unfold woS whoT
  by_cases z : spS t s b h c = -1
  · rw [if_pos z, if_pos z, if_pos rfl]
    exact ⟨by omega, by omega, fun w => absurd rfl w, rfl⟩
  · have sb := soonT_bd s (pcT t) (cellT t b h (spS t s b h c)) (tickT t b h (spS t s b h c)) c
    rw [if_neg z, if_neg z, if_neg (by omega)]
    exact ⟨by omega, by omega, fun w => by omega, rfl⟩
def spX9_weigh : mSp := shRIR (fun _ i h s I Q => i = some 130 ∧ s = some (s.getD 0) ∧ stA (s.getD 0) ∧ stB (I (s.getD 0)) ∧ ∃ t b, ctxU I t b ∧ hitB t b h ∧ ∀ J : mM, J 130 3 = ctS t (I (s.getD 0)) b h → J 130 4 = chS t (I (s.getD 0)) b h → J 130 5 = woS t (I (s.getD 0)) b h (ctS t (I (s.getD 0)) b h) → J 130 6 = spS t (I (s.getD 0)) b h (ctS t (I (s.getD 0)) b h) → J 130 7 = rnS t (I (s.getD 0)) b h (ctS t (I (s.getD 0)) b h) → J 130 8 = coS t (I (s.getD 0)) b h → Q (.inl none) (fr 130 130 J I))
def SX9_weigh : Nat → mSp := fun a => match a with
  | 0 => spX0_cellAt
  | 1 => spX0_isHigh
  | 2 => spX9_firstAt
  | 3 => spX10_apart
  | 4 => spX9_chanceAt
  | 5 => spX9_findStop
  | 6 => spX9_runsBy
  | 7 => spX9_price
  | _ => fun _ _ _ _ => False
theorem SX9_weigh_0 : SX9_weigh 0 = spX0_cellAt := Eq.trans rfl rfl
theorem SX9_weigh_1 : SX9_weigh 1 = spX0_isHigh := Eq.trans rfl rfl
theorem SX9_weigh_2 : SX9_weigh 2 = spX9_firstAt := Eq.trans rfl rfl
theorem SX9_weigh_3 : SX9_weigh 3 = spX10_apart := Eq.trans rfl rfl
theorem SX9_weigh_4 : SX9_weigh 4 = spX9_chanceAt := Eq.trans rfl rfl
theorem SX9_weigh_5 : SX9_weigh 5 = spX9_findStop := Eq.trans rfl rfl
theorem SX9_weigh_6 : SX9_weigh 6 = spX9_runsBy := Eq.trans rfl rfl
theorem SX9_weigh_7 : SX9_weigh 7 = spX9_price := Eq.trans rfl rfl
set_option maxRecDepth 100000 in
set_option maxHeartbeats 8000000 in
theorem vcX9_weigh (fl : Nat → Bool) (avs : List mV) (I : mM) (Q : mO → mM → Prop) (hsp : spX9_weigh fl avs I Q) : mVC0 SX9_weigh fl Q kX9_weigh 4 avs I := by
  obtain ⟨i, hh, s, rfl, h0⟩ := shRIR_inv hsp
  obtain ⟨rfl, hs, hA, hB, t, b, H, hh1, h⟩ := h0
  obtain ⟨a, rfl⟩ : ∃ a, s = some a := ⟨_, hs⟩
  simp only [Option.getD_some] at *
  have k1 := hA.sk
  have k2 := hA.sn
  have k3 := hA.al fl
  have k5 := hA.ro
  have k4 := hA.ne
  have h8 := H.h8 hh1.1 hh1.2
  have lh := H.lh hh1.1 hh1.2
  have st8 := (steps_spec H.1 H.2.1 h8).1
  have ha := H.1.air H.2.1 h8
  have e3 := lh.2.2.1
  have e5 := lh.2.2.2.2.1
  refine ⟨rfl, ?_⟩
  show mWp _ _ _ _ _ _ kX9_weigh_0 [some (mR (some 130)), some (mI hh), some (mR (some a)), none] [] I
  have hfin : ∀ (c ch w k r co : Int), c = ctS t (I a) b hh → ch = chS t (I a) b hh → w = woS t (I a) b hh c → k = spS t (I a) b hh c → r = rnS t (I a) b hh c → co = priceT (t 3) ch r → Q (.inl none) (mSet (mSet (uM (mSet (mSet I 130 3 c) 130 4 ch) w k) 130 7 r) 130 8 co) := fun c ch w k r co e1 e2 e3 e4 e5 e6 => by
    have hJ := h (mSet (mSet (uM (mSet (mSet I 130 3 c) 130 4 ch) w k) 130 7 r) 130 8 co) (by rw [← e1]; simp [uM, mSet]) (by rw [← e2]; simp [uM, mSet]) (by rw [← e1, ← e3]; simp [uM, mSet]) (by rw [← e1, ← e4]; simp [uM, mSet]) (by rw [← e1, ← e5]; simp [uM, mSet]) (by unfold coS; rw [← e1, ← e5, ← e2, ← e6]; simp [mSet])
    rw [fr_of (fun i hi => by unfold uM; rw [set_ne (by omega), set_ne (by omega), set_ne (by omega), set_ne (by omega), set_ne (by omega), set_ne (by omega)])] at hJ
    exact hJ
  clear h
  have g3 := H.2.2.2.2 3 (by omega) (by omega)
  by_cases hi : 1 ≤ airT t b hh ∧ airT t b hh ≤ stepsT t b hh
  · have lk := (lh.2.2.2.2.2 (airT t b hh) hi.1 hi.2).1
    have cl := cell_in H.1 H.2.1 h8 (k := airT t b hh) ⟨by omega, hi.2⟩
    have sb := soonT_bd (I a) (pcT t) (cellT t b hh (airT t b hh)) (tickT t b hh (airT t b hh)) (-1)
    have ec : soonT (I a) (pcT t) (cellT t b hh (airT t b hh)) (tickT t b hh (airT t b hh)) (-1) = ctS t (I a) b hh := by
      unfold ctS catcherT
      rw [if_pos hi]
    rw [ec] at sb
    have wf := wg_facts H.1 (I a) (ctS t (I a) b hh) H.2.1 h8
    have eK : stopT (I a) (pcT t) (cellT t b hh) (tickT t b hh) (airT t b hh) (stepsT t b hh) (ctS t (I a) b hh) = spS t (I a) b hh (ctS t (I a) b hh) := rfl
    have eW : whoT (I a) (pcT t) (cellT t b hh) (tickT t b hh) (spS t (I a) b hh (ctS t (I a) b hh)) (ctS t (I a) b hh) = woS t (I a) b hh (ctS t (I a) b hh) := rfl
    by_cases z : ctS t (I a) b hh = -1
    · have ech : chS t (I a) b hh = 0 := by
        have e : chS t (I a) b hh = if ctS t (I a) b hh = -1 then 0 else handsT (hdT t) (prT t) (I a) (ctS t (I a) b hh) (cellT t b hh (airT t b hh)) := rfl
        rw [e, if_pos z]
      rw [z] at wf eK eW
      rw [z] at hfin
      have hfin := fun w k r co => hfin (-1) 0 w k r co rfl ech.symm
      generalize hK : spS t (I a) b hh (-1) = K at *
      generalize hW : woS t (I a) b hh (-1) = W at *
      simp only [false_and, and_false, true_or, or_true, false_or, or_false, true_and, and_true, true_implies, false_implies, implies_true, not_true_eq_false, not_false_eq_true, and_self, List.length_cons, List.length_nil, mNoCut_, mCat_n, mCat_I, mCat_L, mCat_R, mIsL_n, mIsL_I, mIsL_R, mIsL_L, Nat.reduceAdd, Nat.reduceSub, Nat.reduceLeDiff, Nat.reduceLT, Nat.reduceEqDiff, Nat.zero_le, Int.reduceEq, Int.reduceLT, Int.reduceLE, Int.reduceNeg, Int.reduceAdd, if_true, if_false, reduceIte, reduceCtorEq, Bool.false_eq_true, ne_eq, qCmp_0, qCmp_1, qCmp_2, qCmp_3, qCmp_4, qCmp_5, ib_0, ib_1, ib_2, lb_0, lb_1, lb_2, dv_0, dv_1, wq_ic, wq_ld_i, wq_ld_a, wq_st_i, wq_icmp, wq_if, wq_goto, wq_get, mGet_0, mGet_1, mGet_2, mGet_3, wq_putI, wq_putL, wq_ald, wq_ret0, wq_ret1, wq_ret2, wq_ret3, wq_ret4, ldR0, fk_9_2, ldI1, fk_0_5, wq_callV3_0, stI3, wq_callV2_0, ldR2, mrg_m1_, wq_callV5_0, fk_9_3, mrg_0_, ldI3, wq_callS2_3, fk_9_4, wq_callV4_0, fk_9_5, fk_9_6, fk_9_7, fk_9_8, mPut_s, mPut_I0, mPut_R0, mPut_L0, mPut_I1, mPut_R1, mPut_L1, mGo_n, sfxX9_weigh_49, cutX9_weigh_49, sfxX9_weigh_50, cutX9_weigh_50, sfxX9_weigh_66, cutX9_weigh_66, sfxX9_weigh_84, cutX9_weigh_84, kX9_weigh_84, kX9_weigh_66, kX9_weigh_50, kX9_weigh_49, kX9_weigh_0, sk_120, al_120, rf_120_5, sk_123, al_123, sn_123, sk_130, al_130, rf_130_2, ald_n, ro0_n, al_ro, SX9_weigh_0, SX9_weigh_1, SX9_weigh_2, SX9_weigh_3, SX9_weigh_4, SX9_weigh_5, SX9_weigh_6, SX9_weigh_7, shqRII_, shqRI_, shqRIIRI_, shqII_, shqRIRI_, shqRIII_, spX0_cellAt, spX0_isHigh, spX9_firstAt, spX10_apart, spX9_chanceAt, spX9_findStop, spX9_runsBy, spX9_price, mrg, mrl, mSet_ap, ncast, Option.some.injEq, k1, k2, k3, k5, Option.getD_some, uM_5, uM_6, uM_a5, uM_a6, uM_ne, uM_o, k4, ctxU_u, ctxU_set, set_ne, e3, e5, ec, eK, eW, z, g3]
      (try simp only [mrg, mrl] at *) <;> repeat' (first | (with_reducible assumption) | (with_reducible apply And.intro) | intro _ | (refine Exists.intro t (Exists.intro b ?_)) | fail)
      all_goals (try simp only [ec, z, eK, eW] at *)
      all_goals first | omega | exact absurd trivial (by assumption) | assumption | exact hB _ (by assumption) (by assumption) | exact (hB _ (by assumption) (by assumption)).1 | exact (hB _ (by assumption) (by assumption)).2 | exact hfin _ _ _ _ rfl rfl wf.2.2.2 rfl | exact absurd hi (by omega) | skip
    · have ech : chS t (I a) b hh = max 0 (hdT t (ctS t (I a) b hh) - prT t (ctS t (I a) b hh) * far (I a (ctS t (I a) b hh)) (cellT t b hh (airT t b hh))) := by
        have e : chS t (I a) b hh = if ctS t (I a) b hh = -1 then 0 else handsT (hdT t) (prT t) (I a) (ctS t (I a) b hh) (cellT t b hh (airT t b hh)) := rfl
        rw [e, if_neg z]
        rfl
      have hBc := hB (ctS t (I a) b hh) (by omega) (by omega)
      have sb3 := sb.2.2 z
      have pp := H.2.2.2.1 (ctS t (I a) b hh) (by omega) (by omega)
      have fl1 := H.1.fld (f := ctS t (I a) b hh) ⟨by omega, by omega⟩
      have f1 := far_bd (a := I a (ctS t (I a) b hh)) ⟨by omega, by omega⟩ cl
      have p1 := prod_bd (x := prT t (ctS t (I a) b hh)) (a := 50) ⟨by omega, by omega⟩ f1
      have p22 := pp.2.1
      have p23 := pp.2.2.1
      have hfin := fun w k r co => hfin _ _ w k r co rfl ech.symm
      have sb1 := sb.1
      have sb2 := sb.2.1
      have sb4 := sb3.1
      clear pp sb sb3
      generalize hK : spS t (I a) b hh (ctS t (I a) b hh) = K at *
      generalize hW : woS t (I a) b hh (ctS t (I a) b hh) = W at *
      generalize hP : prT t (ctS t (I a) b hh) * far (I a (ctS t (I a) b hh)) (cellT t b hh (airT t b hh)) = P at *
      simp only [false_and, and_false, true_or, or_true, false_or, or_false, true_and, and_true, true_implies, false_implies, implies_true, not_true_eq_false, not_false_eq_true, and_self, List.length_cons, List.length_nil, mNoCut_, mCat_n, mCat_I, mCat_L, mCat_R, mIsL_n, mIsL_I, mIsL_R, mIsL_L, Nat.reduceAdd, Nat.reduceSub, Nat.reduceLeDiff, Nat.reduceLT, Nat.reduceEqDiff, Nat.zero_le, Int.reduceEq, Int.reduceLT, Int.reduceLE, Int.reduceNeg, Int.reduceAdd, if_true, if_false, reduceIte, reduceCtorEq, Bool.false_eq_true, ne_eq, qCmp_0, qCmp_1, qCmp_2, qCmp_3, qCmp_4, qCmp_5, ib_0, ib_1, ib_2, lb_0, lb_1, lb_2, dv_0, dv_1, wq_ic, wq_ld_i, wq_ld_a, wq_st_i, wq_icmp, wq_if, wq_goto, wq_get, mGet_0, mGet_1, mGet_2, mGet_3, wq_putI, wq_putL, wq_ald, wq_ret0, wq_ret1, wq_ret2, wq_ret3, wq_ret4, ldR0, fk_9_2, ldI1, fk_0_5, wq_callV3_0, stI3, wq_callV2_0, ldR2, mrg_m1_, wq_callV5_0, fk_9_3, mrg_0_, ldI3, wq_callS2_3, fk_9_4, wq_callV4_0, fk_9_5, fk_9_6, fk_9_7, fk_9_8, mPut_s, mPut_I0, mPut_R0, mPut_L0, mPut_I1, mPut_R1, mPut_L1, mGo_n, sfxX9_weigh_49, cutX9_weigh_49, sfxX9_weigh_50, cutX9_weigh_50, sfxX9_weigh_66, cutX9_weigh_66, sfxX9_weigh_84, cutX9_weigh_84, kX9_weigh_84, kX9_weigh_66, kX9_weigh_50, kX9_weigh_49, kX9_weigh_0, sk_120, al_120, rf_120_5, sk_123, al_123, sn_123, sk_130, al_130, rf_130_2, ald_n, ro0_n, al_ro, SX9_weigh_0, SX9_weigh_1, SX9_weigh_2, SX9_weigh_3, SX9_weigh_4, SX9_weigh_5, SX9_weigh_6, SX9_weigh_7, shqRII_, shqRI_, shqRIIRI_, shqII_, shqRIRI_, shqRIII_, spX0_cellAt, spX0_isHigh, spX9_firstAt, spX10_apart, spX9_chanceAt, spX9_findStop, spX9_runsBy, spX9_price, mrg, mrl, mSet_ap, ncast, Option.some.injEq, k1, k2, k3, k5, Option.getD_some, uM_5, uM_6, uM_a5, uM_a6, uM_ne, uM_o, k4, ctxU_u, ctxU_set, set_ne, e3, e5, ec, eK, eW, g3, lk, p22, p23, hP]
      (try simp only [mrg, mrl] at *) <;> repeat' (first | (with_reducible assumption) | (with_reducible apply And.intro) | intro _ | (refine Exists.intro t (Exists.intro b ?_)) | fail)
      all_goals (try simp only [ec, eK, eW, lk, p22, p23, hP] at *)
      all_goals first | omega | assumption | exact hB _ (by assumption) (by assumption) | exact (hB _ (by assumption) (by assumption)).1 | exact (hB _ (by assumption) (by assumption)).2 | exact hfin _ _ _ _ rfl rfl wf.2.2.2 rfl | exact absurd hi (by omega) | skip
  · have ec : ctS t (I a) b hh = -1 := by
      unfold ctS catcherT
      rw [if_neg hi]
    have wf := wg_facts H.1 (I a) (-1) H.2.1 h8
    have eK : stopT (I a) (pcT t) (cellT t b hh) (tickT t b hh) (airT t b hh) (stepsT t b hh) (-1) = spS t (I a) b hh (-1) := rfl
    have eW : whoT (I a) (pcT t) (cellT t b hh) (tickT t b hh) (spS t (I a) b hh (-1)) (-1) = woS t (I a) b hh (-1) := rfl
    have ech : chS t (I a) b hh = 0 := by
      have e : chS t (I a) b hh = if ctS t (I a) b hh = -1 then 0 else handsT (hdT t) (prT t) (I a) (ctS t (I a) b hh) (cellT t b hh (airT t b hh)) := rfl
      rw [e, if_pos ec]
    rw [ec] at hfin
    have hfin := fun w k r co => hfin (-1) 0 w k r co rfl ech.symm
    generalize hK : spS t (I a) b hh (-1) = K at *
    generalize hW : woS t (I a) b hh (-1) = W at *
    simp only [false_and, and_false, true_or, or_true, false_or, or_false, true_and, and_true, true_implies, false_implies, implies_true, not_true_eq_false, not_false_eq_true, and_self, List.length_cons, List.length_nil, mNoCut_, mCat_n, mCat_I, mCat_L, mCat_R, mIsL_n, mIsL_I, mIsL_R, mIsL_L, Nat.reduceAdd, Nat.reduceSub, Nat.reduceLeDiff, Nat.reduceLT, Nat.reduceEqDiff, Nat.zero_le, Int.reduceEq, Int.reduceLT, Int.reduceLE, Int.reduceNeg, Int.reduceAdd, if_true, if_false, reduceIte, reduceCtorEq, Bool.false_eq_true, ne_eq, qCmp_0, qCmp_1, qCmp_2, qCmp_3, qCmp_4, qCmp_5, ib_0, ib_1, ib_2, lb_0, lb_1, lb_2, dv_0, dv_1, wq_ic, wq_ld_i, wq_ld_a, wq_st_i, wq_icmp, wq_if, wq_goto, wq_get, mGet_0, mGet_1, mGet_2, mGet_3, wq_putI, wq_putL, wq_ald, wq_ret0, wq_ret1, wq_ret2, wq_ret3, wq_ret4, ldR0, fk_9_2, ldI1, fk_0_5, wq_callV3_0, stI3, wq_callV2_0, ldR2, mrg_m1_, wq_callV5_0, fk_9_3, mrg_0_, ldI3, wq_callS2_3, fk_9_4, wq_callV4_0, fk_9_5, fk_9_6, fk_9_7, fk_9_8, mPut_s, mPut_I0, mPut_R0, mPut_L0, mPut_I1, mPut_R1, mPut_L1, mGo_n, sfxX9_weigh_49, cutX9_weigh_49, sfxX9_weigh_50, cutX9_weigh_50, sfxX9_weigh_66, cutX9_weigh_66, sfxX9_weigh_84, cutX9_weigh_84, kX9_weigh_84, kX9_weigh_66, kX9_weigh_50, kX9_weigh_49, kX9_weigh_0, sk_120, al_120, rf_120_5, sk_123, al_123, sn_123, sk_130, al_130, rf_130_2, ald_n, ro0_n, al_ro, SX9_weigh_0, SX9_weigh_1, SX9_weigh_2, SX9_weigh_3, SX9_weigh_4, SX9_weigh_5, SX9_weigh_6, SX9_weigh_7, shqRII_, shqRI_, shqRIIRI_, shqII_, shqRIRI_, shqRIII_, spX0_cellAt, spX0_isHigh, spX9_firstAt, spX10_apart, spX9_chanceAt, spX9_findStop, spX9_runsBy, spX9_price, mrg, mrl, mSet_ap, ncast, Option.some.injEq, k1, k2, k3, k5, Option.getD_some, uM_5, uM_6, uM_a5, uM_a6, uM_ne, uM_o, k4, ctxU_u, ctxU_set, set_ne, e3, e5, eK, eW, g3]
    (try simp only [mrg, mrl] at *) <;> repeat' (first | (with_reducible assumption) | (with_reducible apply And.intro) | intro _ | (refine Exists.intro t (Exists.intro b ?_)) | fail)
    all_goals (try simp only [eK, eW] at *)
    all_goals first | omega | assumption | exact hB _ (by assumption) (by assumption) | exact (hB _ (by assumption) (by assumption)).1 | exact (hB _ (by assumption) (by assumption)).2 | exact hfin _ _ _ _ rfl rfl wf.2.2.2 rfl | exact absurd (by assumption) hi | skip
theorem ctrX9_weigh {l : Launch} (hst : l.stackTraces = false) (hT : mTxM l) : mCtr l calX9_weigh spX9_weigh :=
  mMet0 (T := TX9_weigh) (S := SX9_weigh) hst hT (by decide) okX9_weigh ⟨_, _, rfl, rfl⟩ (fun a => match a with
    | 0 => ctrX0_cellAt hst hT
    | 1 => ctrX0_isHigh hst hT
    | 2 => ctrX9_firstAt hst hT
    | 3 => ctrX10_apart hst hT
    | 4 => ctrX9_chanceAt hst hT
    | 5 => ctrX9_findStop hst hT
    | 6 => ctrX9_runsBy hst hT
    | 7 => ctrX9_price hst hT
    | _ + 8 => mCtr_no) vcX9_weigh

end SPC5
