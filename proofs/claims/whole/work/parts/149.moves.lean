/-! moves, drop, run -/
theorem stI_inj {c v : Nat} (hc : c < 100) (hv : v < 100) : (stI c = stI v) = (c = v) := by
  apply propext
  constructor
  · intro e
    cases c with
    | zero =>
      rw [stI_0] at e
      exact ((stI_m1 hv).mp e.symm).symm
    | succ c =>
      cases v with
      | zero => rw [stI_0] at e; exact absurd ((stI_m1 hc).mp e) (by omega)
      | succ v =>
        rw [stI_s, stI_s] at e
        have := (nI_eq (by omega) (by omega)).mp e
        omega
  · intro e; rw [e]
theorem xI_comm {S : St} {f1 r1 c1 f2 r2 c2 : Nat} {v1 v2 : Int32} (h : f1 ≠ f2) : xI (xI S f1 r1 c1 v1) f2 r2 c2 v2 = xI (xI S f2 r2 c2 v2) f1 r1 c1 v1 := by
  unfold xI
  refine Prod.ext ?_ rfl
  funext f r c
  show (if f = f2 ∧ r = r2 ∧ c = c2 then v2 else if f = f1 ∧ r = r1 ∧ c = c1 then v1 else S.1 f r c) = (if f = f1 ∧ r = r1 ∧ c = c1 then v1 else if f = f2 ∧ r = r2 ∧ c = c2 then v2 else S.1 f r c)
  by_cases e : f = f2 ∧ r = r2 ∧ c = c2
  · rw [if_pos e, if_neg (fun q => h (q.1.symm.trans e.1)), if_pos e]
  · rw [if_neg e, if_neg e]
/-- a work's start becomes another one: a notice, PLANNED, moved -/
def mvB (a : Ab) (w v : Nat) : Ab := ntA (uA (uA (uA a 13 w 0 v) 12 w 0 0) 14 w 0 1) w v
def mvA (a : Ab) (w v : Nat) : Ab := if a 13 w 0 = v then a else mvB a w v
theorem mvB_f {a : Ab} {w v f r c : Nat} (h : f ≠ 13) (h1 : f ≠ 12) (h2 : f ≠ 14) (h3 : f ≠ 15) (h4 : f ≠ 16) (h5 : f ≠ 17) : mvB a w v f r c = a f r c := by
  unfold mvB; rw [ntA_f h3 h4 h5, uA_f h2, uA_f h1, uA_f h]
theorem mvA_f {a : Ab} {w v f r c : Nat} (h : f ≠ 13) (h1 : f ≠ 12) (h2 : f ≠ 14) (h3 : f ≠ 15) (h4 : f ≠ 16) (h5 : f ≠ 17) : mvA a w v f r c = a f r c := by
  unfold mvA; split
  · rfl
  · exact mvB_f h h1 h2 h3 h4 h5
theorem mvB_13 {a : Ab} {w v w1 : Nat} : mvB a w v 13 w1 0 = if w1 = w then v else a 13 w1 0 := by
  unfold mvB; rw [ntA_f (by decide) (by decide) (by decide), uA_f (by decide), uA_f (by decide)]
  by_cases e : w1 = w
  · subst e; rw [uA_same, if_pos rfl]
  · rw [uA_r e, if_neg e]
theorem mvA_13 {a : Ab} {w v w1 : Nat} : mvA a w v 13 w1 0 = if w1 = w then v else a 13 w1 0 := by
  unfold mvA
  by_cases h : a 13 w 0 = v
  · rw [if_pos h]
    by_cases e : w1 = w
    · subst e; rw [if_pos rfl]; exact h
    · rw [if_neg e]
  · rw [if_neg h]; exact mvB_13
theorem mvB_12 {a : Ab} {w v w1 : Nat} : mvB a w v 12 w1 0 = if w1 = w then 0 else a 12 w1 0 := by
  unfold mvB; rw [ntA_f (by decide) (by decide) (by decide), uA_f (by decide)]
  by_cases e : w1 = w
  · subst e; rw [uA_same, if_pos rfl]
  · rw [uA_r e, uA_f (by decide), if_neg e]
theorem mvB_14 {a : Ab} {w v w1 : Nat} : mvB a w v 14 w1 0 = if w1 = w then 1 else a 14 w1 0 := by
  unfold mvB; rw [ntA_f (by decide) (by decide) (by decide)]
  by_cases e : w1 = w
  · subst e; rw [uA_same, if_pos rfl]
  · rw [uA_r e, uA_f (by decide), uA_f (by decide), if_neg e]
theorem mvB_15 {a : Ab} {w v : Nat} : mvB a w v 15 0 0 = a 15 0 0 + 1 := by
  unfold mvB ntA; rw [uA_same, uA_f (by decide), uA_f (by decide), uA_f (by decide)]
theorem mvA_15 {a : Ab} {w v : Nat} : mvA a w v 15 0 0 ≤ a 15 0 0 + 1 := by
  unfold mvA; split
  · omega
  · rw [mvB_15]; exact Nat.le_refl _
theorem iv_mvB {N : Nat} {a : Ab} (h : Inv N a) {w v : Nat} (hw : w < a 1 0 0) (hb : a 15 0 0 + 1 ≤ 4 * N) (hv : v ≤ 36) (hfit : v ≠ 0 → v + sp a w ≤ a 0 0 0 + 1) : Inv N (mvB a w v) := by
  have hf : ∀ f r c, f ≠ 13 → f ≠ 12 → f ≠ 14 → f ≠ 15 → f ≠ 16 → f ≠ 17 → mvB a w v f r c = a f r c := fun f r c h1 h2 h3 h4 h5 h6 => mvB_f h1 h2 h3 h4 h5 h6
  have e0 := hf 0 0 0 (by decide) (by decide) (by decide) (by decide) (by decide) (by decide)
  have e1 := hf 1 0 0 (by decide) (by decide) (by decide) (by decide) (by decide) (by decide)
  obtain ⟨h1, h2, h3, h4, h5, h6, h7, h8, h9⟩ := h
  unfold Inv
  rw [e0, e1]
  refine ⟨h1, h2, h3, fun w1 hw1 => ?_, fun w1 hw1 => ?_, fun w1 hm hw1 => ?_, fun c hc => ?_, ?_, ?_⟩
  · obtain ⟨q0, q1, q2, q3, q4⟩ := h4 w1 hw1
    unfold InvM
    rw [e0, hf 2 w1 0 (by decide) (by decide) (by decide) (by decide) (by decide) (by decide), hf 3 w1 0 (by decide) (by decide) (by decide) (by decide) (by decide) (by decide), mvB_13, mvB_12]
    refine ⟨q0, q1, q2, ?_, ?_⟩
    · by_cases e : w1 = w
      · subst e; rw [if_pos rfl]; intro q; have := hfit q; unfold sp at this; omega
      · rw [if_neg e]; exact q3
    · by_cases e : w1 = w
      · rw [if_pos e, if_pos e]; intro q; omega
      · rw [if_neg e, if_neg e]; exact q4
  · obtain ⟨q0, q1, q2, q3, q4, q5, q6, q7, q8, q9⟩ := h5 w1 hw1
    unfold InvW
    rw [hf 6 w1 0 (by decide) (by decide) (by decide) (by decide) (by decide) (by decide), hf 10 w1 0 (by decide) (by decide) (by decide) (by decide) (by decide) (by decide), hf 8 w1 0 (by decide) (by decide) (by decide) (by decide) (by decide) (by decide), hf 9 w1 0 (by decide) (by decide) (by decide) (by decide) (by decide) (by decide), mvB_13, mvB_12, mvB_14]
    refine ⟨q0, q1, ?_, ?_, q4, q5, ?_, fun v2 hv2 => ?_, fun h hh => ?_, fun h hh => ?_⟩
    · split <;> omega
    · split <;> omega
    · split <;> omega
    · rw [hf 4 w1 v2 (by decide) (by decide) (by decide) (by decide) (by decide) (by decide), hf 4 v2 w1 (by decide) (by decide) (by decide) (by decide) (by decide) (by decide)]; exact q7 v2 hv2
    · rw [hf 5 w1 h (by decide) (by decide) (by decide) (by decide) (by decide) (by decide)]; exact q8 h hh
    · rw [hf 7 w1 h (by decide) (by decide) (by decide) (by decide) (by decide) (by decide)]; exact q9 h hh
  · obtain ⟨q0, q1, q2, q3, q4⟩ := h6 w1 hm hw1
    have e : w1 ≠ w := by omega
    unfold InvN
    rw [hf 10 w1 0 (by decide) (by decide) (by decide) (by decide) (by decide) (by decide), hf 8 w1 0 (by decide) (by decide) (by decide) (by decide) (by decide) (by decide), hf 9 w1 0 (by decide) (by decide) (by decide) (by decide) (by decide) (by decide), mvB_13, mvB_12, if_neg e, if_neg e]
    exact ⟨q0, q1, q2, q3, q4⟩
  · rw [hf 11 0 c (by decide) (by decide) (by decide) (by decide) (by decide) (by decide)]; exact h7 c hc
  · rw [mvB_15]; omega
  · rw [hf 18 0 0 (by decide) (by decide) (by decide) (by decide) (by decide) (by decide)]; exact h9
theorem iv_mvA {N : Nat} {a : Ab} (h : Inv N a) {w v : Nat} (hw : w < a 1 0 0) (hb : a 15 0 0 + 1 ≤ 4 * N) (hv : v ≤ 36) (hfit : v ≠ 0 → v + sp a w ≤ a 0 0 0 + 1) : Inv N (mvA a w v) := by
  unfold mvA; split
  · exact h
  · exact iv_mvB h hw hb hv hfit
/-- one more notice, in the class -/
theorem write_C {a : Ab} {S : St} (hC : EncC a S) (hb : a 15 0 0 < 900000) (w v : Nat) : ∃ S2, f_X0_write S (nI w) (stI v) = some S2 ∧ EncC (ntA a w v) S2 := by
  have h13 := hC.2.2.2.2.2.2.1
  obtain ⟨h0, h1, h2, h3, hW, h12, -, hN⟩ := hC
  have hk : (if (1000000 : Int32) < nI (a 15 0 0) + 1 then 1000000 else nI (a 15 0 0) + 1) = nI (a 15 0 0 + 1) := by
    rw [nI_1]; exact if_neg (nI_nlt (a := 1000000) (b := a 15 0 0 + 1) (by omega) (by omega))
  have e15 : ntA a w v 15 0 0 = a 15 0 0 + 1 := by unfold ntA; rw [uA_same]
  have e16 : ∀ k, ntA a w v 16 0 k = if k = a 15 0 0 then w else a 16 0 k := fun k => by
    unfold ntA
    by_cases e : k = a 15 0 0
    · rw [if_pos e, uA_f (by decide), uA_f (by decide), e, uA_same]
    · rw [if_neg e, uA_f (by decide), uA_f (by decide), uA_c e]
  have e17 : ∀ k, ntA a w v 17 0 k = if k = a 15 0 0 then v else a 17 0 k := fun k => by
    unfold ntA
    by_cases e : k = a 15 0 0
    · rw [if_pos e, uA_f (by decide), e, uA_same]
    · rw [if_neg e, uA_f (by decide), uA_c e, uA_f (by decide)]
  unfold f_X0_write f_X0_write_L30
  by_cases c : 200 ≤ a 15 0 0
  · rw [h13, if_pos (show (200 : Int32) ≤ nI (a 15 0 0) from nI_le (a := 200) c (by omega)), hk]
    refine ⟨_, rfl, h0, h1, h2, h3, hW, h12, ?_, fun k hk1 hk2 => ?_⟩
    · rw [xI_same, e15]
    · rw [e16, e17, if_neg (by omega), if_neg (by omega)]
      exact hN k hk1 (by omega)
  · rw [h13, if_neg (show ¬ (200 : Int32) ≤ nI (a 15 0 0) from nI_ge (b := 200) (by omega) (by omega))]
    simp only [cI (show a 15 0 0 < 100000 by omega), gIn (show a 15 0 0 < 200 by omega) (by decide), if_false]
    have ex : (xI (xI S 14 0 (a 15 0 0) (nI w)) 15 0 (a 15 0 0) (stI v)).1 13 0 0 = nI (a 15 0 0) := h13
    rw [ex, hk]
    refine ⟨_, rfl, h0, h1, h2, h3, hW, h12, ?_, fun k hk1 hk2 => ?_⟩
    · rw [xI_same, e15]
    · rw [e16, e17]
      by_cases e : k = a 15 0 0
      · rw [if_pos e, if_pos e, e]
        exact ⟨by rw [xI_f (by decide), xI_f (by decide), xI_same], by rw [xI_f (by decide), xI_same]⟩
      · rw [if_neg e, if_neg e]
        rw [e15] at hk2
        obtain ⟨q1, q2⟩ := hN k hk1 (by omega)
        exact ⟨by rw [xI_f (by decide), xI_f (by decide), xI_c e]; exact q1, by rw [xI_f (by decide), xI_c e, xI_f (by decide)]; exact q2⟩
theorem put_C {N : Nat} {a : Ab} {S : St} (hI : Inv N a) (hC : EncC a S) {w v : Nat} (hw : w < 4) (hv : v ≤ 36) (hb : a 15 0 0 < 900000) : ∃ S2, f_X3_putAt S (nI w) (stI v) = some S2 ∧ EncC (mvA a w v) S2 := by
  have h13 := st13 hI hw
  unfold f_X3_putAt mvA
  have k : (stI (a 13 w 0) = stI v) = (a 13 w 0 = v) := stI_inj (by omega) (by omega)
  simp only [cI (show w < 100000 by omega), gI4 hw, if_false, (encW hC hw).2.2.2.2.2.2.2.1, k]
  by_cases c : a 13 w 0 = v
  · rw [if_pos c, if_pos c]; exact ⟨S, rfl, hC⟩
  · rw [if_neg c, if_neg c]
    obtain ⟨y, ey, hy⟩ := withBit_of (Int32.toInt64 (S.1 2 0 0)) (i := w) (by omega) 1
    have ey : f_X3_withBit (Int32.toInt64 (S.1 2 0 0)) (nI w) 1 = some y := ey
    simp only [ey, Option.bind_some]
    have h1 := eC_moved (eC_state (eC_start hC w v) w 0) w 1 (Int64.toInt32 y) (fun j hj => by
      rw [bt_i2l (by omega), hy j (by omega)]; rfl)
    obtain ⟨S2, e2, h2⟩ := write_C h1 (by show a 15 0 0 < 900000; exact hb) w v
    exact ⟨S2, by rw [show xI (xI (xI S 9 w 0 (stI v)) 10 w 0 0) 2 0 0 (Int64.toInt32 y) = xI (xI (xI S 9 w 0 (stI v)) 10 w 0 (nI 0)) 2 0 0 (Int64.toInt32 y) from rfl, e2]; rfl, h2⟩
theorem eM_note {a : Ab} {T : St} (hM : EncM a T) (w v : Nat) (c : 200 ≤ a 15 0 0) : EncM (ntA a w v) (xI T 21 0 0 (nI (a 15 0 0 + 1))) := by
  obtain ⟨h0, h1, h2, h3, h4, h5, h6, h7⟩ := hM
  have e15 : ntA a w v 15 0 0 = a 15 0 0 + 1 := by unfold ntA; rw [uA_same]
  refine ⟨h0, h1, h2, h3, h4, by rw [xI_same, e15], fun k hk1 hk2 => ?_, h7⟩
  have e16 : ntA a w v 16 0 k = a 16 0 k := by unfold ntA; rw [uA_f (by decide), uA_f (by decide), uA_c (by omega)]
  have e17 : ntA a w v 17 0 k = a 17 0 k := by unfold ntA; rw [uA_f (by decide), uA_c (by omega), uA_f (by decide)]
  rw [e16, e17]; exact h6 k hk1 (by omega)
theorem eM_note2 {a : Ab} {T : St} (hM : EncM a T) (w v : Nat) : EncM (ntA a w v) (xI (xI (xI T 22 0 (a 15 0 0) (nI w)) 23 0 (a 15 0 0) (stI v)) 21 0 0 (nI (a 15 0 0 + 1))) := by
  obtain ⟨h0, h1, h2, h3, h4, h5, h6, h7⟩ := hM
  have e15 : ntA a w v 15 0 0 = a 15 0 0 + 1 := by unfold ntA; rw [uA_same]
  refine ⟨h0, h1, h2, h3, h4, by rw [xI_same, e15], fun k hk1 hk2 => ?_, h7⟩
  rw [e15] at hk2
  by_cases e : k = a 15 0 0
  · have e16 : ntA a w v 16 0 k = w := by unfold ntA; rw [uA_f (by decide), uA_f (by decide), e, uA_same]
    have e17 : ntA a w v 17 0 k = v := by unfold ntA; rw [uA_f (by decide), e, uA_same]
    rw [e16, e17, e]
    exact ⟨by rw [xI_f (by decide), xI_f (by decide), xI_same], by rw [xI_f (by decide), xI_same]⟩
  · have e16 : ntA a w v 16 0 k = a 16 0 k := by unfold ntA; rw [uA_f (by decide), uA_f (by decide), uA_c e]
    have e17 : ntA a w v 17 0 k = a 17 0 k := by unfold ntA; rw [uA_f (by decide), uA_c e, uA_f (by decide)]
    rw [e16, e17]
    obtain ⟨q1, q2⟩ := h6 k hk1 (by omega)
    exact ⟨by rw [xI_f (by decide), xI_f (by decide), xI_c e]; exact q1, by rw [xI_f (by decide), xI_c e, xI_f (by decide)]; exact q2⟩
theorem move_M {N : Nat} {a : Ab} {T : St} (hI : Inv N a) (hM : EncM a T) {w v : Nat} (hw : w < a 1 0 0) (hv : v ≤ 36) (hb : a 15 0 0 < 90000) : ∃ T2, f_X4_move T (nI w) (stI v) = some T2 ∧ EncM (mvA a w v) T2 := by
  have h4 := hI.2.2.1
  have hw4 : w < 4 := by omega
  have h13 := st13 hI hw4
  unfold f_X4_move mvA
  have k : (stI (a 13 w 0) = stI v) = (a 13 w 0 = v) := stI_inj (by omega) (by omega)
  have m21 := hM.2.2.2.2.2.1
  simp only [cI (show w < 100000 by omega), gI4 hw4, if_false, (hM.2.2.1 w hw).2.2.2.2.2, k, m21, nar1, nI_1]
  by_cases c : a 13 w 0 = v
  · rw [if_pos c, if_pos c]; exact ⟨T, rfl, hM⟩
  · rw [if_neg c, if_neg c]
    have h1 := eM_moved (eM_state (eM_start hM w v) w 0) w 1
    by_cases c2 : 200 ≤ a 15 0 0
    · rw [if_pos (show (200 : Int32) ≤ nI (a 15 0 0) from nI_le (a := 200) c2 (by omega))]
      have := eM_note h1 w v c2
      refine ⟨_, rfl, ?_⟩
      have e : xI (xI (xI (xI T 13 0 w (stI v)) 20 0 w (nI 1)) 12 0 w 0) 21 0 0 (nI (a 15 0 0 + 1)) = xI (xI (xI (xI T 13 0 w (stI v)) 12 0 w (nI 0)) 20 0 w (nI 1)) 21 0 0 (nI (a 15 0 0 + 1)) := by
        rw [xI_comm (f1 := 20) (f2 := 12) (by decide)]; rfl
      rw [e]; exact this
    · rw [if_neg (show ¬ (200 : Int32) ≤ nI (a 15 0 0) from nI_ge (b := 200) (by omega) (by omega))]
      simp only [cI (show a 15 0 0 < 100000 by omega), gIn (show a 15 0 0 < 200 by omega) (by decide), if_false]
      have := eM_note2 h1 w v
      refine ⟨_, rfl, ?_⟩
      have e : xI (xI (xI T 13 0 w (stI v)) 20 0 w (nI 1)) 12 0 w 0 = xI (xI (xI T 13 0 w (stI v)) 12 0 w (nI 0)) 20 0 w (nI 1) := by
        rw [xI_comm (f1 := 20) (f2 := 12) (by decide)]; rfl
      rw [e]; exact this
theorem begin_M {a : Ab} {T : St} (hM : EncM a T) : ∃ T2, f_X4_beginMoves T = some T2 ∧ EncM (clA a) T2 := by
  unfold f_X4_beginMoves
  refine ⟨xI (xI (xI (xI T 20 0 0 (nI 0)) 20 0 1 (nI 0)) 20 0 2 (nI 0)) 20 0 3 (nI 0), ?_, eM_moved (eM_moved (eM_moved (eM_moved hM 0 0) 1 0) 2 0) 3 0⟩
  have st : ∀ (k : St → Option St) (m : Nat) (U : St) (w : Nat), w < 4 → f_X4_beginMoves_L2 k (m + 1) U (nI w) = f_X4_beginMoves_L2 k m (xI U 20 0 w (nI 0)) (nI (w + 1)) := by
    intro k m U w hw
    rw [u_X4_beginMoves_L2, if_neg (show ¬ (4 : Int32) ≤ nI w from nI_ge (b := 4) hw (by omega))]
    simp only [cI (show w < 100000 by omega), gI4 hw, if_false, nar0, nI_1]
  have e : f_X4_beginMoves_L2 (fun S_3 => some S_3) (995 + 1 + 1 + 1 + 1 + 1) T (nI 0) = _ := (st _ _ T 0 (by decide)).trans ((st _ _ _ 1 (by decide)).trans ((st _ _ _ 2 (by decide)).trans (st _ _ _ 3 (by decide))))
  refine e.trans ?_
  rw [u_X4_beginMoves_L2, if_pos (by decide)]
theorem iv_cl {N : Nat} {a : Ab} (h : Inv N a) : Inv N (clA a) := iv_mv (iv_mv (iv_mv (iv_mv h 0 0 (by omega)) 1 0 (by omega)) 2 0 (by omega)) 3 0 (by omega)
theorem Inv.up {n : Nat} {a : Ab} (h : Inv n a) : Inv (n + 1) a ∧ a 15 0 0 ≤ 4 * n := by
  obtain ⟨h1, h2, h3, h4, h5, h6, h7, h8, h9⟩ := h
  exact ⟨⟨h1, h2, h3, h4, h5, h6, h7, by omega, h9⟩, h8⟩
theorem st_drop : LS_drop RelA := by
  intro n S T a1 hn hR
  obtain ⟨a, hI, hC, hM⟩ := hR
  unfold f_X3_drop f_X4_drop
  rcases iw hI hC hM a1 with ⟨e1, e2⟩ | ⟨w, hw, hw4, rfl, e1, e2⟩
  · exact ⟨0, S, T, by simp [isPW0 e1], by simp [e2], rel_m n S T ⟨a, hI, hC, hM⟩⟩
  have h13 := st13 hI hw4
  have ks : (stI (a 13 w 0) = (-1)) = (a 13 w 0 = 0) := propext (stI_m1 (by omega))
  simp only [isPW hI hC hw4 e1, e2, Option.bind_some, one0, if_false, cI (show w < 100000 by omega), gI4 hw4, (hM.2.2.1 w hw).2.2.2.2.2, ks, isFx hI hC hw4, isFxM hI hM hw4]
  by_cases c1 : a 13 w 0 = 0
  · exact ⟨0, S, T, by simp [c1], by simp [c1], rel_m n S T ⟨a, hI, hC, hM⟩⟩
  simp only [if_neg c1, one0, if_false]
  by_cases c2 : 3 ≤ a 12 w 0
  · exact ⟨0, S, T, by simp [c2], by simp [c2], rel_m n S T ⟨a, hI, hC, hM⟩⟩
  simp only [if_neg c2, if_true]
  obtain ⟨hI2, hb⟩ := hI.up
  have hI3 := iv_cl hI2
  obtain ⟨T1, t1, hM1⟩ := begin_M hM
  have b15 : clA a 15 0 0 = a 15 0 0 := clA_f (by decide)
  have b1 : clA a 1 0 0 = a 1 0 0 := clA_f (by decide)
  obtain ⟨S2, s2, hC2⟩ := put_C (v := 0) hI3 (eC_clear hC) hw4 (by omega) (by omega)
  obtain ⟨T2, t2, hM2⟩ := move_M (v := 0) hI3 hM1 (by rw [b1]; exact hw) (by omega) (by omega)
  have s2 : f_X3_putAt (xI S 2 0 0 0) (nI w) (-1) = some S2 := s2
  have t2 : f_X4_move T1 (nI w) (-1) = some T2 := t2
  refine ⟨1, S2, T2, by rw [s2]; rfl, by simp only [t1, Option.bind_some, t2], ⟨_, iv_mvA hI3 (by rw [b1]; exact hw) (by omega) (by omega) (fun q => absurd rfl q), hC2, hM2⟩⟩
/-- the best start so far (0 none, else one more) and the greatest rule that was broken -/
def rN (a : Ab) (w : Nat) : Nat → Nat → Nat → Nat → Nat × Nat
  | b, g, _, 0 => (b, g)
  | b, g, s, k + 1 => rN a w (if rl a w s = 0 ∧ (b = 0 ∨ dl a w s < dl a w (b - 1)) then s + 1 else b) (if g < rl a w s then rl a w s else g) (s + 1) k
theorem rN_ok {n : Nat} {a : Ab} (hI : Inv n a) (w : Nat) : ∀ k b g s, g ≤ 6 → (b ≠ 0 → b + sp a w ≤ a 0 0 0 + 1) → s + k = a 0 0 0 → (rN a w b g s k).2 ≤ 6 ∧ ((rN a w b g s k).1 ≠ 0 → (rN a w b g s k).1 + sp a w ≤ a 0 0 0 + 1) := by
  intro k
  induction k with
  | zero => intro b g s hg hb hs; exact ⟨hg, hb⟩
  | succ k ih =>
    intro b g s hg hb hs
    rw [rN]
    have := rl_le a w s
    refine ih _ _ _ (by split <;> omega) (fun q => ?_) (by omega)
    by_cases c : rl a w s = 0 ∧ (b = 0 ∨ dl a w s < dl a w (b - 1))
    · rw [if_pos c]; have := rl_fit c.1; omega
    · rw [if_neg c] at q ⊢; exact hb q
theorem run_C {n : Nat} {a : Ab} {S : St} (hI : Inv n a) (hC : EncC a S) {w : Nat} (hw : w < a 1 0 0) (kk : St → Int32 → Int32 → Int32 → Option (Int32 × St)) : ∀ (k m b g s : Nat), g ≤ 6 → (b ≠ 0 → b + sp a w ≤ a 0 0 0 + 1) → s + k = a 0 0 0 → k < m → f_X3_run_L33 kk m S (nI w) (stI b) (nI (if b = 0 then 0 else dl a w (b - 1))) (nI g) (nI s) = kk S (nI w) (stI (rN a w b g s k).1) (nI (rN a w b g s k).2) := by
  have h4 := hI.2.2.1
  have hw4 : w < 4 := by omega
  have hn := hI.2.1
  have hsp := sp_le hI hw
  intro k
  induction k with
  | zero =>
    intro m b g s hg hb hs hm
    obtain ⟨m, rfl⟩ : ∃ q, m = q + 1 := ⟨m - 1, by omega⟩
    rw [u_X3_run_L33, hC.1, if_pos (nI_le (by omega) (by omega))]
    rfl
  | succ k ih =>
    intro m b g s hg hb hs hm
    obtain ⟨m, rfl⟩ : ∃ q, m = q + 1 := ⟨m - 1, by omega⟩
    have hr := rl_le a w s
    have eg : (if nI g < nI (rl a w s) then nI (rl a w s) else nI g) = nI (if g < rl a w s then rl a w s else g) := by
      have kk1 : (nI g < nI (rl a w s)) = (g < rl a w s) := ltI (by omega) (by omega)
      simp only [kk1]; split <;> rfl
    have hg2 : (if g < rl a w s then rl a w s else g) ≤ 6 := by split <;> omega
    have kr : (nI (rl a w s) = 0) = (rl a w s = 0) := eqI (y := 0) (by omega) (by omega)
    rw [u_X3_run_L33, hC.1, if_neg (nI_ge (by omega) (by omega)), rule_C hI hC hw (by omega), Option.bind_some, rN]
    simp only [eg, kr, cI (show w < 100000 by omega), gI4 hw4, if_false, nI_1]
    by_cases c0 : rl a w s = 0
    · have hfit := rl_fit c0
      have hd := dl_le hI hw (show s + sp a w ≤ 36 by omega)
      rw [if_pos c0, delay_C hC hw4 (by omega), Option.bind_some]
      have i1 := ih m (s + 1) _ (s + 1) hg2 (fun _ => by omega) (by omega) (by omega)
      rw [if_neg (show ¬ s + 1 = 0 by omega), Nat.add_sub_cancel, stI_s] at i1
      have kb : (stI b = (-1)) = (b = 0) := propext (stI_m1 (by
        by_cases q : b = 0
        · omega
        · have := hb q; omega))
      simp only [kb]
      by_cases c1 : b = 0
      · rw [if_pos c1, i1]
        simp only [c0, c1, true_or, and_self, if_true]
      · rw [if_neg c1]
        have hb1 := hb c1
        have hd2 := dl_le hI hw (show b - 1 + sp a w ≤ 36 by omega)
        have kd : (nI (dl a w (b - 1)) ≤ nI (dl a w s)) = (dl a w (b - 1) ≤ dl a w s) := propext (nI_leI (by omega) (by omega))
        simp only [if_neg c1, kd]
        by_cases c2 : dl a w (b - 1) ≤ dl a w s
        · have i2 := ih m b _ (s + 1) hg2 hb (by omega) (by omega)
          rw [if_neg c1] at i2
          rw [if_pos c2, i2]
          have : ¬ (rl a w s = 0 ∧ (b = 0 ∨ dl a w s < dl a w (b - 1))) := by omega
          rw [if_neg this]
        · rw [if_neg c2, i1]
          have : (rl a w s = 0 ∧ (b = 0 ∨ dl a w s < dl a w (b - 1))) := by omega
          rw [if_pos this]
    · rw [if_neg c0]
      have i2 := ih m b _ (s + 1) hg2 hb (by omega) (by omega)
      rw [i2, if_neg (fun q : rl a w s = 0 ∧ (b = 0 ∨ dl a w s < dl a w (b - 1)) => c0 q.1)]
theorem run_M {n : Nat} {a : Ab} {T : St} (hI : Inv n a) (hM : EncM a T) {w : Nat} (hw : w < a 1 0 0) (kk : St → Int32 → Int32 → Int32 → Option (Int32 × St)) : ∀ (k m b g s : Nat), g ≤ 6 → (b ≠ 0 → b + sp a w ≤ a 0 0 0 + 1) → s + k = a 0 0 0 → k < m → f_X4_run_L26 kk m T (nI w) (stI b) (nI g) (nI s) = kk T (nI w) (stI (rN a w b g s k).1) (nI (rN a w b g s k).2) := by
  have h4 := hI.2.2.1
  have hw4 : w < 4 := by omega
  have hn := hI.2.1
  have hsp := sp_le hI hw
  intro k
  induction k with
  | zero =>
    intro m b g s hg hb hs hm
    obtain ⟨m, rfl⟩ : ∃ q, m = q + 1 := ⟨m - 1, by omega⟩
    rw [u_X4_run_L26, hM.1, if_pos (nI_le (by omega) (by omega))]
    rfl
  | succ k ih =>
    intro m b g s hg hb hs hm
    obtain ⟨m, rfl⟩ : ∃ q, m = q + 1 := ⟨m - 1, by omega⟩
    have hr := rl_le a w s
    have hg2 : (if g < rl a w s then rl a w s else g) ≤ 6 := by split <;> omega
    have kr : (nI (rl a w s) = 0) = (rl a w s = 0) := eqI (y := 0) (by omega) (by omega)
    have h56 : ∀ g2, g2 = (if g < rl a w s then rl a w s else g) → f_X4_run_L56 (f_X4_run_L26 kk m) kk T (nI w) (stI b) (nI s) (nI (rl a w s)) (nI g2) = kk T (nI w) (stI (rN a w b g s (k + 1)).1) (nI (rN a w b g s (k + 1)).2) := by
      intro g2 eg
      rw [rN, ← eg]
      rw [← eg] at hg2
      unfold f_X4_run_L56
      simp only [kr, nI_1]
      by_cases c0 : rl a w s = 0
      · have hfit := rl_fit c0
        have hd := dl_le hI hw (show s + sp a w ≤ 36 by omega)
        rw [if_pos c0]
        have i1 := ih m (s + 1) g2 (s + 1) hg2 (fun _ => by omega) (by omega) (by omega)
        rw [stI_s] at i1
        have kb : (stI b = (-1)) = (b = 0) := propext (stI_m1 (by
          by_cases q : b = 0
          · omega
          · have := hb q; omega))
        simp only [kb]
        by_cases c1 : b = 0
        · rw [if_pos c1, i1]
          simp only [c0, c1, true_or, and_self, if_true]
        · rw [if_neg c1]
          have hb1 := hb c1
          have hd2 := dl_le hI hw (show b - 1 + sp a w ≤ 36 by omega)
          have kd : (nI (dl a w (b - 1)) ≤ nI (dl a w s)) = (dl a w (b - 1) ≤ dl a w s) := propext (nI_leI (by omega) (by omega))
          rw [delay_M hI hM hw hw4 (by omega), Option.bind_some, stp c1, delay_M hI hM hw hw4 (by omega), Option.bind_some]
          simp only [kd]
          by_cases c2 : dl a w (b - 1) ≤ dl a w s
          · have i2 := ih m b g2 (s + 1) hg2 hb (by omega) (by omega)
            rw [stp c1] at i2
            rw [if_pos c2, i2]
            have : ¬ (rl a w s = 0 ∧ (b = 0 ∨ dl a w s < dl a w (b - 1))) := by omega
            rw [if_neg this]
          · rw [if_neg c2, i1]
            have : (rl a w s = 0 ∧ (b = 0 ∨ dl a w s < dl a w (b - 1))) := by omega
            rw [if_pos this]
      · rw [if_neg c0]
        have i2 := ih m b g2 (s + 1) hg2 hb (by omega) (by omega)
        rw [i2, if_neg (fun q : rl a w s = 0 ∧ (b = 0 ∨ dl a w s < dl a w (b - 1)) => c0 q.1)]
    have kg : (nI (rl a w s) ≤ nI g) = (rl a w s ≤ g) := leI (by omega) (by omega)
    rw [u_X4_run_L26, hM.1, if_neg (nI_ge (by omega) (by omega)), rule_M hI hM hw (by omega), Option.bind_some]
    simp only [kg]
    by_cases c : rl a w s ≤ g
    · rw [if_pos c]; exact h56 g (by rw [if_neg (by omega)])
    · rw [if_neg c]; exact h56 (rl a w s) (by rw [if_pos (by omega)])
theorem st_run : LS_run RelA := by
  intro n S T a1 hn hR
  obtain ⟨a, hI, hC, hM⟩ := hR
  unfold f_X3_run f_X4_run
  rcases iw hI hC hM a1 with ⟨e1, e2⟩ | ⟨w, hw, hw4, rfl, e1, e2⟩
  · exact ⟨-100, S, T, by simp [e1], by simp [e2], rel_m n S T ⟨a, hI, hC, hM⟩⟩
  simp only [e1, e2, Option.bind_some, one0, if_false, cI (show w < 100000 by omega), gI4 hw4, isFx hI hC hw4, isFxM hI hM hw4]
  by_cases c2 : 3 ≤ a 12 w 0
  · exact ⟨-100, S, T, by simp [c2], by simp [c2], rel_m n S T ⟨a, hI, hC, hM⟩⟩
  simp only [if_neg c2, if_true]
  have hn36 := hI.2.1
  have r1 := run_C hI hC hw (fun S_17 x1_17 x2_17 x4_17 => if x2_17 = (-1) then (some ((-1) - x4_17, S_17)) else ((f_X3_putAt (xI S_17 2 0 0 0) x1_17 x2_17).bind fun u19 => some (x2_17, u19))) (a 0 0 0) 1000 0 0 0 (by omega) (fun q => absurd rfl q) (by omega) (by omega)
  have r2 := run_M hI hM hw (fun S_18 x1_18 x2_18 x3_18 => if x2_18 = (-1) then (some ((-1) - x3_18, S_18)) else ((f_X4_beginMoves S_18 ).bind fun u20 => (f_X4_move u20 x1_18 x2_18).bind fun u22 => some (x2_18, u22))) (a 0 0 0) 1000 0 0 0 (by omega) (fun q => absurd rfl q) (by omega) (by omega)
  obtain ⟨k1, k2⟩ := rN_ok hI w (a 0 0 0) 0 0 0 (by omega) (fun q => absurd rfl q) (by omega)
  generalize rN a w 0 0 0 (a 0 0 0) = bg at k1 k2 r1 r2
  obtain ⟨b, g⟩ := bg
  have hsp := sp_le hI hw
  have hb36 : b ≤ 36 := by
    by_cases q : b = 0
    · omega
    · have := k2 q
      have : b + sp a w ≤ a 0 0 0 + 1 := this
      omega
  have kb : (stI b = (-1)) = (b = 0) := propext (stI_m1 (by omega))
  have r1 : f_X3_run_L33 _ 1000 S (nI w) (-1) 0 0 0 = _ := r1
  have r2 : f_X4_run_L26 _ 1000 T (nI w) (-1) 0 0 = _ := r2
  rw [r1, r2]
  simp only [kb]
  by_cases c3 : b = 0
  · exact ⟨(-1) - nI g, S, T, by rw [if_pos c3], by rw [if_pos c3], rel_m n S T ⟨a, hI, hC, hM⟩⟩
  · rw [if_neg c3, if_neg c3]
    obtain ⟨hI2, hb⟩ := hI.up
    have hI3 := iv_cl hI2
    obtain ⟨T1, t1, hM1⟩ := begin_M hM
    have b15 : clA a 15 0 0 = a 15 0 0 := clA_f (by decide)
    have b1 : clA a 1 0 0 = a 1 0 0 := clA_f (by decide)
    obtain ⟨S2, s2, hC2⟩ := put_C (v := b) hI3 (eC_clear hC) hw4 (by omega) (by omega)
    obtain ⟨T2, t2, hM2⟩ := move_M (v := b) hI3 hM1 (by rw [b1]; exact hw) (by omega) (by omega)
    refine ⟨stI b, S2, T2, by rw [s2]; rfl, by simp only [t1, Option.bind_some, t2], ⟨_, iv_mvA hI3 (by rw [b1]; exact hw) (by omega) (by omega) (fun q => ?_), hC2, hM2⟩⟩
    have e2 : sp (clA a) w = sp a w := by unfold sp; rw [clA_f (by decide), clA_f (by decide)]
    rw [e2, clA_f (by decide)]
    exact k2 q
