theorem div32 {x y : Nat} (hx : x < 2 ^ 31) (hy : y < 2 ^ 31) : nI x / nI y = nI (x / y) := by
  apply Int32.toInt_inj.mp
  have h1 : x / y ≤ x := Nat.div_le_self _ _
  have e : Int.tdiv (x : Int) (y : Int) = Int.ofNat (x / y) := rfl
  rw [nI_toInt (show x / y < 2 ^ 31 by omega), Int32.toInt_div, nI_toInt hx, nI_toInt hy, e]
  generalize x / y = q at *
  have h2 : (0 : Int) ≤ Int.ofNat q := Int.natCast_nonneg q
  have h3 : Int.ofNat q < 2147483648 := by show (q : Int) < 2147483648; omega
  exact Int.bmod_eq_of_le (by omega) (by omega)
theorem div64 {x y : Nat} (hx : x < 2 ^ 63) (hy : y < 2 ^ 63) : lN x / lN y = lN (x / y) := by
  apply Int64.toInt_inj.mp
  have h1 : x / y ≤ x := Nat.div_le_self _ _
  have k : ∀ z, z < 2 ^ 63 → (lN z).toInt = (z : Int) := fun z hz => lg_ofNat_toInt hz
  have e : Int.tdiv (x : Int) (y : Int) = Int.ofNat (x / y) := rfl
  rw [k _ (show x / y < 2 ^ 63 by omega), Int64.toInt_div, k _ hx, k _ hy, e]
  generalize x / y = q at *
  have h2 : (0 : Int) ≤ Int.ofNat q := Int.natCast_nonneg q
  have h3 : Int.ofNat q < 9223372036854775808 := by show (q : Int) < 9223372036854775808; omega
  exact Int.bmod_eq_of_le (by omega) (by omega)
/-! all, and late -/
theorem tc_le {n : Nat} {a : Ab} (hI : Inv n a) {L hr : Nat} {f : Nat → Nat} (h : ∀ u, u < a 1 0 0 → okS a L hr u (f u)) : ∀ d w, w + d ≤ a 1 0 0 → tc a L w d f ≤ 11500000 * d := by
  intro d
  induction d with
  | zero => intro w _; rw [tc]; omega
  | succ d ih =>
    intro w hw
    have := cst_le hI (show w < a 1 0 0 by omega) (h w (by omega))
    have := ih (w + 1) (by omega)
    rw [tc]; omega
theorem VM_le {d : Nat} (h : d ≤ 4) : VM d ≤ 1775593 := by
  rcases (show d = 0 ∨ d = 1 ∨ d = 2 ∨ d = 3 ∨ d = 4 by omega) with rfl | rfl | rfl | rfl | rfl <;> simp only [VM] <;> omega
theorem fuelM {c : Nat} (h : c ≤ 1775593) : ∃ F, 3000000 = (F + 1) + c := ⟨2999999 - c, by omega⟩
theorem plan_ok {n : Nat} {a : Ab} (hI : Inv n a) {T : St} (hM : EncM a T) {L hr : Nat} {x1 x2 : Int32} (hx : askM a L hr x1 x2) (h0 : a 1 0 0 ≠ 0) : ∃ T2, frR T T2 ∧ ((f_X4_plan T x1 x2 = some (-100, T2) ∧ ∀ f, ¬ cmpl a L hr 0 f f) ∨ (∃ f, isB a L hr f ∧ f_X4_plan T x1 x2 = some (nI (tc a L 0 (a 1 0 0) f / 10000000), T2) ∧ ∀ v, v < a 1 0 0 → T2.1 15 0 v = nI (f v))) := by
  have h4 := hI.2.2.1
  obtain ⟨T1, g1, g2, g3⟩ := look_ok hI hM
  obtain ⟨T0, hT0⟩ : ∃ z, z = xI T1 14 0 0 (-1) := ⟨_, rfl⟩
  have f0 : frM 0 T1 T0 := by rw [hT0]; exact frM_I T1 14 0 0 _ (by omega) (Nat.le_refl _)
  have hM1 := eM_frR hM (frT_R g2)
  obtain ⟨c, T2, y3, y4, B2, r1, r2, r3, r4, r5⟩ := scanA hI hx (fun S_35 x3_35 => some (x3_35, S_35)) (a 1 0 0) 0 (fun _ => 0) 0 0 T0 (-100) 0 1000000000 h0 (by omega) ⟨eM_frR hM1 (frM_R f0), tb_fr g3 f0, fun v hv => absurd hv (Nat.not_lt_zero v), ⟨fun _ => ⟨rfl, rfl⟩, fun q => absurd rfl q⟩, by rw [hT0, xI_same]; rfl, Or.inl ⟨rfl, rfl⟩, Nat.le_refl _, by omega⟩
  obtain ⟨F, hF⟩ := fuelM (c := c) (Nat.le_trans r1 (VM_le h4))
  have eP : f_X4_plan T x1 x2 = some (y3, T2) := by
    unfold f_X4_plan
    rw [g1, Option.bind_some, show (0 : Int32).toNatClampNeg = 0 from by decide, ← hT0, hF]
    have := r2 (F + 1)
    rw [show nI 0 = (0 : Int32) from rfl] at this
    rw [this, u_X4_plan_L20, if_pos (by decide)]
  refine ⟨T2, frR_tr (frT_R g2) (frR_tr (frM_R f0) (frM_R r3)), ?_⟩
  have c0 : ∀ f g, cmpl a L hr 0 g f → cmpl a L hr 0 f f := fun f g q => ⟨fun _ _ => rfl, q.2⟩
  have c0' : ∀ f g, cmpl a L hr 0 f f → cmpl a L hr 0 g f := fun f g q => ⟨fun v hv => absurd hv (Nat.not_lt_zero v), q.2⟩
  have htc : ∀ f, cmpl a L hr 0 f f → tc a L 0 (a 1 0 0) f ≤ 46000000 := fun f q => by
    have := tc_le hI (fun u hu => (q.2 u (Nat.zero_le _) hu).1) (a 1 0 0) 0 (by omega)
    omega
  obtain ⟨z1, z2, z3⟩ := r5
  rcases z2 with ⟨y1, y2⟩ | ⟨y1, f, p1, p2, p3, p4, p5⟩
  · left
    rcases r4 with ⟨q1, q2⟩ | ⟨Bo, Bs, q1, q2, q3, q4, q5⟩
    · refine ⟨by rw [eP, q1], fun f hf => ?_⟩
      have h1 := z3 f (c0' f _ hf) (Nat.zero_le _)
      have h2 := htc f hf
      omega
    · omega
  · right
    have hf := c0 f _ p1
    have h2 := htc f hf
    refine ⟨f, ⟨hf, fun g hg => p5 g (c0' g _ hg) (Nat.zero_le _)⟩, ?_, p4⟩
    rcases r4 with ⟨q1, q2⟩ | ⟨Bo, Bs, q1, q2, q3, q4, q5⟩
    · omega
    · have e1 : tc a L 0 (a 1 0 0) f / 10000000 = Bo := by omega
      rw [eP, q4, e1]
theorem write_fr {S S2 : St} {x y : Int32} (h : f_X0_write S x y = some S2) : (∀ v, S2.1 21 0 v = S.1 21 0 v) ∧ S2.2 = S.2 := by
  unfold f_X0_write f_X0_write_L30 at h
  by_cases c : (200 : Int32) ≤ S.1 13 0 0
  · rw [if_pos c] at h
    have h := Option.some.inj h
    rw [← h]
    exact ⟨fun v => by rw [xI_f (by decide)], rfl⟩
  · rw [if_neg c] at h
    by_cases c2 : S.1 13 0 0 < 0 ∨ 200 ≤ (S.1 13 0 0).toNatClampNeg
    · rw [if_pos c2] at h; cases h
    · rw [if_neg c2] at h
      have h := Option.some.inj h
      rw [← h]
      exact ⟨fun v => by rw [xI_f (by decide), xI_f (by decide), xI_f (by decide)], rfl⟩
theorem put_fr {S S2 : St} {x y : Int32} (h : f_X3_putAt S x y = some S2) : (∀ v, S2.1 21 0 v = S.1 21 0 v) ∧ S2.2 = S.2 := by
  unfold f_X3_putAt at h
  by_cases c : x < 0 ∨ 4 ≤ x.toNatClampNeg
  · rw [if_pos c] at h; cases h
  · rw [if_neg c] at h
    by_cases c2 : S.1 9 x.toNatClampNeg 0 = y
    · rw [if_pos c2] at h
      have h := Option.some.inj h
      rw [← h]; exact ⟨fun _ => rfl, rfl⟩
    · rw [if_neg c2] at h
      obtain ⟨u3, _, h⟩ := Option.bind_eq_some_iff.mp h
      obtain ⟨u5, h5, h6⟩ := Option.bind_eq_some_iff.mp h
      have h6 := Option.some.inj h6
      rw [← h6]
      have := write_fr h5
      exact ⟨fun v => by rw [this.1 v, xI_f (by decide), xI_f (by decide), xI_f (by decide)], this.2⟩
theorem move_fr {T T2 : St} {x y : Int32} (h : f_X4_move T x y = some T2) : ∀ v, T2.1 15 0 v = T.1 15 0 v := by
  unfold f_X4_move at h
  by_cases c : x < 0 ∨ 4 ≤ x.toNatClampNeg
  · rw [if_pos c] at h; cases h
  · rw [if_neg c] at h
    by_cases c2 : T.1 13 0 x.toNatClampNeg = y
    · rw [if_pos c2] at h
      have h := Option.some.inj h
      rw [← h]; exact fun _ => rfl
    · rw [if_neg c2] at h
      by_cases c3 : (200 : Int32) ≤ T.1 21 0 0
      · rw [if_pos c3] at h
        have h := Option.some.inj h
        rw [← h]
        exact fun v => by rw [xI_f (by decide), xI_f (by decide), xI_f (by decide), xI_f (by decide)]
      · rw [if_neg c3] at h
        by_cases c4 : T.1 21 0 0 < 0 ∨ 200 ≤ (T.1 21 0 0).toNatClampNeg
        · rw [if_pos c4] at h; cases h
        · rw [if_neg c4] at h
          have h := Option.some.inj h
          rw [← h]
          exact fun v => by rw [xI_f (by decide), xI_f (by decide), xI_f (by decide), xI_f (by decide), xI_f (by decide), xI_f (by decide)]
theorem begin_frL {kk : St → Option St} : ∀ (m : Nat) (T T2 : St) (x : Int32), (∀ T1, (∀ v, T1.1 15 0 v = T.1 15 0 v) → kk T1 = some T2 → ∀ v, T2.1 15 0 v = T.1 15 0 v) → f_X4_beginMoves_L2 kk m T x = some T2 → ∀ v, T2.1 15 0 v = T.1 15 0 v := by
  intro m
  induction m with
  | zero => intro T T2 x _ h; cases h
  | succ m ih =>
    intro T T2 x hk h
    rw [u_X4_beginMoves_L2] at h
    by_cases c : (4 : Int32) ≤ x
    · rw [if_pos c] at h; exact hk T (fun _ => rfl) h
    · rw [if_neg c] at h
      by_cases c2 : x < 0 ∨ 4 ≤ x.toNatClampNeg
      · rw [if_pos c2] at h; cases h
      · rw [if_neg c2] at h
        have e : ∀ v, (xI T 20 0 x.toNatClampNeg (vp_nar .boolean 0)).1 15 0 v = T.1 15 0 v := fun v => xI_f (by decide)
        intro v
        rw [← e v]
        exact ih _ T2 _ (fun T1 q1 q2 v => by rw [e v]; exact hk T1 (fun u => by rw [q1 u, e u]) q2 v) h v
theorem begin_fr {T T2 : St} (h : f_X4_beginMoves T = some T2) : ∀ v, T2.1 15 0 v = T.1 15 0 v := by
  unfold f_X4_beginMoves at h
  exact begin_frL 1000 T T2 0 (fun T1 q1 q2 v => by have q2 := Option.some.inj q2; rw [← q2]; exact q1 v) h
theorem dS_c {a b : Ab} {w : Nat} (h : ∀ r c, b 5 r c = a 5 r c) : ∀ k s, dS b w s k = dS a w s k := by
  intro k
  induction k with
  | zero => intro s; rfl
  | succ k ih => intro s; rw [dS, dS, ih, h]
theorem sp_c {a b : Ab} (h : ∀ f r c, f < 12 → b f r c = a f r c) (w : Nat) : sp b w = sp a w := by unfold sp; rw [h _ _ _ (by omega), h _ _ _ (by omega)]
theorem dl_c {a b : Ab} (h : ∀ f r c, f < 12 → b f r c = a f r c) (w s : Nat) : dl b w s = dl a w s := by unfold dl; rw [sp_c h, dS_c (fun r c => h 5 r c (by omega))]
/-- both take the plan: a work after the other -/
theorem take_ok {N : Nat} {f : Nat → Nat} (hN : N ≤ 512) (kk : St → Option St) (kk2 : St → Option St) : ∀ (k m w : Nat) (a : Ab) (S T : St), w + k = a 1 0 0 → k < m → Inv N a → EncC a S → EncM a T → a 15 0 0 + k ≤ 4 * N → (∀ v, v < a 1 0 0 → f v + 1 ≤ 36 ∧ f v + sp a v ≤ a 0 0 0) → (∀ v, v < a 1 0 0 → S.1 21 0 v = nI (f v)) → (∀ v, v < a 1 0 0 → T.1 15 0 v = nI (f v)) → (∀ v, v < w → a 13 v 0 = f v + 1) → ∃ b S2 T2, f_X3_takePlan_L7 kk m S (nI w) = kk S2 ∧ f_X4_movesAll_L6 kk2 m T (nI w) = kk2 T2 ∧ Inv N b ∧ EncC b S2 ∧ EncM b T2 ∧ S2.2 = S.2 ∧ (∀ f r c, f < 12 → b f r c = a f r c) ∧ (∀ v, v < a 1 0 0 → b 13 v 0 = f v + 1) := by
  intro k
  induction k with
  | zero =>
    intro m w a S T he hm hI hC hM h15 hf h21 hb hd
    have h4 := hI.2.2.1
    obtain ⟨m, rfl⟩ : ∃ q, m = q + 1 := ⟨m - 1, by omega⟩
    refine ⟨a, S, T, ?_, ?_, hI, hC, hM, rfl, fun _ _ _ _ => rfl, fun v hv => hd v (by omega)⟩
    · rw [u_X3_takePlan_L7, hC.2.1, if_pos (nI_le (by omega) (by omega))]
    · rw [u_X4_movesAll_L6, hM.2.1, if_pos (nI_le (by omega) (by omega))]
  | succ k ih =>
    intro m w a S T he hm hI hC hM h15 hf h21 hb hd
    have h4 := hI.2.2.1
    obtain ⟨m, rfl⟩ : ∃ q, m = q + 1 := ⟨m - 1, by omega⟩
    have hw : w < a 1 0 0 := by omega
    have hw4 : w < 4 := by omega
    have hfw := hf w hw
    obtain ⟨S1, p1, p2⟩ := put_C hI hC hw4 (v := f w + 1) hfw.1 (by omega)
    obtain ⟨T1, q1, q2⟩ := move_M hI hM hw (v := f w + 1) hfw.1 (by omega)
    rw [stI_s] at p1 q1
    have sC := put_fr p1
    have sM := move_fr q1
    have hb1 : ∀ g r c, g < 12 → mvA a w (f w + 1) g r c = a g r c := fun g r c q => mvA_f (by omega) (by omega) (by omega) (by omega) (by omega) (by omega)
    have e1 : mvA a w (f w + 1) 1 0 0 = a 1 0 0 := hb1 1 0 0 (by omega)
    have e0 : mvA a w (f w + 1) 0 0 0 = a 0 0 0 := hb1 0 0 0 (by omega)
    have hI1 := iv_mvA hI hw (v := f w + 1) (by omega) hfw.1 (fun _ => by omega)
    have e15 := mvA_15 (a := a) (w := w) (v := f w + 1)
    obtain ⟨b, S2, T2, r1, r2, r3, r4, r5, r6, r7, r8⟩ := ih m (w + 1) (mvA a w (f w + 1)) S1 T1 (by omega) (by omega) hI1 p2 q2 (by omega) (fun v hv => by rw [sp_c hb1, e0]; exact hf v (by omega)) (fun v hv => by rw [sC.1 v]; exact h21 v (by omega)) (fun v hv => by rw [sM v]; exact hb v (by omega)) (fun v hv => by
      rw [mvA_13]
      by_cases e : v = w
      · rw [if_pos e, e]
      · rw [if_neg e]; exact hd v (by omega))
    refine ⟨b, S2, T2, ?_, ?_, r3, r4, r5, r6.trans sC.2, fun g r c q => (r7 g r c q).trans (hb1 g r c q), fun v hv => r8 v (by omega)⟩
    · rw [u_X3_takePlan_L7, hC.2.1, if_neg (nI_ge (by omega) (by omega))]
      simp only [cI (show w < 100000 by omega), gI4 hw4, if_false, h21 w hw, nI_1]
      rw [p1, Option.bind_some]
      exact r1
    · rw [u_X4_movesAll_L6, hM.2.1, if_neg (nI_ge (by omega) (by omega))]
      simp only [cI (show w < 100000 by omega), gI4 hw4, if_false, hb w hw, nI_1]
      rw [q1, Option.bind_some]
      exact r2
theorem both_take {n : Nat} {a : Ab} (hn : n < 512) (hI : Inv n a) {S T : St} (hC : EncC a S) (hM : EncM a T) {L hr : Nat} {f : Nat → Nat} (hf : cmpl a L hr 0 f f) (h21 : ∀ v, v < a 1 0 0 → S.1 21 0 v = nI (f v)) (h15 : ∀ v, v < a 1 0 0 → T.1 15 0 v = nI (f v)) : ∃ b S2 T2, f_X3_takePlan S = some S2 ∧ f_X4_movesAll T = some T2 ∧ Inv (n + 1) b ∧ EncC b S2 ∧ EncM b T2 ∧ S2.2 = S.2 ∧ (∀ f r c, f < 12 → b f r c = a f r c) ∧ (∀ v, v < a 1 0 0 → b 13 v 0 = f v + 1) := by
  obtain ⟨hU, h15a⟩ := hI.up
  have h4 := hI.2.2.1
  have hc := iv_cl hU
  obtain ⟨T1, g1, g2⟩ := begin_M hM
  have g3 := begin_fr g1
  have k1 : clA a 1 0 0 = a 1 0 0 := clA_f (by decide)
  have k0 : clA a 0 0 0 = a 0 0 0 := clA_f (by decide)
  have k15 : clA a 15 0 0 = a 15 0 0 := clA_f (by decide)
  have kf : ∀ g r c, g < 12 → clA a g r c = a g r c := fun g r c q => clA_f (by omega)
  obtain ⟨b, S2, T2, r1, r2, r3, r4, r5, r6, r7, r8⟩ := take_ok (N := n + 1) (f := f) (by omega) (fun S => some S) (fun S => some S) (a 1 0 0) 1000 0 (clA a) (xI S 2 0 0 0) T1 (by omega) (by omega) hc (eC_clear hC) g2 (by omega) (fun v hv => by
    have := (hf.2 v (Nat.zero_le _) (by omega)).1
    have h1 := al_fit this.1
    have h2 := this.2.2.2
    have h3 := hI.2.1
    rw [sp_c kf, k0]
    omega) (fun v hv => by rw [xI_f (by decide)]; exact h21 v (by omega)) (fun v hv => by rw [g3]; exact h15 v (by omega)) (fun v hv => absurd hv (Nat.not_lt_zero v))
  rw [show nI 0 = (0 : Int32) from rfl] at r1 r2
  refine ⟨b, S2, T2, r1, ?_, r3, r4, r5, r6, fun g r c q => (r7 g r c q).trans (kf g r c q), fun v hv => r8 v (by omega)⟩
  unfold f_X4_movesAll
  rw [g1, Option.bind_some]
  exact r2
theorem tw_div {n : Nat} {a : Ab} (hI : Inv n a) {L hr : Nat} {f : Nat → Nat} (hf : cmpl a L hr 0 f f) : tw a L 0 (a 1 0 0) f / 1679616 = tc a L 0 (a 1 0 0) f := by
  have h4 := hI.2.2.1
  have := td_lt4 (w := 0) (d := a 1 0 0) (f := f) (by omega) (fun v _ hv => cmpl_36 hI hf (by omega))
  rw [tw_split]
  omega
theorem best_C {n : Nat} {a : Ab} (hI : Inv n a) {L hr : Nat} {f : Nat → Nat} (hf : cmpl a L hr 0 f f) {S : St} (e : S.2 4 0 0 = lN (tw a L 0 (a 1 0 0) f)) : f_X1_bestCost S = some (nI (tc a L 0 (a 1 0 0) f)) := by
  have h4 := hI.2.2.1
  have hb := tw_le hI (fun u hu => (hf.2 u (Nat.zero_le _) hu).1) (a 1 0 0) 0 (by omega)
  have hb2 : tw a L 0 (a 1 0 0) f < 2 ^ 63 := by omega
  unfold f_X1_bestCost
  rw [e, show (1679616 : Int64) = lN 1679616 from rfl, div64 hb2 (by omega), tw_div hI hf, lN_i]
theorem sum_M {N : Nat} {a b : Ab} (hI : Inv N b) {T : St} (hM : EncM b T) {f : Nat → Nat} (hab : ∀ g r c, g < 12 → b g r c = a g r c) (h13 : ∀ v, v < b 1 0 0 → b 13 v 0 = f v + 1) (hft : ∀ v, v < b 1 0 0 → f v + sp b v ≤ 36) (kk : St → Int32 → Option (Int32 × St)) : ∀ (k m w c : Nat), w + k = b 1 0 0 → k < m → f_X4_all_L29 kk m T (nI c) (nI w) = kk T (nI (c + tc a 9 w k f)) := by
  have h4 := hI.2.2.1
  intro k
  induction k with
  | zero =>
    intro m w c he hm
    obtain ⟨m, rfl⟩ : ∃ q, m = q + 1 := ⟨m - 1, by omega⟩
    rw [u_X4_all_L29, hM.2.1, if_pos (nI_le (by omega) (by omega)), tc, Nat.add_zero]
  | succ k ih =>
    intro m w c he hm
    obtain ⟨m, rfl⟩ : ∃ q, m = q + 1 := ⟨m - 1, by omega⟩
    have hw : w < b 1 0 0 := by omega
    have e13 : T.1 13 0 w = nI (f w) := by rw [(hM.2.2.1 w hw).2.2.2.2.2, h13 w hw, stI_s]
    rw [u_X4_all_L29, hM.2.1, if_neg (nI_ge (by omega) (by omega))]
    simp only [cI (show w < 100000 by omega), gI4 (show w < 4 by omega), if_false, e13, nI_1]
    rw [delay_M hI hM hw (by omega) (hft w hw), Option.bind_some, nI_add, ih m (w + 1) _ (by omega) (by omega), tc, cst_0 (fun q => by omega), dl_c hab, Nat.add_assoc]
theorem st_all : LS_all RelA := by
  intro n S T hn hR
  obtain ⟨a, hI, hC, hM⟩ := hR
  have h4 := hI.2.2.1
  obtain ⟨hU, _⟩ := hI.up
  unfold f_X3_all f_X4_all
  rw [hC.2.1, hM.2.1]
  by_cases h0 : a 1 0 0 = 0
  · have e : nI (a 1 0 0) = 0 := by rw [h0]; rfl
    rw [if_pos e, if_pos e]
    exact ⟨_, _, _, rfl, rfl, a, hU, hC, hM⟩
  · have e : ¬ nI (a 1 0 0) = 0 := fun q => h0 ((nI_eq (b := 0) (by omega) (by omega)).mp q)
    rw [if_neg e, if_neg e]
    obtain ⟨S2, fS, hS⟩ := find_ok hI hC (L := 9) (hr := 0) (x1 := -1) (x2 := 0) (Or.inl ⟨rfl, rfl, rfl, rfl⟩)
    obtain ⟨T2, fT, hT⟩ := plan_ok hI hM (L := 9) (hr := 0) (x1 := -100) (x2 := 0) (Or.inl ⟨rfl, rfl, rfl⟩) h0
    have hC2 := eC_frS hC fS
    have hM2 := eM_frR hM fT
    rcases hS with ⟨s1, s2⟩ | ⟨s1, f, s2, s3, s4⟩
    · rcases hT with ⟨t1, t2⟩ | ⟨g, t1, t2, t3⟩
      · rw [s1, t1, Option.bind_some, Option.bind_some, if_pos rfl, if_pos rfl]
        exact ⟨_, _, _, rfl, rfl, a, hU, hC2, hM2⟩
      · exact absurd t1.1 (s2 g)
    · rcases hT with ⟨t1, t2⟩ | ⟨g, t1, t2, t3⟩
      · exact absurd s2.1 (t2 f)
      · have eu := isB_uniq hI t1 s2
        have htc := tc_le hI (fun u hu => (t1.1.2 u (Nat.zero_le _) hu).1) (a 1 0 0) 0 (by omega)
        have hq : tc a 9 0 (a 1 0 0) g / 10000000 < 100 := by omega
        rw [s1, t2, Option.bind_some, Option.bind_some, if_neg (show ¬ ((1 : Int32), S2).1 = 0 from (by decide : ¬ (1 : Int32) = 0)), if_neg (nI_n100 hq)]
        obtain ⟨b, S3, T3, r1, r2, r3, r4, r5, r6, r7, r8⟩ := both_take hn hI hC2 hM2 s2.1 s4 (fun v hv => by rw [t3 v hv, eu v hv])
        have e1 : b 1 0 0 = a 1 0 0 := r7 1 0 0 (by omega)
        have hbest := best_C hI s2.1 (S := S3) (by rw [r6]; exact s3)
        have hsum := sum_M r3 r5 (f := f) r7 (fun v hv => r8 v (by omega)) (fun v hv => by
          have := al_fit (s2.1.2 v (Nat.zero_le _) (by omega)).1.1
          have := hI.2.1
          rw [sp_c r7]; omega) (fun S_11 x1_11 => some (x1_11, S_11)) (b 1 0 0) 1000 0 0 (by omega) (by omega)
        rw [show nI 0 = (0 : Int32) from rfl, Nat.zero_add, e1] at hsum
        rw [r1, r2, Option.bind_some, Option.bind_some, hbest, Option.bind_some, hsum]
        exact ⟨_, _, _, rfl, rfl, b, r3, r4, r5⟩
theorem st_late : LS_late RelA := by
  intro n S T x1 x2 hn hR
  obtain ⟨a, hI, hC, hM⟩ := hR
  have h4 := hI.2.2.1
  obtain ⟨hU, _⟩ := hI.up
  have refuse : ∀ {z : Int32}, ∃ (r : Int32) (S2 T2 : St), some (z, S) = some (r, S2) ∧ some (z, T) = some (r, T2) ∧ RelA (n + 1) S2 T2 := ⟨_, _, _, rfl, rfl, a, hU, hC, hM⟩
  unfold f_X3_late f_X4_late
  rcases iw hI hC hM x1 with ⟨i1, i2⟩ | ⟨w, hw, hw4, rfl, i1, i2⟩
  · rw [i1, i2, Option.bind_some, Option.bind_some, if_pos rfl, if_pos rfl]
    exact refuse
  · rw [i1, i2, Option.bind_some, Option.bind_some, if_neg (show ¬ (1 : Int32) = 0 by decide), if_neg (show ¬ (1 : Int32) = 0 by decide)]
    rcases ihr hI hC hM x2 with ⟨j1, j2⟩ | ⟨h, hh, hh36, rfl, j1, j2⟩
    · rw [j1, j2, Option.bind_some, Option.bind_some, if_pos rfl, if_pos rfl]
      exact refuse
    · rw [j1, j2, Option.bind_some, Option.bind_some, if_neg (show ¬ (1 : Int32) = 0 by decide), if_neg (show ¬ (1 : Int32) = 0 by decide)]
      simp only [cI (show w < 100000 by omega), gI4 hw4, if_false]
      rw [isFx hI hC hw4, isFxM hI hM hw4, placed_C hI hC, placed_M hI hM]
      simp only [Option.bind_some, hC.2.1, hM.2.1]
      by_cases c1 : 3 ≤ a 12 w 0
      · rw [if_pos c1, if_neg (show ¬ (1 : Int32) = 0 by decide), if_neg (show ¬ (1 : Int32) = 0 by decide)]
        by_cases c2 : nI (plcN a 0 (a 1 0 0)) < nI (a 1 0 0)
        · rw [if_pos c2]; exact refuse
        · rw [if_neg c2]; exact refuse
      · rw [if_neg c1, if_pos rfl, if_pos rfl]
        by_cases c2 : nI (plcN a 0 (a 1 0 0)) < nI (a 1 0 0)
        · rw [if_pos c2, if_neg (Int32.not_le.mpr c2)]; exact refuse
        · rw [if_neg c2, if_pos (Int32.not_lt.mp c2)]
          obtain ⟨S2, fS, hS⟩ := find_ok hI hC (L := w) (hr := h) (x1 := nI w) (x2 := nI h) (Or.inr ⟨hw, rfl, rfl, hh⟩)
          obtain ⟨T2, fT, hT⟩ := plan_ok hI hM (L := w) (hr := h) (x1 := nI w) (x2 := nI h) (Or.inr ⟨hw, rfl, rfl, hh⟩) (by omega)
          have hC2 := eC_frS hC fS
          have hM2 := eM_frR hM fT
          rcases hS with ⟨s1, s2⟩ | ⟨s1, f, s2, s3, s4⟩
          · rcases hT with ⟨t1, t2⟩ | ⟨g, t1, t2, t3⟩
            · rw [s1, t1, Option.bind_some, Option.bind_some, if_pos rfl, if_pos rfl]
              exact ⟨_, _, _, rfl, rfl, a, hU, hC2, hM2⟩
            · exact absurd t1.1 (s2 g)
          · rcases hT with ⟨t1, t2⟩ | ⟨g, t1, t2, t3⟩
            · exact absurd s2.1 (t2 f)
            · have eu := isB_uniq hI t1 s2
              have htc := tc_le hI (fun u hu => (t1.1.2 u (Nat.zero_le _) hu).1) (a 1 0 0) 0 (by omega)
              have ec : tc a w 0 (a 1 0 0) g = tc a w 0 (a 1 0 0) f := tc_congr a w (a 1 0 0) 0 (fun v _ hv => eu v (by omega))
              have hq : tc a w 0 (a 1 0 0) g / 10000000 < 100 := by omega
              rw [s1, t2, Option.bind_some, Option.bind_some, if_neg (show ¬ ((1 : Int32), S2).1 = 0 from (by decide : ¬ (1 : Int32) = 0)), if_neg (nI_n100 hq)]
              obtain ⟨b, S3, T3, r1, r2, r3, r4, r5, r6, r7, r8⟩ := both_take hn hI hC2 hM2 s2.1 s4 (fun v hv => by rw [t3 v hv, eu v hv])
              have hbest := best_C hI s2.1 (S := S3) (by rw [r6]; exact s3)
              rw [r1, r2, Option.bind_some, Option.bind_some, hbest, Option.bind_some, show (10000000 : Int32) = nI 10000000 from rfl, div32 (by omega) (by omega), ec]
              exact ⟨_, _, _, rfl, rfl, b, r3, r4, r5⟩
