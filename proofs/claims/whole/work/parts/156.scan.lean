/-! the reference's plan: the search -/
theorem td_lt : ∀ (d w : Nat) (f : Nat → Nat), w + d ≤ 4 → (∀ v, w ≤ v → v < w + d → f v < 36) → td w d f < 36 ^ (4 - w) := by
  intro d
  induction d with
  | zero => intro w f _ _; rw [td]; exact Nat.pow_pos (by omega)
  | succ d ih =>
    intro w f hw hf
    have h1 := ih (w + 1) f (by omega) (fun v q1 q2 => hf v (by omega) (by omega))
    have h2 := hf w (Nat.le_refl _) (by omega)
    have e1 : 4 - w = (3 - w) + 1 := by omega
    have e2 : 4 - (w + 1) = 3 - w := by omega
    rw [e2] at h1
    rw [td, e1, Nat.pow_succ]
    unfold dg
    have h3 : f w * 36 ^ (3 - w) ≤ 35 * 36 ^ (3 - w) := Nat.mul_le_mul_right _ (by omega)
    omega
theorem td_lt4 {d w : Nat} {f : Nat → Nat} (hw : w + d ≤ 4) (hf : ∀ v, w ≤ v → v < w + d → f v < 36) : td w d f < 1679616 := by
  have h1 := td_lt d w f hw hf
  have h2 : 36 ^ (4 - w) ≤ 36 ^ 4 := Nat.pow_le_pow_right (by omega) (by omega)
  have h3 : (36 : Nat) ^ 4 = 1679616 := by decide
  omega
theorem tw_of_tc {a : Ab} {L d w : Nat} {f g : Nat → Nat} (hw : w + d ≤ 4) (hf : ∀ v, w ≤ v → v < w + d → f v < 36) (h : tc a L w d f < tc a L w d g) : tw a L w d f ≤ tw a L w d g := by
  have := td_lt4 hw hf
  rw [tw_split, tw_split]
  omega
theorem tw_of_fst {a : Ab} {L d w : Nat} {f g : Nat → Nat} (hw : w + (d + 1) ≤ 4) (hf : ∀ v, w ≤ v → v < w + (d + 1) → f v < 36) (h : tc a L w (d + 1) f ≤ tc a L w (d + 1) g) (hl : f w < g w) : tw a L w (d + 1) f ≤ tw a L w (d + 1) g := by
  have h1 := td_lt d (w + 1) f (by omega) (fun v q1 q2 => hf v (by omega) (by omega))
  have e2 : 4 - (w + 1) = 3 - w := by omega
  rw [e2] at h1
  have h2 : td w (d + 1) f ≤ td w (d + 1) g := by
    rw [td, td]
    unfold dg
    have h3 : (f w + 1) * 36 ^ (3 - w) ≤ g w * 36 ^ (3 - w) := Nat.mul_le_mul_right _ (by omega)
    rw [Nat.add_mul, Nat.one_mul] at h3
    omega
  rw [tw_split, tw_split]
  omega
def rsM (a : Ab) (L hr w d : Nat) (t : Nat → Nat) (C : Nat) (Q : Nat → Prop) (B B2 : Nat) (T T2 : St) : Prop := B2 ≤ B ∧ ((B2 = B ∧ ∀ v, v < a 1 0 0 → T2.1 15 0 v = T.1 15 0 v) ∨ (B2 < B ∧ ∃ f, cmpl a L hr w t f ∧ Q (f w) ∧ B2 = C + tc a L w d f ∧ (∀ v, v < a 1 0 0 → T2.1 15 0 v = nI (f v)) ∧ ∀ g, cmpl a L hr w t g → Q (g w) → tw a L w d f ≤ tw a L w d g)) ∧ ∀ g, cmpl a L hr w t g → Q (g w) → B2 ≤ C + tc a L w d g
theorem rs_none {a : Ab} {L hr w d : Nat} {t : Nat → Nat} {C : Nat} {Q : Nat → Prop} {B : Nat} {T T2 : St} (h : ∀ g, cmpl a L hr w t g → Q (g w) → B ≤ C + tc a L w d g) (e : ∀ v, v < a 1 0 0 → T2.1 15 0 v = T.1 15 0 v) : rsM a L hr w d t C Q B B T T2 := ⟨Nat.le_refl _, Or.inl ⟨rfl, e⟩, h⟩
theorem c36 {n : Nat} {a : Ab} (hI : Inv n a) {L hr w : Nat} {t f : Nat → Nat} (h : cmpl a L hr w t f) {v : Nat} (h1 : w ≤ v) (h2 : v < a 1 0 0) : f v < 36 := by
  have := (h.2 v h1 h2).1.2.2.2
  have := hI.2.1
  omega
theorem rs_comb {n : Nat} {a : Ab} (hI : Inv n a) {L hr w d : Nat} {t : Nat → Nat} {C s B B1 B2 : Nat} {T T1 T2 : St} (hw : w + (d + 1) = a 1 0 0) (h1 : rsM a L hr w (d + 1) t C (fun x => x = s) B B1 T T1) (h2 : rsM a L hr w (d + 1) t C (fun x => s + 1 ≤ x) B1 B2 T1 T2) : rsM a L hr w (d + 1) t C (fun x => s ≤ x) B B2 T T2 := by
  have h4 := hI.2.2.1
  obtain ⟨a1, a2, a3⟩ := h1
  obtain ⟨b1, b2, b3⟩ := h2
  have low : ∀ g, cmpl a L hr w t g → s ≤ g w → B2 ≤ C + tc a L w (d + 1) g := fun g hg hs => by
    by_cases e : g w = s
    · have := a3 g hg e; omega
    · exact b3 g hg (show s + 1 ≤ g w by omega)
  have f36 : ∀ f, cmpl a L hr w t f → ∀ v, w ≤ v → v < w + (d + 1) → f v < 36 := fun f hf v q1 q2 => c36 hI hf q1 (by omega)
  refine ⟨by omega, ?_, low⟩
  rcases b2 with ⟨e, k⟩ | ⟨lt, f, p1, p2, p3, p4, p5⟩
  · rcases a2 with ⟨e1, k1⟩ | ⟨lt1, f, p1, p2, p3, p4, p5⟩
    · exact Or.inl ⟨by omega, fun v hv => (k v hv).trans (k1 v hv)⟩
    · have p2 : f w = s := p2
      refine Or.inr ⟨by omega, f, p1, Nat.le_of_eq p2.symm, by omega, fun v hv => (k v hv).trans (p4 v hv), fun g hg hs => ?_⟩
      by_cases eg : g w = s
      · exact p5 g hg eg
      · have hs : s ≤ g w := hs
        have := low g hg hs
        exact tw_of_fst (by omega) (f36 f p1) (by omega) (by omega)
  · have p2 : s + 1 ≤ f w := p2
    refine Or.inr ⟨by omega, f, p1, (show s ≤ f w by omega), p3, p4, fun g hg hs => ?_⟩
    by_cases eg : g w = s
    · have := a3 g hg eg
      exact tw_of_tc (by omega) (f36 f p1) (by omega)
    · have hs : s ≤ g w := hs
      exact p5 g hg (show s + 1 ≤ g w by omega)
theorem rs_up {a : Ab} {L hr w d : Nat} {t : Nat → Nat} {C s B B2 : Nat} {T T2 : St} (hk : okS a L hr w s) (hp : ∀ v, v < w → prs a v (t v) w s) (h : rsM a L hr (w + 1) d (upT t w s) (C + cst a L w s) (fun _ => True) B B2 T T2) : rsM a L hr w (d + 1) t C (fun x => x = s) B B2 T T2 := by
  obtain ⟨a1, a2, a3⟩ := h
  have up : ∀ g, cmpl a L hr w t g → g w = s → cmpl a L hr (w + 1) (upT t w s) g := fun g hg e => by
    have := cmpl_mono hg
    rw [e] at this; exact this
  refine ⟨a1, ?_, fun g hg e => ?_⟩
  · rcases a2 with q | ⟨lt, f, p1, p2, p3, p4, p5⟩
    · exact Or.inl q
    · obtain ⟨c1, c2⟩ := cmpl_back hk hp p1
      refine Or.inr ⟨lt, f, c1, c2, by rw [tc, c2]; omega, p4, fun g hg e => ?_⟩
      have e : g w = s := e
      have := p5 g (up g hg e) trivial
      rw [tw, tw, c2, e]; omega
  · have e : g w = s := e
    have := a3 g (up g hg e) trivial
    rw [tc, e]; omega
def frM (w : Nat) (T T2 : St) : Prop := (∀ f r c, f ≠ 14 → f ≠ 15 → f ≠ 16 → f ≠ 17 → T2.1 f r c = T.1 f r c) ∧ (∀ f r c, T2.2 f r c = T.2 f r c) ∧ (∀ v, v < w → T2.1 14 0 v = T.1 14 0 v ∧ T2.1 16 0 v = T.1 16 0 v ∧ T2.1 17 0 v = T.1 17 0 v)
theorem frM_tr {w : Nat} {T T2 T3 : St} (h1 : frM w T T2) (h2 : frM w T2 T3) : frM w T T3 := ⟨fun f r c p q x y => (h2.1 f r c p q x y).trans (h1.1 f r c p q x y), fun f r c => (h2.2.1 f r c).trans (h1.2.1 f r c), fun v hv => ⟨(h2.2.2 v hv).1.trans (h1.2.2 v hv).1, (h2.2.2 v hv).2.1.trans (h1.2.2 v hv).2.1, (h2.2.2 v hv).2.2.trans (h1.2.2 v hv).2.2⟩⟩
theorem frM_lo {w : Nat} {T T2 : St} (h : frM (w + 1) T T2) : frM w T T2 := ⟨h.1, h.2.1, fun v hv => h.2.2 v (by omega)⟩
theorem frM_R {w : Nat} {T T2 : St} (h : frM w T T2) : frR T T2 := ⟨fun f r c q => h.1 f r c (by omega) (by omega) (by omega) (by omega), h.2.1⟩
theorem frM_I (T : St) (f w u : Nat) (x : Int32) (hf : f = 14 ∨ f = 16 ∨ f = 17) (hu : w ≤ u) : frM w T (xI T f 0 u x) := by
  refine ⟨fun f1 r c p q y z => xI_f (by omega), fun _ _ _ => rfl, fun v hv => ⟨xI_c (by omega), xI_c (by omega), xI_c (by omega)⟩⟩
theorem frM_15 {w : Nat} {T T2 : St} (h1 : ∀ f r c, f ≠ 15 → T2.1 f r c = T.1 f r c) (h2 : ∀ f r c, T2.2 f r c = T.2 f r c) : frM w T T2 := ⟨fun f r c _ q _ _ => h1 f r c q, h2, fun v hv => ⟨h1 _ _ _ (by decide), h1 _ _ _ (by decide), h1 _ _ _ (by decide)⟩⟩
/-- all that a level's scan finds before it -/
def preM (a : Ab) (w : Nat) (t : Nat → Nat) (O Z s : Nat) (T : St) (x3 x4 : Int32) (B : Nat) : Prop := EncM a T ∧ (∀ v, v < a 1 0 0 → ∀ h, h < a 0 0 0 → tb1 a T v h) ∧ (∀ v, v < w → T.1 14 0 v = nI (t v) ∧ t v < 36) ∧ accM T w O Z ∧ T.1 14 0 w = stI s ∧ bstM x3 x4 B ∧ O ≤ w ∧ Z ≤ 1500000 * w
theorem tb_fr {a : Ab} {w : Nat} {T T2 : St} (h : ∀ v, v < a 1 0 0 → ∀ h, h < a 0 0 0 → tb1 a T v h) (hf : frM w T T2) : ∀ v, v < a 1 0 0 → ∀ h, h < a 0 0 0 → tb1 a T2 v h := fun v hv g hg => tb1_c (h v hv g hg) (hf.1 _ _ _ (by decide) (by decide) (by decide) (by decide)) (hf.1 _ _ _ (by decide) (by decide) (by decide) (by decide))
theorem acc_fr {w O Z : Nat} {T T2 : St} (h : accM T w O Z) (hf : frM w T T2) : accM T2 w O Z := ⟨h.1, fun q => by have := hf.2.2 (w - 1) (by omega); rw [this.2.1, this.2.2]; exact h.2 q⟩
theorem stI_1 (s : Nat) : stI s + 1 = nI s := by
  cases s with
  | zero => decide
  | succ k => rw [stI_s, nI_1]
theorem nI_m1 (w : Nat) : nI w + (-1) = stI w := by
  cases w with
  | zero => decide
  | succ k => rw [stI_s, ← nI_1, Int32.add_assoc, show (1 : Int32) + (-1) = 0 from by decide, Int32.add_zero]
theorem step20 {a : Ab} {T : St} (hM : EncM a T) {w s : Nat} (hw : w < 4) (hs : s ≤ 36) (hh : a 0 0 0 ≤ 36) (e14 : T.1 14 0 w = stI s) (kk : St → Int32 → Option (Int32 × St)) (m : Nat) (x1 x2 x3 x4 : Int32) : f_X4_plan_L20 kk (m + 1) T x1 x2 x3 x4 (nI w) = if s < a 0 0 0 then ((f_X4_fitsBefore (xI T 14 0 w (nI s)) (nI w)).bind fun u6 => if u6 = 0 then (f_X4_plan_L20 kk m (xI T 14 0 w (nI s)) x1 x2 x3 x4 (nI w)) else (if nI w = x1 then (if nI s < x2 then (f_X4_plan_L20 kk m (xI T 14 0 w (nI s)) x1 x2 x3 x4 (nI w)) else (f_X4_plan_L82 (f_X4_plan_L20 kk m) kk (xI T 14 0 w (nI s)) x1 x2 x3 x4 (nI w))) else (f_X4_plan_L82 (f_X4_plan_L20 kk m) kk (xI T 14 0 w (nI s)) x1 x2 x3 x4 (nI w)))) else f_X4_plan_L20 kk m (xI T 14 0 w (nI s)) x1 x2 x3 x4 (stI w) := by
  rw [u_X4_plan_L20, if_neg (nI_pos (by omega))]
  simp only [cI (show w < 100000 by omega), gI4 hw, if_false, e14, stI_1, xI_same, nI_m1, hM.1, ltI (show s < 1048576 by omega) (show a 0 0 0 < 1048576 by omega)]
