/-! the reference's plan: the search -/
theorem td_lt : ∀ (d w : Nat) (f : Nat → Nat), w + d ≤ 4 → (∀ v, w ≤ v → v < w + d → f v < 36) → td w d f < 36 ^ (4 - w) := by
  intro d
  induction d with
  | zero => intro w f _ _; rw [td]; exact Nat.pow_pos (by omega)
  | succ d ih =>
    intro w f hw hf
    have h1 := ih (w + 1) f (by omega) (fun v q1 q2 => hf v (by omega) (by omega))
    have h2 := hf w (Nat.le_refl _) (by omega)
    have e1 : 4 - w = (3 - w) + 1 := by omega
    have e2 : 4 - (w + 1) = 3 - w := by omega
    rw [e2] at h1
    rw [td, e1, Nat.pow_succ]
    unfold dg
    have h3 : f w * 36 ^ (3 - w) ≤ 35 * 36 ^ (3 - w) := Nat.mul_le_mul_right _ (by omega)
    omega
theorem td_lt4 {d w : Nat} {f : Nat → Nat} (hw : w + d ≤ 4) (hf : ∀ v, w ≤ v → v < w + d → f v < 36) : td w d f < 1679616 := by
  have h1 := td_lt d w f hw hf
  have h2 : 36 ^ (4 - w) ≤ 36 ^ 4 := Nat.pow_le_pow_right (by omega) (by omega)
  have h3 : (36 : Nat) ^ 4 = 1679616 := by decide
  omega
theorem tw_of_tc {a : Ab} {L d w : Nat} {f g : Nat → Nat} (hw : w + d ≤ 4) (hf : ∀ v, w ≤ v → v < w + d → f v < 36) (h : tc a L w d f < tc a L w d g) : tw a L w d f ≤ tw a L w d g := by
  have := td_lt4 hw hf
  rw [tw_split, tw_split]
  omega
theorem tw_of_fst {a : Ab} {L d w : Nat} {f g : Nat → Nat} (hw : w + (d + 1) ≤ 4) (hf : ∀ v, w ≤ v → v < w + (d + 1) → f v < 36) (h : tc a L w (d + 1) f ≤ tc a L w (d + 1) g) (hl : f w < g w) : tw a L w (d + 1) f ≤ tw a L w (d + 1) g := by
  have h1 := td_lt d (w + 1) f (by omega) (fun v q1 q2 => hf v (by omega) (by omega))
  have e2 : 4 - (w + 1) = 3 - w := by omega
  rw [e2] at h1
  have h2 : td w (d + 1) f ≤ td w (d + 1) g := by
    rw [td, td]
    unfold dg
    have h3 : (f w + 1) * 36 ^ (3 - w) ≤ g w * 36 ^ (3 - w) := Nat.mul_le_mul_right _ (by omega)
    rw [Nat.add_mul, Nat.one_mul] at h3
    omega
  rw [tw_split, tw_split]
  omega
def rsM (a : Ab) (L hr w d : Nat) (t : Nat → Nat) (C : Nat) (Q : Nat → Prop) (B B2 : Nat) (T T2 : St) : Prop := B2 ≤ B ∧ ((B2 = B ∧ ∀ v, v < a 1 0 0 → T2.1 15 0 v = T.1 15 0 v) ∨ (B2 < B ∧ ∃ f, cmpl a L hr w t f ∧ Q (f w) ∧ B2 = C + tc a L w d f ∧ (∀ v, v < a 1 0 0 → T2.1 15 0 v = nI (f v)) ∧ ∀ g, cmpl a L hr w t g → Q (g w) → tw a L w d f ≤ tw a L w d g)) ∧ ∀ g, cmpl a L hr w t g → Q (g w) → B2 ≤ C + tc a L w d g
theorem rs_none {a : Ab} {L hr w d : Nat} {t : Nat → Nat} {C : Nat} {Q : Nat → Prop} {B : Nat} {T T2 : St} (h : ∀ g, cmpl a L hr w t g → Q (g w) → B ≤ C + tc a L w d g) (e : ∀ v, v < a 1 0 0 → T2.1 15 0 v = T.1 15 0 v) : rsM a L hr w d t C Q B B T T2 := ⟨Nat.le_refl _, Or.inl ⟨rfl, e⟩, h⟩
theorem c36 {n : Nat} {a : Ab} (hI : Inv n a) {L hr w : Nat} {t f : Nat → Nat} (h : cmpl a L hr w t f) {v : Nat} (h1 : w ≤ v) (h2 : v < a 1 0 0) : f v < 36 := by
  have := (h.2 v h1 h2).1.2.2.2
  have := hI.2.1
  omega
theorem rs_comb {n : Nat} {a : Ab} (hI : Inv n a) {L hr w d : Nat} {t : Nat → Nat} {C s B B1 B2 : Nat} {T T1 T2 : St} (hw : w + (d + 1) = a 1 0 0) (h1 : rsM a L hr w (d + 1) t C (fun x => x = s) B B1 T T1) (h2 : rsM a L hr w (d + 1) t C (fun x => s + 1 ≤ x) B1 B2 T1 T2) : rsM a L hr w (d + 1) t C (fun x => s ≤ x) B B2 T T2 := by
  have h4 := hI.2.2.1
  obtain ⟨a1, a2, a3⟩ := h1
  obtain ⟨b1, b2, b3⟩ := h2
  have low : ∀ g, cmpl a L hr w t g → s ≤ g w → B2 ≤ C + tc a L w (d + 1) g := fun g hg hs => by
    by_cases e : g w = s
    · have := a3 g hg e; omega
    · exact b3 g hg (show s + 1 ≤ g w by omega)
  have f36 : ∀ f, cmpl a L hr w t f → ∀ v, w ≤ v → v < w + (d + 1) → f v < 36 := fun f hf v q1 q2 => c36 hI hf q1 (by omega)
  refine ⟨by omega, ?_, low⟩
  rcases b2 with ⟨e, k⟩ | ⟨lt, f, p1, p2, p3, p4, p5⟩
  · rcases a2 with ⟨e1, k1⟩ | ⟨lt1, f, p1, p2, p3, p4, p5⟩
    · exact Or.inl ⟨by omega, fun v hv => (k v hv).trans (k1 v hv)⟩
    · have p2 : f w = s := p2
      refine Or.inr ⟨by omega, f, p1, Nat.le_of_eq p2.symm, by omega, fun v hv => (k v hv).trans (p4 v hv), fun g hg hs => ?_⟩
      by_cases eg : g w = s
      · exact p5 g hg eg
      · have hs : s ≤ g w := hs
        have := low g hg hs
        exact tw_of_fst (by omega) (f36 f p1) (by omega) (by omega)
  · have p2 : s + 1 ≤ f w := p2
    refine Or.inr ⟨by omega, f, p1, (show s ≤ f w by omega), p3, p4, fun g hg hs => ?_⟩
    by_cases eg : g w = s
    · have := a3 g hg eg
      exact tw_of_tc (by omega) (f36 f p1) (by omega)
    · have hs : s ≤ g w := hs
      exact p5 g hg (show s + 1 ≤ g w by omega)
theorem rs_up {a : Ab} {L hr w d : Nat} {t : Nat → Nat} {C s B B2 : Nat} {T T2 : St} (hk : okS a L hr w s) (hp : ∀ v, v < w → prs a v (t v) w s) (h : rsM a L hr (w + 1) d (upT t w s) (C + cst a L w s) (fun _ => True) B B2 T T2) : rsM a L hr w (d + 1) t C (fun x => x = s) B B2 T T2 := by
  obtain ⟨a1, a2, a3⟩ := h
  have up : ∀ g, cmpl a L hr w t g → g w = s → cmpl a L hr (w + 1) (upT t w s) g := fun g hg e => by
    have := cmpl_mono hg
    rw [e] at this; exact this
  refine ⟨a1, ?_, fun g hg e => ?_⟩
  · rcases a2 with q | ⟨lt, f, p1, p2, p3, p4, p5⟩
    · exact Or.inl q
    · obtain ⟨c1, c2⟩ := cmpl_back hk hp p1
      refine Or.inr ⟨lt, f, c1, c2, by rw [tc, c2]; omega, p4, fun g hg e => ?_⟩
      have e : g w = s := e
      have := p5 g (up g hg e) trivial
      rw [tw, tw, c2, e]; omega
  · have e : g w = s := e
    have := a3 g (up g hg e) trivial
    rw [tc, e]; omega
def frM (w : Nat) (T T2 : St) : Prop := (∀ f r c, f ≠ 14 → f ≠ 15 → f ≠ 16 → f ≠ 17 → T2.1 f r c = T.1 f r c) ∧ (∀ f r c, T2.2 f r c = T.2 f r c) ∧ (∀ v, v < w → T2.1 14 0 v = T.1 14 0 v ∧ T2.1 16 0 v = T.1 16 0 v ∧ T2.1 17 0 v = T.1 17 0 v)
theorem frM_tr {w : Nat} {T T2 T3 : St} (h1 : frM w T T2) (h2 : frM w T2 T3) : frM w T T3 := ⟨fun f r c p q x y => (h2.1 f r c p q x y).trans (h1.1 f r c p q x y), fun f r c => (h2.2.1 f r c).trans (h1.2.1 f r c), fun v hv => ⟨(h2.2.2 v hv).1.trans (h1.2.2 v hv).1, (h2.2.2 v hv).2.1.trans (h1.2.2 v hv).2.1, (h2.2.2 v hv).2.2.trans (h1.2.2 v hv).2.2⟩⟩
theorem frM_lo {w : Nat} {T T2 : St} (h : frM (w + 1) T T2) : frM w T T2 := ⟨h.1, h.2.1, fun v hv => h.2.2 v (by omega)⟩
theorem frM_R {w : Nat} {T T2 : St} (h : frM w T T2) : frR T T2 := ⟨fun f r c q => h.1 f r c (by omega) (by omega) (by omega) (by omega), h.2.1⟩
theorem frM_I (T : St) (f w u : Nat) (x : Int32) (hf : f = 14 ∨ f = 16 ∨ f = 17) (hu : w ≤ u) : frM w T (xI T f 0 u x) := by
  refine ⟨fun f1 r c p q y z => xI_f (by omega), fun _ _ _ => rfl, fun v hv => ⟨xI_c (by omega), xI_c (by omega), xI_c (by omega)⟩⟩
theorem frM_15 {w : Nat} {T T2 : St} (h1 : ∀ f r c, f ≠ 15 → T2.1 f r c = T.1 f r c) (h2 : ∀ f r c, T2.2 f r c = T.2 f r c) : frM w T T2 := ⟨fun f r c _ q _ _ => h1 f r c q, h2, fun v hv => ⟨h1 _ _ _ (by decide), h1 _ _ _ (by decide), h1 _ _ _ (by decide)⟩⟩
/-- all that a level's scan finds before it -/
def preM (a : Ab) (w : Nat) (t : Nat → Nat) (O Z s : Nat) (T : St) (x3 x4 : Int32) (B : Nat) : Prop := EncM a T ∧ (∀ v, v < a 1 0 0 → ∀ h, h < a 0 0 0 → tb1 a T v h) ∧ (∀ v, v < w → T.1 14 0 v = nI (t v) ∧ t v < 36) ∧ accM T w O Z ∧ T.1 14 0 w = stI s ∧ bstM x3 x4 B ∧ O ≤ w ∧ Z ≤ 1500000 * w
theorem tb_fr {a : Ab} {w : Nat} {T T2 : St} (h : ∀ v, v < a 1 0 0 → ∀ h, h < a 0 0 0 → tb1 a T v h) (hf : frM w T T2) : ∀ v, v < a 1 0 0 → ∀ h, h < a 0 0 0 → tb1 a T2 v h := fun v hv g hg => tb1_c (h v hv g hg) (hf.1 _ _ _ (by decide) (by decide) (by decide) (by decide)) (hf.1 _ _ _ (by decide) (by decide) (by decide) (by decide))
theorem acc_fr {w O Z : Nat} {T T2 : St} (h : accM T w O Z) (hf : frM w T T2) : accM T2 w O Z := ⟨h.1, fun q => by have := hf.2.2 (w - 1) (by omega); rw [this.2.1, this.2.2]; exact h.2 q⟩
theorem stI_1 (s : Nat) : stI s + 1 = nI s := by
  cases s with
  | zero => decide
  | succ k => rw [stI_s, nI_1]
theorem nI_m1 (w : Nat) : nI w + (-1) = stI w := by
  cases w with
  | zero => decide
  | succ k => rw [stI_s, ← nI_1, Int32.add_assoc, show (1 : Int32) + (-1) = 0 from by decide, Int32.add_zero]
theorem step20 {a : Ab} {T : St} (hM : EncM a T) {w s : Nat} (hw : w < 4) (hs : s ≤ 36) (hh : a 0 0 0 ≤ 36) (e14 : T.1 14 0 w = stI s) (kk : St → Int32 → Option (Int32 × St)) (m : Nat) (x1 x2 x3 x4 : Int32) : f_X4_plan_L20 kk (m + 1) T x1 x2 x3 x4 (nI w) = if s < a 0 0 0 then ((f_X4_fitsBefore (xI T 14 0 w (nI s)) (nI w)).bind fun u6 => if u6 = 0 then (f_X4_plan_L20 kk m (xI T 14 0 w (nI s)) x1 x2 x3 x4 (nI w)) else (if nI w = x1 then (if nI s < x2 then (f_X4_plan_L20 kk m (xI T 14 0 w (nI s)) x1 x2 x3 x4 (nI w)) else (f_X4_plan_L82 (f_X4_plan_L20 kk m) kk (xI T 14 0 w (nI s)) x1 x2 x3 x4 (nI w))) else (f_X4_plan_L82 (f_X4_plan_L20 kk m) kk (xI T 14 0 w (nI s)) x1 x2 x3 x4 (nI w)))) else f_X4_plan_L20 kk m (xI T 14 0 w (nI s)) x1 x2 x3 x4 (stI w) := by
  rw [u_X4_plan_L20, if_neg (nI_pos (by omega))]
  simp only [cI (show w < 100000 by omega), gI4 hw, if_false, e14, stI_1, xI_same, nI_m1, hM.1, ltI (show s < 1048576 by omega) (show a 0 0 0 < 1048576 by omega)]
def VM : Nat → Nat
  | 0 => 0
  | d + 1 => 36 * (1 + VM d) + 1
/-- a level's scan, from a start on -/
def scanS (a : Ab) (L hr w d : Nat) (kk : St → Int32 → Option (Int32 × St)) (x1 x2 : Int32) (bound : Nat) (t : Nat → Nat) (O Z s : Nat) (T : St) (x3 x4 : Int32) (B : Nat) : Prop := ∃ c T2 y3 y4 B2, c ≤ bound ∧ (∀ F, f_X4_plan_L20 kk (F + c) T x1 x2 x3 x4 (nI w) = f_X4_plan_L20 kk F T2 x1 x2 y3 y4 (stI w)) ∧ frM w T T2 ∧ bstM y3 y4 B2 ∧ rsM a L hr w d t (O * 10000000 + Z) (fun x => s ≤ x) B B2 T T2
/-- one candidate of a level -/
theorem cand_ok {n : Nat} {a : Ab} (hI : Inv n a) {L hr w d : Nat} {x1 x2 : Int32} (hx : askM a L hr x1 x2) (kk : St → Int32 → Option (Int32 × St)) (hwd : w + (d + 1) = a 1 0 0) (Hd : d ≠ 0 → ∀ (t : Nat → Nat) (O Z : Nat) (T : St) (x3 x4 : Int32) (B : Nat), preM a (w + 1) t O Z 0 T x3 x4 B → scanS a L hr (w + 1) d kk x1 x2 (VM d) t O Z 0 T x3 x4 B) {t : Nat → Nat} {O Z s : Nat} {T : St} {x3 x4 : Int32} {B : Nat} (hs : s < a 0 0 0) (hP : preM a w t O Z s T x3 x4 B) : ∃ c T2 y3 y4 B2, c ≤ 1 + VM d ∧ (∀ F, f_X4_plan_L20 kk (F + c) T x1 x2 x3 x4 (nI w) = f_X4_plan_L20 kk F T2 x1 x2 y3 y4 (nI w)) ∧ frM w T T2 ∧ T2.1 14 0 w = nI s ∧ bstM y3 y4 B2 ∧ rsM a L hr w (d + 1) t (O * 10000000 + Z) (fun x => x = s) B B2 T T2 := by
  have h4 := hI.2.2.1
  have hn := hI.2.1
  have hw : w < a 1 0 0 := by omega
  have hw4 : w < 4 := by omega
  obtain ⟨hM, htb, hpre, hacc, e14, hB, hO, hZ⟩ := hP
  have st := fun m => step20 hM hw4 (show s ≤ 36 by omega) hn e14 kk m x1 x2 x3 x4
  obtain ⟨T1, hT1⟩ : ∃ z, z = xI T 14 0 w (nI s) := ⟨_, rfl⟩
  rw [← hT1] at st
  have f1 : frM w T T1 := by rw [hT1]; exact frM_I T 14 w w _ (by omega) (Nat.le_refl _)
  have g14 : T1.1 14 0 w = nI s := by rw [hT1]; exact xI_same _ _ _ _ _
  have g15 : ∀ v, T1.1 15 0 v = T.1 15 0 v := fun v => by rw [hT1]; exact xI_f (by decide)
  have hM1 := eM_frR hM (frM_R f1)
  have htb1 := tb_fr htb f1
  have hpre1 : ∀ v, v < w → T1.1 14 0 v = nI (t v) ∧ t v < 36 := fun v hv => by rw [(f1.2.2 v hv).1]; exact hpre v hv
  have hacc1 := acc_fr hacc f1
  obtain ⟨b, b1, b2, b3⟩ := fits_ok hI hM1 hw (show s < 36 by omega) g14 hpre1 (htb1 w hw s hs)
  -- a candidate that is passed over
  have skip : (∀ m, f_X4_plan_L20 kk (m + 1) T x1 x2 x3 x4 (nI w) = f_X4_plan_L20 kk m T1 x1 x2 x3 x4 (nI w)) → (∀ g, cmpl a L hr w t g → g w = s → False) → ∃ c T2 y3 y4 B2, c ≤ 1 + VM d ∧ (∀ F, f_X4_plan_L20 kk (F + c) T x1 x2 x3 x4 (nI w) = f_X4_plan_L20 kk F T2 x1 x2 y3 y4 (nI w)) ∧ frM w T T2 ∧ T2.1 14 0 w = nI s ∧ bstM y3 y4 B2 ∧ rsM a L hr w (d + 1) t (O * 10000000 + Z) (fun x => x = s) B B2 T T2 := by
    intro h1 h2
    exact ⟨1, T1, x3, x4, B, by omega, h1, f1, g14, hB, rs_none (fun g hg e => (h2 g hg e).elim) (fun v _ => g15 v)⟩
  have cm : ∀ g, cmpl a L hr w t g → g w = s → okS a L hr w s ∧ ∀ u, u < w → prs a u (t u) w s := fun g hg e => by
    have h1 := hg.2 w (Nat.le_refl _) hw
    rw [e] at h1
    exact ⟨h1.1, fun u hu => by have := h1.2 u hu; rw [hg.1 u hu] at this; exact this⟩
  by_cases cb : b = 0
  · refine skip (fun m => ?_) (fun g hg e => ?_)
    · rw [st m, if_pos hs, b2, Option.bind_some, cb, if_pos (show nI 0 = 0 from rfl)]
    · have := cm g hg e
      have : b = 1 := b3.mpr ⟨⟨this.1.1, this.1.2.1⟩, this.2⟩
      omega
  · have hb1 : b = 1 := by omega
    have hal := b3.mp hb1
    have hfit := al_fit hal.1.1
    have hdl := dl_le hI hw (show s + sp a w ≤ 36 by omega)
    have hmv := mvc_le a L w s
    have st2 : ∀ m, f_X4_plan_L20 kk (m + 1) T x1 x2 x3 x4 (nI w) = if nI w = x1 then (if nI s < x2 then (f_X4_plan_L20 kk m T1 x1 x2 x3 x4 (nI w)) else (f_X4_plan_L82 (f_X4_plan_L20 kk m) kk T1 x1 x2 x3 x4 (nI w))) else (f_X4_plan_L82 (f_X4_plan_L20 kk m) kk T1 x1 x2 x3 x4 (nI w)) := fun m => by
      rw [st m, if_pos hs, b2, Option.bind_some, hb1, if_neg (show ¬ nI 1 = 0 by decide)]
    -- the late work's own hour
    by_cases cl : w = L ∧ s < hr
    · have hxx : nI w = x1 ∧ nI s < x2 := by
        rcases hx with ⟨e1, e2, e3⟩ | ⟨e1, e2, e3, e4⟩
        · omega
        · rw [e2, e3, cl.1]
          exact ⟨rfl, nI_lt cl.2 (by omega)⟩
      refine skip (fun m => ?_) (fun g hg e => ?_)
      · rw [st2 m, if_pos hxx.1, if_pos hxx.2]
      · have := (cm g hg e).1.2.2.1 cl.1
        omega
    · have st3 : ∀ m, f_X4_plan_L20 kk (m + 1) T x1 x2 x3 x4 (nI w) = f_X4_plan_L82 (f_X4_plan_L20 kk m) kk T1 x1 x2 x3 x4 (nI w) := fun m => by
        rw [st2 m]
        by_cases c : nI w = x1
        · rw [if_pos c]
          rcases hx with ⟨e1, e2, e3⟩ | ⟨e1, e2, e3, e4⟩
          · rw [e2] at c; exact absurd c (nI_n100 (by omega))
          · rw [e2] at c
            have := (nI_eq (by omega) (by omega)).mp c
            rw [e3, if_neg (nI_nlt (by omega) (by omega))]
        · rw [if_neg c]
      have hok : okS a L hr w s := ⟨hal.1.1, hal.1.2, fun q => by omega, hs⟩
      obtain ⟨_, _, _, _, t19⟩ := htb1 w hw s hs
      have e19 := t19 hal.1
      have st4 : ∀ m, f_X4_plan_L20 kk (m + 1) T x1 x2 x3 x4 (nI w) = _ := fun m => (st3 m).trans (s82 hI hM1 hw (show s < 36 by omega) g14 hacc1 e19 (show O + mvc a L w s ≤ 4 by omega) (show Z + dl a w s < 10000000 by omega) hx hB (f_X4_plan_L20 kk m) kk)
      have eC : (O + mvc a L w s) * 10000000 + (Z + dl a w s) = (O * 10000000 + Z) + cst a L w s := by unfold cst; omega
      obtain ⟨T3, hT3⟩ : ∃ z, z = T3M T1 w (O + mvc a L w s) (Z + dl a w s) := ⟨_, rfl⟩
      rw [← hT3, eC] at st4
      have f3 : frM w T1 T3 := by rw [hT3]; exact frM_tr (frM_I T1 16 w w _ (by omega) (Nat.le_refl _)) (frM_I _ 17 w w _ (by omega) (Nat.le_refl _))
      have k14 : ∀ v, T3.1 14 0 v = T1.1 14 0 v := fun v => by rw [hT3]; unfold T3M; rw [xI_f (by decide), xI_f (by decide)]
      have k15 : ∀ v, T3.1 15 0 v = T1.1 15 0 v := fun v => by rw [hT3]; unfold T3M; rw [xI_f (by decide), xI_f (by decide)]
      have k16 : T3.1 16 0 w = nI (O + mvc a L w s) := by rw [hT3]; unfold T3M; rw [xI_f (by decide), xI_same]
      have k17 : T3.1 17 0 w = nI (Z + dl a w s) := by rw [hT3]; unfold T3M; rw [xI_same]
      have f13 := frM_tr f1 f3
      have hM3 := eM_frR hM (frM_R f13)
      have pre3 : ∀ v, v < w + 1 → T3.1 14 0 v = nI (upT t w s v) ∧ upT t w s v < 36 := fun v hv => by
        rw [k14]
        by_cases e : v = w
        · rw [e, upT_same]; exact ⟨g14, by omega⟩
        · rw [upT_ne e]; exact hpre1 v (by omega)
      by_cases cB : O * 10000000 + Z + cst a L w s < B
      · by_cases cd : d = 0
        · obtain ⟨T4, g1, g2, g3, g4⟩ := (show ∃ T4, (∀ m, f_X4_plan_L226 (f_X4_plan_L20 kk m) kk T3 x1 x2 x3 x4 (nI w) = f_X4_plan_L20 kk m T4 x1 x2 (nI (O + mvc a L w s)) (nI (Z + dl a w s)) (nI w)) ∧ (∀ f r c, f ≠ 15 → T4.1 f r c = T3.1 f r c) ∧ (∀ f r c, T4.2 f r c = T3.2 f r c) ∧ (∀ u, u < a 1 0 0 → T4.1 15 0 u = nI (upT t w s u)) from by
            obtain ⟨T4, q1, q2, q3, q4⟩ := s226g hM3 h4 (w := w) (t := upT t w s) (show w + 1 = a 1 0 0 by omega) (fun u hu => (pre3 u (by omega)).1) k16 k17 kk x1 x2 x3 x4
            exact ⟨T4, q1, q2, q3, q4⟩)
          refine ⟨1, T4, nI (O + mvc a L w s), nI (Z + dl a w s), O * 10000000 + Z + cst a L w s, by omega, fun m => ?_, frM_tr f13 (frM_15 g2 g3), by rw [g2 _ _ _ (by decide), k14]; exact g14, Or.inr ⟨_, _, show O + mvc a L w s ≤ 4 by omega, show Z + dl a w s < 10000000 by omega, eC.symm, rfl, rfl⟩, rs_up hok hal.2 ?_⟩
          · rw [st4 m, if_pos cB, g1 m]
          · subst cd
            refine ⟨by omega, Or.inr ⟨cB, upT t w s, ⟨fun _ _ => rfl, fun u q1 q2 => by omega⟩, trivial, by simp only [tc, Nat.add_zero], g4, fun g _ _ => by simp only [tw, Nat.le_refl]⟩, fun g _ _ => by simp only [tc, Nat.add_zero, Nat.le_refl]⟩
        · have hw1 : w + 1 < a 1 0 0 := by omega
          obtain ⟨Td, hTd⟩ : ∃ z, z = xI T3 14 0 (w + 1) (-1) := ⟨_, rfl⟩
          have fd : frM (w + 1) T3 Td := by rw [hTd]; exact frM_I T3 14 (w + 1) (w + 1) _ (by omega) (Nat.le_refl _)
          have fd0 := frM_tr f13 (frM_lo fd)
          have d15 : ∀ v, Td.1 15 0 v = T.1 15 0 v := fun v => by rw [hTd, xI_f (by decide), k15, g15]
          obtain ⟨c, T2, y3, y4, B2, r1, r2, r3, r4, r5⟩ := Hd cd (upT t w s) (O + mvc a L w s) (Z + dl a w s) Td x3 x4 B ⟨eM_frR hM3 (frM_R fd), tb_fr htb fd0, fun v hv => by rw [(fd.2.2 v hv).1]; exact pre3 v hv, ⟨fun q => by omega, fun _ => by rw [Nat.add_sub_cancel, (fd.2.2 w (by omega)).2.1, (fd.2.2 w (by omega)).2.2]; exact ⟨k16, k17⟩⟩, by rw [hTd, xI_same]; rfl, hB, by omega, by omega⟩
          refine ⟨c + 1, T2, y3, y4, B2, by omega, fun F => ?_, frM_tr fd0 (frM_lo r3), by rw [(r3.2.2 w (by omega)).1, (fd.2.2 w (by omega)).1, k14]; exact g14, r4, rs_up hok hal.2 ?_⟩
          · rw [show F + (c + 1) = (F + c) + 1 by omega, st4 (F + c), if_pos cB, s226 hM3 h4 hw1, ← hTd, r2 F, stI_s]
          · rw [← eC]
            obtain ⟨z1, z2, z3⟩ := r5
            refine ⟨z1, ?_, fun g hg _ => z3 g hg (Nat.zero_le _)⟩
            rcases z2 with ⟨y1, y2⟩ | ⟨y1, f, y2, y3, y4, y5, y6⟩
            · exact Or.inl ⟨y1, fun v hv => (y2 v hv).trans (d15 v)⟩
            · exact Or.inr ⟨y1, f, y2, trivial, y4, y5, fun g hg _ => y6 g hg (Nat.zero_le _)⟩
      · refine ⟨1, T3, x3, x4, B, by omega, fun m => ?_, f13, by rw [k14]; exact g14, hB, rs_none (fun g hg e => ?_) (fun v _ => (k15 v).trans (g15 v))⟩
        · rw [st4 m, if_neg cB, s230]
        · have e : g w = s := e
          rw [tc, e]; omega
theorem scanK {n : Nat} {a : Ab} (hI : Inv n a) {L hr w d : Nat} {x1 x2 : Int32} (hx : askM a L hr x1 x2) (kk : St → Int32 → Option (Int32 × St)) (hwd : w + (d + 1) = a 1 0 0) (Hd : d ≠ 0 → ∀ (t : Nat → Nat) (O Z : Nat) (T : St) (x3 x4 : Int32) (B : Nat), preM a (w + 1) t O Z 0 T x3 x4 B → scanS a L hr (w + 1) d kk x1 x2 (VM d) t O Z 0 T x3 x4 B) {t : Nat → Nat} {O Z : Nat} : ∀ (k s : Nat) (T : St) (x3 x4 : Int32) (B : Nat), s + k = a 0 0 0 → preM a w t O Z s T x3 x4 B → scanS a L hr w (d + 1) kk x1 x2 (k * (1 + VM d) + 1) t O Z s T x3 x4 B := by
  have h4 := hI.2.2.1
  have hn := hI.2.1
  have hw : w < a 1 0 0 := by omega
  have hw4 : w < 4 := by omega
  intro k
  induction k with
  | zero =>
    intro s T x3 x4 B he hP
    obtain ⟨hM, htb, hpre, hacc, e14, hB, hO, hZ⟩ := hP
    refine ⟨1, xI T 14 0 w (nI s), x3, x4, B, by omega, fun F => ?_, frM_I T 14 w w _ (by omega) (Nat.le_refl _), hB, rs_none (fun g hg q => ?_) (fun v _ => xI_f (by decide))⟩
    · rw [step20 hM hw4 (show s ≤ 36 by omega) hn e14, if_neg (by omega)]
    · have q : s ≤ g w := q
      have := (hg.2 w (Nat.le_refl _) hw).1.2.2.2
      omega
  | succ k ih =>
    intro s T x3 x4 B he hP
    obtain ⟨c1, T1, y3, y4, B1, r1, r2, r3, r4, r5, r6⟩ := cand_ok hI hx kk hwd Hd (show s < a 0 0 0 by omega) hP
    obtain ⟨hM, htb, hpre, hacc, e14, hB, hO, hZ⟩ := hP
    obtain ⟨c2, T2, z3, z4, B2, p1, p2, p3, p4, p5⟩ := ih (s + 1) T1 y3 y4 B1 (by omega) ⟨eM_frR hM (frM_R r3), tb_fr htb r3, fun v hv => by rw [(r3.2.2 v hv).1]; exact hpre v hv, acc_fr hacc r3, by rw [r4, stI_s], r5, hO, hZ⟩
    refine ⟨c2 + c1, T2, z3, z4, B2, ?_, fun F => ?_, frM_tr r3 p3, p4, rs_comb hI hwd r6 p5⟩
    · rw [Nat.add_mul, Nat.one_mul]; omega
    · rw [show F + (c2 + c1) = (F + c2) + c1 by omega, r2, p2]
theorem scanA {n : Nat} {a : Ab} (hI : Inv n a) {L hr : Nat} {x1 x2 : Int32} (hx : askM a L hr x1 x2) (kk : St → Int32 → Option (Int32 × St)) : ∀ (d w : Nat) (t : Nat → Nat) (O Z : Nat) (T : St) (x3 x4 : Int32) (B : Nat), d ≠ 0 → w + d = a 1 0 0 → preM a w t O Z 0 T x3 x4 B → scanS a L hr w d kk x1 x2 (VM d) t O Z 0 T x3 x4 B := by
  have hn := hI.2.1
  intro d
  induction d with
  | zero => intro w t O Z T x3 x4 B h; exact absurd rfl h
  | succ d ih =>
    intro w t O Z T x3 x4 B _ he hP
    obtain ⟨c, T2, y3, y4, B2, r1, r2⟩ := scanK hI hx kk he (fun q t O Z T x3 x4 B hp => ih (w + 1) t O Z T x3 x4 B q (by omega) hp) (a 0 0 0) 0 T x3 x4 B (by omega) hP
    refine ⟨c, T2, y3, y4, B2, ?_, r2⟩
    have : a 0 0 0 * (1 + VM d) ≤ 36 * (1 + VM d) := Nat.mul_le_mul_right _ hn
    rw [VM]; omega
