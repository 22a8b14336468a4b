/-! the reference's plan: one candidate -/
def bstM (x3 x4 : Int32) (B : Nat) : Prop := (x3 = -100 ∧ B = 1000000000) ∨ ∃ Bo Bs, Bo ≤ 4 ∧ Bs < 10000000 ∧ B = Bo * 10000000 + Bs ∧ x3 = nI Bo ∧ x4 = nI Bs
def askM (a : Ab) (L hr : Nat) (x1 x2 : Int32) : Prop := (L = 9 ∧ x1 = -100 ∧ hr = 0) ∨ (L < a 1 0 0 ∧ x1 = nI L ∧ x2 = nI hr ∧ hr < a 0 0 0)
theorem nI_n100 {k : Nat} (h : k < 100) : ¬ nI k = (-100 : Int32) := by
  intro e
  have h1 := congrArg Int32.toInt e
  rw [nI_toInt (by omega)] at h1
  have h2 : (-100 : Int32).toInt = -100 := by decide
  omega
/-- what the works before one have cost: others moved, and delay -/
def accM (T : St) (w O Z : Nat) : Prop := (w = 0 → O = 0 ∧ Z = 0) ∧ (w ≠ 0 → T.1 16 0 (w - 1) = nI O ∧ T.1 17 0 (w - 1) = nI Z)
def T3M (T : St) (w O1 Z1 : Nat) : St := xI (xI T 16 0 w (nI O1)) 17 0 w (nI Z1)
theorem s166 {a : Ab} {T : St} {L w h O1 Z : Nat} (hw4 : w < 4) (hh : h < 36) (e14 : T.1 14 0 w = nI h) (e16 : T.1 16 0 w = nI O1) (e19 : T.1 19 0 (36 * w + h) = nI (dl a w h)) (hO : O1 ≤ 4) (hZ : Z + dl a w h < 10000000) {x1 x2 x3 x4 : Int32} {B : Nat} (hB : bstM x3 x4 B) (r : St → Int32 → Int32 → Int32 → Int32 → Int32 → Option (Int32 × St)) (k : St → Int32 → Option (Int32 × St)) : f_X4_plan_L166 r k T x1 x2 x3 x4 (nI w) (nI Z) (nI w) = if O1 * 10000000 + (Z + dl a w h) < B then f_X4_plan_L226 r k (xI T 17 0 w (nI (Z + dl a w h))) x1 x2 x3 x4 (nI w) else f_X4_plan_L230 r k (xI T 17 0 w (nI (Z + dl a w h))) x1 x2 x3 x4 (nI w) := by
  unfold f_X4_plan_L166
  simp only [cI (show w < 100000 by omega), gI4 hw4, e14, c144 hw4 hh, g144 hw4 hh, if_false, e19, nI_add, e16, xI_same]
  rcases hB with ⟨e1, e2⟩ | ⟨Bo, Bs, b1, b2, b3, b4, b5⟩
  · rw [if_pos e1, if_pos (by omega)]
  · rw [b4, b5, if_neg (nI_n100 (by omega))]
    by_cases c1 : O1 < Bo
    · rw [if_pos ((nI_ltI (by omega) (by omega)).mpr c1), if_pos (by omega)]
    · rw [if_neg (fun q => c1 ((nI_ltI (by omega) (by omega)).mp q))]
      by_cases c2 : O1 = Bo
      · rw [if_pos (by rw [c2])]
        by_cases c3 : Bs ≤ Z + dl a w h
        · rw [if_pos ((nI_leI (by omega) (by omega)).mpr c3), if_neg (by omega)]
        · rw [if_neg (fun q => c3 ((nI_leI (by omega) (by omega)).mp q)), if_pos (by omega)]
      · rw [if_neg (fun q => c2 ((nI_eq (by omega) (by omega)).mp q)), if_neg (by omega)]
theorem s140 {a : Ab} {T : St} {L w h O Z y : Nat} (hw4 : w < 4) (hh : h < 36) (e14 : T.1 14 0 w = nI h) (hA : accM T w O Z) (e19 : T.1 19 0 (36 * w + h) = nI (dl a w h)) (hO : O + y ≤ 4) (hZ : Z + dl a w h < 10000000) {x1 x2 x3 x4 : Int32} {B : Nat} (hB : bstM x3 x4 B) (r : St → Int32 → Int32 → Int32 → Int32 → Int32 → Option (Int32 × St)) (k : St → Int32 → Option (Int32 × St)) : f_X4_plan_L140 r k T x1 x2 x3 x4 (nI w) (nI y) (nI O) (nI w) = if (O + y) * 10000000 + (Z + dl a w h) < B then f_X4_plan_L226 r k (T3M T w (O + y) (Z + dl a w h)) x1 x2 x3 x4 (nI w) else f_X4_plan_L230 r k (T3M T w (O + y) (Z + dl a w h)) x1 x2 x3 x4 (nI w) := by
  unfold f_X4_plan_L140
  simp only [cI (show w < 100000 by omega), gI4 hw4, if_false, nI_add]
  have main := s166 (a := a) (T := xI T 16 0 w (nI (O + y))) (L := L) (w := w) (h := h) (O1 := O + y) (Z := Z) hw4 hh (by rw [xI_f (by decide)]; exact e14) (xI_same _ _ _ _ _) (by rw [xI_f (by decide)]; exact e19) hO hZ (x1 := x1) (x2 := x2) hB r k
  by_cases c : w = 0
  · rw [if_pos (show nI w ≤ 0 from nI_le (b := 0) (by omega) (by omega))]
    have ez := (hA.1 c).2
    rw [ez] at main ⊢
    exact main
  · have e1 : nI w - 1 = nI (w - 1) := pk_sub (a := w) (b := 1) (by omega)
    rw [if_neg (show ¬ nI w ≤ 0 from nI_ge (a := 0) (by omega) (by omega))]
    simp only [e1, cI (show w - 1 < 100000 by omega), gI4 (show w - 1 < 4 by omega), if_false, (hA.2 c).2]
    exact main
theorem s82 {n : Nat} {a : Ab} {T : St} (hI : Inv n a) (hM : EncM a T) {L hr w h O Z : Nat} (hw : w < a 1 0 0) (hh : h < 36) (e14 : T.1 14 0 w = nI h) (hA : accM T w O Z) (e19 : T.1 19 0 (36 * w + h) = nI (dl a w h)) (hO : O + mvc a L w h ≤ 4) (hZ : Z + dl a w h < 10000000) {x1 x2 x3 x4 : Int32} {B : Nat} (hx : askM a L hr x1 x2) (hB : bstM x3 x4 B) (r : St → Int32 → Int32 → Int32 → Int32 → Int32 → Option (Int32 × St)) (k : St → Int32 → Option (Int32 × St)) : f_X4_plan_L82 r k T x1 x2 x3 x4 (nI w) = if (O + mvc a L w h) * 10000000 + (Z + dl a w h) < B then f_X4_plan_L226 r k (T3M T w (O + mvc a L w h) (Z + dl a w h)) x1 x2 x3 x4 (nI w) else f_X4_plan_L230 r k (T3M T w (O + mvc a L w h) (Z + dl a w h)) x1 x2 x3 x4 (nI w) := by
  have h4 := hI.2.2.1
  have hw4 : w < 4 := by omega
  have main : f_X4_plan_L106 r k T x1 x2 x3 x4 (nI w) (nI O) (nI w) = if (O + mvc a L w h) * 10000000 + (Z + dl a w h) < B then f_X4_plan_L226 r k (T3M T w (O + mvc a L w h) (Z + dl a w h)) x1 x2 x3 x4 (nI w) else f_X4_plan_L230 r k (T3M T w (O + mvc a L w h) (Z + dl a w h)) x1 x2 x3 x4 (nI w) := by
    unfold f_X4_plan_L106 f_X4_plan_L139
    have hst : T.1 13 0 w = stI (a 13 w 0) := (hM.2.2.1 w hw).2.2.2.2.2
    have h13 := (hI.2.2.2.2.1 w hw4).2.2.2.2.2.2.1
    have hin := stI_inj (c := h + 1) (v := a 13 w 0) (by omega) (by omega)
    have key := fun y (hy : mvc a L w h = y) => s140 (a := a) (T := T) (L := L) (w := w) (h := h) (O := O) (Z := Z) (y := y) hw4 hh e14 hA e19 (by omega) hZ (x1 := x1) (x2 := x2) hB r k
    rcases hx with ⟨e1, e2, e3⟩ | ⟨e1, e2, e3, e4⟩
    · have hm : mvc a L w h = 0 := by unfold mvc; rw [if_neg (by omega)]
      rw [if_pos e2, hm]
      exact key 0 hm
    · rw [if_neg (by rw [e2]; exact nI_n100 (by omega))]
      by_cases c : w = L
      · have hm : mvc a L w h = 0 := by unfold mvc; rw [if_neg (fun q => q.2.1 c)]
        rw [if_pos (by rw [e2, c]), hm]
        exact key 0 hm
      · rw [if_neg (by rw [e2]; exact fun q => c ((nI_eq (by omega) (by omega)).mp q))]
        simp only [cI (show w < 100000 by omega), gI4 hw4, if_false, e14, hst]
        by_cases c2 : a 13 w 0 = h + 1
        · have hm : mvc a L w h = 0 := by unfold mvc; rw [if_neg (fun q => q.2.2 c2)]
          rw [if_pos (show nI h = stI (a 13 w 0) by rw [c2, stI_s]), hm]
          exact key 0 hm
        · have hm : mvc a L w h = 1 := by unfold mvc; rw [if_pos ⟨by omega, c, c2⟩]
          rw [if_neg (show ¬ nI h = stI (a 13 w 0) from fun q => c2 (hin.mp (by rw [stI_s]; exact q)).symm), hm]
          exact key 1 hm
  unfold f_X4_plan_L82
  by_cases c : w = 0
  · rw [if_pos (show nI w ≤ 0 from nI_le (b := 0) (by omega) (by omega))]
    have ez := (hA.1 c).1
    rw [ez] at main ⊢
    exact main
  · have e1 : nI w - 1 = nI (w - 1) := pk_sub (a := w) (b := 1) (by omega)
    rw [if_neg (show ¬ nI w ≤ 0 from nI_ge (a := 0) (by omega) (by omega))]
    simp only [e1, cI (show w - 1 < 100000 by omega), gI4 (show w - 1 < 4 by omega), if_false, (hA.2 c).1]
    exact main
theorem s230 (r : St → Int32 → Int32 → Int32 → Int32 → Int32 → Option (Int32 × St)) (k : St → Int32 → Option (Int32 × St)) (T : St) (x1 x2 x3 x4 x5 : Int32) : f_X4_plan_L230 r k T x1 x2 x3 x4 x5 = r T x1 x2 x3 x4 x5 := by
  unfold f_X4_plan_L230 f_X4_plan_L231 f_X4_plan_L263
  rw [if_pos rfl, if_pos rfl]
theorem s226 {a : Ab} {T : St} (hM : EncM a T) (h4 : a 1 0 0 ≤ 4) {w : Nat} (hw : w + 1 < a 1 0 0) (r : St → Int32 → Int32 → Int32 → Int32 → Int32 → Option (Int32 × St)) (k : St → Int32 → Option (Int32 × St)) (x1 x2 x3 x4 : Int32) : f_X4_plan_L226 r k T x1 x2 x3 x4 (nI w) = r (xI T 14 0 (w + 1) (-1)) x1 x2 x3 x4 (nI (w + 1)) := by
  unfold f_X4_plan_L226 f_X4_plan_L231
  rw [if_neg (by decide), hM.2.1, nI_1, if_neg (nI_ge (by omega) (by omega))]
  simp only [cI (show w + 1 < 100000 by omega), gI4 (show w + 1 < 4 by omega), if_false]
theorem copyM {a : Ab} (h4 : a 1 0 0 ≤ 4) {t : Nat → Nat} (r20 : St → Int32 → Int32 → Int32 → Int32 → Int32 → Option (Int32 × St)) (k20 : St → Int32 → Option (Int32 × St)) (kk : St → Int32 → Int32 → Int32 → Int32 → Int32 → Option (Int32 × St)) (x1 x2 x3 x4 x5 : Int32) : ∀ (k m v : Nat) (T : St), v + k = a 1 0 0 → k < m → EncM a T → (∀ u, u < a 1 0 0 → T.1 14 0 u = nI (t u)) → (∀ u, u < v → T.1 15 0 u = nI (t u)) → ∃ T2, f_X4_plan_L288 r20 k20 kk m T x1 x2 x3 x4 x5 (nI v) = kk T2 x1 x2 x3 x4 x5 ∧ (∀ f r c, f ≠ 15 → T2.1 f r c = T.1 f r c) ∧ (∀ f r c, T2.2 f r c = T.2 f r c) ∧ (∀ u, u < a 1 0 0 → T2.1 15 0 u = nI (t u)) := by
  intro k
  induction k with
  | zero =>
    intro m v T he hm hM h14 hd
    obtain ⟨m, rfl⟩ : ∃ q, m = q + 1 := ⟨m - 1, by omega⟩
    refine ⟨T, ?_, fun _ _ _ _ => rfl, fun _ _ _ => rfl, fun u hu => hd u (by omega)⟩
    rw [u_X4_plan_L288, hM.2.1, if_pos (nI_le (by omega) (by omega))]
  | succ k ih =>
    intro m v T he hm hM h14 hd
    obtain ⟨m, rfl⟩ : ∃ q, m = q + 1 := ⟨m - 1, by omega⟩
    rw [u_X4_plan_L288, hM.2.1, if_neg (nI_ge (by omega) (by omega))]
    simp only [cI (show v < 100000 by omega), gI4 (show v < 4 by omega), if_false, nI_1, h14 v (by omega)]
    obtain ⟨T2, g1, g2, g3, g4⟩ := ih m (v + 1) (xI T 15 0 v (nI (t v))) (by omega) (by omega) (eM_frR hM (frR_I T 15 0 v _ (by omega))) (fun u hu => by rw [xI_f (by decide)]; exact h14 u hu) (fun u hu => by
      by_cases e : u = v
      · rw [e, xI_same]
      · rw [xI_c e]; exact hd u (by omega))
    exact ⟨T2, g1, fun f r c q => (g2 f r c q).trans (xI_f q), g3, g4⟩
theorem s226e {a : Ab} {T : St} (hM : EncM a T) (h4 : a 1 0 0 ≤ 4) {w O1 Z1 : Nat} {t : Nat → Nat} (hw : w + 1 = a 1 0 0) (h14 : ∀ u, u < a 1 0 0 → T.1 14 0 u = nI (t u)) (e16 : T.1 16 0 w = nI O1) (e17 : T.1 17 0 w = nI Z1) (r : St → Int32 → Int32 → Int32 → Int32 → Int32 → Option (Int32 × St)) (k : St → Int32 → Option (Int32 × St)) (x1 x2 x3 x4 : Int32) : ∃ T2, f_X4_plan_L226 r k T x1 x2 x3 x4 (nI w) = r T2 x1 x2 (nI O1) (nI Z1) (nI w) ∧ (∀ f r c, f ≠ 15 → T2.1 f r c = T.1 f r c) ∧ (∀ f r c, T2.2 f r c = T.2 f r c) ∧ (∀ u, u < a 1 0 0 → T2.1 15 0 u = nI (t u)) := by
  unfold f_X4_plan_L226 f_X4_plan_L231 f_X4_plan_L263
  rw [if_neg (by decide), hM.2.1, nI_1, if_pos (nI_le (by omega) (by omega)), if_neg (by decide)]
  simp only [cI (show w < 100000 by omega), gI4 (show w < 4 by omega), if_false, e16, e17]
  obtain ⟨T2, g1, g2, g3, g4⟩ := copyM h4 (t := t) r k (fun S_23 x1_23 x2_23 x3_23 x4_23 x5_23 => r S_23 x1_23 x2_23 x3_23 x4_23 x5_23) x1 x2 (nI O1) (nI Z1) (nI w) (a 1 0 0) 1000 0 T (by omega) (by omega) hM h14 (fun u hu => absurd hu (Nat.not_lt_zero u))
  rw [show nI 0 = (0 : Int32) from rfl] at g1
  exact ⟨T2, g1, g2, g3, g4⟩
/-- the same, for every rest of the loop -/
theorem copyG {a : Ab} (h4 : a 1 0 0 ≤ 4) {t : Nat → Nat} (k20 : St → Int32 → Option (Int32 × St)) : ∀ (k v : Nat) (T : St), v + k = a 1 0 0 → EncM a T → (∀ u, u < a 1 0 0 → T.1 14 0 u = nI (t u)) → (∀ u, u < v → T.1 15 0 u = nI (t u)) → ∃ T2, (∀ (r20 : St → Int32 → Int32 → Int32 → Int32 → Int32 → Option (Int32 × St)) (kk : St → Int32 → Int32 → Int32 → Int32 → Int32 → Option (Int32 × St)) (x1 x2 x3 x4 x5 : Int32) (m : Nat), k < m → f_X4_plan_L288 r20 k20 kk m T x1 x2 x3 x4 x5 (nI v) = kk T2 x1 x2 x3 x4 x5) ∧ (∀ f r c, f ≠ 15 → T2.1 f r c = T.1 f r c) ∧ (∀ f r c, T2.2 f r c = T.2 f r c) ∧ (∀ u, u < a 1 0 0 → T2.1 15 0 u = nI (t u)) := by
  intro k
  induction k with
  | zero =>
    intro v T he hM h14 hd
    refine ⟨T, fun r20 kk x1 x2 x3 x4 x5 m hm => ?_, fun _ _ _ _ => rfl, fun _ _ _ => rfl, fun u hu => hd u (by omega)⟩
    obtain ⟨m, rfl⟩ : ∃ q, m = q + 1 := ⟨m - 1, by omega⟩
    rw [u_X4_plan_L288, hM.2.1, if_pos (nI_le (by omega) (by omega))]
  | succ k ih =>
    intro v T he hM h14 hd
    obtain ⟨T2, g1, g2, g3, g4⟩ := ih (v + 1) (xI T 15 0 v (nI (t v))) (by omega) (eM_frR hM (frR_I T 15 0 v _ (by omega))) (fun u hu => by rw [xI_f (by decide)]; exact h14 u hu) (fun u hu => by
      by_cases e : u = v
      · rw [e, xI_same]
      · rw [xI_c e]; exact hd u (by omega))
    refine ⟨T2, fun r20 kk x1 x2 x3 x4 x5 m hm => ?_, fun f r c q => (g2 f r c q).trans (xI_f q), g3, g4⟩
    obtain ⟨m, rfl⟩ : ∃ q, m = q + 1 := ⟨m - 1, by omega⟩
    rw [u_X4_plan_L288, hM.2.1, if_neg (nI_ge (by omega) (by omega))]
    simp only [cI (show v < 100000 by omega), gI4 (show v < 4 by omega), if_false, nI_1, h14 v (by omega)]
    exact g1 r20 kk x1 x2 x3 x4 x5 m (by omega)
theorem s226g {a : Ab} {T : St} (hM : EncM a T) (h4 : a 1 0 0 ≤ 4) {w O1 Z1 : Nat} {t : Nat → Nat} (hw : w + 1 = a 1 0 0) (h14 : ∀ u, u < a 1 0 0 → T.1 14 0 u = nI (t u)) (e16 : T.1 16 0 w = nI O1) (e17 : T.1 17 0 w = nI Z1) (k : St → Int32 → Option (Int32 × St)) (x1 x2 x3 x4 : Int32) : ∃ T2, (∀ m, f_X4_plan_L226 (f_X4_plan_L20 k m) k T x1 x2 x3 x4 (nI w) = f_X4_plan_L20 k m T2 x1 x2 (nI O1) (nI Z1) (nI w)) ∧ (∀ f r c, f ≠ 15 → T2.1 f r c = T.1 f r c) ∧ (∀ f r c, T2.2 f r c = T.2 f r c) ∧ (∀ u, u < a 1 0 0 → T2.1 15 0 u = nI (t u)) := by
  obtain ⟨T2, g1, g2, g3, g4⟩ := copyG h4 (t := t) k (a 1 0 0) 0 T (by omega) hM h14 (fun u hu => absurd hu (Nat.not_lt_zero u))
  refine ⟨T2, fun m => ?_, g2, g3, g4⟩
  unfold f_X4_plan_L226 f_X4_plan_L231 f_X4_plan_L263
  rw [if_neg (by decide), hM.2.1, nI_1, if_pos (nI_le (by omega) (by omega)), if_neg (by decide)]
  simp only [cI (show w < 100000 by omega), gI4 (show w < 4 by omega), if_false, e16, e17]
  have g := g1 (f_X4_plan_L20 k m) (fun S_23 x1_23 x2_23 x3_23 x4_23 x5_23 => (f_X4_plan_L20 k m) S_23 x1_23 x2_23 x3_23 x4_23 x5_23) x1 x2 (nI O1) (nI Z1) (nI w) 1000 (by omega)
  rw [show nI 0 = (0 : Int32) from rfl] at g
  exact g
