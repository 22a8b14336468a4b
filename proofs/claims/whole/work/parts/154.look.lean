/-! the reference's plan: the tables -/
def frR (T T2 : St) : Prop := (∀ f r c, (f < 14 ∨ 19 < f) → T2.1 f r c = T.1 f r c) ∧ (∀ f r c, T2.2 f r c = T.2 f r c)
theorem frR_rf (T : St) : frR T T := ⟨fun _ _ _ _ => rfl, fun _ _ _ => rfl⟩
theorem frR_tr {T T2 T3 : St} (h1 : frR T T2) (h2 : frR T2 T3) : frR T T3 := ⟨fun f r c q => (h2.1 f r c q).trans (h1.1 f r c q), fun f r c => (h2.2 f r c).trans (h1.2 f r c)⟩
theorem frR_I (T : St) (f r c : Nat) (v : Int32) (h : 14 ≤ f ∧ f ≤ 19) : frR T (xI T f r c v) := ⟨fun f1 r1 c1 q => xI_f (by omega), fun _ _ _ => rfl⟩
theorem eM_frR {a : Ab} {T T2 : St} (h : EncM a T) (hf : frR T T2) : EncM a T2 := by
  obtain ⟨h0, h1, h2, h3, h4, h5, h6, h7⟩ := h
  obtain ⟨e1, e2⟩ := hf
  refine ⟨by rw [e1 _ _ _ (by omega)]; exact h0, by rw [e1 _ _ _ (by omega)]; exact h1, fun w hw => ?_, fun w hw => ?_, fun c hc => by rw [e1 _ _ _ (by omega)]; exact h4 c hc, by rw [e1 _ _ _ (by omega)]; exact h5, fun k q1 q2 => by rw [e1 _ _ _ (by omega), e1 _ _ _ (by omega)]; exact h6 k q1 q2, by rw [e2]; exact h7⟩
  · rw [e1 _ _ _ (by omega), e1 _ _ _ (by omega), e1 _ _ _ (by omega), e1 _ _ _ (by omega), e1 _ _ _ (by omega), e1 _ _ _ (by omega)]; exact h2 w hw
  · obtain ⟨q0, q1, q2, q3, q4, q5⟩ := h3 w hw
    exact ⟨by rw [e1 _ _ _ (by omega)]; exact q0, by rw [e1 _ _ _ (by omega)]; exact q1, by rw [e1 _ _ _ (by omega)]; exact q2, fun v hv => by rw [e1 _ _ _ (by omega)]; exact q3 v hv, fun h hh => by rw [e1 _ _ _ (by omega)]; exact q4 h hh, fun h hh => by rw [e1 _ _ _ (by omega)]; exact q5 h hh⟩
def aln (a : Ab) (w h : Nat) : Prop := al a w h = 0 ∧ (3 ≤ a 12 w 0 → a 13 w 0 = h + 1)
/-- one place of the tables -/
def tb1 (a : Ab) (T : St) (w h : Nat) : Prop := ∃ b, b ≤ 1 ∧ T.1 18 0 (36 * w + h) = nI b ∧ (b = 1 ↔ aln a w h) ∧ (aln a w h → T.1 19 0 (36 * w + h) = nI (dl a w h))
def frT (T T2 : St) : Prop := (∀ f r c, f ≠ 18 → f ≠ 19 → T2.1 f r c = T.1 f r c) ∧ (∀ f r c, T2.2 f r c = T.2 f r c)
theorem frT_rf (T : St) : frT T T := ⟨fun _ _ _ _ _ => rfl, fun _ _ _ => rfl⟩
theorem frT_tr {T T2 T3 : St} (h1 : frT T T2) (h2 : frT T2 T3) : frT T T3 := ⟨fun f r c p q => (h2.1 f r c p q).trans (h1.1 f r c p q), fun f r c => (h2.2 f r c).trans (h1.2 f r c)⟩
theorem frT_R {T T2 : St} (h : frT T T2) : frR T T2 := ⟨fun f r c q => h.1 f r c (by omega) (by omega), h.2⟩
/-- one place is filled -/
theorem look1 {n : Nat} {a : Ab} {T : St} (hI : Inv n a) (hM : EncM a T) {w h : Nat} (hw : w < a 1 0 0) (hh : h < 36) (r2 : St → Int32 → Option St) (k2 : St → Option St) (r12 : St → Int32 → Int32 → Option St) (k12 : St → Int32 → Option St) (b : Nat) (hb : b ≤ 1) (hb1 : b = 1 ↔ aln a w h) (y : Int32) (hy : y = nI b) : ∃ T2, f_X4_look_L62 r2 k2 r12 k12 T (nI w) (nI h) y ((36 * nI w) + nI h) = r12 T2 (nI w) (nI (h + 1)) ∧ frT T T2 ∧ tb1 a T2 w h ∧ (∀ c, c ≠ 36 * w + h → T2.1 18 0 c = T.1 18 0 c ∧ T2.1 19 0 c = T.1 19 0 c) := by
  have h4 := hI.2.2.1
  have hn := hI.2.1
  have hw4 : w < 4 := by omega
  have ey : vp_nar .boolean y = nI b := by
    rw [hy]
    rcases (show b = 0 ∨ b = 1 by omega) with rfl | rfl
    · exact nar0
    · exact nar1
  unfold f_X4_look_L62
  simp only [c144 hw4 hh, g144 hw4 hh, if_false, ey, nI_1]
  obtain ⟨T1, hT1⟩ : ∃ z, z = xI T 18 0 (36 * w + h) (nI b) := ⟨_, rfl⟩
  rw [← hT1]
  have e18 : T1.1 18 0 (36 * w + h) = nI b := by rw [hT1]; exact xI_same _ _ _ _ _
  have f1 : frT T T1 := by rw [hT1]; exact ⟨fun f r c p _ => xI_f p, fun _ _ _ => rfl⟩
  have hM1 := eM_frR hM (frT_R f1)
  have fr2 : ∀ v, frT T (xI T1 19 0 (36 * w + h) v) := fun v => frT_tr f1 ⟨fun f r c _ q => xI_f q, fun _ _ _ => rfl⟩
  have cc : ∀ v c, c ≠ 36 * w + h → (xI T1 19 0 (36 * w + h) v).1 18 0 c = T.1 18 0 c ∧ (xI T1 19 0 (36 * w + h) v).1 19 0 c = T.1 19 0 c := fun v c q => by
    rw [xI_c q, xI_c q, hT1, xI_c q, xI_c q]; exact ⟨rfl, rfl⟩
  rw [e18]
  by_cases c : b = 0
  · rw [if_pos (by rw [c]; rfl)]
    refine ⟨_, rfl, fr2 _, ⟨b, hb, by rw [xI_f (by decide)]; exact e18, hb1, fun q => absurd (hb1.mpr q) (by omega)⟩, cc _⟩
  · have ha : aln a w h := hb1.mp (by omega)
    have hf := al_fit ha.1
    rw [if_neg (show ¬ nI b = 0 from fun q => c ((nI_eq (b := 0) (by omega) (by omega)).mp q)), delay_M hI hM1 hw hw4 (show h + sp a w ≤ 36 by omega), Option.bind_some]
    exact ⟨_, rfl, fr2 _, ⟨b, hb, by rw [xI_f (by decide)]; exact e18, hb1, fun _ => xI_same _ _ _ _ _⟩, cc _⟩
theorem tb1_c {a : Ab} {T T2 : St} {w h : Nat} (ht : tb1 a T w h) (e1 : T2.1 18 0 (36 * w + h) = T.1 18 0 (36 * w + h)) (e2 : T2.1 19 0 (36 * w + h) = T.1 19 0 (36 * w + h)) : tb1 a T2 w h := by
  obtain ⟨b, q1, q2, q3, q4⟩ := ht
  exact ⟨b, q1, by rw [e1]; exact q2, q3, fun q => by rw [e2]; exact q4 q⟩
theorem lookR {n : Nat} {a : Ab} (hI : Inv n a) {w : Nat} (hw : w < a 1 0 0) (r2 : St → Int32 → Option St) (k2 : St → Option St) (k12 : St → Int32 → Option St) : ∀ (k m h : Nat) (T : St), h + k = a 0 0 0 → k < m → EncM a T → (∀ h2, h2 < h → tb1 a T w h2) → ∃ T2, f_X4_look_L12 r2 k2 k12 m T (nI w) (nI h) = k12 T2 (nI w) ∧ frT T T2 ∧ (∀ h2, h2 < a 0 0 0 → tb1 a T2 w h2) ∧ (∀ c, (c < 36 * w ∨ 36 * w + 36 ≤ c) → T2.1 18 0 c = T.1 18 0 c ∧ T2.1 19 0 c = T.1 19 0 c) := by
  have h4 := hI.2.2.1
  have hn := hI.2.1
  have hw4 : w < 4 := by omega
  intro k
  induction k with
  | zero =>
    intro m h T he hm hM hd
    obtain ⟨m, rfl⟩ : ∃ q, m = q + 1 := ⟨m - 1, by omega⟩
    refine ⟨T, ?_, frT_rf T, fun h2 q => hd h2 (by omega), fun _ _ => ⟨rfl, rfl⟩⟩
    rw [u_X4_look_L12, hM.1, if_pos (nI_le (by omega) (by omega))]
  | succ k ih =>
    intro m h T he hm hM hd
    obtain ⟨m, rfl⟩ : ∃ q, m = q + 1 := ⟨m - 1, by omega⟩
    have hh : h < 36 := by omega
    have fin : ∀ (b : Nat) (y : Int32), b ≤ 1 → (b = 1 ↔ aln a w h) → y = nI b → ∃ T2, f_X4_look_L62 r2 k2 (f_X4_look_L12 r2 k2 k12 m) k12 T (nI w) (nI h) y ((36 * nI w) + nI h) = k12 T2 (nI w) ∧ frT T T2 ∧ (∀ h2, h2 < a 0 0 0 → tb1 a T2 w h2) ∧ (∀ c, (c < 36 * w ∨ 36 * w + 36 ≤ c) → T2.1 18 0 c = T.1 18 0 c ∧ T2.1 19 0 c = T.1 19 0 c) := by
      intro b y hb hb1 hy
      obtain ⟨T1, g1, g2, g3, g4⟩ := look1 hI hM hw hh r2 k2 (f_X4_look_L12 r2 k2 k12 m) k12 b hb hb1 y hy
      rw [g1]
      obtain ⟨T2, r1, r2, r3, r4⟩ := ih m (h + 1) T1 (by omega) (by omega) (eM_frR hM (frT_R g2)) (fun h2 q => by
        by_cases e : h2 = h
        · rw [e]; exact g3
        · have := g4 (36 * w + h2) (by omega)
          exact tb1_c (hd h2 (by omega)) this.1 this.2)
      refine ⟨T2, r1, frT_tr g2 r2, r3, fun c q => ?_⟩
      have x1 := r4 c q
      have x2 := g4 c (by omega)
      exact ⟨x1.1.trans x2.1, x1.2.trans x2.2⟩
    have hst : T.1 13 0 w = stI (a 13 w 0) := (hM.2.2.1 w hw).2.2.2.2.2
    have h13 := (hI.2.2.2.2.1 w hw4).2.2.2.2.2.2.1
    have hin := stI_inj (c := h + 1) (v := a 13 w 0) (by omega) (by omega)
    have hal := al_le a w h
    rw [u_X4_look_L12, hM.1, if_neg (nI_ge (by omega) (by omega)), al_M hI hM hw hw4 hh, Option.bind_some]
    unfold f_X4_look_L57 f_X4_look_L61
    by_cases c : al a w h = 0
    · rw [c, if_pos (show nI 0 = 0 from rfl), isFxM hI hM hw4, Option.bind_some]
      by_cases f : 3 ≤ a 12 w 0
      · rw [if_pos f, if_neg (by decide)]
        simp only [cI (show w < 100000 by omega), gI4 hw4, if_false, hst]
        by_cases e : a 13 w 0 = h + 1
        · rw [if_pos (show nI h = stI (a 13 w 0) by rw [e, stI_s])]
          exact fin 1 1 (by omega) ⟨fun _ => ⟨c, fun _ => e⟩, fun _ => rfl⟩ rfl
        · rw [if_neg (show ¬ nI h = stI (a 13 w 0) from fun q => e (hin.mp (by rw [stI_s]; exact q)).symm)]
          exact fin 0 0 (by omega) ⟨fun q => by omega, fun q => absurd (q.2 f) e⟩ rfl
      · rw [if_neg f, if_pos rfl]
        exact fin 1 1 (by omega) ⟨fun _ => ⟨c, fun q => absurd q f⟩, fun _ => rfl⟩ rfl
    · rw [if_neg (show ¬ nI (al a w h) = 0 from fun q => c ((nI_eq (b := 0) (by omega) (by omega)).mp q))]
      exact fin 0 0 (by omega) ⟨fun q => by omega, fun q => absurd q.1 c⟩ rfl
theorem lookA {n : Nat} {a : Ab} (hI : Inv n a) (kk : St → Option St) : ∀ (k m w : Nat) (T : St), w + k = a 1 0 0 → k < m → EncM a T → (∀ v, v < w → ∀ h, h < a 0 0 0 → tb1 a T v h) → ∃ T2, f_X4_look_L2 kk m T (nI w) = kk T2 ∧ frT T T2 ∧ (∀ v, v < a 1 0 0 → ∀ h, h < a 0 0 0 → tb1 a T2 v h) := by
  have h4 := hI.2.2.1
  have hn := hI.2.1
  intro k
  induction k with
  | zero =>
    intro m w T he hm hM hd
    obtain ⟨m, rfl⟩ : ∃ q, m = q + 1 := ⟨m - 1, by omega⟩
    refine ⟨T, ?_, frT_rf T, fun v q => hd v (by omega)⟩
    rw [u_X4_look_L2, hM.2.1, if_pos (nI_le (by omega) (by omega))]
  | succ k ih =>
    intro m w T he hm hM hd
    obtain ⟨m, rfl⟩ : ∃ q, m = q + 1 := ⟨m - 1, by omega⟩
    have hw : w < a 1 0 0 := by omega
    rw [u_X4_look_L2, hM.2.1, if_neg (nI_ge (by omega) (by omega))]
    obtain ⟨T1, g1, g2, g3, g4⟩ := lookR hI hw (f_X4_look_L2 kk m) kk (fun S_16 x1_16 => (f_X4_look_L2 kk m) S_16 (x1_16 + 1)) (a 0 0 0) 1000 0 T (by omega) (by omega) hM (fun h2 q => absurd q (Nat.not_lt_zero h2))
    rw [show nI 0 = (0 : Int32) from rfl] at g1
    rw [g1, nI_1]
    obtain ⟨T2, r1, r2, r3⟩ := ih m (w + 1) T1 (by omega) (by omega) (eM_frR hM (frT_R g2)) (fun v q h hh => by
      by_cases e : v = w
      · rw [e]; exact g3 h hh
      · have := g4 (36 * v + h) (by omega)
        exact tb1_c (hd v (by omega) h hh) this.1 this.2)
    exact ⟨T2, r1, frT_tr g2 r2, r3⟩
theorem look_ok {n : Nat} {a : Ab} (hI : Inv n a) {T : St} (hM : EncM a T) : ∃ T2, f_X4_look T = some T2 ∧ frT T T2 ∧ (∀ v, v < a 1 0 0 → ∀ h, h < a 0 0 0 → tb1 a T2 v h) := by
  have h4 := hI.2.2.1
  obtain ⟨T2, g1, g2, g3⟩ := lookA hI (fun S => some S) (a 1 0 0) 1000 0 T (by omega) (by omega) hM (fun v q => absurd q (Nat.not_lt_zero v))
  rw [show nI 0 = (0 : Int32) from rfl] at g1
  exact ⟨T2, g1, g2, g3⟩
theorem prs_M {n : Nat} {a : Ab} (hI : Inv n a) {v g w h : Nat} (hv : v < 4) (hw : w < 4) : prs a v g w h ↔ (¬ (a 4 w v = 1 ∧ ¬ (h + sp a w + 0 ≤ g ∨ g + sp a v + 0 ≤ h)) ∧ ¬ (a 10 w 0 = a 10 v 0 ∧ ¬ (h + sp a w + a 11 0 (a 10 w 0) ≤ g ∨ g + sp a v + a 11 0 (a 10 w 0) ≤ h))) := by
  have hs := ((hI.2.2.2.2.1 w hw).2.2.2.2.2.2.2.1 v hv).2
  unfold prs apt
  rw [← hs]
  constructor
  · rintro ⟨p1, p2⟩
    refine ⟨fun q => ?_, fun q => ?_⟩
    · have := p1 q.1; omega
    · have := p2 q.1.symm
      rw [← q.1] at this
      omega
  · rintro ⟨p1, p2⟩
    refine ⟨fun q => ?_, fun q => ?_⟩
    · by_cases c : h + sp a w + 0 ≤ g ∨ g + sp a v + 0 ≤ h
      · omega
      · exact absurd ⟨q, c⟩ p1
    · rw [q]
      by_cases c : h + sp a w + a 11 0 (a 10 w 0) ≤ g ∨ g + sp a v + a 11 0 (a 10 w 0) ≤ h
      · omega
      · exact absurd ⟨q.symm, c⟩ p2
theorem fitL {n : Nat} {a : Ab} {T : St} (hI : Inv n a) (hM : EncM a T) {w h : Nat} {t : Nat → Nat} (hw : w < a 1 0 0) (hh : h < 36) (e14 : T.1 14 0 w = nI h) (et : ∀ v, v < w → T.1 14 0 v = nI (t v) ∧ t v < 36) (kk : St → Int32 → Option Int32) : ∀ (k m v b : Nat), v + k = w → k < m → b ≤ 1 → ∃ b2, b2 ≤ 1 ∧ f_X4_fitsBefore_L19 kk m T (nI w) (nI b) (nI v) = kk T (nI b2) ∧ (b2 = 1 ↔ b = 1 ∧ ∀ u, v ≤ u → u < w → prs a u (t u) w h) := by
  have h4 := hI.2.2.1
  intro k
  induction k with
  | zero =>
    intro m v b he hm hb
    obtain ⟨m, rfl⟩ : ∃ q, m = q + 1 := ⟨m - 1, by omega⟩
    refine ⟨b, hb, ?_, fun q => ⟨q, fun u h1 h2 => by omega⟩, fun q => q.1⟩
    rw [u_X4_fitsBefore_L19, if_pos (nI_le (by omega) (by omega))]
  | succ k ih =>
    intro m v b he hm hb
    obtain ⟨m, rfl⟩ : ∃ q, m = q + 1 := ⟨m - 1, by omega⟩
    rw [u_X4_fitsBefore_L19, if_neg (nI_ge (by omega) (by omega))]
    by_cases c : b = 0
    · rw [c, if_pos (show nI 0 = 0 from rfl)]
      exact ⟨0, by omega, rfl, fun q => by omega, fun q => by omega⟩
    · have hb1 : b = 1 := by omega
      have hv := et v (by omega)
      have hvm : v < a 1 0 0 := by omega
      rw [hb1, if_neg (show ¬ nI 1 = 0 by decide)]
      simp only [cI (show w < 100000 by omega), cI (show v < 100000 by omega), gI4 (show w < 4 by omega), gI4 (show v < 4 by omega), if_false, e14, hv.1]
      have hp := prs_M hI (v := v) (g := t v) (w := w) (h := h) (by omega) (by omega)
      have zero : ¬ prs a v (t v) w h → ∃ b2, b2 ≤ 1 ∧ f_X4_fitsBefore_L19 kk m T (nI w) (nI 0) (nI (v + 1)) = kk T (nI b2) ∧ (b2 = 1 ↔ True ∧ ∀ u, v ≤ u → u < w → prs a u (t u) w h) := by
        intro hno
        obtain ⟨b2, r1, r2, r3⟩ := ih m (v + 1) 0 (by omega) (by omega) (by omega)
        refine ⟨b2, r1, r2, fun q => absurd (r3.mp q).1 (by omega), fun q => absurd (q.2 v (Nat.le_refl _) (by omega)) hno⟩
      rw [gnear_M hI hM hw hvm hh hv.2, Option.bind_some]
      by_cases c1 : a 4 w v = 1 ∧ ¬ (h + sp a w + 0 ≤ t v ∨ t v + sp a v + 0 ≤ h)
      · rw [if_pos c1, if_pos rfl, nI_1]
        exact zero (fun q => (hp.mp q).1 c1)
      · rw [if_neg c1, if_neg (by decide), gcrew_M hI hM hw hvm hh hv.2, Option.bind_some]
        by_cases c2 : a 10 w 0 = a 10 v 0 ∧ ¬ (h + sp a w + a 11 0 (a 10 w 0) ≤ t v ∨ t v + sp a v + a 11 0 (a 10 w 0) ≤ h)
        · rw [if_pos c2, if_pos rfl, nI_1]
          exact zero (fun q => (hp.mp q).2 c2)
        · rw [if_neg c2, if_neg (by decide), nI_1]
          obtain ⟨b2, r1, r2, r3⟩ := ih m (v + 1) 1 (by omega) (by omega) (by omega)
          refine ⟨b2, r1, r2, fun q => ⟨trivial, fun u h1 h2 => ?_⟩, fun q => r3.mpr ⟨rfl, fun u h1 h2 => q.2 u (by omega) h2⟩⟩
          by_cases e : u = v
          · rw [e]; exact hp.mpr ⟨c1, c2⟩
          · exact (r3.mp q).2 u (by omega) h2
theorem fits_ok {n : Nat} {a : Ab} {T : St} (hI : Inv n a) (hM : EncM a T) {w h : Nat} {t : Nat → Nat} (hw : w < a 1 0 0) (hh : h < 36) (e14 : T.1 14 0 w = nI h) (et : ∀ v, v < w → T.1 14 0 v = nI (t v) ∧ t v < 36) (htb : tb1 a T w h) : ∃ b, b ≤ 1 ∧ f_X4_fitsBefore T (nI w) = some (nI b) ∧ (b = 1 ↔ aln a w h ∧ ∀ u, u < w → prs a u (t u) w h) := by
  have h4 := hI.2.2.1
  obtain ⟨b0, q1, q2, q3, q4⟩ := htb
  unfold f_X4_fitsBefore
  simp only [cI (show w < 100000 by omega), gI4 (show w < 4 by omega), e14, c144 (show w < 4 by omega) hh, g144 (show w < 4 by omega) hh, if_false, q2]
  obtain ⟨b2, r1, r2, r3⟩ := fitL hI hM hw hh e14 et (fun S_13 x2_13 => if ¬ (x2_13 = 0 ∨ x2_13 = 1) then none else some x2_13) w 1000 0 b0 (by omega) (by omega) q1
  rw [show nI 0 = (0 : Int32) from rfl] at r2
  refine ⟨b2, r1, ?_, fun q => ⟨q3.mp (r3.mp q).1, fun u hu => (r3.mp q).2 u (Nat.zero_le _) hu⟩, fun q => r3.mpr ⟨q3.mpr q.1, fun u _ hu => q.2 u hu⟩⟩
  rw [r2, if_neg]
  intro q
  apply q
  rcases (show b2 = 0 ∨ b2 = 1 by omega) with e | e
  · rw [e]; exact Or.inl rfl
  · rw [e]; exact Or.inr rfl
