/-! lightest, lightestLeft, place -/
theorem lge {x y : Nat} (hx : x < 9223372036854775808) (hy : y < 9223372036854775808) : (0 ≤ lg_cmp (lN x) (lN y)) = (y ≤ x) := propext ((lg_cmp_ge _ _).trans (pk_lLE (by omega) (by omega)))
theorem llt {x y : Nat} (hx : x < 9223372036854775808) (hy : y < 9223372036854775808) : (lg_cmp (lN x) (lN y) < 0) = (x < y) := propext ((lg_cmp_lt _ _).trans (pk_lLT (by omega) (by omega)))
def NFn : Nat := 4611686018427387904
theorem NF_eq : (4611686018427387904 : Int64) = lN NFn := rfl
/-- the lightest of a set of starts -/
theorem light_ok {n : Nat} {a : Ab} (hI : Inv n a) {L hr : Nat} {S : St} {w cnt : Nat} {o : Nat → Nat} (hw : w < a 1 0 0) (ho : offC a L hr S w cnt o) (mask : Int64) (hm0 : ∃ j, j < 64 ∧ bt mask j = true) (hmk : ∀ h, h < 64 → bt mask h = true → okS a L hr w h) : ∀ (k m i : Nat), i + k = cnt → k < m → (∀ j, j < i → bt mask (o j) = false) → ∃ R, f_X1_lightest_L3 (fun _ => some 4611686018427387904) m S (nI w) mask (nI i) = some (lN R) ∧ R ≤ 20000000000000 ∧ ∀ h, h < 64 → bt mask h = true → R ≤ wt a L w h := by
  have h4 := hI.2.2.1
  have hn := hI.2.1
  have hw4 : w < 4 := by omega
  obtain ⟨q1, q2, q3, q4, q5⟩ := ho
  intro k
  induction k with
  | zero =>
    intro m i he hm hj
    exfalso
    obtain ⟨j, hj1, hj2⟩ := hm0
    obtain ⟨i2, hi2, e⟩ := q5 j (hmk j hj1 hj2)
    have := hj i2 (by omega)
    rw [e, hj2] at this; cases this
  | succ k ih =>
    intro m i he hm hj
    obtain ⟨m, rfl⟩ : ∃ q, m = q + 1 := ⟨m - 1, by omega⟩
    have hi : i < cnt := by omega
    obtain ⟨z1, z2, z3⟩ := q3 i hi
    have ho36 : o i < 36 := by have := z2.2.2.2; omega
    rw [u_X1_lightest_L3]
    simp only [cI (show w < 100000 by omega), cI (show i < 100000 by omega), gI4 hw4, gI36 (show i < 36 by omega), if_false, q2, z1, hasBit_of _ (show o i < 64 by omega), cI (show o i < 100000 by omega), gI36 ho36, nI_1, Option.bind_some]
    rw [if_neg (nI_ge (by omega) (by omega))]
    cases hb : bt mask (o i) with
    | false =>
      simp only [Bool.false_eq_true, if_false, if_true]
      exact ih m (i + 1) (by omega) (by omega) (fun j h1 => by
        by_cases e : j = i
        · rw [e]; exact hb
        · exact hj j (by omega))
    | true =>
      simp only [if_true, one0, if_false]
      rw [z3]
      refine ⟨_, rfl, wt_le hI hw z2, fun h hh hb2 => ?_⟩
      obtain ⟨i2, hi2, e⟩ := q5 h (hmk h hh hb2)
      by_cases c : i2 < i
      · have := hj i2 c
        rw [e, hb2] at this; cases this
      · by_cases c2 : i2 = i
        · rw [← e, c2]; exact Nat.le_refl _
        · rw [← e]; exact q4 i i2 (by omega) hi2
/-- what the works from u on weigh at the least, by what is left at a depth -/
theorem lleft_ok {n : Nat} {a : Ab} (hI : Inv n a) {L hr : Nat} {S : St} (hs : schC a L hr S) {x : Nat} : ∀ (k m u acc : Nat), (k ≠ 0 → x < 4) → u + k = a 1 0 0 → k < m → acc ≤ 20000000000000 * u → (∀ z, u ≤ z → z < a 1 0 0 → ∀ h, h < 64 → bt (S.2 3 x z) h = true → okS a L hr z h) → ∃ R, f_X1_lightestLeft_L5 (fun _ x => some x) m S (nI x) (lN acc) (nI u) = some (lN R) ∧ R ≤ NFn ∧ ∀ f : Nat → Nat, (∀ z, u ≤ z → z < a 1 0 0 → f z < 64 ∧ bt (S.2 3 x z) (f z) = true) → R ≤ acc + tw a L u k f := by
  have h4 := hI.2.2.1
  intro k
  induction k with
  | zero =>
    intro m u acc hx he hm hacc hmk
    obtain ⟨m, rfl⟩ : ∃ q, m = q + 1 := ⟨m - 1, by omega⟩
    refine ⟨acc, ?_, by unfold NFn; omega, fun f _ => by rw [tw]; omega⟩
    rw [u_X1_lightestLeft_L5, hs.1, if_pos (nI_le (by omega) (by omega))]
  | succ k ih =>
    intro m u acc hx he hm hacc hmk
    obtain ⟨m, rfl⟩ : ∃ q, m = q + 1 := ⟨m - 1, by omega⟩
    have hx4 := hx (by omega)
    have hu4 : u < 4 := by omega
    have hum : u < a 1 0 0 := by omega
    rw [u_X1_lightestLeft_L5, hs.1, if_neg (nI_ge (by omega) (by omega))]
    simp only [cI (show x < 100000 by omega), cI (show u < 100000 by omega), gI4 hx4, gI4 hu4, if_false]
    by_cases c : S.2 3 x u = 0
    · rw [if_pos ((lg_cmp_eq _ _).mpr c)]
      refine ⟨NFn, rfl, Nat.le_refl _, fun f hf => ?_⟩
      have := (hf u (Nat.le_refl _) hum).2
      rw [c, bt_0] at this; cases this
    · rw [if_neg (fun q => c ((lg_cmp_eq _ _).mp q))]
      obtain ⟨cnt, o, ho⟩ := hs.2.2.2 u hum
      have hm0 : ∃ j, j < 64 ∧ bt (S.2 3 x u) j = true := by
        by_cases q : ∃ j, j < 64 ∧ bt (S.2 3 x u) j = true
        · exact q
        · exfalso
          apply c
          rw [bt_zero]
          intro j hj
          cases z : bt (S.2 3 x u) j with
          | false => rfl
          | true => exact absurd ⟨j, hj, z⟩ q
      obtain ⟨R1, e1, l1, l2⟩ := light_ok hI hum ho (S.2 3 x u) hm0 (hmk u (Nat.le_refl _) hum) cnt 1000 0 (by omega) (by have := ho.1; omega) (fun j hj => absurd hj (Nat.not_lt_zero j))
      have e1 : f_X1_lightest S (nI u) (S.2 3 x u) = some (lN R1) := e1
      simp only [e1, Option.bind_some, lN_add, nI_1]
      obtain ⟨R, g1, g2, g3⟩ := ih m (u + 1) (acc + R1) (fun _ => hx4) (by omega) (by omega) (by omega) (fun z h1 h2 => hmk z (by omega) h2)
      refine ⟨R, g1, g2, fun f hf => ?_⟩
      have := g3 f (fun z h1 h2 => hf z (by omega) h2)
      have := l2 (f u) (hf u (Nat.le_refl _) hum).1 (hf u (Nat.le_refl _) hum).2
      rw [tw]; omega
/-- what a search from a depth on does -/
def plcR (a : Ab) (L hr w d : Nat) (t : Nat → Nat) (W Bw : Nat) (S S2 : St) (Bw2 : Nat) : Prop := fr S S2 ∧ (∀ v, v < w → S2.1 20 0 v = S.1 20 0 v) ∧ (∀ x u, x ≤ w → S2.2 3 x u = S.2 3 x u) ∧ S2.2 4 0 0 = lN Bw2 ∧ Bw2 ≤ Bw ∧ ((Bw2 = Bw ∧ ∀ v, v < a 1 0 0 → S2.1 21 0 v = S.1 21 0 v) ∨ ∃ f, cmpl a L hr w t f ∧ Bw2 = W + tw a L w d f ∧ ∀ v, v < a 1 0 0 → S2.1 21 0 v = nI (f v))
def plcH (a : Ab) (L hr w : Nat) (t : Nat → Nat) (W Bw : Nat) (S : St) : Prop := schC a L hr S ∧ leftC a L hr S w t ∧ (∀ v, v < w → S.1 20 0 v = nI (t v)) ∧ S.2 4 0 0 = lN Bw ∧ Bw ≤ NFn ∧ W ≤ 20000000000000 * w
theorem cmpl_t {a : Ab} {L hr w : Nat} {t t2 f : Nat → Nat} (h : ∀ v, v < w → t v = t2 v) (hc : cmpl a L hr w t f) : cmpl a L hr w t2 f := ⟨fun v hv => (hc.1 v hv).trans (h v hv), hc.2⟩
theorem loop_ok {n : Nat} {a : Ab} (hI : Inv n a) {L hr : Nat} {w d : Nat} {t : Nat → Nat} {W cnt : Nat} {o : Nat → Nat} (hwd : w + (d + 1) = a 1 0 0) (rc : St → Int32 → Int64 → Option St)
    (hrc : ∀ (t : Nat → Nat) (W Bw : Nat) (S : St), plcH a L hr (w + 1) t W Bw S → (d = 0 → W ≤ Bw) → ∃ S2 Bw2, rc S (nI (w + 1)) (lN W) = some S2 ∧ plcR a L hr (w + 1) d t W Bw S S2 Bw2 ∧ ∀ f, cmpl a L hr (w + 1) t f → Bw2 ≤ W + tw a L (w + 1) d f) : ∀ (k m i : Nat) (S : St) (Bw : Nat), i + k = cnt → k < m → plcH a L hr w t W Bw S → offC a L hr S w cnt o → ∃ S2 Bw2, f_X1_place_L34 rc (fun S => some S) m S (nI w) (lN W) (nI i) = some S2 ∧ plcR a L hr w (d + 1) t W Bw S S2 Bw2 ∧ ∀ f, cmpl a L hr w t f → (∃ j, i ≤ j ∧ j < cnt ∧ f w = o j) → Bw2 ≤ W + tw a L w (d + 1) f := by
  have h4 := hI.2.2.1
  have hn := hI.2.1
  have hw4 : w < 4 := by omega
  have hwm : w < a 1 0 0 := by omega
  intro k
  induction k with
  | zero =>
    intro m i S Bw he hm hH hO
    obtain ⟨m, rfl⟩ : ∃ q, m = q + 1 := ⟨m - 1, by omega⟩
    obtain ⟨hs, hl, ht, hb, hB, hW⟩ := hH
    refine ⟨S, Bw, ?_, ⟨fr_rf S, fun _ _ => rfl, fun _ _ _ => rfl, hb, Nat.le_refl _, Or.inl ⟨rfl, fun _ _ => rfl⟩⟩, fun f _ ⟨j, h1, h2, _⟩ => by omega⟩
    rw [u_X1_place_L34]
    simp only [cI (show w < 100000 by omega), gI4 hw4, if_false, hO.2.1]
    rw [if_pos (nI_le (by omega) (by have := hO.1; omega))]
  | succ k ih =>
    intro m i S Bw he hm hH hO
    obtain ⟨m, rfl⟩ : ∃ q, m = q + 1 := ⟨m - 1, by omega⟩
    obtain ⟨hs, hl, ht, hb, hB, hW⟩ := hH
    have hi : i < cnt := by omega
    have hc36 := hO.1
    obtain ⟨z1, z2, z3⟩ := hO.2.2.1 i hi
    have ho36 : o i < 36 := by have := z2.2.2.2; omega
    have hwt := wt_le hI hwm z2
    rw [u_X1_place_L34]
    simp only [cI (show w < 100000 by omega), cI (show i < 100000 by omega), gI4 hw4, gI36 (show i < 36 by omega), if_false, hO.2.1, z1, hasBit_of _ (show o i < 64 by omega), cI (show o i < 100000 by omega), gI36 ho36, nI_1, Option.bind_some, z3, lN_add, hb]
    rw [if_neg (nI_ge (by omega) (by omega))]
    -- going on with the next start, from a state that a part of the work has left
    have next : ∀ (S1 : St) (B1 : Nat), plcR a L hr w (d + 1) t W Bw S S1 B1 → (∀ f, cmpl a L hr w t f → f w = o i → B1 ≤ W + tw a L w (d + 1) f) → ∃ S2 Bw2, f_X1_place_L34 rc (fun S => some S) m S1 (nI w) (lN W) (nI (i + 1)) = some S2 ∧ plcR a L hr w (d + 1) t W Bw S S2 Bw2 ∧ ∀ f, cmpl a L hr w t f → (∃ j, i ≤ j ∧ j < cnt ∧ f w = o j) → Bw2 ≤ W + tw a L w (d + 1) f := by
      intro S1 B1 hR1 hlow
      obtain ⟨r1, r2, r3, r4, r5, r6⟩ := hR1
      have hs1 := schC_fr hs r1
      have hO1 : offC a L hr S1 w cnt o := by
        obtain ⟨q1, q2, q3, q4, q5⟩ := hO
        exact ⟨q1, by rw [r1.1 _ _ _ (by decide) (by decide)]; exact q2, fun i hi => by rw [r1.1 _ _ _ (by decide) (by decide), r1.2 _ _ _ (by decide) (by decide)]; exact q3 i hi, q4, q5⟩
      obtain ⟨S2, B2, g1, g2, g3⟩ := ih m (i + 1) S1 B1 (by omega) (by omega) ⟨hs1, fun u h1 h2 h hh => by rw [r3 w u (Nat.le_refl _)]; exact hl u h1 h2 h hh, fun v hv => by rw [r2 v hv]; exact ht v hv, r4, by omega, hW⟩ hO1
      obtain ⟨p1, p2, p3, p4, p5, p6⟩ := g2
      refine ⟨S2, B2, g1, ⟨fr_tr r1 p1, fun v hv => (p2 v hv).trans (r2 v hv), fun x u hx => (p3 x u hx).trans (r3 x u hx), p4, by omega, ?_⟩, fun f hf hj => ?_⟩
      · rcases p6 with ⟨y1, y2⟩ | y
        · rcases r6 with ⟨x1, x2⟩ | ⟨f, x1, x2, x3⟩
          · exact Or.inl ⟨by omega, fun v hv => (y2 v hv).trans (x2 v hv)⟩
          · exact Or.inr ⟨f, x1, by omega, fun v hv => (y2 v hv).trans (x3 v hv)⟩
        · exact Or.inr y
      · obtain ⟨j, h1, h2, h3⟩ := hj
        by_cases e : j = i
        · have := hlow f hf (by rw [h3, e]); omega
        · exact g3 f hf ⟨j, by omega, h2, h3⟩
    have same : plcR a L hr w (d + 1) t W Bw S S Bw := ⟨fr_rf S, fun _ _ => rfl, fun _ _ _ => rfl, hb, Nat.le_refl _, Or.inl ⟨rfl, fun _ _ => rfl⟩⟩
    cases hbit : bt (S.2 3 w w) (o i) with
    | false =>
      simp only [Bool.false_eq_true, if_false, if_true]
      refine next S Bw same (fun f hf e => ?_)
      have h1 := hf.2 w (Nat.le_refl _) hwm
      have h2 : bt (S.2 3 w w) (o i) = true := (hl w (Nat.le_refl _) hwm (o i) (by omega)).mpr ⟨by rw [← e]; exact h1.1, fun v hv => by have := h1.2 v hv; rw [hf.1 v hv, e] at this; exact this⟩
      rw [hbit] at h2; cases h2
    | true =>
      obtain ⟨hk, hpv⟩ := (hl w (Nat.le_refl _) hwm (o i) (by omega)).mp hbit
      simp only [if_true, one0, if_false]
      obtain ⟨R, e1, l1, l2⟩ := lleft_ok hI hs (x := w) d 1000 (w + 1) 0 (fun _ => hw4) (by omega) (by omega) (Nat.zero_le _) (fun z h1 h2 h hh hbb => ((hl z (by omega) h2 h hh).mp hbb).1)
      have e1 : f_X1_lightestLeft S (nI w) (nI (w + 1)) = some (lN R) := e1
      have hR : R ≤ 4611686018427387904 := l1
      have hBn : Bw ≤ 4611686018427387904 := hB
      have hW80 : W ≤ 80000000000000 := by omega
      have eL := llt (show W + wt a L w (o i) + R < 9223372036854775808 by omega) (show Bw < 9223372036854775808 by omega)
      rw [e1, Option.bind_some, lN_add]
      by_cases c1 : W + wt a L w (o i) + R < Bw
      · rw [if_pos (eL.mpr c1)]
        obtain ⟨S1, hS1⟩ : ∃ z, z = xI S 20 0 w (nI (o i)) := ⟨_, rfl⟩
        rw [← hS1]
        have fr1 : fr S S1 := by rw [hS1]; exact fr_I20 S 0 w _
        have e20 : S1.1 20 0 w = nI (o i) := by rw [hS1]; exact xI_same _ _ _ _ _
        have e20' : ∀ v, v ≠ w → S1.1 20 0 v = S.1 20 0 v := fun v hv => by rw [hS1]; exact xI_c hv
        have eJ : ∀ f r c, S1.2 f r c = S.2 f r c := fun f r c => by rw [hS1]; rfl
        have e21 : ∀ v, S1.1 21 0 v = S.1 21 0 v := fun v => by rw [hS1]; exact xI_f (by decide)
        have hs1 := schC_fr hs fr1
        obtain ⟨S3, n1, n2, n3, n4, n5⟩ := narrow_ok hI (L := L) (hr := hr) (w := w) (h := o i) (t := t) (by omega) ho36 d 1000 (w + 1) S1 (by omega) (by omega) (by omega) hs1 (fun x h1 h2 j hj => by rw [eJ]; exact hl x h1 h2 j hj) (fun x h1 h2 => by omega)
        have n1 : f_X1_narrow S1 (nI w) (nI (o i)) = some S3 := by
          unfold f_X1_narrow; rw [nI_1]; exact n1
        rw [n1, Option.bind_some]
        have fr3 : fr S S3 := fr_tr fr1 ⟨fun f r c _ _ => n2 f r c, fun f r c q _ => n3 f r c q⟩
        have hs3 := schC_fr hs fr3
        have b3 : S3.2 4 0 0 = lN Bw := by rw [n3 4 0 0 (by decide), eJ]; exact hb
        obtain ⟨R2, e2, m1, m2⟩ := lleft_ok hI hs3 (x := w + 1) d 1000 (w + 1) 0 (fun q => by omega) (by omega) (by omega) (Nat.zero_le _) (fun z h1 h2 h hh hbb => ((n5 z (by omega) h2 h hh).mp hbb).1)
        have e2 : f_X1_lightestLeft S3 (nI (w + 1)) (nI (w + 1)) = some (lN R2) := e2
        have hR2 : R2 ≤ 4611686018427387904 := m1
        have eG := lge (show W + wt a L w (o i) + R2 < 9223372036854775808 by omega) (show Bw < 9223372036854775808 by omega)
        rw [e2, Option.bind_some, lN_add, b3]
        have R3 : plcR a L hr w (d + 1) t W Bw S S3 Bw := ⟨fr3, fun v hv => by rw [n2, e20' v (by omega)], fun x u hx => by rw [n4 x u (by omega), eJ], b3, Nat.le_refl _, Or.inl ⟨rfl, fun v _ => by rw [n2, e21]⟩⟩
        by_cases c2 : Bw ≤ W + wt a L w (o i) + R2
        · rw [if_pos (eG.mpr c2)]
          refine next S3 Bw R3 (fun f hf e => ?_)
          have hc2 := cmpl_mono hf
          have := m2 f (fun z h1 h2 => by
            have q := hc2.2 z h1 h2
            have q36 : f z < 36 := by have := q.1.2.2.2; omega
            refine ⟨by omega, (n5 z (by omega) h2 (f z) (by omega)).mpr ⟨q.1, fun v hv => ?_⟩⟩
            have q2 := q.2 v (by omega)
            rw [hc2.1 v hv, e] at q2
            exact q2)
          rw [tw, e]; omega
        · rw [if_neg (fun q => c2 (eG.mp q))]
          have hH3 : plcH a L hr (w + 1) (upT t w (o i)) (W + wt a L w (o i)) Bw S3 := ⟨hs3, fun u h1 h2 h hh => n5 u (by omega) h2 h hh, fun v hv => by
            by_cases ev : v = w
            · rw [ev, upT_same, n2, e20]
            · rw [upT_ne ev, n2, e20' v ev]; exact ht v (by omega), b3, hB, by omega⟩
          obtain ⟨S4, B4, g1, g2, g3⟩ := hrc (upT t w (o i)) (W + wt a L w (o i)) Bw S3 hH3 (fun _ => by omega)
          rw [g1, Option.bind_some]
          obtain ⟨p1, p2, p3, p4, p5, p6⟩ := g2
          refine next S4 B4 ⟨fr_tr fr3 p1, fun v hv => by rw [p2 v (by omega), n2, e20' v (by omega)], fun x u hx => by rw [p3 x u (by omega), n4 x u (by omega), eJ], p4, p5, ?_⟩ (fun f hf e => ?_)
          · rcases p6 with ⟨y1, y2⟩ | ⟨f, y1, y2, y3⟩
            · exact Or.inl ⟨y1, fun v hv => by rw [y2 v hv, n2, e21]⟩
            · obtain ⟨q1, q2⟩ := cmpl_back hk hpv y1
              exact Or.inr ⟨f, q1, by rw [tw, q2]; omega, y3⟩
          · have hc2 := cmpl_mono hf
            rw [e] at hc2
            have := g3 f hc2
            rw [tw, e]; omega
      · rw [if_neg (fun q => c1 (eL.mp q))]
        refine ⟨S, Bw, rfl, same, fun f hf hj => ?_⟩
        obtain ⟨j, h1, h2, h3⟩ := hj
        have hle : wt a L w (o i) ≤ wt a L w (o j) := by
          by_cases ej : j = i
          · rw [ej]; exact Nat.le_refl _
          · exact hO.2.2.2.1 i j (by omega) h2
        have := l2 f (fun z q1 q2 => by
          have q := hf.2 z (by omega) q2
          have q36 : f z < 36 := by have := q.1.2.2.2; omega
          refine ⟨by omega, (hl z (by omega) q2 (f z) (by omega)).mpr ⟨q.1, fun v hv => ?_⟩⟩
          have q3 := q.2 v (by omega)
          rw [hf.1 v hv] at q3
          exact q3)
        rw [tw, h3]; omega
theorem place_ok {n : Nat} {a : Ab} (hI : Inv n a) {L hr : Nat} : ∀ (d D w : Nat) (t : Nat → Nat) (W Bw : Nat) (S : St), w + d = a 1 0 0 → d < D → plcH a L hr w t W Bw S → (d = 0 → W ≤ Bw) → ∃ S2 Bw2, f_X1_place D S (nI w) (lN W) = some S2 ∧ plcR a L hr w d t W Bw S S2 Bw2 ∧ ∀ f, cmpl a L hr w t f → Bw2 ≤ W + tw a L w d f := by
  have h4 := hI.2.2.1
  intro d
  induction d with
  | zero =>
    intro D w t W Bw S he hD hH hle
    obtain ⟨D, rfl⟩ : ∃ q, D = q + 1 := ⟨D - 1, by omega⟩
    obtain ⟨hs, hl, ht, hb, hB, hW⟩ := hH
    have hwm : w = a 1 0 0 := by omega
    show ∃ S2 Bw2, f_X1_place_B (f_X1_place D) S (nI w) (lN W) = some S2 ∧ _
    unfold f_X1_place_B
    rw [hs.1, if_neg (nI_nlt (by omega) (by omega))]
    simp only [cI (show a 1 0 0 < 100000 by omega), show (nI (a 1 0 0) < 0 ∨ 4 < a 1 0 0) = False from eq_false (fun q => q.elim (nI_pos (by omega)) (by omega)), if_false]
    refine ⟨_, W, rfl, ⟨fr_tr (fr_J4 S 0 0 (lN W)) (fr_R21 _ 0 _), fun v hv => ?_, fun x u hx => ?_, ?_, hle rfl, Or.inr ⟨t, ⟨fun _ _ => rfl, fun u h1 h2 => by omega⟩, by rw [tw]; omega, fun v hv => ?_⟩⟩, fun f _ => by omega⟩
    · simp [xR, xJ]
    · simp [xR, xJ]
    · simp [xR, xJ]
    · have e1 : (xR (xJ S 4 0 0 (lN W)) 21 0 (va_cpy (S.1 20 0) (S.1 21 0) (0 : Int32).toNatClampNeg (0 : Int32).toNatClampNeg (a 1 0 0))).1 21 0 v = va_cpy (S.1 20 0) (S.1 21 0) (0 : Int32).toNatClampNeg (0 : Int32).toNatClampNeg (a 1 0 0) v := by simp [xR]
      rw [e1, show (0 : Int32).toNatClampNeg = 0 from by decide, pk_cpy_in (Nat.zero_le _) (by omega)]
      simp only [Nat.sub_zero, Nat.zero_add]
      exact ht v (by omega)
  | succ d ih =>
    intro D w t W Bw S he hD hH hle
    obtain ⟨D, rfl⟩ : ∃ q, D = q + 1 := ⟨D - 1, by omega⟩
    have hwm : w < a 1 0 0 := by omega
    show ∃ S2 Bw2, f_X1_place_B (f_X1_place D) S (nI w) (lN W) = some S2 ∧ _
    unfold f_X1_place_B
    rw [hH.1.1, if_pos (nI_lt (by omega) (by omega))]
    obtain ⟨cnt, o, hO⟩ := hH.1.2.2.2 w hwm
    have hc36 := hO.1
    obtain ⟨S2, B2, g1, g2, g3⟩ := loop_ok hI (L := L) (hr := hr) (t := t) (W := W) (o := o) he (f_X1_place D) (fun t W Bw S hp hq => ih D (w + 1) t W Bw S (by omega) (by omega) hp hq) cnt 1000 0 S Bw (by omega) (by omega) hH hO
    refine ⟨S2, B2, g1, g2, fun f hf => g3 f hf ?_⟩
    obtain ⟨i, hi, e⟩ := hO.2.2.2.2 (f w) (hf.2 w (Nat.le_refl _) hwm).1
    exact ⟨i, Nat.zero_le _, hi, e.symm⟩
