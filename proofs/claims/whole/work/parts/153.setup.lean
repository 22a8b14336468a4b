/-! the class's search is laid out: spans, gaps, offered starts -/
def frS (S S2 : St) : Prop := (∀ f r c, f < 16 → S2.1 f r c = S.1 f r c) ∧ (∀ f r c, f < 2 → S2.2 f r c = S.2 f r c)
theorem frS_rf (S : St) : frS S S := ⟨fun _ _ _ _ => rfl, fun _ _ _ _ => rfl⟩
theorem frS_tr {S S2 S3 : St} (h1 : frS S S2) (h2 : frS S2 S3) : frS S S3 := ⟨fun f r c q => (h2.1 f r c q).trans (h1.1 f r c q), fun f r c q => (h2.2 f r c q).trans (h1.2 f r c q)⟩
theorem frS_fr {S S2 : St} (h : fr S S2) : frS S S2 := ⟨fun f r c q => h.1 f r c (by omega) (by omega), fun f r c q => h.2 f r c (by omega) (by omega)⟩
theorem frS_I (S : St) (f r c : Nat) (v : Int32) (h : 16 ≤ f) : frS S (xI S f r c v) := ⟨fun f1 r1 c1 q => xI_f (by omega), fun _ _ _ _ => rfl⟩
theorem xJ_f {S : St} {f r c f1 r1 c1 : Nat} {v : Int64} (h : f1 ≠ f) : (xJ S f r c v).2 f1 r1 c1 = S.2 f1 r1 c1 := by simp [xJ, h]
theorem frS_J (S : St) (f r c : Nat) (v : Int64) (h : 2 ≤ f) : frS S (xJ S f r c v) := ⟨fun _ _ _ _ => rfl, fun f1 r1 c1 q => xJ_f (by omega)⟩
theorem eC_frS {a : Ab} {S S2 : St} (h : EncC a S) (hf : frS S S2) : EncC a S2 := by
  obtain ⟨h0, h1, h2, h3, hW, h12, h13, hN⟩ := h
  obtain ⟨e1, e2⟩ := hf
  refine ⟨by rw [e1 _ _ _ (by omega)]; exact h0, by rw [e1 _ _ _ (by omega)]; exact h1, fun w hw => by rw [e1 _ _ _ (by omega)]; exact h2 w hw, by rw [e1 _ _ _ (by omega)]; exact h3, fun w hw => ?_, fun c hc => by rw [e1 _ _ _ (by omega)]; exact h12 c hc, by rw [e1 _ _ _ (by omega)]; exact h13, fun k h1 h2 => by rw [e1 _ _ _ (by omega), e1 _ _ _ (by omega)]; exact hN k h1 h2⟩
  obtain ⟨q0, q1, q2, q3, q4, q5, q6, q7, q8, q9⟩ := hW w hw
  refine ⟨by rw [e1 _ _ _ (by omega)]; exact q0, by rw [e1 _ _ _ (by omega)]; exact q1, by rw [e1 _ _ _ (by omega)]; exact q2, fun h hh => by rw [e2 _ _ _ (by omega)]; exact q3 h hh, fun h hh => by rw [e2 _ _ _ (by omega)]; exact q4 h hh, fun v hv => by rw [e1 _ _ _ (by omega)]; exact q5 v hv, by rw [e1 _ _ _ (by omega)]; exact q6, by rw [e1 _ _ _ (by omega)]; exact q7, by rw [e1 _ _ _ (by omega)]; exact q8, fun h hh => by rw [e1 _ _ _ (by omega)]; exact q9 h hh⟩
theorem digL (S : St) : ∀ (k m w x : Nat), w + k = 4 → k < m → f_X1_digit_L8 (fun _ x => some x) m S (lN x) (nI w) = some (lN (x * 36 ^ k)) := by
  intro k
  induction k with
  | zero =>
    intro m w x he hm
    obtain ⟨m, rfl⟩ : ∃ q, m = q + 1 := ⟨m - 1, by omega⟩
    rw [u_X1_digit_L8, if_pos (show (4 : Int32) ≤ nI w from nI_le (a := 4) (by omega) (by omega)), Nat.pow_zero, Nat.mul_one]
  | succ k ih =>
    intro m w x he hm
    obtain ⟨m, rfl⟩ : ∃ q, m = q + 1 := ⟨m - 1, by omega⟩
    rw [u_X1_digit_L8, if_neg (show ¬ (4 : Int32) ≤ nI w from nI_ge (b := 4) (by omega) (by omega)), nI_1, show (36 : Int64) = lN 36 from rfl, lN_mul, ih m (w + 1) (x * 36) (by omega) (by omega), Nat.pow_succ, Nat.mul_assoc, Nat.mul_comm 36]
theorem dig_ok (S : St) {w h : Nat} (hw : w < 4) (hh : h < 36) : f_X1_digit S (nI w) (nI h) = some (lN (dg w h)) := by
  unfold f_X1_digit dg
  rw [nI_1, nI_l (by omega)]
  exact digL S (3 - w) 1000 (w + 1) h (by omega) (by omega)
/-- what an offer to a work may change -/
def frW (w : Nat) (S S2 : St) : Prop := (∀ f r c, f ≠ 18 → f ≠ 19 → S2.1 f r c = S.1 f r c) ∧ (∀ r c, r ≠ w → S2.1 18 r c = S.1 18 r c) ∧ (∀ c, c ≠ w → S2.1 19 0 c = S.1 19 0 c) ∧ (∀ f r c, f ≠ 2 → f ≠ 3 → S2.2 f r c = S.2 f r c) ∧ (∀ r c, r ≠ w → S2.2 2 r c = S.2 2 r c) ∧ (∀ c, c ≠ w → S2.2 3 0 c = S.2 3 0 c)
theorem frW_rf (w : Nat) (S : St) : frW w S S := ⟨fun _ _ _ _ _ => rfl, fun _ _ _ => rfl, fun _ _ => rfl, fun _ _ _ _ _ => rfl, fun _ _ _ => rfl, fun _ _ => rfl⟩
theorem frW_tr {w : Nat} {S S2 S3 : St} (h1 : frW w S S2) (h2 : frW w S2 S3) : frW w S S3 := ⟨fun f r c p q => (h2.1 f r c p q).trans (h1.1 f r c p q), fun r c q => (h2.2.1 r c q).trans (h1.2.1 r c q), fun c q => (h2.2.2.1 c q).trans (h1.2.2.1 c q), fun f r c p q => (h2.2.2.2.1 f r c p q).trans (h1.2.2.2.1 f r c p q), fun r c q => (h2.2.2.2.2.1 r c q).trans (h1.2.2.2.2.1 r c q), fun c q => (h2.2.2.2.2.2 c q).trans (h1.2.2.2.2.2 c q)⟩
theorem frW_S {w : Nat} {S S2 : St} (h : frW w S S2) : frS S S2 := ⟨fun f r c q => h.1 f r c (by omega) (by omega), fun f r c q => h.2.2.2.1 f r c (by omega) (by omega)⟩
/-- the starts offered to a work are those of P, lightest first -/
def offQ (a : Ab) (L w : Nat) (P : Nat → Prop) (S : St) (cnt : Nat) (o : Nat → Nat) : Prop := S.1 19 0 w = nI cnt ∧ (∀ i, i < cnt → S.1 18 w i = nI (o i) ∧ P (o i) ∧ S.2 2 w (o i) = lN (wt a L w (o i))) ∧ (∀ i j, i < j → j < cnt → wt a L w (o i) ≤ wt a L w (o j)) ∧ (∀ h, P h → ∃ i, i < cnt ∧ o i = h) ∧ (∀ h, h < 64 → (bt (S.2 3 0 w) h = true ↔ P h))
theorem offQ_c {a : Ab} {L w : Nat} {P Q : Nat → Prop} {S : St} {cnt : Nat} {o : Nat → Nat} (h : offQ a L w P S cnt o) (e : ∀ g, P g ↔ Q g) : offQ a L w Q S cnt o := by
  have : P = Q := funext (fun g => propext (e g))
  rw [← this]; exact h
theorem offQ_fr {a : Ab} {L w v : Nat} {P : Nat → Prop} {S S2 : St} {cnt : Nat} {o : Nat → Nat} (h : offQ a L v P S cnt o) (hf : frW w S S2) (e : v ≠ w) : offQ a L v P S2 cnt o := by
  obtain ⟨h1, h2, h3, h4, h5⟩ := h
  refine ⟨by rw [hf.2.2.1 v e]; exact h1, fun i hi => by rw [hf.2.1 _ _ e, hf.2.2.2.2.1 _ _ e]; exact h2 i hi, h3, h4, fun g hg => by rw [hf.2.2.2.2.2 v e]; exact h5 g hg⟩
theorem lle0 {x y : Nat} (hx : x < 9223372036854775808) (hy : y < 9223372036854775808) : (lg_cmp (lN x) (lN y) ≤ 0) = (x ≤ y) := propext ((lg_cmp_le _ _).trans (pk_lLE (by omega) (by omega)))
/-- the place of a new start among those offered -/
theorem ins_ok {a : Ab} {L w h cnt : Nat} {o : Nat → Nat} (hw : w < 4) (hc : cnt < 36) (ho : ∀ i, i < cnt → o i < 36) (hwt : ∀ i, i < cnt → wt a L w (o i) ≤ 20000000000000) (hx : wt a L w h ≤ 20000000000000) (hsort : ∀ i j, i < j → j < cnt → wt a L w (o i) ≤ wt a L w (o j)) (kk : St → Int32 → Int32 → Int32 → Option St) : ∀ (i m : Nat) (S : St), i ≤ cnt → i < m → (∀ j, j < i → S.1 18 w j = nI (o j)) → (∀ j, i < j → j ≤ cnt → S.1 18 w j = nI (o (j - 1))) → (∀ j, i ≤ j → j < cnt → wt a L w h < wt a L w (o j)) → (∀ j, j < cnt → S.2 2 w (o j) = lN (wt a L w (o j))) → ∃ p S2, f_X1_offer_L32 kk m S (nI w) (nI h) (lN (wt a L w h)) (nI i) = kk S2 (nI w) (nI h) (nI p) ∧ p ≤ cnt ∧ (∀ j, j < p → S2.1 18 w j = nI (o j)) ∧ (∀ j, p < j → j ≤ cnt → S2.1 18 w j = nI (o (j - 1))) ∧ (∀ j, j < p → wt a L w (o j) ≤ wt a L w h) ∧ (∀ j, p ≤ j → j < cnt → wt a L w h < wt a L w (o j)) ∧ (∀ f r c, (f ≠ 18 ∨ r ≠ w) → S2.1 f r c = S.1 f r c) ∧ (∀ f r c, S2.2 f r c = S.2 f r c) := by
  intro i
  induction i with
  | zero =>
    intro m S h1 hm h2 h3 h4 h5
    obtain ⟨m, rfl⟩ : ∃ q, m = q + 1 := ⟨m - 1, by omega⟩
    refine ⟨0, S, ?_, Nat.zero_le _, h2, h3, fun j hj => absurd hj (Nat.not_lt_zero j), h4, fun _ _ _ _ => rfl, fun _ _ _ => rfl⟩
    rw [u_X1_offer_L32, if_pos (show nI 0 ≤ 0 from nI_le (b := 0) (by omega) (by omega))]
  | succ i ih =>
    intro m S h1 hm h2 h3 h4 h5
    obtain ⟨m, rfl⟩ : ∃ q, m = q + 1 := ⟨m - 1, by omega⟩
    have e1 : nI (i + 1) - 1 = nI i := pk_sub (a := i + 1) (b := 1) (by omega)
    have e2 : nI (i + 1) + (-1) = nI i := by rw [← nI_1, Int32.add_assoc, show (1 : Int32) + (-1) = 0 from by decide, Int32.add_zero]
    have hi := h2 i (by omega)
    rw [u_X1_offer_L32, if_neg (show ¬ nI (i + 1) ≤ 0 from nI_ge (a := 0) (by omega) (by omega))]
    simp only [e1, e2, cI (show w < 100000 by omega), cI (show i < 100000 by omega), gI4 hw, gI36 (show i < 36 by omega), if_false, hi, cI (show o i < 100000 by have := ho i (by omega); omega), gI36 (ho i (by omega)), h5 i (by omega), cI (show i + 1 < 100000 by omega), gI36 (show i + 1 < 36 by omega)]
    have eL := lle0 (show wt a L w (o i) < 9223372036854775808 by have := hwt i (by omega); omega) (show wt a L w h < 9223372036854775808 by omega)
    by_cases c : wt a L w (o i) ≤ wt a L w h
    · rw [if_pos (eL.mpr c)]
      refine ⟨i + 1, S, rfl, h1, h2, h3, fun j hj => ?_, h4, fun _ _ _ _ => rfl, fun _ _ _ => rfl⟩
      by_cases ej : j = i
      · rw [ej]; exact c
      · exact Nat.le_trans (hsort j i (by omega) (by omega)) c
    · rw [if_neg (fun q => c (eL.mp q))]
      obtain ⟨p, S2, g1, g2, g3, g4, g5, g6, g7, g8⟩ := ih m (xI S 18 w (i + 1) (nI (o i))) (by omega) (by omega) (fun j hj => by rw [xI_c (by omega)]; exact h2 j (by omega)) (fun j q1 q2 => by
        by_cases ej : j = i + 1
        · rw [ej, xI_same, Nat.add_sub_cancel]
        · rw [xI_c ej]; exact h3 j (by omega) q2) (fun j q1 q2 => by
        by_cases ej : j = i
        · rw [ej]; omega
        · exact h4 j (by omega) q2) h5
      refine ⟨p, S2, g1, g2, g3, g4, g5, g6, fun f r c q => ?_, g8⟩
      rw [g7 f r c q]
      rcases q with q | q
      · exact xI_f q
      · exact xI_r q
theorem offer_ok {n : Nat} {a : Ab} (hI : Inv n a) {L hr w h cnt : Nat} {P : Nat → Prop} {S : St} {o : Nat → Nat} (hw : w < a 1 0 0) (hh : h < 36) (hc : cnt < 36) (hP : ∀ g, P g → okS a L hr w g ∧ g < h) (hk : okS a L hr w h) (hq : offQ a L w P S cnt o) : ∃ S2 o2, f_X1_offer S (nI w) (nI h) (nI (cst a L w h)) = some S2 ∧ offQ a L w (fun g => P g ∨ g = h) S2 (cnt + 1) o2 ∧ frW w S S2 := by
  have h4 := hI.2.2.1
  have hw4 : w < 4 := by omega
  obtain ⟨q1, q2, q3, q4, q5⟩ := hq
  have hcs := cst_le hI hw hk
  have ho : ∀ i, i < cnt → o i < h := fun i hi => (hP _ (q2 i hi).2.1).2
  have eW : Int32.toInt64 (nI (cst a L w h)) * 1679616 + lN (dg w h) = lN (wt a L w h) := by
    rw [nI_l (by omega), show (1679616 : Int64) = lN 1679616 from rfl, lN_mul, lN_add]; rfl
  unfold f_X1_offer
  rw [dig_ok S hw4 hh, Option.bind_some, eW]
  simp only [cI (show w < 100000 by omega), cI (show h < 100000 by omega), gI4 hw4, gI36 hh, if_false, q1]
  obtain ⟨S1, hS1⟩ : ∃ z, z = xJ S 2 w h (lN (wt a L w h)) := ⟨_, rfl⟩
  rw [← hS1]
  have a1 : ∀ f r c, S1.1 f r c = S.1 f r c := fun f r c => by rw [hS1]; rfl
  have a2 : S1.2 2 w h = lN (wt a L w h) := by rw [hS1]; exact xJ_same _ _ _ _ _
  have a3 : ∀ c, c ≠ h → S1.2 2 w c = S.2 2 w c := fun c q => by rw [hS1]; exact xJ_c q
  have a4 : ∀ r c, r ≠ w → S1.2 2 r c = S.2 2 r c := fun r c q => by rw [hS1]; exact xJ_r q
  have a5 : ∀ f r c, f ≠ 2 → S1.2 f r c = S.2 f r c := fun f r c q => by rw [hS1]; exact xJ_f q
  obtain ⟨p, S2, g1, g2, g3, g4, g5, g6, g7, g8⟩ := ins_ok (a := a) (L := L) (w := w) (h := h) (cnt := cnt) (o := o) hw4 hc (fun i hi => by have := ho i hi; omega) (fun i hi => wt_le hI hw (hP _ (q2 i hi).2.1).1) (wt_le hI hw hk) q3 _ cnt 1000 S1 (Nat.le_refl _) (by omega) (fun j hj => by rw [a1]; exact (q2 j hj).1) (fun j x1 x2 => by omega) (fun j x1 x2 => by omega) (fun j hj => by rw [a3 _ (by have := ho j hj; omega)]; exact (q2 j hj).2.2)
  rw [g1]
  simp only [cI (show w < 100000 by omega), cI (show p < 100000 by omega), gI4 hw4, gI36 (show p < 36 by omega), if_false]
  have z0 : (0 : Int32).toNatClampNeg = 0 := by decide
  obtain ⟨y, ey, hy⟩ := withBit_of (S2.2 3 0 w) (show h < 64 by omega) 1
  have e19 : S2.1 19 0 w = nI cnt := by rw [g7 _ _ _ (Or.inl (by decide)), a1]; exact q1
  have e3 : S2.2 3 0 w = S.2 3 0 w := by rw [g8, a5 _ _ _ (by decide)]
  rw [z0, ey, Option.bind_some, e19, nI_1]
  obtain ⟨S3, hS3⟩ : ∃ z, z = xJ (xI (xI S2 18 w p (nI h)) 19 0 w (nI (cnt + 1))) 3 0 w y := ⟨_, rfl⟩
  rw [← hS3]
  have b18 : S3.1 18 w p = nI h := by rw [hS3]; show (xI (xI S2 18 w p (nI h)) 19 0 w (nI (cnt + 1))).1 18 w p = nI h; rw [xI_f (by decide), xI_same]
  have b18' : ∀ c, c ≠ p → S3.1 18 w c = S2.1 18 w c := fun c q => by rw [hS3]; show (xI (xI S2 18 w p (nI h)) 19 0 w (nI (cnt + 1))).1 18 w c = _; rw [xI_f (by decide), xI_c q]
  have b19 : S3.1 19 0 w = nI (cnt + 1) := by rw [hS3]; show (xI (xI S2 18 w p (nI h)) 19 0 w (nI (cnt + 1))).1 19 0 w = _; rw [xI_same]
  have b3 : S3.2 3 0 w = y := by rw [hS3]; exact xJ_same _ _ _ _ _
  have b2 : ∀ r c, S3.2 2 r c = S1.2 2 r c := fun r c => by rw [hS3, xJ_f (by decide)]; show S2.2 2 r c = _; rw [g8]
  refine ⟨S3, fun j => if j < p then o j else if j = p then h else o (j - 1), rfl, ⟨b19, fun i hi => ?_, fun i j hij hj => ?_, fun g hg => ?_, fun g hg => ?_⟩, ?_⟩
  · show S3.1 18 w i = nI (if i < p then o i else if i = p then h else o (i - 1)) ∧ (P (if i < p then o i else if i = p then h else o (i - 1)) ∨ (if i < p then o i else if i = p then h else o (i - 1)) = h) ∧ S3.2 2 w (if i < p then o i else if i = p then h else o (i - 1)) = lN (wt a L w (if i < p then o i else if i = p then h else o (i - 1)))
    rcases Nat.lt_trichotomy i p with c | c | c
    · rw [if_pos c, b18' i (by omega), b2, a3 _ (by have := ho i (by omega); omega)]
      exact ⟨g3 i c, Or.inl (q2 i (by omega)).2.1, (q2 i (by omega)).2.2⟩
    · rw [if_neg (by omega), if_pos c, b2, a2, c]
      exact ⟨b18, Or.inr rfl, rfl⟩
    · rw [if_neg (by omega), if_neg (by omega), b18' i (by omega), b2, a3 _ (by have := ho (i - 1) (by omega); omega)]
      exact ⟨g4 i c (by omega), Or.inl (q2 (i - 1) (by omega)).2.1, (q2 (i - 1) (by omega)).2.2⟩
  · show wt a L w (if i < p then o i else if i = p then h else o (i - 1)) ≤ wt a L w (if j < p then o j else if j = p then h else o (j - 1))
    rcases Nat.lt_trichotomy i p with c | c | c
    · rw [if_pos c]
      rcases Nat.lt_trichotomy j p with e | e | e
      · rw [if_pos e]; exact q3 i j hij (by omega)
      · rw [if_neg (by omega), if_pos e]; exact g5 i c
      · rw [if_neg (by omega), if_neg (by omega)]
        exact Nat.le_trans (g5 i c) (Nat.le_of_lt (g6 (j - 1) (by omega) (by omega)))
    · rw [if_neg (by omega), if_pos c, if_neg (by omega), if_neg (by omega)]
      exact Nat.le_of_lt (g6 (j - 1) (by omega) (by omega))
    · rw [if_neg (by omega), if_neg (by omega), if_neg (by omega), if_neg (by omega)]
      exact q3 (i - 1) (j - 1) (by omega) (by omega)
  · rcases hg with hg | hg
    · obtain ⟨i, hi, e⟩ := q4 g hg
      by_cases c : i < p
      · exact ⟨i, by omega, by show (if i < p then o i else if i = p then h else o (i - 1)) = g; rw [if_pos c]; exact e⟩
      · exact ⟨i + 1, by omega, by show (if i + 1 < p then o (i + 1) else if i + 1 = p then h else o (i + 1 - 1)) = g; rw [if_neg (by omega), if_neg (by omega)]; exact e⟩
    · exact ⟨p, by omega, by show (if p < p then o p else if p = p then h else o (p - 1)) = g; rw [if_neg (by omega), if_pos rfl]; exact hg.symm⟩
  · rw [b3, hy g hg, e3]
    by_cases c : g = h
    · rw [if_pos c]
      exact ⟨fun _ => Or.inr c, fun _ => by decide⟩
    · rw [if_neg c, q5 g hg]
      exact ⟨fun x => Or.inl x, fun x => x.elim id (fun y => absurd y c)⟩
  · refine ⟨fun f r c x1 x2 => ?_, fun r c x => ?_, fun c x => ?_, fun f r c x1 x2 => ?_, fun r c x => ?_, fun c x => ?_⟩
    · rw [hS3]; show (xI (xI S2 18 w p (nI h)) 19 0 w (nI (cnt + 1))).1 f r c = _; rw [xI_f x2, xI_f x1, g7 _ _ _ (Or.inl x1), a1]
    · rw [hS3]; show (xI (xI S2 18 w p (nI h)) 19 0 w (nI (cnt + 1))).1 18 r c = _; rw [xI_f (by decide), xI_r x, g7 _ _ _ (Or.inr x), a1]
    · rw [hS3]; show (xI (xI S2 18 w p (nI h)) 19 0 w (nI (cnt + 1))).1 19 0 c = _; rw [xI_c x, xI_f (by decide), g7 _ _ _ (Or.inl (by decide)), a1]
    · rw [hS3, xJ_f x2]; show S2.2 f r c = _; rw [g8, a5 _ _ _ x1]
    · rw [b2, a4 _ _ x]
    · rw [hS3, xJ_c x]; show S2.2 3 0 c = _; rw [g8, a5 _ _ _ (by decide)]
theorem cst_1 {a : Ab} {L w h : Nat} (c : L < 4 ∧ w ≠ L ∧ a 13 w 0 ≠ h + 1) : cst a L w h = dl a w h + 10000000 := by
  unfold cst mvc; rw [if_pos c]
theorem cst_0 {a : Ab} {L w h : Nat} (c : ¬ (L < 4 ∧ w ≠ L ∧ a 13 w 0 ≠ h + 1)) : cst a L w h = dl a w h := by
  unfold cst mvc; rw [if_neg c]; omega
theorem fifty {n : Nat} {a : Ab} {S : St} (hI : Inv n a) (hC : EncC a S) {L w s : Nat} (hw : w < a 1 0 0) (hs : s < 36) {x3 y0 : Int32} (h1 : L < 4 ∧ w ≠ L → x3 = 1) (h0 : ¬ (L < 4 ∧ w ≠ L) → x3 = 0) (y1 : a 13 w 0 = s + 1 → y0 = 1) (z0 : a 13 w 0 ≠ s + 1 → y0 = 0) (r : St → Int32 → Int32 → Nat → Int32 → Option St) (k : St → Option St) : f_X3_offerStarts_L50 r k S (nI w) x3 w (nI s) y0 = if al a w s = 0 then (f_X1_offer S (nI w) (nI s) (nI (cst a L w s))).bind fun u => r u (nI w) x3 w (nI (s + 1)) else r S (nI w) x3 w (nI (s + 1)) := by
  have h4 := hI.2.2.1
  have hn := hI.2.1
  have hal := al_le a w s
  unfold f_X3_offerStarts_L50
  rw [hC.1, al_C hI hC hw hs, Option.bind_some]
  by_cases c : al a w s = 0
  · rw [if_pos c, c, if_pos (show nI 0 = 0 from rfl)]
    have hf := al_fit c
    rw [delay_C hC (show w < 4 by omega) (show s + sp a w ≤ 36 by omega), Option.bind_some]
    simp only [nI_1]
    by_cases d : L < 4 ∧ w ≠ L
    · rw [h1 d, if_neg (by decide)]
      by_cases e : a 13 w 0 = s + 1
      · rw [y1 e, if_neg (by decide), cst_0 (fun q => q.2.2 e)]
      · rw [z0 e, if_pos rfl, cst_1 ⟨d.1, d.2, e⟩, show (10000000 : Int32) = nI 10000000 from rfl, nI_add]
    · rw [h0 d, if_pos rfl, cst_0 (fun q => d ⟨q.1, q.2.1⟩)]
  · rw [if_neg c, if_neg (show ¬ nI (al a w s) = 0 from fun q => c ((nI_eq (b := 0) (by omega) (by omega)).mp q))]
    simp only [nI_1]
theorem starts_ok {n : Nat} {a : Ab} (hI : Inv n a) {L hr w : Nat} (hw : w < a 1 0 0) {x3 : Int32} (h1 : L < 4 ∧ w ≠ L → x3 = 1) (h0 : ¬ (L < 4 ∧ w ≠ L) → x3 = 0) : ∀ (k m s : Nat) (S : St) (cnt : Nat) (o : Nat → Nat), s + k = a 0 0 0 → k < m → (w = L → hr ≤ s) → cnt ≤ s → EncC a S → offQ a L w (fun g => okS a L hr w g ∧ g < s) S cnt o → ∃ S2 cnt2 o2, f_X3_offerStarts_L11 (fun S => some S) m S (nI w) x3 w (nI s) = some S2 ∧ cnt2 ≤ 36 ∧ offQ a L w (okS a L hr w) S2 cnt2 o2 ∧ frW w S S2 := by
  have h4 := hI.2.2.1
  have hn := hI.2.1
  intro k
  induction k with
  | zero =>
    intro m s S cnt o he hm hl hc hC hq
    obtain ⟨m, rfl⟩ : ∃ q, m = q + 1 := ⟨m - 1, by omega⟩
    refine ⟨S, cnt, o, ?_, by omega, offQ_c hq (fun g => ⟨fun q => q.1, fun q => ⟨q, by have := q.2.2.2; omega⟩⟩), frW_rf w S⟩
    rw [u_X3_offerStarts_L11, hC.1, if_pos (nI_le (by omega) (by omega))]
  | succ k ih =>
    intro m s S cnt o he hm hl hc hC hq
    obtain ⟨m, rfl⟩ : ∃ q, m = q + 1 := ⟨m - 1, by omega⟩
    have hs : s < 36 := by omega
    have skip : ¬ okS a L hr w s → ∃ S2 cnt2 o2, f_X3_offerStarts_L11 (fun S => some S) m S (nI w) x3 w (nI (s + 1)) = some S2 ∧ cnt2 ≤ 36 ∧ offQ a L w (okS a L hr w) S2 cnt2 o2 ∧ frW w S S2 := by
      intro hno
      exact ih m (s + 1) S cnt o (by omega) (by omega) (fun q => by have := hl q; omega) (by omega) hC (offQ_c hq (fun g => ⟨fun q => ⟨q.1, by omega⟩, fun q => ⟨q.1, by
        by_cases e : g = s
        · rw [e] at q; exact absurd q.1 hno
        · omega⟩⟩))
    have fif : ∀ y0 : Int32, (a 13 w 0 = s + 1 → y0 = 1) → (a 13 w 0 ≠ s + 1 → y0 = 0) → (3 ≤ a 12 w 0 → a 13 w 0 = s + 1) → ∃ S2 cnt2 o2, f_X3_offerStarts_L50 (f_X3_offerStarts_L11 (fun S => some S) m) (fun S => some S) S (nI w) x3 w (nI s) y0 = some S2 ∧ cnt2 ≤ 36 ∧ offQ a L w (okS a L hr w) S2 cnt2 o2 ∧ frW w S S2 := by
      intro y0 y1 z0 hfx
      rw [fifty hI hC hw hs h1 h0 y1 z0]
      by_cases c : al a w s = 0
      · have hk : okS a L hr w s := ⟨c, hfx, hl, by omega⟩
        rw [if_pos c]
        obtain ⟨S1, o1, g1, g2, g3⟩ := offer_ok hI hw hs (show cnt < 36 by omega) (fun g q => q) hk hq
        rw [g1, Option.bind_some]
        obtain ⟨S2, cnt2, o2, r1, r2, r3, r4⟩ := ih m (s + 1) S1 (cnt + 1) o1 (by omega) (by omega) (fun q => by have := hl q; omega) (by omega) (eC_frS hC (frW_S g3)) (offQ_c g2 (fun g => ⟨fun q => by
          rcases q with q | q
          · exact ⟨q.1, by omega⟩
          · rw [q]; exact ⟨hk, by omega⟩, fun q => by
          by_cases e : g = s
          · exact Or.inr e
          · exact Or.inl ⟨q.1, by omega⟩⟩))
        exact ⟨S2, cnt2, o2, r1, r2, r3, frW_tr g3 r4⟩
      · rw [if_neg c]
        exact skip (fun q => c q.1)
    have hst : S.1 9 w 0 = stI (a 13 w 0) := (hC.2.2.2.2.1 w (by omega)).2.2.2.2.2.2.2.1
    have h13 := (hI.2.2.2.2.1 w (by omega)).2.2.2.2.2.2.1
    have hin := stI_inj (c := s + 1) (v := a 13 w 0) (by omega) (by omega)
    rw [u_X3_offerStarts_L11, hC.1, if_neg (nI_ge (by omega) (by omega)), hst, ← stI_s s]
    by_cases c : a 13 w 0 = s + 1
    · rw [if_pos (hin.mpr c.symm)]
      unfold f_X3_offerStarts_L35
      rw [if_neg (by decide), stI_s]
      exact fif 1 (fun _ => rfl) (fun q => absurd c q) (fun _ => c)
    · rw [if_neg (fun q => c (hin.mp q).symm)]
      unfold f_X3_offerStarts_L35
      rw [if_pos rfl, isFx hI hC (show w < 4 by omega), Option.bind_some, stI_s]
      by_cases f : 3 ≤ a 12 w 0
      · rw [if_pos f, if_neg (by decide), nI_1]
        exact skip (fun q => c (q.2.1 f))
      · rw [if_neg f, if_pos rfl]
        exact fif 0 (fun q => absurd q c) (fun _ => rfl) (fun q => absurd q f)
theorem offStarts_ok {n : Nat} {a : Ab} (hI : Inv n a) {L hr w s : Nat} {S : St} (hC : EncC a S) (hw : w < a 1 0 0) {x3 : Int32} (h1 : L < 4 ∧ w ≠ L → x3 = 1) (h0 : ¬ (L < 4 ∧ w ≠ L) → x3 = 0) (hs : s ≤ a 0 0 0) (hl : w = L → hr ≤ s) (hemp : ∀ g, okS a L hr w g → s ≤ g) (e1 : S.1 19 0 w = 0) (e2 : S.2 3 0 w = 0) : ∃ S2 cnt2 o2, f_X3_offerStarts S (nI w) (nI s) x3 = some S2 ∧ cnt2 ≤ 36 ∧ offQ a L w (okS a L hr w) S2 cnt2 o2 ∧ frW w S S2 := by
  have h4 := hI.2.2.1
  have hn := hI.2.1
  unfold f_X3_offerStarts
  simp only [cI (show w < 100000 by omega), gI4 (show w < 4 by omega), if_false]
  refine starts_ok hI hw h1 h0 (a 0 0 0 - s) 1000 s S 0 (fun _ => 0) (by omega) (by omega) hl (by omega) hC ⟨e1, fun i hi => absurd hi (Nat.not_lt_zero i), fun i j _ hj => absurd hj (Nat.not_lt_zero j), fun g q => ?_, fun g hg => ?_⟩
  · have := hemp g q.1; omega
  · rw [e2, bt_0]
    exact ⟨fun q => Bool.noConfusion q, fun q => absurd (hemp g q.1) (by omega)⟩
/-- the search's plan is laid out up to a work -/
def schP (a : Ab) (L hr w : Nat) (S : St) : Prop := EncC a S ∧ S.1 22 0 0 = nI (a 1 0 0) ∧ S.2 4 0 0 = lN NFn ∧ (∀ v, v < w → S.1 16 0 v = nI (sp a v)) ∧ (∀ u v, u < v → v < w → S.1 17 u v = gpN a u v) ∧ (∀ v, v < w → ∃ cnt o, cnt ≤ 36 ∧ offQ a L v (okS a L hr v) S cnt o) ∧ (∀ v, w ≤ v → v < a 1 0 0 → S.1 19 0 v = 0 ∧ S.2 3 0 v = 0)
theorem begin_ok {a : Ab} (h4 : a 1 0 0 ≤ 4) : ∀ (k m w : Nat) (S : St), w + k = a 1 0 0 → k < m → (∀ v, v < w → S.1 19 0 v = 0 ∧ S.2 3 0 v = 0) → ∃ S2, f_X1_begin_L14 (fun S => some S) m S (nI (a 1 0 0)) (nI w) = some S2 ∧ frS S S2 ∧ S2.1 22 0 0 = S.1 22 0 0 ∧ S2.2 4 0 0 = S.2 4 0 0 ∧ (∀ v, v < a 1 0 0 → S2.1 19 0 v = 0 ∧ S2.2 3 0 v = 0) := by
  intro k
  induction k with
  | zero =>
    intro m w S he hm hd
    obtain ⟨m, rfl⟩ : ∃ q, m = q + 1 := ⟨m - 1, by omega⟩
    refine ⟨S, ?_, frS_rf S, rfl, rfl, fun v hv => hd v (by omega)⟩
    rw [u_X1_begin_L14, if_pos (nI_le (by omega) (by omega))]
  | succ k ih =>
    intro m w S he hm hd
    obtain ⟨m, rfl⟩ : ∃ q, m = q + 1 := ⟨m - 1, by omega⟩
    rw [u_X1_begin_L14, if_neg (nI_ge (by omega) (by omega))]
    simp only [cI (show w < 100000 by omega), gI4 (show w < 4 by omega), if_false, nI_1, show (0 : Int32).toNatClampNeg = 0 from by decide]
    obtain ⟨S2, g1, g2, g3, g4, g5⟩ := ih m (w + 1) (xJ (xI S 19 0 w 0) 3 0 w 0) (by omega) (by omega) (fun v hv => by
      by_cases e : v = w
      · subst e
        exact ⟨by show (xI S 19 0 v 0).1 19 0 v = 0; rw [xI_same], xJ_same _ _ _ _ _⟩
      · exact ⟨by show (xI S 19 0 w 0).1 19 0 v = 0; rw [xI_c e]; exact (hd v (by omega)).1, by rw [xJ_c e]; exact (hd v (by omega)).2⟩)
    refine ⟨S2, g1, frS_tr (frS_tr (frS_I S 19 0 w 0 (by omega)) (frS_J _ 3 0 w 0 (by omega))) g2, ?_, ?_, g5⟩
    · rw [g3]; show (xI S 19 0 w 0).1 22 0 0 = _; rw [xI_f (by decide)]
    · rw [g4, xJ_f (by decide)]; rfl
theorem gap_ok {n : Nat} {a : Ab} {S : St} (hI : Inv n a) (hC : EncC a S) {v w : Nat} (hv : v < 4) (hw : w < 4) : f_X3_gapBetween S (nI v) (nI w) = some (gpN a v w) := by
  have hc := (hI.2.2.2.2.1 v hv).2.1
  have hc2 := (hI.2.2.2.2.1 w hw).2.1
  have e8 := (hC.2.2.2.2.1 v hv).2.2.2.2.2.2.1
  have e82 := (hC.2.2.2.2.1 w hw).2.2.2.2.2.2.1
  have e7 := (hC.2.2.2.2.1 v hv).2.2.2.2.2.1 w hw
  unfold f_X3_gapBetween gpN
  simp only [cI (show v < 100000 by omega), cI (show w < 100000 by omega), gI4 hv, gI4 hw, if_false, e8, e82, cI (show a 10 v 0 < 100000 by omega), gI4 hc, hC.2.2.2.2.2.1 _ hc, eqI (show a 10 v 0 < 1048576 by omega) (show a 10 w 0 < 1048576 by omega), hasBit_of _ (show w < 64 by omega), e7, Option.bind_some]
  by_cases c1 : a 10 v 0 = a 10 w 0
  · rw [if_pos c1, if_pos c1]
  · rw [if_neg c1, if_neg c1]
    by_cases c2 : a 4 v w = 1
    · rw [if_pos c2, decide_eq_true c2, if_neg (by decide)]
    · rw [if_neg c2, decide_eq_false c2, if_pos (by decide)]
theorem gaps_ok {n : Nat} {a : Ab} (hI : Inv n a) {w : Nat} (hw : w < 4) (x1 x2 : Int32) (r13 : St → Int32 → Int32 → Int32 → Option (Int32 × St)) (k13 : St → Option (Int32 × St)) (kk : St → Int32 → Int32 → Int32 → Option (Int32 × St)) : ∀ (k m v : Nat) (S : St), v + k = w → k < m → EncC a S → (∀ u, u < v → S.1 17 u w = gpN a u w) → ∃ S2, f_X3_findPlan_L41 r13 k13 kk m S x1 x2 (nI w) (nI v) = kk S2 x1 x2 (nI w) ∧ (∀ f r c, f ≠ 17 → S2.1 f r c = S.1 f r c) ∧ (∀ f r c, S2.2 f r c = S.2 f r c) ∧ (∀ r c, c ≠ w → S2.1 17 r c = S.1 17 r c) ∧ (∀ u, u < w → S2.1 17 u w = gpN a u w) := by
  intro k
  induction k with
  | zero =>
    intro m v S he hm hC hd
    obtain ⟨m, rfl⟩ : ∃ q, m = q + 1 := ⟨m - 1, by omega⟩
    refine ⟨S, ?_, fun _ _ _ _ => rfl, fun _ _ _ => rfl, fun _ _ _ => rfl, fun u hu => hd u (by omega)⟩
    rw [u_X3_findPlan_L41, if_pos (nI_le (by omega) (by omega))]
  | succ k ih =>
    intro m v S he hm hC hd
    obtain ⟨m, rfl⟩ : ∃ q, m = q + 1 := ⟨m - 1, by omega⟩
    have eG : f_X1_setGap S (nI v) (nI w) (gpN a v w) = some (xI S 17 v w (gpN a v w)) := by
      unfold f_X1_setGap
      simp only [cI (show v < 100000 by omega), cI (show w < 100000 by omega), gI4 (show v < 4 by omega), gI4 hw, if_false]
    rw [u_X3_findPlan_L41, if_neg (nI_ge (by omega) (by omega)), gap_ok hI hC (by omega) hw, Option.bind_some, eG, Option.bind_some, nI_1]
    obtain ⟨S2, g1, g2, g3, g4, g5⟩ := ih m (v + 1) (xI S 17 v w (gpN a v w)) (by omega) (by omega) (eC_frS hC (frS_I S 17 v w _ (by omega))) (fun u hu => by
      by_cases e : u = v
      · subst e; rw [xI_same]
      · rw [xI_r e]; exact hd u (by omega))
    exact ⟨S2, g1, fun f r c q => (g2 f r c q).trans (xI_f q), fun f r c => g3 f r c, fun r c q => (g4 r c q).trans (xI_c q), g5⟩
/-- what late and all ask of the search: 9 and 0 for all; the late work and its hour -/
def askC (a : Ab) (L hr : Nat) (x1 x2 : Int32) : Prop := (L = 9 ∧ x1 = -1 ∧ hr = 0 ∧ x2 = 0) ∨ (L < a 1 0 0 ∧ x1 = nI L ∧ x2 = nI hr ∧ hr < a 0 0 0)
theorem lay1 {n : Nat} {a : Ab} (hI : Inv n a) {L hr : Nat} {x1 x2 : Int32} (hx : askC a L hr x1 x2) {w : Nat} (hw : w < a 1 0 0) (r13 : St → Int32 → Int32 → Int32 → Option (Int32 × St)) (k13 : St → Option (Int32 × St)) (S : St) : ∃ s x3, s ≤ a 0 0 0 ∧ (w = L → hr ≤ s) ∧ (∀ g, okS a L hr w g → s ≤ g) ∧ (L < 4 ∧ w ≠ L → x3 = 1) ∧ (¬ (L < 4 ∧ w ≠ L) → x3 = 0) ∧ (if nI w = x1 then f_X3_findPlan_L82 r13 k13 S x1 x2 (nI w) x2 (nI w) else f_X3_findPlan_L82 r13 k13 S x1 x2 (nI w) 0 (nI w)) = (f_X3_offerStarts S (nI w) (nI s) x3).bind fun u => r13 u x1 x2 (nI (w + 1)) := by
  have h4 := hI.2.2.1
  have hn := hI.2.1
  rcases hx with ⟨e1, e2, e3, e4⟩ | ⟨e1, e2, e3, e4⟩
  · refine ⟨0, 0, by omega, by omega, fun g _ => by omega, fun q => by omega, fun _ => rfl, ?_⟩
    rw [e2, if_neg (stI_ne (by omega))]
    unfold f_X3_findPlan_L82
    rw [if_pos rfl, nI_1]; rfl
  · have hne : ¬ nI L = (-1 : Int32) := stI_ne (by omega)
    by_cases c : w = L
    · refine ⟨hr, 0, by omega, fun _ => Nat.le_refl _, fun g q => q.2.2.1 c, fun q => absurd c q.2, fun _ => rfl, ?_⟩
      rw [e2, e3, c, if_pos rfl]
      unfold f_X3_findPlan_L82
      rw [if_neg hne, if_pos rfl, nI_1]
    · refine ⟨0, 1, by omega, fun q => absurd q c, fun g _ => by omega, fun _ => rfl, fun q => absurd ⟨by omega, c⟩ q, ?_⟩
      have hne2 : ¬ nI w = nI L := fun q => c ((nI_eq (by omega) (by omega)).mp q)
      rw [e2, if_neg hne2]
      unfold f_X3_findPlan_L82
      rw [if_neg hne, if_neg hne2, nI_1]; rfl
theorem lay_ok {n : Nat} {a : Ab} (hI : Inv n a) {L hr : Nat} {x1 x2 : Int32} (hx : askC a L hr x1 x2) (kk : St → Option (Int32 × St)) : ∀ (k m w : Nat) (S : St), w + k = a 1 0 0 → k < m → schP a L hr w S → ∃ S2, f_X3_findPlan_L13 kk m S x1 x2 (nI w) = kk S2 ∧ frS S S2 ∧ schP a L hr (a 1 0 0) S2 := by
  have h4 := hI.2.2.1
  have hn := hI.2.1
  intro k
  induction k with
  | zero =>
    intro m w S he hm hs
    obtain ⟨m, rfl⟩ : ∃ q, m = q + 1 := ⟨m - 1, by omega⟩
    have hw : w = a 1 0 0 := by omega
    rw [← hw]
    refine ⟨S, ?_, frS_rf S, hs⟩
    rw [u_X3_findPlan_L13, hs.1.2.1, if_pos (nI_le (by omega) (by omega))]
  | succ k ih =>
    intro m w S he hm hs
    obtain ⟨m, rfl⟩ : ∃ q, m = q + 1 := ⟨m - 1, by omega⟩
    have hwm : w < a 1 0 0 := by omega
    have hw4 : w < 4 := by omega
    obtain ⟨hC, p22, p4, p16, p17, pof, prest⟩ := hs
    have eS : f_X1_setSpan S (nI w) (nI (sp a w)) = some (xI S 16 0 w (nI (sp a w))) := by
      unfold f_X1_setSpan
      simp only [cI (show w < 100000 by omega), gI4 hw4, if_false]
    rw [u_X3_findPlan_L13, hC.2.1, if_neg (nI_ge (by omega) (by omega))]
    simp only [cI (show w < 100000 by omega), gI4 hw4, if_false, span_C hC hw4]
    rw [Option.bind_some, eS, Option.bind_some]
    obtain ⟨S1, hS1⟩ : ∃ z, z = xI S 16 0 w (nI (sp a w)) := ⟨_, rfl⟩
    rw [← hS1]
    have f1 : frS S S1 := by rw [hS1]; exact frS_I S 16 0 w _ (by omega)
    have hC1 := eC_frS hC f1
    have b1 : ∀ f r c, f ≠ 16 → S1.1 f r c = S.1 f r c := fun f r c q => by rw [hS1]; exact xI_f q
    have b2 : ∀ f r c, S1.2 f r c = S.2 f r c := fun f r c => by rw [hS1]; rfl
    have b3 : ∀ v, v ≤ w → S1.1 16 0 v = nI (sp a v) := fun v hv => by
      by_cases e : v = w
      · rw [e, hS1, xI_same]
      · rw [hS1, xI_c e]; exact p16 v (by omega)
    obtain ⟨S2, g1, g2, g3, g4, g5⟩ := gaps_ok hI hw4 x1 x2 (f_X3_findPlan_L13 kk m) kk (fun S_14 x1_14 x2_14 x3_14 => if x3_14 = x1_14 then (f_X3_findPlan_L82 (f_X3_findPlan_L13 kk m) kk S_14 x1_14 x2_14 x3_14 x2_14 x3_14) else (f_X3_findPlan_L82 (f_X3_findPlan_L13 kk m) kk S_14 x1_14 x2_14 x3_14 0 x3_14)) w 1000 0 S1 (by omega) (by omega) hC1 (fun u hu => absurd hu (Nat.not_lt_zero u))
    have f2 : frS S1 S2 := ⟨fun f r c q => g2 f r c (by omega), fun f r c _ => g3 f r c⟩
    have hC2 := eC_frS hC1 f2
    obtain ⟨s, x3, l1, l2, l3, l4, l5, l6⟩ := lay1 hI hx hwm (f_X3_findPlan_L13 kk m) kk S2
    rw [show nI 0 = (0 : Int32) from rfl] at g1
    rw [g1]
    show ∃ S3, (if nI w = x1 then f_X3_findPlan_L82 (f_X3_findPlan_L13 kk m) kk S2 x1 x2 (nI w) x2 (nI w) else f_X3_findPlan_L82 (f_X3_findPlan_L13 kk m) kk S2 x1 x2 (nI w) 0 (nI w)) = _ ∧ _
    rw [l6]
    have pr := prest w (Nat.le_refl _) hwm
    obtain ⟨S3, cnt, o, o1, o2, o3, o4⟩ := offStarts_ok hI hC2 hwm l4 l5 l1 l2 l3 (by rw [g2 _ _ _ (by decide), b1 _ _ _ (by decide)]; exact pr.1) (by rw [g3, b2]; exact pr.2)
    rw [o1, Option.bind_some]
    have f3 := frW_S o4
    obtain ⟨S4, r1, r2, r3⟩ := ih m (w + 1) S3 (by omega) (by omega) ⟨eC_frS hC2 f3, by rw [o4.1 _ _ _ (by decide) (by decide), g2 _ _ _ (by decide), b1 _ _ _ (by decide)]; exact p22, by rw [o4.2.2.2.1 _ _ _ (by decide) (by decide), g3, b2]; exact p4, fun v hv => by rw [o4.1 _ _ _ (by decide) (by decide), g2 _ _ _ (by decide)]; exact b3 v (by omega), fun u v huv hv => by
        rw [o4.1 _ _ _ (by decide) (by decide)]
        by_cases e : v = w
        · rw [e]; exact g5 u (by omega)
        · rw [g4 u v e, b1 _ _ _ (by decide)]; exact p17 u v huv (by omega), fun v hv => by
        by_cases e : v = w
        · rw [e]; exact ⟨cnt, o, o2, o3⟩
        · obtain ⟨c2, q2, x1, x2, x3, x4, x5, x6⟩ := pof v (by omega)
          refine ⟨c2, q2, x1, offQ_fr ⟨?_, fun i hi => ?_, x4, x5, fun g hg => ?_⟩ o4 e⟩
          · rw [g2 _ _ _ (by decide), b1 _ _ _ (by decide)]; exact x2
          · rw [g2 _ _ _ (by decide), b1 _ _ _ (by decide), g3, b2]; exact x3 i hi
          · rw [g3, b2]; exact x6 g hg, fun v h1 h2 => by
        rw [o4.2.2.1 v (by omega), o4.2.2.2.2.2 v (by omega), g2 _ _ _ (by decide), b1 _ _ _ (by decide), g3, b2]
        exact prest v (by omega) h2⟩
    exact ⟨S4, r1, frS_tr (frS_tr (frS_tr f1 f2) f3) r2, r3⟩
theorem tw_le {n : Nat} {a : Ab} (hI : Inv n a) {L hr : Nat} {f : Nat → Nat} (h : ∀ u, u < a 1 0 0 → okS a L hr u (f u)) : ∀ d w, w + d ≤ a 1 0 0 → tw a L w d f ≤ 20000000000000 * d := by
  intro d
  induction d with
  | zero => intro w _; rw [tw]; omega
  | succ d ih =>
    intro w hw
    have := wt_le hI (show w < a 1 0 0 by omega) (h w (by omega))
    have := ih (w + 1) (by omega)
    rw [tw]; omega
theorem find_ok {n : Nat} {a : Ab} (hI : Inv n a) {S : St} (hC : EncC a S) {L hr : Nat} {x1 x2 : Int32} (hx : askC a L hr x1 x2) : ∃ S2, frS S S2 ∧ ((f_X3_findPlan S x1 x2 = some (0, S2) ∧ ∀ f, ¬ cmpl a L hr 0 f f) ∨ (f_X3_findPlan S x1 x2 = some (1, S2) ∧ ∃ f, isB a L hr f ∧ S2.2 4 0 0 = lN (tw a L 0 (a 1 0 0) f) ∧ ∀ v, v < a 1 0 0 → S2.1 21 0 v = nI (f v))) := by
  have h4 := hI.2.2.1
  have hn := hI.2.1
  unfold f_X3_findPlan f_X1_begin
  rw [hC.2.1]
  obtain ⟨S0, hS0⟩ : ∃ z, z = xJ (xI S 22 0 0 (nI (a 1 0 0))) 4 0 0 4611686018427387904 := ⟨_, rfl⟩
  rw [← hS0]
  have f0 : frS S S0 := by rw [hS0]; exact frS_tr (frS_I S 22 0 0 _ (by omega)) (frS_J _ 4 0 0 _ (by omega))
  have e22 : S0.1 22 0 0 = nI (a 1 0 0) := by rw [hS0]; show (xI S 22 0 0 (nI (a 1 0 0))).1 22 0 0 = _; rw [xI_same]
  have e4 : S0.2 4 0 0 = lN NFn := by rw [hS0, xJ_same, NF_eq]
  obtain ⟨S1, b1, b2, b3, b4, b5⟩ := begin_ok h4 (a 1 0 0) 1000 0 S0 (by omega) (by omega) (fun v hv => absurd hv (Nat.not_lt_zero v))
  rw [show nI 0 = (0 : Int32) from rfl] at b1
  rw [b1, Option.bind_some]
  obtain ⟨S2, c1, c2, c3⟩ := lay_ok hI hx (fun S_24  => (f_X1_solve S_24 ).bind fun u25 => if ¬ (u25.1 = 0 ∨ u25.1 = 1) then none else some (u25.1, u25.2)) (a 1 0 0) 1000 0 S1 (by omega) (by omega) ⟨eC_frS hC (frS_tr f0 b2), by rw [b3]; exact e22, by rw [b4]; exact e4, fun v hv => absurd hv (Nat.not_lt_zero v), fun u v _ hv => absurd hv (Nat.not_lt_zero v), fun v hv => absurd hv (Nat.not_lt_zero v), fun v _ hv => b5 v hv⟩
  obtain ⟨k1, k2, k3, k4, k5, k6, k7⟩ := c3
  have hsch : schC a L hr S2 := ⟨k2, k4, k5, fun w hw => by
    obtain ⟨cnt, o, y0, y1, y2, y3, y4, y5⟩ := k6 w hw
    exact ⟨cnt, o, y0, y1, y2, y3, y4⟩⟩
  obtain ⟨S3, B, p1, p2, p3⟩ := place_ok hI (L := L) (hr := hr) (a 1 0 0) 5 0 (fun _ => 0) 0 NFn S2 (by omega) (by omega) ⟨hsch, fun u _ hu h hh => by
    obtain ⟨cnt, o, y0, y1, y2, y3, y4, y5⟩ := k6 u hu
    rw [y5 h hh]
    exact ⟨fun q => ⟨q, fun v hv => absurd hv (Nat.not_lt_zero v)⟩, fun q => q.1⟩, fun v hv => absurd hv (Nat.not_lt_zero v), k3, Nat.le_refl _, by omega⟩ (fun _ => Nat.zero_le _)
  obtain ⟨q1, q2, q3, q4, q5, q6⟩ := p2
  have p1 : f_X1_place 5 S2 0 0 = some S3 := p1
  rw [show nI 0 = (0 : Int32) from rfl] at c1
  rw [c1]
  have hB : B < 9223372036854775808 := by unfold NFn at q5; omega
  have eC := lg_cmp_eq (lN B) (lN NFn)
  have inj : lN B = lN NFn ↔ B = NFn := by
    constructor
    · intro q
      have := congrArg Int64.toInt q
      have h1 : (lN B).toInt = (B : Int) := lg_ofNat_toInt (by omega)
      have h2 : (lN NFn).toInt = (NFn : Int) := lg_ofNat_toInt (by unfold NFn; omega)
      omega
    · intro q; rw [q]
  have c0 : ∀ f g, cmpl a L hr 0 g f → cmpl a L hr 0 f f := fun f g q => ⟨fun _ _ => rfl, q.2⟩
  have c0' : ∀ f g, cmpl a L hr 0 f f → cmpl a L hr 0 g f := fun f g q => ⟨fun v hv => absurd hv (Nat.not_lt_zero v), q.2⟩
  have htw : ∀ f, cmpl a L hr 0 f f → tw a L 0 (a 1 0 0) f < NFn := fun f q => by
    have := tw_le hI (fun u hu => (q.2 u (Nat.zero_le _) hu).1) (a 1 0 0) 0 (by omega)
    unfold NFn; omega
  have hfr : frS S S3 := frS_tr (frS_tr (frS_tr f0 b2) c2) (frS_fr q1)
  refine ⟨S3, hfr, ?_⟩
  unfold f_X1_solve
  rw [p1, Option.bind_some, q4, NF_eq]
  by_cases c : B = NFn
  · left
    rw [if_pos (eC.mpr (inj.mpr c)), Option.bind_some, if_neg (fun q => q (Or.inl rfl))]
    refine ⟨rfl, fun f q => ?_⟩
    have h1 := p3 f (c0' f _ q)
    have h2 := htw f q
    omega
  · right
    rw [if_neg (fun q => c (inj.mp (eC.mp q))), Option.bind_some, if_neg (fun q => q (Or.inr rfl))]
    refine ⟨rfl, ?_⟩
    rcases q6 with ⟨x1, _⟩ | ⟨f, x1, x2, x3⟩
    · exact absurd x1 c
    · refine ⟨f, ⟨c0 f _ x1, fun g hg => ?_⟩, by rw [x2, Nat.zero_add], x3⟩
      have := p3 g (c0' g _ hg)
      omega
