/-! the class's search -/
/-- the search's fields that a search itself changes: trial, best, left, bestWeight -/
def fr (S S2 : St) : Prop := (∀ f r c, f ≠ 20 → f ≠ 21 → S2.1 f r c = S.1 f r c) ∧ (∀ f r c, f ≠ 3 → f ≠ 4 → S2.2 f r c = S.2 f r c)
theorem fr_rf (S : St) : fr S S := ⟨fun _ _ _ _ _ => rfl, fun _ _ _ _ _ => rfl⟩
theorem fr_tr {S S2 S3 : St} (h1 : fr S S2) (h2 : fr S2 S3) : fr S S3 := ⟨fun f r c q1 q2 => (h2.1 f r c q1 q2).trans (h1.1 f r c q1 q2), fun f r c q1 q2 => (h2.2 f r c q1 q2).trans (h1.2 f r c q1 q2)⟩
theorem fr_J3 (S : St) (r c : Nat) (v : Int64) : fr S (xJ S 3 r c v) := ⟨fun _ _ _ _ _ => rfl, fun f r1 c1 h1 h2 => by simp [xJ, h1]⟩
theorem fr_J4 (S : St) (r c : Nat) (v : Int64) : fr S (xJ S 4 r c v) := ⟨fun _ _ _ _ _ => rfl, fun f r1 c1 h1 h2 => by simp [xJ, h2]⟩
theorem fr_I20 (S : St) (r c : Nat) (v : Int32) : fr S (xI S 20 r c v) := ⟨fun f r1 c1 h1 h2 => by simp [xI, h1], fun _ _ _ _ _ => rfl⟩
theorem fr_R21 (S : St) (r : Nat) (g : Nat → Int32) : fr S (xR S 21 r g) := ⟨fun f r1 c1 h1 h2 => by simp [xR, h2], fun _ _ _ _ _ => rfl⟩
def gpN (a : Ab) (v w : Nat) : Int32 := if a 10 v 0 = a 10 w 0 then nI (a 11 0 (a 10 v 0)) else if a 4 v w = 1 then 0 else (-1)
/-- a work's offered starts: all that it may take by itself, lightest first -/
def offC (a : Ab) (L hr : Nat) (S : St) (w cnt : Nat) (o : Nat → Nat) : Prop := cnt ≤ 36 ∧ S.1 19 0 w = nI cnt ∧ (∀ i, i < cnt → S.1 18 w i = nI (o i) ∧ okS a L hr w (o i) ∧ S.2 2 w (o i) = lN (wt a L w (o i))) ∧ (∀ i j, i < j → j < cnt → wt a L w (o i) ≤ wt a L w (o j)) ∧ (∀ h, okS a L hr w h → ∃ i, i < cnt ∧ o i = h)
def schC (a : Ab) (L hr : Nat) (S : St) : Prop := S.1 22 0 0 = nI (a 1 0 0) ∧ (∀ w, w < a 1 0 0 → S.1 16 0 w = nI (sp a w)) ∧ (∀ v w, v < w → w < a 1 0 0 → S.1 17 v w = gpN a v w) ∧ (∀ w, w < a 1 0 0 → ∃ cnt o, offC a L hr S w cnt o)
theorem schC_fr {a : Ab} {L hr : Nat} {S S2 : St} (h : schC a L hr S) (hf : fr S S2) : schC a L hr S2 := by
  obtain ⟨h1, h2, h3, h4⟩ := h
  refine ⟨by rw [hf.1 _ _ _ (by decide) (by decide)]; exact h1, fun w hw => by rw [hf.1 _ _ _ (by decide) (by decide)]; exact h2 w hw, fun v w hv hw => by rw [hf.1 _ _ _ (by decide) (by decide)]; exact h3 v w hv hw, fun w hw => ?_⟩
  obtain ⟨cnt, o, q1, q2, q3, q4, q5⟩ := h4 w hw
  exact ⟨cnt, o, q1, by rw [hf.1 _ _ _ (by decide) (by decide)]; exact q2, fun i hi => by rw [hf.1 _ _ _ (by decide) (by decide), hf.2 _ _ _ (by decide) (by decide)]; exact q3 i hi, q4, q5⟩
/-- what is left at a depth: the starts that go with those placed -/
def leftC (a : Ab) (L hr : Nat) (S : St) (d : Nat) (t : Nat → Nat) : Prop := ∀ u, d ≤ u → u < a 1 0 0 → ∀ h, h < 64 → (bt (S.2 3 d u) h = true ↔ (okS a L hr u h ∧ ∀ v, v < d → prs a v (t v) u h))
theorem gp_prs {n : Nat} {a : Ab} (hI : Inv n a) {v g w h : Nat} (hv : v < 4) (hw : w < 4) : prs a v g w h ↔ (gpN a v w = -1 ∨ ∃ gap, gap ≤ 36 ∧ gpN a v w = nI gap ∧ apt a v g w h gap) := by
  have hc := (hI.2.2.2.2.1 v hv).2.1
  have hr := hI.2.2.2.2.2.2.1 _ hc
  unfold prs gpN
  by_cases c1 : a 10 v 0 = a 10 w 0
  · rw [if_pos c1]
    constructor
    · intro q; exact Or.inr ⟨_, hr, rfl, q.2 c1⟩
    · rintro (q | ⟨gap, q1, q2, q3⟩)
      · exact absurd q (stI_ne (by omega))
      · have : a 11 0 (a 10 v 0) = gap := (nI_eq (by omega) (by omega)).mp q2
        subst this
        refine ⟨fun _ => ?_, fun _ => q3⟩
        unfold apt at q3 ⊢; omega
  · rw [if_neg c1]
    by_cases c2 : a 4 v w = 1
    · rw [if_pos c2]
      constructor
      · intro q; exact Or.inr ⟨0, by omega, rfl, q.1 c2⟩
      · rintro (q | ⟨gap, q1, q2, q3⟩)
        · exact absurd q (by decide)
        · have : 0 = gap := (nI_eq (a := 0) (by omega) (by omega)).mp q2
          subst this
          exact ⟨fun _ => q3, fun q => absurd q c1⟩
    · rw [if_neg c2]
      exact ⟨fun _ => Or.inl rfl, fun _ => ⟨fun q => absurd q c2, fun q => absurd q c1⟩⟩
theorem i32_ring (x y z : Int32) : x - y - z + 1 = (x + 1) - (y + z) := by grind
/-- the hours that a placed work bars to another: first, and how many -/
theorem bar_of {h s1 s2 gap : Nat} (hh : h < 36) (h1 : 1 ≤ s1 ∧ s1 ≤ 15) (h2 : 1 ≤ s2 ∧ s2 ≤ 15) (hg : gap ≤ 36) : ∃ y, f_X3_bitsFrom (if (0 : Int32) < (((nI h - nI s2) - nI gap) + 1) then (((nI h - nI s2) - nI gap) + 1) else 0) (((if (((nI h + nI s1) + nI gap) - 1) < 35 then (((nI h + nI s1) + nI gap) - 1) else 35) - (if (0 : Int32) < (((nI h - nI s2) - nI gap) + 1) then (((nI h - nI s2) - nI gap) + 1) else 0)) + 1) = some y ∧ ∀ j, j < 36 → (bt y j = true ↔ ¬ (h + s1 + gap ≤ j ∨ j + s2 + gap ≤ h)) := by
  have eF : (if (0 : Int32) < (((nI h - nI s2) - nI gap) + 1) then (((nI h - nI s2) - nI gap) + 1) else 0) = nI (h + 1 - (s2 + gap)) := by
    rw [i32_ring, nI_1, nI_add]
    by_cases c : s2 + gap < h + 1
    · rw [pk_sub (by omega)]
      exact if_pos (nI_lt (a := 0) (b := h + 1 - (s2 + gap)) (by omega) (by omega))
    · have e : ¬ (0 : Int32) < nI (h + 1) - nI (s2 + gap) := by
        rw [Int32.lt_iff_toInt_lt, pk_sub_toInt (by omega) (by omega)]
        have : (0 : Int32).toInt = 0 := by decide
        omega
      rw [if_neg e, show h + 1 - (s2 + gap) = 0 by omega]; rfl
  have eT : (if (((nI h + nI s1) + nI gap) - 1) < 35 then (((nI h + nI s1) + nI gap) - 1) else 35) = nI (if h + s1 + gap - 1 < 35 then h + s1 + gap - 1 else 35) := by
    have e1 : ((nI h + nI s1) + nI gap) - 1 = nI (h + s1 + gap - 1) := by
      rw [nI_add, nI_add]; exact pk_sub (b := 1) (by omega)
    rw [e1]
    by_cases c : h + s1 + gap - 1 < 35
    · rw [if_pos c]; exact if_pos (nI_lt (b := 35) c (by omega))
    · rw [if_neg c]; exact if_neg (nI_nlt (b := 35) (by omega) (by omega))
  rw [eF, eT]
  have hle : h + 1 - (s2 + gap) ≤ (if h + s1 + gap - 1 < 35 then h + s1 + gap - 1 else 35) := by split <;> omega
  have hT : (if h + s1 + gap - 1 < 35 then h + s1 + gap - 1 else 35) ≤ 35 := by split <;> omega
  generalize hTe : (if h + s1 + gap - 1 < 35 then h + s1 + gap - 1 else 35) = tt at hle hT
  rw [pk_sub hle, nI_1]
  obtain ⟨y, ey, hy⟩ := bitsFrom_of (f := h + 1 - (s2 + gap)) (m := tt - (h + 1 - (s2 + gap)) + 1) (by omega) (by omega)
  refine ⟨y, ey, fun j hj => ?_⟩
  rw [hy j (by omega), decide_eq_true_iff]
  by_cases c : h + s1 + gap - 1 < 35
  · rw [if_pos c] at hTe; omega
  · rw [if_neg c] at hTe; omega
/-- one row of 'left' is made out of the one before it -/
theorem narrow_ok {n : Nat} {a : Ab} (hI : Inv n a) {L hr : Nat} {w h : Nat} {t : Nat → Nat} (hw : w + 1 < a 1 0 0 + 1) (hh : h < 36) : ∀ (k m u : Nat) (S : St), w < u → u + k = a 1 0 0 → k < m → schC a L hr S → (∀ x, w ≤ x → x < a 1 0 0 → ∀ j, j < 64 → (bt (S.2 3 w x) j = true ↔ (okS a L hr x j ∧ ∀ v, v < w → prs a v (t v) x j))) → (∀ x, w < x → x < u → ∀ j, j < 64 → (bt (S.2 3 (w + 1) x) j = true ↔ (okS a L hr x j ∧ ∀ v, v < w + 1 → prs a v (upT t w h v) x j))) → ∃ S2, f_X1_narrow_L4 (fun S => some S) m S (nI w) (nI h) (nI u) = some S2 ∧ (∀ f r c, S2.1 f r c = S.1 f r c) ∧ (∀ f r c, f ≠ 3 → S2.2 f r c = S.2 f r c) ∧ (∀ r c, r ≠ w + 1 → S2.2 3 r c = S.2 3 r c) ∧ (∀ x, w < x → x < a 1 0 0 → ∀ j, j < 64 → (bt (S2.2 3 (w + 1) x) j = true ↔ (okS a L hr x j ∧ ∀ v, v < w + 1 → prs a v (upT t w h v) x j))) := by
  have h4 := hI.2.2.1
  have hn := hI.2.1
  intro k
  induction k with
  | zero =>
    intro m u S hu he hm hs hl hd
    obtain ⟨m, rfl⟩ : ∃ q, m = q + 1 := ⟨m - 1, by omega⟩
    refine ⟨S, ?_, fun _ _ _ => rfl, fun _ _ _ _ => rfl, fun _ _ _ => rfl, fun x h1 h2 => hd x h1 (by omega)⟩
    rw [u_X1_narrow_L4, hs.1, if_pos (nI_le (by omega) (by omega))]
  | succ k ih =>
    intro m u S hu he hm hs hl hd
    obtain ⟨m, rfl⟩ : ∃ q, m = q + 1 := ⟨m - 1, by omega⟩
    have hu4 : u < 4 := by omega
    have hw4 : w < 4 := by omega
    have hum : u < a 1 0 0 := by omega
    have hwm : w < a 1 0 0 := by omega
    -- the common end: with the barred hours y
    have fin : ∀ y : Int64, (∀ j, j < 36 → (bt y j = true ↔ ¬ prs a w h u j)) → ∃ S2, f_X1_narrow_L84 (f_X1_narrow_L4 (fun S => some S) m) (fun S => some S) S (nI w) (nI h) (nI u) y = some S2 ∧ (∀ f r c, S2.1 f r c = S.1 f r c) ∧ (∀ f r c, f ≠ 3 → S2.2 f r c = S.2 f r c) ∧ (∀ r c, r ≠ w + 1 → S2.2 3 r c = S.2 3 r c) ∧ (∀ x, w < x → x < a 1 0 0 → ∀ j, j < 64 → (bt (S2.2 3 (w + 1) x) j = true ↔ (okS a L hr x j ∧ ∀ v, v < w + 1 → prs a v (upT t w h v) x j))) := by
      intro y hy
      unfold f_X1_narrow_L84
      simp only [nI_1, cI (show w + 1 < 100000 by omega), cI (show w < 100000 by omega), cI (show u < 100000 by omega), gI4 (show w + 1 < 4 by omega), gI4 hw4, gI4 hu4, if_false]
      obtain ⟨S1, hS1⟩ : ∃ z, z = xJ S 3 (w + 1) u (S.2 3 w u &&& (y ^^^ (-1))) := ⟨_, rfl⟩
      rw [← hS1]
      have e1 : ∀ f r c, S1.1 f r c = S.1 f r c := fun f r c => by rw [hS1]; rfl
      have e2 : ∀ f r c, f ≠ 3 → S1.2 f r c = S.2 f r c := fun f r c q => by rw [hS1]; simp [xJ, q]
      have e3 : ∀ r c, r ≠ w + 1 → S1.2 3 r c = S.2 3 r c := fun r c q => by rw [hS1]; exact xJ_r q
      have e4 : ∀ c, c ≠ u → S1.2 3 (w + 1) c = S.2 3 (w + 1) c := fun c q => by rw [hS1]; exact xJ_c q
      have e5 : S1.2 3 (w + 1) u = (S.2 3 w u &&& (y ^^^ (-1))) := by rw [hS1]; exact xJ_same _ _ _ _ _
      have hs1 : schC a L hr S1 := schC_fr hs ⟨fun f r c _ _ => e1 f r c, fun f r c q _ => e2 f r c q⟩
      obtain ⟨S2, g1, g2, g3, g4, g5⟩ := ih m (u + 1) S1 (by omega) (by omega) (by omega) hs1 (fun x h1 h2 j hj => by rw [e3 w x (by omega)]; exact hl x h1 h2 j hj) (fun x h1 h2 j hj => by
        by_cases ex : x = u
        · subst ex
          rw [e5, bt_and, bt_not _ hj, Bool.and_eq_true, hl x (by omega) hum j hj]
          constructor
          · rintro ⟨⟨q1, q2⟩, q3⟩
            have hj36 : j < 36 := by have := q1.2.2.2; omega
            refine ⟨q1, fun v hv => ?_⟩
            by_cases ev : v = w
            · rw [ev, upT_same]
              by_cases z : prs a w h x j
              · exact z
              · rw [(hy j hj36).mpr z] at q3; cases q3
            · rw [upT_ne ev]; exact q2 v (by omega)
          · rintro ⟨q1, q2⟩
            have hj36 : j < 36 := by have := q1.2.2.2; omega
            have qw := q2 w (by omega)
            rw [upT_same] at qw
            refine ⟨⟨q1, fun v hv => by have := q2 v (by omega); rw [upT_ne (by omega)] at this; exact this⟩, ?_⟩
            cases z : bt y j with
            | false => rfl
            | true => exact absurd qw ((hy j hj36).mp z)
        · rw [e4 x ex]; exact hd x h1 (by omega) j hj)
      exact ⟨S2, g1, fun f r c => (g2 f r c).trans (e1 f r c), fun f r c q => (g3 f r c q).trans (e2 f r c q), fun r c q => (g4 r c q).trans (e3 r c q), g5⟩
    rw [u_X1_narrow_L4, hs.1, if_neg (nI_ge (by omega) (by omega))]
    simp only [cI (show w < 100000 by omega), cI (show u < 100000 by omega), gI4 hw4, gI4 hu4, if_false, hs.2.2.1 w u hu hum, hs.2.1 u hum, hs.2.1 w hwm]
    have hgp := fun j => gp_prs hI (v := w) (g := h) (w := u) (h := j) hw4 hu4
    by_cases c : gpN a w u = -1
    · rw [if_pos c]
      refine fin 0 (fun j hj => ?_)
      rw [bt_0]
      constructor
      · intro q; cases q
      · intro q; exact absurd ((hgp j).mpr (Or.inl c)) q
    · rw [if_neg c]
      obtain ⟨gap, hg, eg⟩ : ∃ gap, gap ≤ 36 ∧ gpN a w u = nI gap := by
        have hc := (hI.2.2.2.2.1 w hw4).2.1
        have hr2 := hI.2.2.2.2.2.2.1 _ hc
        unfold gpN at c ⊢
        by_cases c1 : a 10 w 0 = a 10 u 0
        · rw [if_pos c1]; exact ⟨_, hr2, rfl⟩
        · rw [if_neg c1] at c ⊢
          by_cases c2 : a 4 w u = 1
          · rw [if_pos c2]; exact ⟨0, by omega, rfl⟩
          · rw [if_neg c2] at c; exact absurd rfl c
      rw [eg]
      obtain ⟨y, ey, hy⟩ := bar_of (h := h) (s1 := sp a w) (s2 := sp a u) (gap := gap) hh (sp_le hI hwm) (sp_le hI hum) hg
      rw [ey, Option.bind_some]
      refine fin y (fun j hj => ?_)
      rw [hy j hj, hgp j]
      constructor
      · rintro q (z | ⟨g2, z1, z2, z3⟩)
        · exact c z
        · rw [eg] at z2
          have : gap = g2 := (nI_eq (by omega) (by omega)).mp z2
          subst this
          exact q z3
      · intro q z
        exact q (Or.inr ⟨gap, hg, eg, z⟩)
