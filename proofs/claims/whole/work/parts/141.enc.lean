/-! THE ABSTRACT STATE: numbers by (field, row, place). 0 hours, 1 works, 2 length, 3 set-up, 4 near, 5 delay, 6 night, 7 event, 8 noise from, 9 noise to, 10 crew, 11 rest, 12 state, 13 start (0: none, else one more), 14 moved, 15 notices, 16 a notice's work, 17 its start, 18 cents -/
abbrev Ab : Type := Nat → Nat → Nat → Nat
def uA (a : Ab) (f r c v : Nat) : Ab := fun f1 r1 c1 => if f1 = f ∧ r1 = r ∧ c1 = c then v else a f1 r1 c1
theorem uA_same (a : Ab) (f r c v : Nat) : uA a f r c v f r c = v := by simp [uA]
theorem uA_r {a : Ab} {f r c v f1 r1 c1 : Nat} (h : r1 ≠ r) : uA a f r c v f1 r1 c1 = a f1 r1 c1 := by simp [uA, h]
theorem uA_c {a : Ab} {f r c v f1 r1 c1 : Nat} (h : c1 ≠ c) : uA a f r c v f1 r1 c1 = a f1 r1 c1 := by simp [uA, h]
theorem uA_f {a : Ab} {f r c v f1 r1 c1 : Nat} (h : f1 ≠ f) : uA a f r c v f1 r1 c1 = a f1 r1 c1 := by simp [uA, h]
theorem xI_same (S : St) (f r c : Nat) (v : Int32) : (xI S f r c v).1 f r c = v := by simp [xI]
theorem xI_r {S : St} {f r c f1 r1 c1 : Nat} {v : Int32} (h : r1 ≠ r) : (xI S f r c v).1 f1 r1 c1 = S.1 f1 r1 c1 := by simp [xI, h]
theorem xI_c {S : St} {f r c f1 r1 c1 : Nat} {v : Int32} (h : c1 ≠ c) : (xI S f r c v).1 f1 r1 c1 = S.1 f1 r1 c1 := by simp [xI, h]
theorem xI_f {S : St} {f r c f1 r1 c1 : Nat} {v : Int32} (h : f1 ≠ f) : (xI S f r c v).1 f1 r1 c1 = S.1 f1 r1 c1 := by simp [xI, h]
theorem xJ_same (S : St) (f r c : Nat) (v : Int64) : (xJ S f r c v).2 f r c = v := by simp [xJ]
theorem xJ_r {S : St} {f r c f1 r1 c1 : Nat} {v : Int64} (h : r1 ≠ r) : (xJ S f r c v).2 f1 r1 c1 = S.2 f1 r1 c1 := by simp [xJ, h]
theorem xJ_c {S : St} {f r c f1 r1 c1 : Nat} {v : Int64} (h : c1 ≠ c) : (xJ S f r c v).2 f1 r1 c1 = S.2 f1 r1 c1 := by simp [xJ, h]
def stI (c : Nat) : Int32 := if c = 0 then (-1) else nI (c - 1)
theorem stI_0 : stI 0 = -1 := rfl
theorem stI_s (k : Nat) : stI (k + 1) = nI k := by simp [stI]
theorem stI_ne {k : Nat} (h : k < 100) : ¬ nI k = (-1 : Int32) := by
  intro e
  have h1 := congrArg Int32.toInt e
  rw [nI_toInt (by omega)] at h1
  have h2 : (-1 : Int32).toInt = -1 := by decide
  omega
theorem stI_m1 {c : Nat} (h : c < 100) : stI c = (-1) ↔ c = 0 := by
  cases c with
  | zero => simp [stI_0]
  | succ k => rw [stI_s]; constructor
              · intro e; exact absurd e (stI_ne (by omega))
              · intro e; omega
def EncW (a : Ab) (S : St) (w : Nat) : Prop :=
  S.1 4 w 0 = nI (a 2 w 0) ∧ S.1 5 w 0 = nI (a 3 w 0) ∧ S.1 6 w 0 = nI (a 6 w 0) ∧ (∀ h, h < 36 → bt (S.2 0 w 0) h = decide (a 7 w h = 1)) ∧ (∀ h, h < 36 → bt (S.2 1 w 0) h = decide (a 8 w 0 ≤ h ∧ h ≤ a 9 w 0)) ∧ (∀ v, v < 4 → bt (S.1 7 w 0).toInt64 v = decide (a 4 w v = 1)) ∧ S.1 8 w 0 = nI (a 10 w 0) ∧ S.1 9 w 0 = stI (a 13 w 0) ∧ S.1 10 w 0 = nI (a 12 w 0) ∧ (∀ h, h < 36 → S.1 11 w h = nI (a 5 w h))
def EncC (a : Ab) (S : St) : Prop :=
  S.1 0 0 0 = nI (a 0 0 0) ∧ S.1 1 0 0 = nI (a 1 0 0) ∧ (∀ w, w < 4 → bt (S.1 2 0 0).toInt64 w = decide (a 14 w 0 = 1)) ∧ S.1 3 0 0 = nI (a 18 0 0) ∧ (∀ w, w < 4 → EncW a S w) ∧ (∀ c, c < 4 → S.1 12 0 c = nI (a 11 0 c)) ∧ S.1 13 0 0 = nI (a 15 0 0) ∧ (∀ k, k < 200 → k < a 15 0 0 → S.1 14 0 k = nI (a 16 0 k) ∧ S.1 15 0 k = stI (a 17 0 k))
def EncM (a : Ab) (T : St) : Prop :=
  T.1 0 0 0 = nI (a 0 0 0) ∧ T.1 1 0 0 = nI (a 1 0 0) ∧ (∀ w, w < a 1 0 0 → T.1 2 0 w = nI (a 2 w 0) ∧ T.1 3 0 w = nI (a 3 w 0) ∧ T.1 8 0 w = nI (a 8 w 0) ∧ T.1 9 0 w = nI (a 9 w 0) ∧ T.1 10 0 w = nI (a 10 w 0) ∧ T.1 13 0 w = stI (a 13 w 0)) ∧ (∀ w, w < 4 → T.1 6 0 w = nI (a 6 w 0) ∧ T.1 12 0 w = nI (a 12 w 0) ∧ T.1 20 0 w = nI (a 14 w 0) ∧ (∀ v, v < 4 → T.1 4 0 (4 * w + v) = nI (a 4 w v)) ∧ (∀ h, h < 36 → T.1 5 0 (36 * w + h) = nI (a 5 w h)) ∧ (∀ h, h < 36 → T.1 7 0 (36 * w + h) = nI (a 7 w h))) ∧ (∀ c, c < 4 → T.1 11 0 c = nI (a 11 0 c)) ∧ T.1 21 0 0 = nI (a 15 0 0) ∧ (∀ k, k < 200 → k < a 15 0 0 → T.1 22 0 k = nI (a 16 0 k) ∧ T.1 23 0 k = stI (a 17 0 k)) ∧ T.2 0 0 0 = lN (a 18 0 0)
/-- what holds of a work that is made; of any of the four; of one that isn't made yet -/
def InvM (a : Ab) (w : Nat) : Prop := 1 ≤ a 2 w 0 ∧ a 2 w 0 ≤ 12 ∧ a 3 w 0 ≤ 3 ∧ (a 13 w 0 ≠ 0 → a 13 w 0 + (a 3 w 0 + a 2 w 0) ≤ a 0 0 0 + 1) ∧ (1 ≤ a 12 w 0 → a 13 w 0 ≠ 0)
def InvW (a : Ab) (w : Nat) : Prop := a 6 w 0 ≤ 1 ∧ a 10 w 0 < 4 ∧ a 12 w 0 ≤ 4 ∧ a 14 w 0 ≤ 1 ∧ a 8 w 0 < 36 ∧ a 9 w 0 < 36 ∧ a 13 w 0 ≤ 36 ∧ (∀ v, v < 4 → a 4 w v ≤ 1 ∧ a 4 w v = a 4 v w) ∧ (∀ h, h < 36 → a 5 w h ≤ 100000) ∧ (∀ h, h < 36 → a 7 w h ≤ 1)
def InvN (a : Ab) (w : Nat) : Prop := a 10 w 0 = w ∧ a 13 w 0 = 0 ∧ a 8 w 0 = 1 ∧ a 9 w 0 = 0 ∧ a 12 w 0 = 0
def Inv (n : Nat) (a : Ab) : Prop := 1 ≤ a 0 0 0 ∧ a 0 0 0 ≤ 36 ∧ a 1 0 0 ≤ 4 ∧ (∀ w, w < a 1 0 0 → InvM a w) ∧ (∀ w, w < 4 → InvW a w) ∧ (∀ w, a 1 0 0 ≤ w → w < 4 → InvN a w) ∧ (∀ c, c < 4 → a 11 0 c ≤ 36) ∧ a 15 0 0 ≤ 4 * n ∧ a 18 0 0 ≤ 1000000
def RelA (n : Nat) (S T : St) : Prop := ∃ a : Ab, Inv n a ∧ EncC a S ∧ EncM a T
theorem rel_m : LSm RelA := fun n S T h => by
  obtain ⟨a, hI, hC, hM⟩ := h
  obtain ⟨h1, h2, h3, h4, h5, h6, h7, h8, h9⟩ := hI
  exact ⟨a, ⟨h1, h2, h3, h4, h5, h6, h7, by omega, h9⟩, hC, hM⟩
theorem eC_len {a : Ab} {S : St} (h : EncC a S) (w v : Nat) : EncC (uA a 2 w 0 v) (xI S 4 w 0 (nI v)) := by
  obtain ⟨h0, h1, h2, h3, hW, h12, h13, hN⟩ := h
  refine ⟨h0, h1, h2, h3, fun w1 hw1 => ?_, h12, h13, hN⟩
  obtain ⟨q0, q1, q2, q3, q4, q5, q6, q7, q8, q9⟩ := hW w1 hw1
  refine ⟨?_, q1, q2, q3, q4, q5, q6, q7, q8, q9⟩
  by_cases e : w1 = w
  · subst e; rw [xI_same, uA_same]
  · rw [xI_r e, uA_r e]; exact q0
theorem eC_su {a : Ab} {S : St} (h : EncC a S) (w v : Nat) : EncC (uA a 3 w 0 v) (xI S 5 w 0 (nI v)) := by
  obtain ⟨h0, h1, h2, h3, hW, h12, h13, hN⟩ := h
  refine ⟨h0, h1, h2, h3, fun w1 hw1 => ?_, h12, h13, hN⟩
  obtain ⟨q0, q1, q2, q3, q4, q5, q6, q7, q8, q9⟩ := hW w1 hw1
  refine ⟨q0, ?_, q2, q3, q4, q5, q6, q7, q8, q9⟩
  by_cases e : w1 = w
  · subst e; rw [xI_same, uA_same]
  · rw [xI_r e, uA_r e]; exact q1
theorem eC_night {a : Ab} {S : St} (h : EncC a S) (w v : Nat) : EncC (uA a 6 w 0 v) (xI S 6 w 0 (nI v)) := by
  obtain ⟨h0, h1, h2, h3, hW, h12, h13, hN⟩ := h
  refine ⟨h0, h1, h2, h3, fun w1 hw1 => ?_, h12, h13, hN⟩
  obtain ⟨q0, q1, q2, q3, q4, q5, q6, q7, q8, q9⟩ := hW w1 hw1
  refine ⟨q0, q1, ?_, q3, q4, q5, q6, q7, q8, q9⟩
  by_cases e : w1 = w
  · subst e; rw [xI_same, uA_same]
  · rw [xI_r e, uA_r e]; exact q2
theorem eC_crew {a : Ab} {S : St} (h : EncC a S) (w v : Nat) : EncC (uA a 10 w 0 v) (xI S 8 w 0 (nI v)) := by
  obtain ⟨h0, h1, h2, h3, hW, h12, h13, hN⟩ := h
  refine ⟨h0, h1, h2, h3, fun w1 hw1 => ?_, h12, h13, hN⟩
  obtain ⟨q0, q1, q2, q3, q4, q5, q6, q7, q8, q9⟩ := hW w1 hw1
  refine ⟨q0, q1, q2, q3, q4, q5, ?_, q7, q8, q9⟩
  by_cases e : w1 = w
  · subst e; rw [xI_same, uA_same]
  · rw [xI_r e, uA_r e]; exact q6
theorem eC_start {a : Ab} {S : St} (h : EncC a S) (w v : Nat) : EncC (uA a 13 w 0 v) (xI S 9 w 0 (stI v)) := by
  obtain ⟨h0, h1, h2, h3, hW, h12, h13, hN⟩ := h
  refine ⟨h0, h1, h2, h3, fun w1 hw1 => ?_, h12, h13, hN⟩
  obtain ⟨q0, q1, q2, q3, q4, q5, q6, q7, q8, q9⟩ := hW w1 hw1
  refine ⟨q0, q1, q2, q3, q4, q5, q6, ?_, q8, q9⟩
  by_cases e : w1 = w
  · subst e; rw [xI_same, uA_same]
  · rw [xI_r e, uA_r e]; exact q7
theorem eC_state {a : Ab} {S : St} (h : EncC a S) (w v : Nat) : EncC (uA a 12 w 0 v) (xI S 10 w 0 (nI v)) := by
  obtain ⟨h0, h1, h2, h3, hW, h12, h13, hN⟩ := h
  refine ⟨h0, h1, h2, h3, fun w1 hw1 => ?_, h12, h13, hN⟩
  obtain ⟨q0, q1, q2, q3, q4, q5, q6, q7, q8, q9⟩ := hW w1 hw1
  refine ⟨q0, q1, q2, q3, q4, q5, q6, q7, ?_, q9⟩
  by_cases e : w1 = w
  · subst e; rw [xI_same, uA_same]
  · rw [xI_r e, uA_r e]; exact q8
theorem eC_dly {a : Ab} {S : St} (h : EncC a S) (w i v : Nat) : EncC (uA a 5 w i v) (xI S 11 w i (nI v)) := by
  obtain ⟨h0, h1, h2, h3, hW, h12, h13, hN⟩ := h
  refine ⟨h0, h1, h2, h3, fun w1 hw1 => ?_, h12, h13, hN⟩
  obtain ⟨q0, q1, q2, q3, q4, q5, q6, q7, q8, q9⟩ := hW w1 hw1
  refine ⟨q0, q1, q2, q3, q4, q5, q6, q7, q8, fun h hh => ?_⟩
  by_cases e : w1 = w
  · by_cases e2 : h = i
    · subst e; subst e2; rw [xI_same, uA_same]
    · rw [xI_c e2, uA_c e2]; exact q9 h hh
  · rw [xI_r e, uA_r e]; exact q9 h hh
theorem eC_rest {a : Ab} {S : St} (h : EncC a S) (i v : Nat) : EncC (uA a 11 0 i v) (xI S 12 0 i (nI v)) := by
  obtain ⟨h0, h1, h2, h3, hW, h12, h13, hN⟩ := h
  refine ⟨h0, h1, h2, h3, fun w1 hw1 => hW w1 hw1, fun c hc => ?_, h13, hN⟩
  by_cases e : c = i
  · subst e; rw [xI_same, uA_same]
  · rw [xI_c e, uA_c e]; exact h12 c hc
theorem eC_cents {a : Ab} {S : St} (h : EncC a S) (v : Nat) : EncC (uA a 18 0 0 v) (xI S 3 0 0 (nI v)) := by
  obtain ⟨h0, h1, h2, h3, hW, h12, h13, hN⟩ := h
  exact ⟨h0, h1, h2, by rw [xI_same, uA_same], fun w1 hw1 => hW w1 hw1, h12, h13, hN⟩
theorem eC_made {a : Ab} {S : St} (h : EncC a S) (v : Nat) : EncC (uA a 1 0 0 v) (xI S 1 0 0 (nI v)) := by
  obtain ⟨h0, h1, h2, h3, hW, h12, h13, hN⟩ := h
  exact ⟨h0, by rw [xI_same, uA_same], h2, h3, fun w1 hw1 => hW w1 hw1, h12, h13, hN⟩
theorem eC_ev {a : Ab} {S : St} (h : EncC a S) (w i v : Nat) (y : Int64) (hy : ∀ j, j < 36 → bt y j = if j = i then decide (v = 1) else bt (S.2 0 w 0) j) : EncC (uA a 7 w i v) (xJ S 0 w 0 y) := by
  obtain ⟨h0, h1, h2, h3, hW, h12, h13, hN⟩ := h
  refine ⟨h0, h1, h2, h3, fun w1 hw1 => ?_, h12, h13, hN⟩
  obtain ⟨q0, q1, q2, q3, q4, q5, q6, q7, q8, q9⟩ := hW w1 hw1
  refine ⟨q0, q1, q2, fun h hh => ?_, q4, q5, q6, q7, q8, q9⟩
  by_cases e : w1 = w
  · subst e
    rw [xJ_same, hy h hh]
    by_cases e2 : h = i
    · subst e2; rw [if_pos rfl, uA_same]
    · rw [if_neg e2, uA_c e2]; exact q3 h hh
  · rw [xJ_r e, uA_r e]; exact q3 h hh
theorem eC_no {a : Ab} {S : St} (h : EncC a S) (w f t : Nat) (y : Int64) (hy : ∀ j, j < 36 → bt y j = decide (f ≤ j ∧ j ≤ t)) : EncC (uA (uA a 8 w 0 f) 9 w 0 t) (xJ S 1 w 0 y) := by
  obtain ⟨h0, h1, h2, h3, hW, h12, h13, hN⟩ := h
  refine ⟨h0, h1, h2, h3, fun w1 hw1 => ?_, h12, h13, hN⟩
  obtain ⟨q0, q1, q2, q3, q4, q5, q6, q7, q8, q9⟩ := hW w1 hw1
  refine ⟨q0, q1, q2, q3, fun h hh => ?_, q5, q6, q7, q8, q9⟩
  by_cases e : w1 = w
  · subst e
    rw [xJ_same, hy h hh, uA_same, uA_f (f1 := 8) (by decide), uA_same]
  · rw [xJ_r e, uA_r e, uA_r e, uA_r e, uA_r e]; exact q4 h hh
theorem eC_near {a : Ab} {S : St} (h : EncC a S) (w i v : Nat) (y : Int32) (hy : ∀ j, j < 4 → bt y.toInt64 j = if j = i then decide (v = 1) else bt (S.1 7 w 0).toInt64 j) : EncC (uA a 4 w i v) (xI S 7 w 0 y) := by
  obtain ⟨h0, h1, h2, h3, hW, h12, h13, hN⟩ := h
  refine ⟨h0, h1, h2, h3, fun w1 hw1 => ?_, h12, h13, hN⟩
  obtain ⟨q0, q1, q2, q3, q4, q5, q6, q7, q8, q9⟩ := hW w1 hw1
  refine ⟨q0, q1, q2, q3, q4, fun h hh => ?_, q6, q7, q8, q9⟩
  by_cases e : w1 = w
  · subst e
    rw [xI_same, hy h hh]
    by_cases e2 : h = i
    · subst e2; rw [if_pos rfl, uA_same]
    · rw [if_neg e2, uA_c e2]; exact q5 h hh
  · rw [xI_r e, uA_r e]; exact q5 h hh
theorem eC_moved {a : Ab} {S : St} (h : EncC a S) (i v : Nat) (y : Int32) (hy : ∀ j, j < 4 → bt y.toInt64 j = if j = i then decide (v = 1) else bt (S.1 2 0 0).toInt64 j) : EncC (uA a 14 i 0 v) (xI S 2 0 0 y) := by
  obtain ⟨h0, h1, h2, h3, hW, h12, h13, hN⟩ := h
  refine ⟨h0, h1, fun w hw => ?_, h3, fun w1 hw1 => hW w1 hw1, h12, h13, hN⟩
  rw [xI_same, hy w hw]
  by_cases e : w = i
  · subst e; rw [if_pos rfl, uA_same]
  · rw [if_neg e, uA_r e]; exact h2 w hw
/-- all moves forgotten -/
def clA (a : Ab) : Ab := uA (uA (uA (uA a 14 0 0 0) 14 1 0 0) 14 2 0 0) 14 3 0 0
theorem clA_f {a : Ab} {f r c : Nat} (h : f ≠ 14) : clA a f r c = a f r c := by unfold clA; rw [uA_f h, uA_f h, uA_f h, uA_f h]
theorem clA_14 {a : Ab} {w : Nat} (h : w < 4) : clA a 14 w 0 = 0 := by
  match w, h with
  | 0, _ => rfl
  | 1, _ => rfl
  | 2, _ => rfl
  | 3, _ => rfl
theorem eC_clear {a : Ab} {S : St} (h : EncC a S) : EncC (clA a) (xI S 2 0 0 0) := by
  obtain ⟨h0, h1, h2, h3, hW, h12, h13, hN⟩ := h
  refine ⟨h0, h1, fun w hw => ?_, h3, fun w1 hw1 => hW w1 hw1, h12, h13, hN⟩
  rw [xI_same, clA_14 hw, bt_i0]
  rfl
/-- one more notice -/
def ntA (a : Ab) (w v : Nat) : Ab := uA (uA (uA a 16 0 (a 15 0 0) w) 17 0 (a 15 0 0) v) 15 0 0 (a 15 0 0 + 1)
theorem ntA_f {a : Ab} {w v f r c : Nat} (h : f ≠ 15) (h1 : f ≠ 16) (h2 : f ≠ 17) : ntA a w v f r c = a f r c := by unfold ntA; rw [uA_f h, uA_f h2, uA_f h1]
theorem eM_night {a : Ab} {T : St} (h : EncM a T) (w v : Nat) : EncM (uA a 6 w 0 v) (xI T 6 0 w (nI v)) := by
  obtain ⟨h0, h1, h2, h3, h4, h5, h6, h7⟩ := h
  refine ⟨h0, h1, h2, fun w1 hw1 => ?_, h4, h5, h6, h7⟩
  obtain ⟨q0, q1, q2, q3, q4, q5⟩ := h3 w1 hw1
  refine ⟨?_, q1, q2, q3, q4, q5⟩
  by_cases e : w1 = w
  · subst e; rw [xI_same, uA_same]
  · rw [xI_c e, uA_r e]; exact q0
theorem eM_state {a : Ab} {T : St} (h : EncM a T) (w v : Nat) : EncM (uA a 12 w 0 v) (xI T 12 0 w (nI v)) := by
  obtain ⟨h0, h1, h2, h3, h4, h5, h6, h7⟩ := h
  refine ⟨h0, h1, h2, fun w1 hw1 => ?_, h4, h5, h6, h7⟩
  obtain ⟨q0, q1, q2, q3, q4, q5⟩ := h3 w1 hw1
  refine ⟨q0, ?_, q2, q3, q4, q5⟩
  by_cases e : w1 = w
  · subst e; rw [xI_same, uA_same]
  · rw [xI_c e, uA_r e]; exact q1
theorem eM_moved {a : Ab} {T : St} (h : EncM a T) (w v : Nat) : EncM (uA a 14 w 0 v) (xI T 20 0 w (nI v)) := by
  obtain ⟨h0, h1, h2, h3, h4, h5, h6, h7⟩ := h
  refine ⟨h0, h1, h2, fun w1 hw1 => ?_, h4, h5, h6, h7⟩
  obtain ⟨q0, q1, q2, q3, q4, q5⟩ := h3 w1 hw1
  refine ⟨q0, q1, ?_, q3, q4, q5⟩
  by_cases e : w1 = w
  · subst e; rw [xI_same, uA_same]
  · rw [xI_c e, uA_r e]; exact q2
theorem eM_len {a : Ab} {T : St} (h : EncM a T) (w v : Nat) : EncM (uA a 2 w 0 v) (xI T 2 0 w (nI v)) := by
  obtain ⟨h0, h1, h2, h3, h4, h5, h6, h7⟩ := h
  refine ⟨h0, h1, fun w1 hw1 => ?_, h3, h4, h5, h6, h7⟩
  obtain ⟨q0, q1, q2, q3, q4, q5⟩ := h2 w1 hw1
  refine ⟨?_, q1, q2, q3, q4, q5⟩
  by_cases e : w1 = w
  · subst e; rw [xI_same, uA_same]
  · rw [xI_c e, uA_r e]; exact q0
theorem eM_su {a : Ab} {T : St} (h : EncM a T) (w v : Nat) : EncM (uA a 3 w 0 v) (xI T 3 0 w (nI v)) := by
  obtain ⟨h0, h1, h2, h3, h4, h5, h6, h7⟩ := h
  refine ⟨h0, h1, fun w1 hw1 => ?_, h3, h4, h5, h6, h7⟩
  obtain ⟨q0, q1, q2, q3, q4, q5⟩ := h2 w1 hw1
  refine ⟨q0, ?_, q2, q3, q4, q5⟩
  by_cases e : w1 = w
  · subst e; rw [xI_same, uA_same]
  · rw [xI_c e, uA_r e]; exact q1
theorem eM_nf {a : Ab} {T : St} (h : EncM a T) (w v : Nat) : EncM (uA a 8 w 0 v) (xI T 8 0 w (nI v)) := by
  obtain ⟨h0, h1, h2, h3, h4, h5, h6, h7⟩ := h
  refine ⟨h0, h1, fun w1 hw1 => ?_, h3, h4, h5, h6, h7⟩
  obtain ⟨q0, q1, q2, q3, q4, q5⟩ := h2 w1 hw1
  refine ⟨q0, q1, ?_, q3, q4, q5⟩
  by_cases e : w1 = w
  · subst e; rw [xI_same, uA_same]
  · rw [xI_c e, uA_r e]; exact q2
theorem eM_nt {a : Ab} {T : St} (h : EncM a T) (w v : Nat) : EncM (uA a 9 w 0 v) (xI T 9 0 w (nI v)) := by
  obtain ⟨h0, h1, h2, h3, h4, h5, h6, h7⟩ := h
  refine ⟨h0, h1, fun w1 hw1 => ?_, h3, h4, h5, h6, h7⟩
  obtain ⟨q0, q1, q2, q3, q4, q5⟩ := h2 w1 hw1
  refine ⟨q0, q1, q2, ?_, q4, q5⟩
  by_cases e : w1 = w
  · subst e; rw [xI_same, uA_same]
  · rw [xI_c e, uA_r e]; exact q3
theorem eM_crew {a : Ab} {T : St} (h : EncM a T) (w v : Nat) : EncM (uA a 10 w 0 v) (xI T 10 0 w (nI v)) := by
  obtain ⟨h0, h1, h2, h3, h4, h5, h6, h7⟩ := h
  refine ⟨h0, h1, fun w1 hw1 => ?_, h3, h4, h5, h6, h7⟩
  obtain ⟨q0, q1, q2, q3, q4, q5⟩ := h2 w1 hw1
  refine ⟨q0, q1, q2, q3, ?_, q5⟩
  by_cases e : w1 = w
  · subst e; rw [xI_same, uA_same]
  · rw [xI_c e, uA_r e]; exact q4
theorem eM_start {a : Ab} {T : St} (h : EncM a T) (w v : Nat) : EncM (uA a 13 w 0 v) (xI T 13 0 w (stI v)) := by
  obtain ⟨h0, h1, h2, h3, h4, h5, h6, h7⟩ := h
  refine ⟨h0, h1, fun w1 hw1 => ?_, h3, h4, h5, h6, h7⟩
  obtain ⟨q0, q1, q2, q3, q4, q5⟩ := h2 w1 hw1
  refine ⟨q0, q1, q2, q3, q4, ?_⟩
  by_cases e : w1 = w
  · subst e; rw [xI_same, uA_same]
  · rw [xI_c e, uA_r e]; exact q5
theorem eM_near {a : Ab} {T : St} (h : EncM a T) (w i v : Nat) (hi : i < 4) : EncM (uA a 4 w i v) (xI T 4 0 (4 * w + i) (nI v)) := by
  obtain ⟨h0, h1, h2, h3, h4, h5, h6, h7⟩ := h
  refine ⟨h0, h1, h2, fun w1 hw1 => ?_, h4, h5, h6, h7⟩
  obtain ⟨q0, q1, q2, q3, q4, q5⟩ := h3 w1 hw1
  refine ⟨q0, q1, q2, ?_, q4, q5⟩
  intro j hj
  by_cases e : w1 = w
  · by_cases e2 : j = i
    · subst e; subst e2; rw [xI_same, uA_same]
    · rw [xI_c (by omega), uA_c e2]; exact q3 j hj
  · rw [xI_c (by omega), uA_r e]; exact q3 j hj
theorem eM_dly {a : Ab} {T : St} (h : EncM a T) (w i v : Nat) (hi : i < 36) : EncM (uA a 5 w i v) (xI T 5 0 (36 * w + i) (nI v)) := by
  obtain ⟨h0, h1, h2, h3, h4, h5, h6, h7⟩ := h
  refine ⟨h0, h1, h2, fun w1 hw1 => ?_, h4, h5, h6, h7⟩
  obtain ⟨q0, q1, q2, q3, q4, q5⟩ := h3 w1 hw1
  refine ⟨q0, q1, q2, q3, ?_, q5⟩
  intro j hj
  by_cases e : w1 = w
  · by_cases e2 : j = i
    · subst e; subst e2; rw [xI_same, uA_same]
    · rw [xI_c (by omega), uA_c e2]; exact q4 j hj
  · rw [xI_c (by omega), uA_r e]; exact q4 j hj
theorem eM_ev {a : Ab} {T : St} (h : EncM a T) (w i v : Nat) (hi : i < 36) : EncM (uA a 7 w i v) (xI T 7 0 (36 * w + i) (nI v)) := by
  obtain ⟨h0, h1, h2, h3, h4, h5, h6, h7⟩ := h
  refine ⟨h0, h1, h2, fun w1 hw1 => ?_, h4, h5, h6, h7⟩
  obtain ⟨q0, q1, q2, q3, q4, q5⟩ := h3 w1 hw1
  refine ⟨q0, q1, q2, q3, q4, ?_⟩
  intro j hj
  by_cases e : w1 = w
  · by_cases e2 : j = i
    · subst e; subst e2; rw [xI_same, uA_same]
    · rw [xI_c (by omega), uA_c e2]; exact q5 j hj
  · rw [xI_c (by omega), uA_r e]; exact q5 j hj
theorem eM_rest {a : Ab} {T : St} (h : EncM a T) (i v : Nat) : EncM (uA a 11 0 i v) (xI T 11 0 i (nI v)) := by
  obtain ⟨h0, h1, h2, h3, h4, h5, h6, h7⟩ := h
  refine ⟨h0, h1, h2, h3, fun c hc => ?_, h5, h6, h7⟩
  by_cases e : c = i
  · subst e; rw [xI_same, uA_same]
  · rw [xI_c e, uA_c e]; exact h4 c hc
theorem eM_cents {a : Ab} {T : St} (h : EncM a T) (v : Nat) : EncM (uA a 18 0 0 v) (xJ T 0 0 0 (lN v)) := by
  obtain ⟨h0, h1, h2, h3, h4, h5, h6, h7⟩ := h
  exact ⟨h0, h1, h2, h3, h4, h5, h6, by rw [xJ_same, uA_same]⟩
/-- scratch numbers of the reference are free -/
theorem eM_free {a : Ab} {T : St} (h : EncM a T) (f i : Nat) (x : Int32) (hf : f = 14 ∨ f = 15 ∨ f = 16 ∨ f = 17 ∨ f = 18 ∨ f = 19) : EncM a (xI T f 0 i x) := by
  obtain ⟨h0, h1, h2, h3, h4, h5, h6, h7⟩ := h
  rcases hf with rfl | rfl | rfl | rfl | rfl | rfl <;> exact ⟨h0, h1, h2, h3, h4, h5, h6, h7⟩
