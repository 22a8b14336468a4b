/-! act, and the start -/
theorem uA_id {a : Ab} {f r c : Nat} : uA a f r c (a f r c) = a := by
  funext f1 r1 c1
  simp only [uA]
  by_cases h : f1 = f ∧ r1 = r ∧ c1 = c
  · obtain ⟨rfl, rfl, rfl⟩ := h; simp
  · simp [h]
theorem iv_state {n : Nat} {a : Ab} (h : Inv n a) {w v : Nat} (hw : w < a 1 0 0) (hv : v ≤ 4) (hp : 1 ≤ v → a 13 w 0 ≠ 0) : Inv n (uA a 12 w 0 v) := by
  obtain ⟨h1, h2, h3, h4, h5, h6, h7, h8, h9⟩ := h
  refine ⟨h1, h2, h3, fun w1 hw1 => ?_, fun w1 hw1 => ?_, fun w1 hm hw1 => ?_, h7, h8, h9⟩
  · obtain ⟨q0, q1, q2, q3, q4⟩ := h4 w1 hw1
    refine ⟨q0, q1, q2, q3, fun q => ?_⟩
    by_cases e : w1 = w
    · subst e; rw [uA_same] at q; exact hp q
    · rw [uA_r e] at q; exact q4 q
  · obtain ⟨q0, q1, q2, q3, q4, q5, q6, q7, q8, q9⟩ := h5 w1 hw1
    refine ⟨q0, q1, ?_, q3, q4, q5, q6, q7, q8, q9⟩
    by_cases e : w1 = w
    · subst e; rw [uA_same]; exact hv
    · rw [uA_r e]; exact q2
  · have e : w1 ≠ w := by have : a 1 0 0 ≤ w1 := hm; omega
    obtain ⟨q0, q1, q2, q3, q4⟩ := h6 w1 hm hw1
    refine ⟨q0, q1, q2, q3, ?_⟩
    rw [uA_r e]; exact q4
/-- the table: 0 refused, else one more than the new state -/
def actT (e p z : Nat) (pl : Bool) : Nat :=
  if e = 0 then (if p = 0 ∧ z = 0 ∧ pl = true then 2 else 0) else if e = 1 then (if p = 1 ∧ z = 1 then 3 else 0) else if e = 2 then (if p = 1 ∧ (z = 1 ∨ z = 2) then 1 else 0) else if e = 3 then (if p = 2 ∧ z = 2 then 4 else 0) else if e = 4 then (if p = 2 ∧ z = 3 then 5 else 0) else (if z = 3 then 3 else 0)
theorem actT_ok : ∀ e, e < 6 → ∀ p, p < 3 → ∀ z, z < 5 → ∀ pl : Bool, actT e p z pl ≤ 5 ∧ (2 ≤ actT e p z pl → 1 ≤ z ∨ pl = true) := by decide +kernel
theorem bt_evB : ∀ e, e < 6 → ∀ p, p < 3 → ∀ z, z < 5 → ∀ pl : Bool, actT e p z pl = if bt (Int32.toInt64 (evB e)) p && bt (Int32.toInt64 (evF e)) z && (!(decide (e = 0)) || pl) then ([1, 2, 0, 3, 4, 2] : List Nat).getD e 0 + 1 else 0 := by decide +kernel
theorem evT_n : ∀ e, e < 6 → evT e = nI (([1, 2, 0, 3, 4, 2] : List Nat).getD e 0) := by decide +kernel
theorem stI_pred {k : Nat} : stI k = if k = 0 then (-1) else nI (k - 1) := rfl
theorem act_C {n : Nat} {a : Ab} {S : St} (hI : Inv n a) (hC : EncC a S) {w e p : Nat} (hw : w < a 1 0 0) (hw4 : w < 4) (e1 : f_X3_isWork S (nI w) = some 1) (he : e < 6) (hp : p < 3) : f_X3_act S (nI w) (nI e) (nI p) = some (stI (actT e p (a 12 w 0) (!decide (a 13 w 0 = 0))), if actT e p (a 12 w 0) (!decide (a 13 w 0 = 0)) = 0 then S else xI S 10 w 0 (nI (actT e p (a 12 w 0) (!decide (a 13 w 0 = 0)) - 1))) := by
  have hz : a 12 w 0 < 5 := by have := (hI.2.2.2.2.1 w hw4).2.2.1; omega
  have i1 : f_X3_isWithin (nI e) 0 5 = some 1 := by
    rcases iin (nI e) 0 5 (by decide) (by decide) with ⟨q, -⟩ | ⟨v, -, -, -, q, -⟩
    · exfalso
      have q : f_X3_isWithin (nI e) (nI 0) (nI 5) = some 0 := q
      unfold f_X3_isWithin at q
      rw [if_neg (nI_nlt (by omega) (by omega)), if_neg (nI_nlt (by omega) (by omega))] at q
      exact absurd q (by decide)
    · exact q
  have i2 : f_X3_isWithin (nI p) 0 2 = some 1 := by
    rcases iin (nI p) 0 2 (by decide) (by decide) with ⟨q, -⟩ | ⟨v, -, -, -, q, -⟩
    · exfalso
      have q : f_X3_isWithin (nI p) (nI 0) (nI 2) = some 0 := q
      unfold f_X3_isWithin at q
      rw [if_neg (nI_nlt (by omega) (by omega)), if_neg (nI_nlt (by omega) (by omega))] at q
      exact absurd q (by decide)
    · exact q
  have eE : (nI e = 0) = (e = 0) := propext (nI_eq (b := 0) (by omega) (by omega))
  unfold f_X3_act f_X3_act_L82
  simp only [e1, i1, i2, Option.bind_some, one0, if_false, cI (show w < 100000 by omega), cI (show e < 100000 by omega), gI4 hw4, gIn he (by decide), hasBit_of _ (show p < 64 by omega), (encW hC hw4).2.2.2.2.2.2.2.2.1, hasBit_of _ (show a 12 w 0 < 64 by omega), eE, isPl hI hC hw4, xI_same, evT_n e he]
  rw [bt_evB e he p hp (a 12 w 0) hz]
  generalize ([1, 2, 0, 3, 4, 2] : List Nat).getD e 0 = v
  cases bt (Int32.toInt64 (evB e)) p with
  | false => simp [stI_0]
  | true =>
    cases bt (Int32.toInt64 (evF e)) (a 12 w 0) with
    | false => simp [stI_0]
    | true =>
      by_cases h0 : e = 0
      · by_cases h13 : a 13 w 0 = 0
        · simp [h0, h13, stI_0]
        · simp [h0, h13, stI_s]
      · simp [h0, stI_s]
theorem act_M {n : Nat} {a : Ab} {T : St} (hI : Inv n a) (hM : EncM a T) {w e p : Nat} (hw : w < a 1 0 0) (hw4 : w < 4) (e1 : f_X4_isWork T (nI w) = some 1) (i2 : f_X4_isIn (nI p) 0 2 = some 1) (he : e < 6) (hp : p < 3) : f_X4_act T (nI w) (nI e) (nI p) = some (stI (actT e p (a 12 w 0) (!decide (a 13 w 0 = 0))), xI T 12 0 w (if actT e p (a 12 w 0) (!decide (a 13 w 0 = 0)) = 0 then nI (a 12 w 0) else nI (actT e p (a 12 w 0) (!decide (a 13 w 0 = 0)) - 1))) := by
  have hz : a 12 w 0 < 5 := by have := (hI.2.2.2.2.1 w hw4).2.2.1; omega
  have h13 := st13 hI hw4
  have eS : (stI (a 13 w 0) = (-1)) = (a 13 w 0 = 0) := propext (stI_m1 (by omega))
  unfold f_X4_act f_X4_act_L91 f_X4_act_L92 f_X4_act_L112 f_X4_act_L113 f_X4_act_L135 f_X4_act_L139 f_X4_act_L140 f_X4_act_L160 f_X4_act_L161 f_X4_act_L181 f_X4_act_L182 f_X4_act_L198 f_X4_act_L203
  simp only [e1, i2, Option.bind_some, one0, if_false, cI (show w < 100000 by omega), gI4 hw4, (hM.2.2.2.1 w hw4).2.1, (hM.2.2.1 w hw).2.2.2.2.2, eS]
  generalize a 12 w 0 = z at hz ⊢
  by_cases hpl : a 13 w 0 = 0
  · simp only [hpl, decide_true, Bool.not_true, if_true]
    rcases (show e = 0 ∨ e = 1 ∨ e = 2 ∨ e = 3 ∨ e = 4 ∨ e = 5 by omega) with rfl | rfl | rfl | rfl | rfl | rfl <;> rcases (show p = 0 ∨ p = 1 ∨ p = 2 by omega) with rfl | rfl | rfl <;> rcases (show z = 0 ∨ z = 1 ∨ z = 2 ∨ z = 3 ∨ z = 4 by omega) with rfl | rfl | rfl | rfl | rfl <;> rfl
  · simp only [hpl, decide_false, Bool.not_false, if_false]
    rcases (show e = 0 ∨ e = 1 ∨ e = 2 ∨ e = 3 ∨ e = 4 ∨ e = 5 by omega) with rfl | rfl | rfl | rfl | rfl | rfl <;> rcases (show p = 0 ∨ p = 1 ∨ p = 2 by omega) with rfl | rfl | rfl <;> rcases (show z = 0 ∨ z = 1 ∨ z = 2 ∨ z = 3 ∨ z = 4 by omega) with rfl | rfl | rfl | rfl | rfl <;> rfl
theorem st_act : LS_act RelA := by
  intro n S T a1 a2 a3 hn hR
  obtain ⟨a, hI, hC, hM⟩ := hR
  rcases iw hI hC hM a1 with ⟨e1, e2⟩ | ⟨w, hw, hw4, rfl, e1, e2⟩
  · exact ⟨-1, S, T, by unfold f_X3_act; simp [e1], by unfold f_X4_act; simp [e2], rel_m n S T ⟨a, hI, hC, hM⟩⟩
  rcases iin a3 0 2 (by decide) (by decide) with ⟨e5, e6⟩ | ⟨p, -, hp, rfl, e5, e6⟩
  · have e5 : f_X3_isWithin a3 0 2 = some 0 := e5
    have e6 : f_X4_isIn a3 0 2 = some 0 := e6
    refine ⟨-1, S, T, ?_, by unfold f_X4_act; simp [e2, e6], rel_m n S T ⟨a, hI, hC, hM⟩⟩
    unfold f_X3_act
    rcases iin a2 0 5 (by decide) (by decide) with ⟨e3, e4⟩ | ⟨v, -, hv, rfl, e3, e4⟩
    · have e3 : f_X3_isWithin a2 0 5 = some 0 := e3
      simp [e1, e3]
    · have e3 : f_X3_isWithin (nI v) 0 5 = some 1 := e3
      simp [e1, e3, e5]
  have e6 : f_X4_isIn (nI p) 0 2 = some 1 := e6
  have hst : RelA (n + 1) S (xI T 12 0 w (nI (a 12 w 0))) := rel_m n _ _ ⟨a, hI, hC, by have := eM_state hM w (a 12 w 0); rw [uA_id] at this; exact this⟩
  rcases iin a2 0 5 (by decide) (by decide) with ⟨e3, e4⟩ | ⟨e, -, he, rfl, e3, e4⟩
  · have e3 : f_X3_isWithin a2 0 5 = some 0 := e3
    have e4 : f_X4_isIn a2 0 5 = some 0 := e4
    refine ⟨-1, S, _, by unfold f_X3_act; simp [e1, e3], ?_, hst⟩
    have hne : ∀ j, j ≤ 5 → ¬ a2 = nI j := fun j hj q => by
      subst q
      have e4 : f_X4_isIn (nI j) (nI 0) (nI 5) = some 0 := e4
      unfold f_X4_isIn at e4
      rw [if_neg (nI_nlt (by omega) (by omega)), if_neg (nI_nlt (by omega) (by omega))] at e4
      exact absurd e4 (by decide)
    have n0 : ¬ a2 = 0 := hne 0 (by omega)
    have n1 : ¬ a2 = 1 := hne 1 (by omega)
    have n2 : ¬ a2 = 2 := hne 2 (by omega)
    have n3 : ¬ a2 = 3 := hne 3 (by omega)
    have n4 : ¬ a2 = 4 := hne 4 (by omega)
    have n5 : ¬ a2 = 5 := hne 5 (by omega)
    unfold f_X4_act f_X4_act_L203
    simp only [e2, e6, Option.bind_some, one0, if_false, cI (show w < 100000 by omega), gI4 hw4, n0, n1, n2, n3, n4, n5, (hM.2.2.2.1 w hw4).2.1, if_true]
  · have hz : a 12 w 0 < 5 := by have := (hI.2.2.2.2.1 w hw4).2.2.1; omega
    refine ⟨_, _, _, act_C hI hC hw hw4 e1 (by omega) (by omega), act_M hI hM hw hw4 e2 e6 (by omega) (by omega), ?_⟩
    obtain ⟨k1, k2⟩ := actT_ok e (by omega) p (by omega) (a 12 w 0) hz (!decide (a 13 w 0 = 0))
    generalize actT e p (a 12 w 0) (!decide (a 13 w 0 = 0)) = k at k1 k2 ⊢
    by_cases h0 : k = 0
    · rw [if_pos h0, if_pos h0]; exact hst
    · rw [if_neg h0, if_neg h0]
      refine rel_m n _ _ ⟨uA a 12 w 0 (k - 1), iv_state hI hw (by omega) (fun q => ?_), eC_state hC w (k - 1), eM_state hM w (k - 1)⟩
      rcases k2 (by omega) with q2 | q2
      · exact (hI.2.2.2.1 w hw).2.2.2.2 q2
      · intro q3; rw [q3] at q2; simp at q2
theorem hrs_ok (x : Int32) : ∃ n, 1 ≤ n ∧ n ≤ 36 ∧ (if (1 : Int32) < (if x < 36 then x else 36) then (if x < 36 then x else 36) else 1) = nI n ∧ hrM x = nI n := by
  unfold hrM
  rcases pk_ix x (n := 37) (by omega) with h | h | ⟨j, hj, rfl⟩
  · refine ⟨1, by omega, by omega, ?_, ?_⟩
    · have h36 : x < 36 := by
        rw [Int32.lt_iff_toInt_lt] at h ⊢
        have e0 : (0 : Int32).toInt = 0 := by decide
        have e1 : (36 : Int32).toInt = 36 := by decide
        omega
      have h1 : ¬ (1 : Int32) < x := by
        rw [Int32.lt_iff_toInt_lt] at h ⊢
        have e0 : (0 : Int32).toInt = 0 := by decide
        have e1 : (1 : Int32).toInt = 1 := by decide
        omega
      rw [if_pos h36, if_neg h1]; rfl
    · have h1 : ¬ (1 : Int32) ≤ x := by
        rw [Int32.lt_iff_toInt_lt] at h
        rw [Int32.le_iff_toInt_le]
        have e0 : (0 : Int32).toInt = 0 := by decide
        have e1 : (1 : Int32).toInt = 1 := by decide
        omega
      rw [if_neg h1]; rfl
  · have hx : 37 ≤ x.toInt := by
      rw [Int32.le_iff_toInt_le, nI_toInt (by omega)] at h
      exact h
    refine ⟨36, by omega, by omega, ?_, ?_⟩
    · have h36 : ¬ x < 36 := by
        rw [Int32.lt_iff_toInt_lt]
        have e1 : (36 : Int32).toInt = 36 := by decide
        omega
      rw [if_neg h36, if_pos (by decide)]; rfl
    · have h1 : (1 : Int32) ≤ x := by
        rw [Int32.le_iff_toInt_le]
        have e1 : (1 : Int32).toInt = 1 := by decide
        omega
      have h2 : ¬ x ≤ 36 := by
        rw [Int32.le_iff_toInt_le]
        have e1 : (36 : Int32).toInt = 36 := by decide
        omega
      rw [if_pos h1, if_neg h2]; rfl
  · by_cases h0 : j = 0
    · subst h0
      exact ⟨1, by omega, by omega, by decide, by decide⟩
    · refine ⟨j, by omega, by omega, ?_, ?_⟩
      · by_cases h36 : j = 36
        · subst h36; decide
        · have e36 : nI j < 36 := nI_lt (a := j) (b := 36) (by omega) (by omega)
          rw [if_pos e36]
          by_cases h1 : j = 1
          · subst h1; decide
          · exact if_pos (nI_lt (a := 1) (b := j) (by omega) (by omega))
      · exact (if_pos (nI_le (a := 1) (b := j) (by omega) (by omega))).trans (if_pos (nI_le (a := j) (b := 36) (by omega) (by omega)))
def a0 (n : Nat) : Ab := fun f r _ => if f = 0 then n else if f = 8 then 1 else if f = 10 then r else 0
theorem rel_0 : ∀ a : Int32, RelA 0 (S0C a) (S0M (hrM a)) := by
  intro x
  obtain ⟨n, h1, h2, e1, e2⟩ := hrs_ok x
  refine ⟨a0 n, ⟨h1, h2, Nat.zero_le 4, fun w hw => absurd hw (Nat.not_lt_zero w), fun w hw => ?_, fun w _ hw => ⟨rfl, rfl, rfl, rfl, rfl⟩, fun c hc => Nat.zero_le 36, Nat.zero_le _, Nat.zero_le _⟩, ?_, ?_⟩
  · exact ⟨Nat.zero_le _, hw, Nat.zero_le _, Nat.zero_le _, (show 1 < 36 by decide), (show 0 < 36 by decide), Nat.zero_le _, fun v hv => ⟨Nat.zero_le _, rfl⟩, fun h _ => Nat.zero_le _, fun h _ => Nat.zero_le _⟩
  · refine ⟨e1, rfl, fun w _ => bt_i0 w, rfl, fun w hw => ?_, fun c _ => rfl, rfl, fun k _ hk => absurd hk (Nat.not_lt_zero k)⟩
    refine ⟨rfl, rfl, rfl, fun h _ => bt_0 h, fun h hh => ?_, fun v _ => bt_i0 v, ?_, rfl, rfl, fun h _ => rfl⟩
    · refine (bt_0 h).trans ?_
      symm
      exact decide_eq_false (by show ¬ (1 ≤ h ∧ h ≤ 0); omega)
    · match w, hw with
      | 0, _ => rfl
      | 1, _ => rfl
      | 2, _ => rfl
      | 3, _ => rfl
  · refine ⟨e2, rfl, fun w hw => absurd hw (Nat.not_lt_zero w), fun w hw => ⟨rfl, rfl, rfl, fun v _ => rfl, fun h _ => rfl, fun h _ => rfl⟩, fun c _ => rfl, rfl, fun k _ hk => absurd hk (Nat.not_lt_zero k), rfl⟩
