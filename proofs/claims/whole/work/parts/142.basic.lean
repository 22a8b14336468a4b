/-! the simple steps -/
theorem gIn {w N : Nat} (h : w < N) (hN : N < 2 ^ 31) : (nI w < 0 ∨ N ≤ w) = False := eq_false (fun q => by
  rcases q with q | q
  · exact nI_pos (by omega) q
  · omega)
theorem gI4 {w : Nat} (h : w < 4) : (nI w < 0 ∨ 4 ≤ w) = False := gIn h (by decide)
theorem gI36 {w : Nat} (h : w < 36) : (nI w < 0 ∨ 36 ≤ w) = False := gIn h (by decide)
theorem cI {w : Nat} (h : w < 100000) : (nI w).toNatClampNeg = w := nI_clamp (by omega)
theorem iw {n : Nat} {a : Ab} {S T : St} (hI : Inv n a) (hC : EncC a S) (hM : EncM a T) (x : Int32) : (f_X3_isWork S x = some 0 ∧ f_X4_isWork T x = some 0) ∨ (∃ w, w < a 1 0 0 ∧ w < 4 ∧ x = nI w ∧ f_X3_isWork S x = some 1 ∧ f_X4_isWork T x = some 1) := by
  have h4 : a 1 0 0 ≤ 4 := hI.2.2.1
  rcases pk_ix x (n := a 1 0 0) (by omega) with h | h | ⟨j, hj, rfl⟩
  · left
    constructor
    · unfold f_X3_isWork; rw [if_pos h]
    · unfold f_X4_isWork; rw [if_pos h]
  · left
    by_cases h0 : x < 0
    · constructor
      · unfold f_X3_isWork; rw [if_pos h0]
      · unfold f_X4_isWork; rw [if_pos h0]
    · constructor
      · unfold f_X3_isWork; rw [if_neg h0, hC.2.1, if_pos h]
      · unfold f_X4_isWork; rw [if_neg h0, hM.2.1, if_pos h]
  · right
    refine ⟨j, hj, by omega, rfl, ?_, ?_⟩
    · unfold f_X3_isWork; rw [if_neg (nI_pos (by omega)), hC.2.1, if_neg (nI_ge hj (by omega))]
    · unfold f_X4_isWork; rw [if_neg (nI_pos (by omega)), hM.2.1, if_neg (nI_ge hj (by omega))]
theorem ihr {n : Nat} {a : Ab} {S T : St} (hI : Inv n a) (hC : EncC a S) (hM : EncM a T) (x : Int32) : (f_X3_isHour S x = some 0 ∧ f_X4_isHour T x = some 0) ∨ (∃ w, w < a 0 0 0 ∧ w < 36 ∧ x = nI w ∧ f_X3_isHour S x = some 1 ∧ f_X4_isHour T x = some 1) := by
  have h4 : a 0 0 0 ≤ 36 := hI.2.1
  rcases pk_ix x (n := a 0 0 0) (by omega) with h | h | ⟨j, hj, rfl⟩
  · left
    constructor
    · unfold f_X3_isHour; rw [if_pos h]
    · unfold f_X4_isHour; rw [if_pos h]
  · left
    by_cases h0 : x < 0
    · constructor
      · unfold f_X3_isHour; rw [if_pos h0]
      · unfold f_X4_isHour; rw [if_pos h0]
    · constructor
      · unfold f_X3_isHour; rw [if_neg h0, hC.1, if_pos h]
      · unfold f_X4_isHour; rw [if_neg h0, hM.1, if_pos h]
  · right
    refine ⟨j, hj, by omega, rfl, ?_, ?_⟩
    · unfold f_X3_isHour; rw [if_neg (nI_pos (by omega)), hC.1, if_neg (nI_ge hj (by omega))]
    · unfold f_X4_isHour; rw [if_neg (nI_pos (by omega)), hM.1, if_neg (nI_ge hj (by omega))]
theorem iin (x : Int32) (lo hi : Nat) (h : hi < 2 ^ 31) (hl : lo ≤ hi) : (f_X3_isWithin x (nI lo) (nI hi) = some 0 ∧ f_X4_isIn x (nI lo) (nI hi) = some 0) ∨ (∃ v, lo ≤ v ∧ v ≤ hi ∧ x = nI v ∧ f_X3_isWithin x (nI lo) (nI hi) = some 1 ∧ f_X4_isIn x (nI lo) (nI hi) = some 1) := by
  unfold f_X3_isWithin f_X4_isIn
  by_cases h1 : x < nI lo
  · left; rw [if_pos h1]; exact ⟨rfl, rfl⟩
  · by_cases h2 : nI hi < x
    · left; rw [if_neg h1, if_pos h2]; exact ⟨rfl, rfl⟩
    · right
      have e1 : ¬ x < 0 := by
        intro q
        apply h1
        rw [Int32.lt_iff_toInt_lt] at q ⊢
        rw [nI_toInt (by omega)]
        have : (0 : Int32).toInt = 0 := by decide
        omega
      obtain ⟨j, hj, rfl⟩ := nI_of e1
      refine ⟨j, ?_, ?_, rfl, ?_⟩
      · rw [nI_ltI hj (by omega)] at h1; omega
      · rw [nI_ltI (by omega) hj] at h2; omega
      · rw [if_neg h1, if_neg h2]; exact ⟨rfl, rfl⟩
theorem icr (x : Int32) : (f_X3_isCrew x = some 0 ∧ f_X4_isIn x 0 3 = some 0) ∨ (∃ v, v < 4 ∧ x = nI v ∧ f_X3_isCrew x = some 1 ∧ f_X4_isIn x 0 3 = some 1) := by
  rcases pk_ix x (n := 4) (by omega) with h | h | ⟨j, hj, rfl⟩
  · left
    constructor
    · unfold f_X3_isCrew; rw [if_pos h]
    · unfold f_X4_isIn; rw [if_pos h]
  · left
    have h0 : ¬ x < 0 := by
      intro q
      rw [Int32.lt_iff_toInt_lt] at q
      rw [Int32.le_iff_toInt_le, nI_toInt (by omega)] at h
      have : (0 : Int32).toInt = 0 := by decide
      omega
    have h3 : (3 : Int32) < x := by
      rw [Int32.lt_iff_toInt_lt]
      rw [Int32.le_iff_toInt_le, nI_toInt (by omega)] at h
      have : (3 : Int32).toInt = 3 := by decide
      omega
    constructor
    · unfold f_X3_isCrew; rw [if_neg h0]; exact if_pos h
    · unfold f_X4_isIn; rw [if_neg h0, if_pos h3]
  · right
    refine ⟨j, hj, rfl, ?_, ?_⟩
    · unfold f_X3_isCrew; rw [if_neg (nI_pos (by omega))]; exact if_neg (nI_ge hj (by omega))
    · unfold f_X4_isIn; rw [if_neg (nI_pos (by omega))]; exact if_neg (nI_nlt (a := 3) (b := j) (by omega) (by omega) |> fun h => h) 
