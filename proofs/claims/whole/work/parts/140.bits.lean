/-! Bits of longs. The rows wb_ are turned from kit/laws/BITS.to-paste. -/
theorem wb_tb (n : Nat) : (lN n).toBitVec = BitVec.ofNat 64 n := rfl
theorem wb_inj {a b : Int64} (h : a.toBitVec = b.toBitVec) : a = b := Int64.toBitVec_inj.mp h
theorem wb_c : ∀ k, k < 64 → ((nI k).toInt64 &&& 63) = lN k := by decide +kernel
theorem wb_sm : ∀ k, k < 64 → (BitVec.ofNat 64 k).smod 64 = BitVec.ofNat 64 k := by decide +kernel
theorem wb_shl (n : Nat) {k : Nat} (hk : k < 64) : lN n <<< ((nI k).toInt64 &&& 63) = lN (n * 2 ^ k) := by
  rw [wb_c k hk]
  apply wb_inj
  rw [Int64.toBitVec_shiftLeft, wb_tb, wb_tb, wb_tb, wb_sm k hk]
  apply BitVec.eq_of_toNat_eq
  rw [BitVec.shiftLeft_eq', BitVec.toNat_shiftLeft, BitVec.toNat_ofNat, BitVec.toNat_ofNat, BitVec.toNat_ofNat, Nat.mod_eq_of_lt (show k < 2 ^ 64 by omega), Nat.shiftLeft_eq, Nat.mul_mod, Nat.mod_mod, ← Nat.mul_mod]
/-- bit i of a long -/
def bt (x : Int64) (i : Nat) : Bool := x.toBitVec.getLsbD i
theorem bt_lN (n : Nat) {j : Nat} (hj : j < 64) : bt (lN n) j = n.testBit j := by
  unfold bt
  rw [wb_tb, BitVec.getLsbD_ofNat]
  simp [hj]
theorem bt_and (x y : Int64) (j : Nat) : bt (x &&& y) j = (bt x j && bt y j) := by
  unfold bt
  rw [Int64.toBitVec_and, BitVec.getLsbD_and]
theorem bt_or (x y : Int64) (j : Nat) : bt (x ||| y) j = (bt x j || bt y j) := by
  unfold bt
  rw [Int64.toBitVec_or, BitVec.getLsbD_or]
theorem bt_not (x : Int64) {j : Nat} (hj : j < 64) : bt (x ^^^ (-1)) j = !(bt x j) := by
  unfold bt
  rw [Int64.toBitVec_xor, BitVec.getLsbD_xor]
  have h : (-1 : Int64).toBitVec = BitVec.allOnes 64 := by decide
  rw [h, BitVec.getLsbD_allOnes]
  simp [hj]
theorem bt_ext {x y : Int64} (h : ∀ j, j < 64 → bt x j = bt y j) : x = y := by
  apply wb_inj
  apply BitVec.eq_of_getLsbD_eq
  intro i hi
  exact h i hi
theorem bt_0 (j : Nat) : bt 0 j = false := by
  unfold bt
  have h : (0 : Int64).toBitVec = 0#64 := by decide
  rw [h]
  simp
theorem bt_zero {x : Int64} : x = 0 ↔ ∀ j, j < 64 → bt x j = false := by
  constructor
  · intro h j _
    rw [h]
    exact bt_0 j
  · intro h
    apply bt_ext
    intro j hj
    rw [h j hj, bt_0]
theorem bt_one {i j : Nat} (hi : i < 64) (hj : j < 64) : bt ((1 : Int64) <<< ((nI i).toInt64 &&& 63)) j = decide (j = i) := by
  have h1 : (1 : Int64) = lN 1 := by decide
  rw [h1, wb_shl 1 hi, bt_lN _ hj, Nat.one_mul, Nat.testBit_two_pow]
  simp [eq_comm]
/-- the bits of 'many' hours from 'first' on -/
theorem bt_from {f m j : Nat} (hm : m < 64) (hf : f < 64) (hj : j < 64) : bt ((((1 : Int64) <<< ((nI m).toInt64 &&& 63)) - 1) <<< ((nI f).toInt64 &&& 63)) j = decide (f ≤ j ∧ j < f + m) := by
  have h1 : (1 : Int64) = lN 1 := by decide
  have h2 : ((1 : Int64) <<< ((nI m).toInt64 &&& 63)) - 1 = lN (2 ^ m - 1) := by
    rw [h1, wb_shl 1 hm, Nat.one_mul, lN_sub (Nat.one_le_two_pow)]
  rw [h2, wb_shl _ hf, bt_lN _ hj, Nat.testBit_mul_two_pow, Nat.testBit_two_pow_sub_one]
  by_cases h : f ≤ j
  · simp only [h, decide_true, Bool.true_and, true_and]
    exact decide_eq_decide.mpr (by omega)
  · simp [h]
theorem bt_shr (x : Int64) {i : Nat} (hi : i < 64) : bt (x >>> ((nI i).toInt64 &&& 63)) 0 = bt x i := by
  rw [wb_c i hi]
  unfold bt
  rw [Int64.toBitVec_shiftRight, wb_tb, wb_sm i hi]
  rw [BitVec.sshiftRight_eq', BitVec.getLsbD_sshiftRight]
  rw [BitVec.toNat_ofNat, Nat.mod_eq_of_lt (show i < 2 ^ 64 by omega)]
  simp [hi]
theorem bt_1 {j : Nat} : bt 1 j = decide (j = 0) := by
  by_cases hj : j < 64
  · have h1 : (1 : Int64) = lN 1 := by decide
    rw [h1, bt_lN _ hj]
    cases j with
    | zero => rfl
    | succ k => simp [Nat.testBit_succ]
  · unfold bt
    rw [BitVec.getLsbD_of_ge _ _ (by omega)]
    simp; omega
theorem hasBit_of (x : Int64) {i : Nat} (hi : i < 64) : f_X3_hasBit x (nI i) = some (if bt x i then 1 else 0) := by
  unfold f_X3_hasBit
  have key : (lg_cmp ((x >>> (Int32.toInt64 (nI i) &&& 63)) &&& 1) 0 = 0) ↔ bt x i = false := by
    rw [lg_cmp_eq, bt_zero]
    constructor
    · intro h
      have := h 0 (by decide)
      rw [bt_and, bt_shr x hi, bt_1] at this
      simpa using this
    · intro h j hj
      rw [bt_and, bt_1]
      by_cases h0 : j = 0
      · subst h0
        rw [bt_shr x hi, h]
        rfl
      · simp [h0]
  by_cases h : bt x i = true
  · rw [if_neg (by rw [key, h]; decide), if_pos h]
  · rw [if_pos (by rw [key]; simpa using h), if_neg h]
theorem withBit_of (x : Int64) {i : Nat} (hi : i < 64) (on : Int32) : ∃ y, f_X3_withBit x (nI i) on = some y ∧ ∀ j, j < 64 → bt y j = if j = i then (!decide (on = 0)) else bt x j := by
  unfold f_X3_withBit
  by_cases h : on = 0
  · rw [if_pos h]
    refine ⟨_, rfl, fun j hj => ?_⟩
    rw [bt_and, bt_not _ hj, bt_one hi hj]
    by_cases e : j = i <;> simp [e, h]
  · rw [if_neg h]
    refine ⟨_, rfl, fun j hj => ?_⟩
    rw [bt_or, bt_one hi hj]
    by_cases e : j = i <;> simp [e, h]
theorem bitsFrom_of {f m : Nat} (hm : m < 64) (hf : f < 64) : ∃ y, f_X3_bitsFrom (nI f) (nI m) = some y ∧ ∀ j, j < 64 → bt y j = decide (f ≤ j ∧ j < f + m) := ⟨_, rfl, fun j hj => bt_from hm hf hj⟩
/-- two sets of bits have one in common -/
theorem meet_iff {x y : Int64} : (lg_cmp (x &&& y) 0 = 0) ↔ ∀ j, j < 64 → ¬ (bt x j = true ∧ bt y j = true) := by
  rw [lg_cmp_eq, bt_zero]
  constructor
  · intro h j hj hh
    have := h j hj
    rw [bt_and, hh.1, hh.2] at this
    cases this
  · intro h j hj
    rw [bt_and]
    have := h j hj
    cases h1 : bt x j <;> cases h2 : bt y j <;> simp_all
/-- an int's bits, and back -/
theorem bt_i2l {y : Int64} {j : Nat} (hj : j < 31) : bt (y.toInt32.toInt64) j = bt y j := by
  unfold bt
  rw [Int32.toBitVec_toInt64, Int64.toBitVec_toInt32]
  simp only [BitVec.getLsbD_signExtend, show j < 64 by omega, show j < 32 by omega, decide_true, Bool.true_and, if_true]
theorem bt_i0 (j : Nat) : bt ((0 : Int32).toInt64) j = false := by
  have h : (0 : Int32).toInt64 = 0 := by decide
  rw [h]
  exact bt_0 j
theorem bt_night : ∀ j, j < 36 → bt (-535822368) j = !(decide (20 ≤ j % 24 ∨ j % 24 ≤ 4)) := by decide +kernel
