/-! plain questions -/
theorem encW {a : Ab} {S : St} (hC : EncC a S) {w : Nat} (hw : w < 4) : EncW a S w := hC.2.2.2.2.1 w hw
theorem st13 {n : Nat} {a : Ab} (hI : Inv n a) {w : Nat} (hw : w < 4) : a 13 w 0 ≤ 36 := (hI.2.2.2.2.1 w hw).2.2.2.2.2.2.1
theorem isPl {n : Nat} {a : Ab} {S : St} (hI : Inv n a) (hC : EncC a S) {w : Nat} (hw : w < 4) : f_X2_isPlaced S w = some (if a 13 w 0 = 0 then 0 else 1) := by
  unfold f_X2_isPlaced
  rw [(encW hC hw).2.2.2.2.2.2.2.1]
  have h13 := st13 hI hw
  by_cases h : a 13 w 0 = 0
  · rw [if_pos ((stI_m1 (by omega)).mpr h), if_pos h]
  · rw [if_neg (fun q => h ((stI_m1 (by omega)).mp q)), if_neg h]
theorem isFx {n : Nat} {a : Ab} {S : St} (hI : Inv n a) (hC : EncC a S) {w : Nat} (hw : w < 4) : f_X2_isFixed S w = some (if 3 ≤ a 12 w 0 then 1 else 0) := by
  unfold f_X2_isFixed
  rw [(encW hC hw).2.2.2.2.2.2.2.2.1]
  have h12 := (hI.2.2.2.2.1 w hw).2.2.1
  by_cases h : 3 ≤ a 12 w 0
  · rw [if_pos h]; exact if_neg (nI_nlt (b := 3) h (by omega))
  · rw [if_neg h]; exact if_pos (nI_lt (a := a 12 w 0) (b := 3) (by omega) (by omega))
theorem isFxM {n : Nat} {a : Ab} {T : St} (hI : Inv n a) (hM : EncM a T) {w : Nat} (hw : w < 4) : f_X4_isFixed T (nI w) = some (if 3 ≤ a 12 w 0 then 1 else 0) := by
  unfold f_X4_isFixed
  have h12 := (hI.2.2.2.2.1 w hw).2.2.1
  simp only [cI (show w < 100000 by omega), gI4 hw, if_false, (hM.2.2.2.1 w hw).2.1]
  have e3 : (nI (a 12 w 0) = 3) = (a 12 w 0 = 3) := propext (nI_eq (b := 3) (by omega) (by omega))
  have e4 : (nI (a 12 w 0) = 4) = (a 12 w 0 = 4) := propext (nI_eq (b := 4) (by omega) (by omega))
  simp only [e3, e4]
  by_cases h : 3 ≤ a 12 w 0
  · rw [if_pos h]
    by_cases h3 : a 12 w 0 = 3
    · rw [if_pos h3]
    · rw [if_neg h3, if_pos (by omega)]
  · rw [if_neg h, if_neg (by omega), if_neg (by omega)]
theorem isPW {n : Nat} {a : Ab} {S : St} (hI : Inv n a) (hC : EncC a S) {w : Nat} (hw : w < 4) (e : f_X3_isWork S (nI w) = some 1) : f_X3_isPlacedWork S (nI w) = some (if a 13 w 0 = 0 then 0 else 1) := by
  unfold f_X3_isPlacedWork
  simp only [e, Option.bind_some, one0, if_false, cI (show w < 100000 by omega), gI4 hw, isPl hI hC hw]
  by_cases h : a 13 w 0 = 0 <;> simp [h]
theorem isPW0 {S : St} {x : Int32} (e : f_X3_isWork S x = some 0) : f_X3_isPlacedWork S x = some 0 := by
  unfold f_X3_isPlacedWork
  simp [e]
theorem st_start : LS_start RelA := by
  intro n S T a1 hn hR
  obtain ⟨a, hI, hC, hM⟩ := hR
  unfold f_X3_start f_X4_start
  rcases iw hI hC hM a1 with ⟨e1, e2⟩ | ⟨w, hw, hw4, rfl, e1, e2⟩
  · exact ⟨-1, by simp [isPW0 e1], by simp [e2]⟩
  · refine ⟨stI (a 13 w 0), ?_, ?_⟩
    · rw [isPW hI hC hw4 e1]
      by_cases h : a 13 w 0 = 0
      · simp [h, stI_0]
      · simp only [if_neg h, Option.bind_some, one0, if_false, cI (show w < 100000 by omega), gI4 hw4]
        rw [(encW hC hw4).2.2.2.2.2.2.2.1]
    · simp only [e2, Option.bind_some, one0, if_false, cI (show w < 100000 by omega), gI4 hw4, (hM.2.2.1 w hw).2.2.2.2.2]
theorem st_state : LS_state RelA := by
  intro n S T a1 hn hR
  obtain ⟨a, hI, hC, hM⟩ := hR
  unfold f_X3_state f_X4_state
  rcases iw hI hC hM a1 with ⟨e1, e2⟩ | ⟨w, hw, hw4, rfl, e1, e2⟩
  · exact ⟨-1, by simp [e1], by simp [e2]⟩
  · refine ⟨nI (a 12 w 0), ?_, ?_⟩
    · simp only [e1, Option.bind_some, one0, if_false, cI (show w < 100000 by omega), gI4 hw4, (encW hC hw4).2.2.2.2.2.2.2.2.1]
    · simp only [e2, Option.bind_some, one0, if_false, cI (show w < 100000 by omega), gI4 hw4, (hM.2.2.2.1 w hw4).2.1]
theorem st_notice : LS_notice RelA := by
  intro n S T a1 a2 hn hR
  obtain ⟨a, hI, hC, hM⟩ := hR
  have h15 := hI.2.2.2.2.2.2.2.1
  unfold f_X3_notice f_X4_notice f_X0_isKept
  rw [hC.2.2.2.2.2.2.1, hM.2.2.2.2.2.1]
  by_cases h0 : a1 < 0
  · exact ⟨-1, by simp [h0], by simp [h0]⟩
  by_cases h1 : nI (a 15 0 0) ≤ a1
  · exact ⟨-1, by simp only [if_neg h0, if_pos h1]; rfl, by simp only [if_neg h0, if_pos h1]⟩
  by_cases h2 : (200 : Int32) ≤ a1
  · exact ⟨-1, by simp only [if_neg h0, if_neg h1, if_pos h2]; rfl, by simp only [if_neg h0, if_neg h1, if_pos h2]⟩
  obtain ⟨k, hk, rfl⟩ := nI_of h0
  have hk1 : k < a 15 0 0 := by rw [nI_leI (by omega) hk] at h1; omega
  have hk2 : k < 200 := by
    have : ¬ nI 200 ≤ nI k := h2
    rw [nI_leI (by omega) hk] at this; omega
  obtain ⟨c1, c2⟩ := hC.2.2.2.2.2.2.2 k hk2 hk1
  obtain ⟨m1, m2⟩ := hM.2.2.2.2.2.2.1 k hk2 hk1
  simp only [if_neg h0, if_neg h1, if_neg h2, Option.bind_some, one0, if_false, cI (show k < 100000 by omega), gIn hk2 (by decide), c1, c2, m1, m2]
  by_cases e0 : a2 = 0
  · subst e0
    exact ⟨_, if_pos rfl, by rw [if_neg (by decide), if_pos (by decide), if_pos rfl]⟩
  · by_cases e1 : a2 = 1
    · subst e1
      exact ⟨_, by rw [if_neg (by decide), if_pos rfl], by rw [if_neg (by decide), if_pos (by decide), if_neg (by decide)]⟩
    · refine ⟨-1, by rw [if_neg e0, if_neg e1], ?_⟩
      by_cases h3 : a2 < 0
      · rw [if_pos h3]
      · rw [if_neg h3, if_neg ?_]
        intro h4
        obtain ⟨j, hj, rfl⟩ := nI_of h3
        have h4 : nI j ≤ nI 1 := h4
        rw [nI_leI hj (by omega)] at h4
        have : j ≠ 0 := fun q => e0 (by rw [q]; rfl)
        have : j ≠ 1 := fun q => e1 (by rw [q]; rfl)
        omega
/-- how many of the works from w on are placed -/
def plcN (a : Ab) : Nat → Nat → Nat
  | _, 0 => 0
  | w, k + 1 => (if a 13 w 0 = 0 then 0 else 1) + plcN a (w + 1) k
theorem plcN_le (a : Ab) : ∀ k w, plcN a w k ≤ k
  | 0, _ => Nat.le_refl _
  | k + 1, w => by
    unfold plcN
    have := plcN_le a k (w + 1)
    by_cases h : a 13 w 0 = 0
    · rw [if_pos h]; omega
    · rw [if_neg h]; omega
theorem plc_C {n : Nat} {a : Ab} {S : St} (hI : Inv n a) (hC : EncC a S) (kk : St → Int32 → Option Int32) : ∀ (d m w c : Nat), w + d = a 1 0 0 → d < m → c ≤ 4 → f_X3_placedWorks_L4 kk m S (nI c) (nI w) = kk S (nI (c + plcN a w d)) := by
  have h4 := hI.2.2.1
  intro d
  induction d with
  | zero =>
    intro m w c hw hm hc
    obtain ⟨m, rfl⟩ : ∃ q, m = q + 1 := ⟨m - 1, by omega⟩
    rw [u_X3_placedWorks_L4, hC.2.1, if_pos (nI_le (by omega) (by omega))]
    rfl
  | succ d ih =>
    intro m w c hw hm hc
    obtain ⟨m, rfl⟩ : ∃ q, m = q + 1 := ⟨m - 1, by omega⟩
    rw [u_X3_placedWorks_L4, hC.2.1, if_neg (nI_ge (by omega) (by omega))]
    simp only [cI (show w < 100000 by omega), gI4 (show w < 4 by omega), if_false, isPl hI hC (show w < 4 by omega), Option.bind_some]
    unfold plcN
    by_cases h : a 13 w 0 = 0
    · simp only [if_pos h, if_true, nI_1]
      rw [ih m (w + 1) c (by omega) (by omega) hc, Nat.zero_add]
    · simp only [if_neg h, one0, if_false, nI_1]
      by_cases hc4 : c + 1 ≤ 4
      · rw [ih m (w + 1) (c + 1) (by omega) (by omega) hc4, Nat.add_assoc]
      · have e := plcN_le a d (w + 1)
        have key : ∀ (d m w c : Nat), w + d = a 1 0 0 → d < m → f_X3_placedWorks_L4 kk m S (nI c) (nI w) = kk S (nI (c + plcN a w d)) := by
          intro d
          induction d with
          | zero =>
            intro m w c hw hm
            obtain ⟨m, rfl⟩ : ∃ q, m = q + 1 := ⟨m - 1, by omega⟩
            rw [u_X3_placedWorks_L4, hC.2.1, if_pos (nI_le (by omega) (by omega))]
            rfl
          | succ d ih =>
            intro m w c hw hm
            obtain ⟨m, rfl⟩ : ∃ q, m = q + 1 := ⟨m - 1, by omega⟩
            rw [u_X3_placedWorks_L4, hC.2.1, if_neg (nI_ge (by omega) (by omega))]
            simp only [cI (show w < 100000 by omega), gI4 (show w < 4 by omega), if_false, isPl hI hC (show w < 4 by omega), Option.bind_some]
            unfold plcN
            by_cases h : a 13 w 0 = 0
            · simp only [if_pos h, if_true, nI_1]
              rw [ih m (w + 1) c (by omega) (by omega), Nat.zero_add]
            · simp only [if_neg h, one0, if_false, nI_1]
              rw [ih m (w + 1) (c + 1) (by omega) (by omega), Nat.add_assoc]
        rw [key d m (w + 1) (c + 1) (by omega) (by omega), Nat.add_assoc]
theorem plc_M {n : Nat} {a : Ab} {T : St} (hI : Inv n a) (hM : EncM a T) (kk : St → Int32 → Option Int32) : ∀ (d m w c : Nat), w + d = a 1 0 0 → d < m → f_X4_placedCount_L4 kk m T (nI c) (nI w) = kk T (nI (c + plcN a w d)) := by
  have h4 := hI.2.2.1
  intro d
  induction d with
  | zero =>
    intro m w c hw hm
    obtain ⟨m, rfl⟩ : ∃ q, m = q + 1 := ⟨m - 1, by omega⟩
    rw [u_X4_placedCount_L4, hM.2.1, if_pos (nI_le (by omega) (by omega))]
    rfl
  | succ d ih =>
    intro m w c hw hm
    obtain ⟨m, rfl⟩ : ∃ q, m = q + 1 := ⟨m - 1, by omega⟩
    rw [u_X4_placedCount_L4, hM.2.1, if_neg (nI_ge (by omega) (by omega))]
    simp only [cI (show w < 100000 by omega), gI4 (show w < 4 by omega), if_false, (hM.2.2.1 w (by omega)).2.2.2.2.2]
    have h13 := st13 hI (show w < 4 by omega)
    have e : (stI (a 13 w 0) = (-1)) = (a 13 w 0 = 0) := propext (stI_m1 (by omega))
    simp only [e]
    unfold plcN
    by_cases h : a 13 w 0 = 0
    · simp only [if_pos h, nI_1]
      rw [show nI c + 0 = nI c from nI_add c 0, ih m (w + 1) c (by omega) (by omega), Nat.zero_add]
    · simp only [if_neg h, nI_1]
      rw [ih m (w + 1) (c + 1) (by omega) (by omega), Nat.add_assoc]
theorem placed_C {n : Nat} {a : Ab} {S : St} (hI : Inv n a) (hC : EncC a S) : f_X3_placedWorks S = some (nI (plcN a 0 (a 1 0 0))) := by
  unfold f_X3_placedWorks
  have h4 := hI.2.2.1
  have := plc_C hI hC (fun _ x => some x) (a 1 0 0) 1000 0 0 (by omega) (by omega) (by omega)
  rw [Nat.zero_add] at this
  exact this
theorem placed_M {n : Nat} {a : Ab} {T : St} (hI : Inv n a) (hM : EncM a T) : f_X4_placedCount T = some (nI (plcN a 0 (a 1 0 0))) := by
  unfold f_X4_placedCount
  have h4 := hI.2.2.1
  have := plc_M hI hM (fun _ x => some x) (a 1 0 0) 1000 0 0 (by omega) (by omega)
  rw [Nat.zero_add] at this
  exact this
theorem st_count : LS_count RelA := by
  intro n S T a1 hn hR
  obtain ⟨a, hI, hC, hM⟩ := hR
  unfold f_X3_count f_X4_count
  rw [placed_C hI hC, placed_M hI hM, hC.1, hM.1, hC.2.1, hM.2.1, hC.2.2.2.2.2.2.1, hM.2.2.2.2.2.1]
  by_cases e0 : a1 = 0
  · exact ⟨_, if_pos e0, if_pos e0⟩
  by_cases e1 : a1 = 1
  · exact ⟨_, by rw [if_neg e0, if_pos e1], by rw [if_neg e0, if_pos e1]⟩
  by_cases e2 : a1 = 2
  · exact ⟨_, by rw [if_neg e0, if_neg e1, if_pos e2]; rfl, by rw [if_neg e0, if_neg e1, if_pos e2]; rfl⟩
  by_cases e3 : a1 = 3
  · exact ⟨_, by rw [if_neg e0, if_neg e1, if_neg e2, if_pos e3], by rw [if_neg e0, if_neg e1, if_neg e2, if_pos e3]⟩
  · exact ⟨_, by rw [if_neg e0, if_neg e1, if_neg e2, if_neg e3], by rw [if_neg e0, if_neg e1, if_neg e2, if_neg e3]⟩
theorem moved_eq {n : Nat} {a : Ab} {S T : St} (hI : Inv n a) (hC : EncC a S) (hM : EncM a T) (x1 : Int32) : ∀ (d m w : Nat) (x2 : Int32), w + d = a 1 0 0 → d < m → ∃ r, f_X3_moved_L4 (fun _ => some (-1)) m S x1 x2 (nI w) = some r ∧ f_X4_moved_L4 (fun _ => some (-1)) m T x1 x2 (nI w) = some r := by
  have h4 := hI.2.2.1
  intro d
  induction d with
  | zero =>
    intro m w x2 hw hm
    obtain ⟨m, rfl⟩ : ∃ q, m = q + 1 := ⟨m - 1, by omega⟩
    refine ⟨-1, ?_, ?_⟩
    · rw [u_X3_moved_L4, hC.2.1, if_pos (nI_le (by omega) (by omega))]
    · rw [u_X4_moved_L4, hM.2.1, if_pos (nI_le (by omega) (by omega))]
  | succ d ih =>
    intro m w x2 hw hm
    obtain ⟨m, rfl⟩ : ∃ q, m = q + 1 := ⟨m - 1, by omega⟩
    have hw4 : w < 4 := by omega
    rw [u_X3_moved_L4, u_X4_moved_L4, hC.2.1, hM.2.1, if_neg (nI_ge (by omega) (by omega)), if_neg (nI_ge (by omega) (by omega)), hasBit_of _ (by omega), hC.2.2.1 w hw4]
    simp only [cI (show w < 100000 by omega), gI4 hw4, if_false, (hM.2.2.2.1 w hw4).2.2.1, Option.bind_some, nI_1]
    have h14 := (hI.2.2.2.2.1 w hw4).2.2.2.1
    by_cases h : a 14 w 0 = 1
    · simp only [h, decide_true, if_true, one0, if_false, show (nI 1 = 0) = False from by decide]
      by_cases e : x2 = x1
      · rw [if_pos e, if_pos e]; exact ⟨_, rfl, rfl⟩
      · rw [if_neg e, if_neg e]; exact ih m (w + 1) (x2 + 1) (by omega) (by omega)
    · have h0 : a 14 w 0 = 0 := by omega
      simp only [h0, show decide ((0 : Nat) = 1) = false from rfl, if_true, show (nI 0 = 0) = True from by decide, Bool.false_eq_true, if_false]
      exact ih m (w + 1) x2 (by omega) (by omega)
theorem st_moved : LS_moved RelA := by
  intro n S T a1 hn hR
  obtain ⟨a, hI, hC, hM⟩ := hR
  unfold f_X3_moved f_X4_moved
  have h4 := hI.2.2.1
  exact moved_eq hI hC hM a1 (a 1 0 0) 1000 0 0 (by omega) (by omega)
