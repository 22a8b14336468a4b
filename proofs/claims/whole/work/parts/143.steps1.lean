theorem iv_night {n : Nat} {a : Ab} (h : Inv n a) (w v : Nat) (hv : v ≤ 1) : Inv n (uA a 6 w 0 v) := by
  obtain ⟨h1, h2, h3, h4, h5, h6, h7, h8, h9⟩ := h
  refine ⟨h1, h2, h3, h4, fun w1 hw1 => ?_, h6, h7, h8, h9⟩
  obtain ⟨q0, q1, q2, q3, q4, q5, q6, q7, q8, q9⟩ := h5 w1 hw1
  refine ⟨?_, q1, q2, q3, q4, q5, q6, q7, q8, q9⟩
  by_cases e : w1 = w
  · subst e; rw [uA_same]; exact hv
  · rw [uA_r e]; exact q0
theorem iv_mv {n : Nat} {a : Ab} (h : Inv n a) (w v : Nat) (hv : v ≤ 1) : Inv n (uA a 14 w 0 v) := by
  obtain ⟨h1, h2, h3, h4, h5, h6, h7, h8, h9⟩ := h
  refine ⟨h1, h2, h3, h4, fun w1 hw1 => ?_, h6, h7, h8, h9⟩
  obtain ⟨q0, q1, q2, q3, q4, q5, q6, q7, q8, q9⟩ := h5 w1 hw1
  refine ⟨q0, q1, q2, ?_, q4, q5, q6, q7, q8, q9⟩
  by_cases e : w1 = w
  · subst e; rw [uA_same]; exact hv
  · rw [uA_r e]; exact q3
theorem iv_dly {n : Nat} {a : Ab} (h : Inv n a) (w i v : Nat) (hv : v ≤ 100000) : Inv n (uA a 5 w i v) := by
  obtain ⟨h1, h2, h3, h4, h5, h6, h7, h8, h9⟩ := h
  refine ⟨h1, h2, h3, h4, fun w1 hw1 => ?_, h6, h7, h8, h9⟩
  obtain ⟨q0, q1, q2, q3, q4, q5, q6, q7, q8, q9⟩ := h5 w1 hw1
  refine ⟨q0, q1, q2, q3, q4, q5, q6, q7, ?_, q9⟩
  intro j hj
  by_cases e : w1 = w ∧ j = i
  · obtain ⟨rfl, rfl⟩ := e; rw [uA_same]; exact hv
  · have e2 : uA a 5 w i v 5 w1 j = a 5 w1 j := by
      by_cases e3 : w1 = w
      · exact uA_c (fun q => e ⟨e3, q⟩)
      · exact uA_r e3
    rw [e2]; exact q8 j hj
theorem iv_ev {n : Nat} {a : Ab} (h : Inv n a) (w i v : Nat) (hv : v ≤ 1) : Inv n (uA a 7 w i v) := by
  obtain ⟨h1, h2, h3, h4, h5, h6, h7, h8, h9⟩ := h
  refine ⟨h1, h2, h3, h4, fun w1 hw1 => ?_, h6, h7, h8, h9⟩
  obtain ⟨q0, q1, q2, q3, q4, q5, q6, q7, q8, q9⟩ := h5 w1 hw1
  refine ⟨q0, q1, q2, q3, q4, q5, q6, q7, q8, ?_⟩
  intro j hj
  by_cases e : w1 = w ∧ j = i
  · obtain ⟨rfl, rfl⟩ := e; rw [uA_same]; exact hv
  · have e2 : uA a 7 w i v 7 w1 j = a 7 w1 j := by
      by_cases e3 : w1 = w
      · exact uA_c (fun q => e ⟨e3, q⟩)
      · exact uA_r e3
    rw [e2]; exact q9 j hj
theorem iv_near {n : Nat} {a : Ab} (h : Inv n a) {w i v : Nat} (hv : v ≤ 1) (hne : w ≠ i) : Inv n (uA (uA a 4 w i v) 4 i w v) := by
  obtain ⟨h1, h2, h3, h4, h5, h6, h7, h8, h9⟩ := h
  refine ⟨h1, h2, h3, h4, fun w1 hw1 => ?_, h6, h7, h8, h9⟩
  obtain ⟨q0, q1, q2, q3, q4, q5, q6, q7, q8, q9⟩ := h5 w1 hw1
  refine ⟨q0, q1, q2, q3, q4, q5, q6, fun j hj => ?_, q8, q9⟩
  have key : ∀ x y, uA (uA a 4 w i v) 4 i w v 4 x y = if (x = i ∧ y = w) ∨ (x = w ∧ y = i) then v else a 4 x y := by
    intro x y
    simp only [uA, true_and]
    by_cases e1 : x = i ∧ y = w
    · simp [e1]
    · by_cases e2 : x = w ∧ y = i
      · simp [e2]
      · simp [e1, e2]
  rw [key, key]
  obtain ⟨z1, z2⟩ := q7 j hj
  by_cases e : (w1 = i ∧ j = w) ∨ (w1 = w ∧ j = i)
  · have e2 : (j = i ∧ w1 = w) ∨ (j = w ∧ w1 = i) := by omega
    rw [if_pos e, if_pos e2]; exact ⟨hv, rfl⟩
  · have e2 : ¬ ((j = i ∧ w1 = w) ∨ (j = w ∧ w1 = i)) := by omega
    rw [if_neg e, if_neg e2]; exact ⟨z1, z2⟩
theorem iv_no {n : Nat} {a : Ab} (h : Inv n a) {w f t : Nat} (hw : w < a 1 0 0) (hf : f < 36) (ht : t < 36) : Inv n (uA (uA a 8 w 0 f) 9 w 0 t) := by
  obtain ⟨h1, h2, h3, h4, h5, h6, h7, h8, h9⟩ := h
  refine ⟨h1, h2, h3, h4, fun w1 hw1 => ?_, fun w1 hm hw1 => ?_, h7, h8, h9⟩
  · obtain ⟨q0, q1, q2, q3, q4, q5, q6, q7, q8, q9⟩ := h5 w1 hw1
    refine ⟨q0, q1, q2, q3, ?_, ?_, q6, q7, q8, q9⟩
    · rw [uA_f (by decide)]
      by_cases e : w1 = w
      · subst e; rw [uA_same]; exact hf
      · rw [uA_r e]; exact q4
    · by_cases e : w1 = w
      · subst e; rw [uA_same]; exact ht
      · rw [uA_r e]; exact q5
  · have e : w1 ≠ w := by have : a 1 0 0 ≤ w1 := hm; omega
    obtain ⟨q0, q1, q2, q3, q4⟩ := h6 w1 hm hw1
    refine ⟨q0, q1, ?_, ?_, q4⟩
    · rw [uA_f (by decide), uA_r e]; exact q2
    · rw [uA_r e]; exact q3
theorem iv_crew {n : Nat} {a : Ab} (h : Inv n a) {w v : Nat} (hw : w < a 1 0 0) (hv : v < 4) : Inv n (uA a 10 w 0 v) := by
  obtain ⟨h1, h2, h3, h4, h5, h6, h7, h8, h9⟩ := h
  refine ⟨h1, h2, h3, h4, fun w1 hw1 => ?_, fun w1 hm hw1 => ?_, h7, h8, h9⟩
  · obtain ⟨q0, q1, q2, q3, q4, q5, q6, q7, q8, q9⟩ := h5 w1 hw1
    refine ⟨q0, ?_, q2, q3, q4, q5, q6, q7, q8, q9⟩
    by_cases e : w1 = w
    · subst e; rw [uA_same]; exact hv
    · rw [uA_r e]; exact q1
  · have e : w1 ≠ w := by have : a 1 0 0 ≤ w1 := hm; omega
    obtain ⟨q0, q1, q2, q3, q4⟩ := h6 w1 hm hw1
    refine ⟨?_, q1, q2, q3, q4⟩
    rw [uA_r e]; exact q0
theorem iv_rest {n : Nat} {a : Ab} (h : Inv n a) (i v : Nat) (hv : v ≤ 36) : Inv n (uA a 11 0 i v) := by
  obtain ⟨h1, h2, h3, h4, h5, h6, h7, h8, h9⟩ := h
  refine ⟨h1, h2, h3, h4, h5, h6, fun c hc => ?_, h8, h9⟩
  by_cases e : c = i
  · subst e; rw [uA_same]; exact hv
  · rw [uA_c e]; exact h7 c hc
theorem iv_cents {n : Nat} {a : Ab} (h : Inv n a) (v : Nat) (hv : v ≤ 1000000) : Inv n (uA a 18 0 0 v) := by
  obtain ⟨h1, h2, h3, h4, h5, h6, h7, h8, h9⟩ := h
  exact ⟨h1, h2, h3, h4, h5, h6, h7, h8, by rw [uA_same]; exact hv⟩
theorem nar0 : vp_nar .boolean 0 = nI 0 := by decide
theorem nar1 : vp_nar .boolean 1 = nI 1 := by decide
theorem z01 {z : Int32} (h : z = 0 ∨ z = 1) : ∃ v, v ≤ 1 ∧ z = nI v ∧ vp_nar .boolean z = nI v ∧ (!decide (z = 0)) = decide (v = 1) := by
  rcases h with rfl | rfl
  · exact ⟨0, by omega, rfl, nar0, by decide⟩
  · exact ⟨1, by omega, rfl, nar1, by decide⟩
theorem i36 {w h : Nat} (hw : w < 4) (hh : h < 36) : 36 * nI w + nI h = nI (36 * w + h) := by
  rw [show (36 : Int32) = nI 36 from rfl, pk_mul, nI_add]
theorem i4 {w h : Nat} : 4 * nI w + nI h = nI (4 * w + h) := by
  rw [show (4 : Int32) = nI 4 from rfl, pk_mul, nI_add]
theorem g144 {w h : Nat} (hw : w < 4) (hh : h < 36) : ((36 * nI w + nI h) < 0 ∨ 144 ≤ 36 * w + h) = False := by
  rw [i36 hw hh]; exact gIn (by omega) (by omega)
theorem c144 {w h : Nat} (hw : w < 4) (hh : h < 36) : (36 * nI w + nI h).toNatClampNeg = 36 * w + h := by
  rw [i36 hw hh]; exact cI (by omega)
theorem g16 {w h : Nat} (hw : w < 4) (hh : h < 4) : ((4 * nI w + nI h) < 0 ∨ 16 ≤ 4 * w + h) = False := by
  rw [i4]; exact gIn (by omega) (by omega)
theorem c16 {w h : Nat} (hw : w < 4) (hh : h < 4) : (4 * nI w + nI h).toNatClampNeg = 4 * w + h := by
  rw [i4]; exact cI (by omega)
theorem one0 : ((1 : Int32) = 0) = False := by decide
theorem st_night : LS_night RelA := by
  intro n S T a1 a2 hn hR hz
  obtain ⟨a, hI, hC, hM⟩ := hR
  obtain ⟨v, hv, e0, e3, -⟩ := z01 hz
  unfold f_X3_night f_X4_night
  rcases iw hI hC hM a1 with ⟨e1, e2⟩ | ⟨w, hw, hw4, rfl, e1, e2⟩
  · exact ⟨0, S, T, by simp [e1], by simp [e2], rel_m n S T ⟨a, hI, hC, hM⟩⟩
  · refine ⟨1, _, _, by simp only [e1, gI4 hw4, hz, not_true_eq_false, cI (show w < 100000 by omega), Option.bind_some, one0, if_false] <;> rfl, by simp only [e2, gI4 hw4, cI (show w < 100000 by omega), Option.bind_some, one0, if_false] <;> rfl, rel_m n _ _ ⟨uA a 6 w 0 v, iv_night hI w v hv, ?_, ?_⟩⟩
    · rw [e0]; exact eC_night hC w v
    · rw [e3]; exact eM_night hM w v
theorem st_delay : LS_delay RelA := by
  intro n S T a1 a2 a3 hn hR
  obtain ⟨a, hI, hC, hM⟩ := hR
  unfold f_X3_delay f_X4_delay
  rcases iw hI hC hM a1 with ⟨e1, e2⟩ | ⟨w, hw, hw4, rfl, e1, e2⟩
  · exact ⟨0, S, T, by simp [e1], by simp [e2], rel_m n S T ⟨a, hI, hC, hM⟩⟩
  rcases ihr hI hC hM a2 with ⟨e3, e4⟩ | ⟨h, hh, hh36, rfl, e3, e4⟩
  · exact ⟨0, S, T, by simp [e1, e3], by simp [e2, e4], rel_m n S T ⟨a, hI, hC, hM⟩⟩
  rcases iin a3 0 100000 (by decide) (by decide) with ⟨e5, e6⟩ | ⟨v, -, hv, rfl, e5, e6⟩
  · have e5 : f_X3_isWithin a3 0 100000 = some 0 := e5
    have e6 : f_X4_isIn a3 0 100000 = some 0 := e6
    exact ⟨0, S, T, by simp [e1, e3, e5], by simp [e2, e4, e6], rel_m n S T ⟨a, hI, hC, hM⟩⟩
  · have e5 : f_X3_isWithin (nI v) 0 100000 = some 1 := e5
    have e6 : f_X4_isIn (nI v) 0 100000 = some 1 := e6
    exact ⟨1, _, _, by simp only [e1, e3, e5, gI4 hw4, gI36 hh36, cI (show w < 100000 by omega), cI (show h < 100000 by omega), Option.bind_some, one0, if_false] <;> rfl, by simp only [e2, e4, e6, g144 hw4 hh36, c144 hw4 hh36, Option.bind_some, one0, if_false] <;> rfl, rel_m n _ _ ⟨uA a 5 w h v, iv_dly hI w h v hv, eC_dly hC w h v, eM_dly hM w h v hh36⟩⟩
theorem st_event : LS_event RelA := by
  intro n S T a1 a2 a3 hn hR hz
  obtain ⟨a, hI, hC, hM⟩ := hR
  obtain ⟨v, hv, e0, e9, e8⟩ := z01 hz
  unfold f_X3_event f_X4_event
  rcases iw hI hC hM a1 with ⟨e1, e2⟩ | ⟨w, hw, hw4, rfl, e1, e2⟩
  · exact ⟨0, S, T, by simp [e1], by simp [e2], rel_m n S T ⟨a, hI, hC, hM⟩⟩
  rcases ihr hI hC hM a2 with ⟨e3, e4⟩ | ⟨h, hh, hh36, rfl, e3, e4⟩
  · exact ⟨0, S, T, by simp [e1, e3], by simp [e2, e4], rel_m n S T ⟨a, hI, hC, hM⟩⟩
  obtain ⟨y, ey, hy⟩ := withBit_of (S.2 0 w 0) (i := h) (by omega) a3
  refine ⟨1, _, _, by simp only [e1, e3, gI4 hw4, cI (show w < 100000 by omega), ey, Option.bind_some, one0, if_false] <;> rfl, by simp only [e2, e4, g144 hw4 hh36, c144 hw4 hh36, Option.bind_some, one0, if_false] <;> rfl, rel_m n _ _ ⟨uA a 7 w h v, iv_ev hI w h v hv, eC_ev hC w h v y (fun j hj => ?_), ?_⟩⟩
  · rw [hy j (by omega), e8]
  · rw [e9]; exact eM_ev hM w h v hh36
theorem st_noise : LS_noise RelA := by
  intro n S T a1 a2 a3 hn hR
  obtain ⟨a, hI, hC, hM⟩ := hR
  unfold f_X3_noise f_X4_noise
  rcases iw hI hC hM a1 with ⟨e1, e2⟩ | ⟨w, hw, hw4, rfl, e1, e2⟩
  · exact ⟨0, S, T, by simp [e1], by simp [e2], rel_m n S T ⟨a, hI, hC, hM⟩⟩
  rcases ihr hI hC hM a2 with ⟨e3, e4⟩ | ⟨f, hf, hf36, rfl, e3, e4⟩
  · exact ⟨0, S, T, by simp [e1, e3], by simp [e2, e4], rel_m n S T ⟨a, hI, hC, hM⟩⟩
  rcases ihr hI hC hM a3 with ⟨e5, e6⟩ | ⟨t, ht, ht36, rfl, e5, e6⟩
  · exact ⟨0, S, T, by simp [e1, e3, e5], by simp [e2, e4, e6], rel_m n S T ⟨a, hI, hC, hM⟩⟩
  have key : ∃ y : Int64, (if nI f ≤ nI t then ((f_X3_bitsFrom (nI f) ((nI t - nI f) + 1)).bind fun u12 => some ((1 : Int32), (xJ S 1 w 0 u12))) else (some (1, (xJ S 1 w 0 0)))) = some (1, xJ S 1 w 0 y) ∧ ∀ j, j < 36 → bt y j = decide (f ≤ j ∧ j ≤ t) := by
    by_cases hle : f ≤ t
    · rw [if_pos (nI_le hle (by omega)), pk_sub hle, nI_1]
      obtain ⟨y, ey, hy⟩ := bitsFrom_of (f := f) (m := t - f + 1) (by omega) (by omega)
      refine ⟨y, by rw [ey]; rfl, fun j hj => ?_⟩
      rw [hy j (by omega)]
      exact decide_eq_decide.mpr (by omega)
    · rw [if_neg (nI_ge (by omega) (by omega))]
      refine ⟨0, rfl, fun j hj => ?_⟩
      rw [bt_0]
      symm
      exact decide_eq_false (by omega)
  obtain ⟨y, ey, hy⟩ := key
  refine ⟨1, _, _, ?_, by simp only [e2, e4, e6, gI4 hw4, cI (show w < 100000 by omega), Option.bind_some, one0, if_false] <;> rfl, rel_m n _ _ ⟨uA (uA a 8 w 0 f) 9 w 0 t, iv_no hI hw hf36 ht36, eC_no hC w f t y hy, eM_nt (eM_nf hM w f) w t⟩⟩
  simp only [e1, e3, e5, Option.bind_some, one0, if_false, gI4 hw4, cI (show w < 100000 by omega)]
  exact ey
theorem st_crew : LS_crew RelA := by
  intro n S T a1 a2 hn hR
  obtain ⟨a, hI, hC, hM⟩ := hR
  unfold f_X3_crew f_X4_crew
  rcases iw hI hC hM a1 with ⟨e1, e2⟩ | ⟨w, hw, hw4, rfl, e1, e2⟩
  · exact ⟨0, S, T, by simp [e1], by simp [e2], rel_m n S T ⟨a, hI, hC, hM⟩⟩
  rcases icr a2 with ⟨e3, e4⟩ | ⟨v, hv, rfl, e3, e4⟩
  · exact ⟨0, S, T, by simp [e1, e3], by simp [e2, e4], rel_m n S T ⟨a, hI, hC, hM⟩⟩
  · exact ⟨1, _, _, by simp only [e1, e3, gI4 hw4, cI (show w < 100000 by omega), Option.bind_some, one0, if_false] <;> rfl, by simp only [e2, e4, gI4 hw4, cI (show w < 100000 by omega), Option.bind_some, one0, if_false] <;> rfl, rel_m n _ _ ⟨uA a 10 w 0 v, iv_crew hI hw hv, eC_crew hC w v, eM_crew hM w v⟩⟩
theorem st_rest : LS_rest RelA := by
  intro n S T a1 a2 hn hR
  obtain ⟨a, hI, hC, hM⟩ := hR
  unfold f_X3_rest f_X4_rest
  rcases icr a1 with ⟨e1, e2⟩ | ⟨w, hw4, rfl, e1, e2⟩
  · exact ⟨0, S, T, by simp [e1], by simp [e2], rel_m n S T ⟨a, hI, hC, hM⟩⟩
  rcases iin a2 0 36 (by decide) (by decide) with ⟨e5, e6⟩ | ⟨v, -, hv, rfl, e5, e6⟩
  · have e5 : f_X3_isWithin a2 0 36 = some 0 := e5
    have e6 : f_X4_isIn a2 0 36 = some 0 := e6
    exact ⟨0, S, T, by simp [e1, e5], by simp [e2, e6], rel_m n S T ⟨a, hI, hC, hM⟩⟩
  · have e5 : f_X3_isWithin (nI v) 0 36 = some 1 := e5
    have e6 : f_X4_isIn (nI v) 0 36 = some 1 := e6
    exact ⟨1, _, _, by simp only [e1, e5, gI4 hw4, cI (show w < 100000 by omega), Option.bind_some, one0, if_false] <;> rfl, by simp only [e2, e6, gI4 hw4, cI (show w < 100000 by omega), Option.bind_some, one0, if_false] <;> rfl, rel_m n _ _ ⟨uA a 11 0 w v, iv_rest hI w v hv, eC_rest hC w v, eM_rest hM w v⟩⟩
theorem st_rate : LS_rate RelA := by
  intro n S T a1 hn hR
  obtain ⟨a, hI, hC, hM⟩ := hR
  unfold f_X3_rate f_X4_rate
  rcases iin a1 0 1000000 (by decide) (by decide) with ⟨e5, e6⟩ | ⟨v, -, hv, rfl, e5, e6⟩
  · have e5 : f_X3_isWithin a1 0 1000000 = some 0 := e5
    have e6 : f_X4_isIn a1 0 1000000 = some 0 := e6
    exact ⟨0, S, T, by simp [e5], by simp [e6], rel_m n S T ⟨a, hI, hC, hM⟩⟩
  · have e5 : f_X3_isWithin (nI v) 0 1000000 = some 1 := e5
    have e6 : f_X4_isIn (nI v) 0 1000000 = some 1 := e6
    exact ⟨1, _, _, by simp only [e5, Option.bind_some, one0, if_false] <;> rfl, by simp only [e6, nI_l (show v < 2 ^ 31 by omega), Option.bind_some, one0, if_false] <;> rfl, rel_m n _ _ ⟨uA a 18 0 0 v, iv_cents hI v hv, eC_cents hC v, eM_cents hM v⟩⟩
theorem st_near : LS_near RelA := by
  intro n S T a1 a2 a3 hn hR hz
  obtain ⟨a, hI, hC, hM⟩ := hR
  obtain ⟨v, hv, e0, e9, e8⟩ := z01 hz
  unfold f_X3_near f_X4_near
  rcases iw hI hC hM a1 with ⟨e1, e2⟩ | ⟨w, hw, hw4, rfl, e1, e2⟩
  · exact ⟨0, S, T, by simp [e1], by simp [e2], rel_m n S T ⟨a, hI, hC, hM⟩⟩
  rcases iw hI hC hM a2 with ⟨e3, e4⟩ | ⟨i, hi, hi4, rfl, e3, e4⟩
  · exact ⟨0, S, T, by simp [e1, e3], by simp [e2, e4], rel_m n S T ⟨a, hI, hC, hM⟩⟩
  by_cases hne : w = i
  · subst hne
    exact ⟨0, S, T, by simp [e1], by simp [e2], rel_m n S T ⟨a, hI, hC, hM⟩⟩
  have hne2 : ¬ nI w = nI i := by rw [nI_eq (by omega) (by omega)]; exact hne
  obtain ⟨y, ey, hy⟩ := withBit_of (Int32.toInt64 (S.1 7 w 0)) (i := i) (by omega) a3
  obtain ⟨y2, ey2, hy2⟩ := withBit_of (Int32.toInt64 (S.1 7 i 0)) (i := w) (by omega) a3
  have ex : (xI S 7 w 0 (Int64.toInt32 y)).1 7 i 0 = S.1 7 i 0 := xI_r (fun q => hne q.symm)
  refine ⟨1, xI (xI S 7 w 0 (Int64.toInt32 y)) 7 i 0 (Int64.toInt32 y2), xI (xI T 4 0 (4 * w + i) (nI v)) 4 0 (4 * i + w) (nI v), ?_, ?_, rel_m n _ _ ⟨uA (uA a 4 w i v) 4 i w v, iv_near hI hv hne, eC_near (eC_near hC w i v _ (fun j hj => ?_)) i w v _ (fun j hj => ?_), eM_near (eM_near hM w i v hi4) i w v hw4⟩⟩
  · simp only [e1, e3, Option.bind_some, one0, if_false, hne2, gI4 hw4, gI4 hi4, cI (show w < 100000 by omega), cI (show i < 100000 by omega), ey, ex, ey2]
  · simp only [e2, e4, Option.bind_some, one0, if_false, hne2, g16 hw4 hi4, g16 hi4 hw4, c16 hw4 hi4, c16 hi4 hw4, e9]
  · rw [bt_i2l (by omega), hy j (by omega), e8]
  · rw [bt_i2l (by omega), hy2 j (by omega), e8, ex]
theorem st_work : LS_work RelA := by
  intro n S T a1 a2 hn hR
  obtain ⟨a, hI, hC, hM⟩ := hR
  have h4 := hI.2.2.1
  unfold f_X3_work f_X4_work
  have c1 := hC.2.1
  have m1 := hM.2.1
  rcases iin a1 1 12 (by decide) (by decide) with ⟨e1, e2⟩ | ⟨u, hu1, hu2, rfl, e1, e2⟩
  · have e1 : f_X3_isWithin a1 1 12 = some 0 := e1
    have e2 : f_X4_isIn a1 1 12 = some 0 := e2
    refine ⟨-1, S, T, ?_, ?_, rel_m n S T ⟨a, hI, hC, hM⟩⟩
    · simp only [e1, Option.bind_some, if_true]
      unfold f_X3_work_L23 f_X3_work_L24
      by_cases h : (4 : Int32) ≤ S.1 1 0 0
      · rw [if_pos h]
      · rw [if_neg h]; rfl
    · by_cases h : T.1 1 0 0 = 4
      · rw [if_pos h]
      · rw [if_neg h]; simp [e2]
  have e1 : f_X3_isWithin (nI u) 1 12 = some 1 := e1
  have e2 : f_X4_isIn (nI u) 1 12 = some 1 := e2
  rcases iin a2 0 3 (by decide) (by decide) with ⟨e3, e4⟩ | ⟨v, hv1, hv2, rfl, e3, e4⟩
  · have e3 : f_X3_isWithin a2 0 3 = some 0 := e3
    have e4 : f_X4_isIn a2 0 3 = some 0 := e4
    refine ⟨-1, S, T, ?_, ?_, rel_m n S T ⟨a, hI, hC, hM⟩⟩
    · simp only [e1, e3, Option.bind_some, one0, if_false, if_true]
      unfold f_X3_work_L23 f_X3_work_L24
      by_cases h : (4 : Int32) ≤ S.1 1 0 0
      · rw [if_pos h]
      · rw [if_neg h]; rfl
    · by_cases h : T.1 1 0 0 = 4
      · rw [if_pos h]
      · rw [if_neg h]; simp [e2, e4]
  have e3 : f_X3_isWithin (nI v) 0 3 = some 1 := e3
  have e4 : f_X4_isIn (nI v) 0 3 = some 1 := e4
  by_cases hfull : a 1 0 0 = 4
  · refine ⟨-1, S, T, ?_, ?_, rel_m n S T ⟨a, hI, hC, hM⟩⟩
    · simp only [e1, e3, Option.bind_some, one0, if_false]
      unfold f_X3_work_L24
      rw [if_pos (by rw [c1, hfull]; decide)]
    · rw [if_pos (by rw [m1, hfull]; decide)]
  · obtain ⟨k, hk⟩ : ∃ k, a 1 0 0 = k := ⟨_, rfl⟩
    have hk4 : k < 4 := by omega
    rw [hk] at c1 m1
    refine ⟨nI k, xI (xI (xI S 4 k 0 (nI u)) 5 k 0 (nI v)) 1 0 0 (nI (k + 1)), xI (xI (xI (xI (xI (xI (xI T 2 0 k (nI u)) 3 0 k (nI v)) 8 0 k 1) 9 0 k 0) 10 0 k (nI k)) 13 0 k (-1)) 1 0 0 (nI (k + 1)), ?_, ?_, rel_m n _ _ ⟨uA (uA (uA a 2 k 0 u) 3 k 0 v) 1 0 0 (k + 1), ?_, eC_made (eC_su (eC_len hC k u) k v) (k + 1), ?_⟩⟩
    · simp only [e1, e3, Option.bind_some, one0, if_false]
      unfold f_X3_work_L24
      rw [if_neg (by rw [c1]; exact nI_ge (a := k) (b := 4) (by omega) (by omega)), if_neg (by decide)]
      simp only [c1, gI4 hk4, if_false, cI (show k < 100000 by omega), nI_1, xI_same, nI_pred]
    · rw [if_neg (by rw [m1]; exact fun q => absurd ((nI_eq (b := 4) (by omega) (by omega)).mp q) (by omega))]
      simp only [e2, e4, Option.bind_some, one0, if_false]
      simp only [m1, gI4 hk4, if_false, cI (show k < 100000 by omega), nI_1, xI_same, nI_pred]
    · obtain ⟨h1, h2, h3, h4, h5, h6, h7, h8, h9⟩ := hI
      have hN := h6 k (by omega) hk4
      refine ⟨h1, h2, ?_, fun w hw => ?_, h5, fun w hm hw => ?_, h7, h8, h9⟩
      · rw [uA_same]; omega
      · rw [uA_same] at hw
        by_cases e : w = k
        · subst e
          refine ⟨?_, ?_, ?_, fun q => absurd hN.2.1 q, fun q => absurd q ?_⟩
          · rw [uA_f (by decide), uA_f (by decide), uA_same]; exact hu1
          · rw [uA_f (by decide), uA_f (by decide), uA_same]; exact hu2
          · rw [uA_f (by decide), uA_same]; exact hv2
          · have : a 12 w 0 = 0 := hN.2.2.2.2
            show ¬ 1 ≤ a 12 w 0
            omega
        · obtain ⟨q0, q1, q2, q3, q4⟩ := h4 w (by omega)
          have r2 : uA (uA (uA a 2 k 0 u) 3 k 0 v) 1 0 0 (k + 1) 2 w 0 = a 2 w 0 := by rw [uA_f (by decide), uA_f (by decide), uA_r e]
          have r3 : uA (uA (uA a 2 k 0 u) 3 k 0 v) 1 0 0 (k + 1) 3 w 0 = a 3 w 0 := by rw [uA_f (by decide), uA_r e, uA_f (by decide)]
          unfold InvM
          rw [r2, r3]
          exact ⟨q0, q1, q2, q3, q4⟩
      · rw [uA_same] at hm
        exact h6 w (by omega) hw
    · obtain ⟨h0, h1, h2, h3, h4, h5, h6, h7⟩ := hM
      have hN := hI.2.2.2.2.2.1 k (by omega) hk4
      refine ⟨h0, by rw [xI_same, uA_same], fun w hw => ?_, h3, h4, h5, h6, h7⟩
      rw [uA_same] at hw
      have r2 : uA (uA (uA a 2 k 0 u) 3 k 0 v) 1 0 0 (k + 1) 2 w 0 = if w = k then u else a 2 w 0 := by
        by_cases e : w = k
        · subst e; rw [uA_f (by decide), uA_f (by decide), uA_same, if_pos rfl]
        · rw [uA_f (by decide), uA_f (by decide), uA_r e, if_neg e]
      have r3 : uA (uA (uA a 2 k 0 u) 3 k 0 v) 1 0 0 (k + 1) 3 w 0 = if w = k then v else a 3 w 0 := by
        by_cases e : w = k
        · subst e; rw [uA_f (by decide), uA_same, if_pos rfl]
        · rw [uA_f (by decide), uA_r e, uA_f (by decide), if_neg e]
      rw [r2, r3]
      by_cases e : w = k
      · subst e
        rw [if_pos rfl, if_pos rfl]
        refine ⟨by simp [xI], by simp [xI], ?_, ?_, ?_, ?_⟩
        · show _ = nI (a 8 w 0); rw [hN.2.2.1]; simp [xI]; rfl
        · show _ = nI (a 9 w 0); rw [hN.2.2.2.1]; simp [xI]; rfl
        · show _ = nI (a 10 w 0); rw [hN.1]; simp [xI]
        · show _ = stI (a 13 w 0); rw [hN.2.1]; simp [xI]; rfl
      · rw [if_neg e, if_neg e]
        obtain ⟨q0, q1, q2, q3, q4, q5⟩ := h2 w (by omega)
        refine ⟨by simpa [xI, e] using q0, by simpa [xI, e] using q1, by simpa [xI, uA, e] using q2, by simpa [xI, uA, e] using q3, by simpa [xI, uA, e] using q4, by simpa [xI, uA, e] using q5⟩
