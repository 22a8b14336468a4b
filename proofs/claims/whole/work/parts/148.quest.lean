/-! holds, open, least, paid -/
theorem iwC {n : Nat} {a : Ab} {S : St} (hI : Inv n a) (hC : EncC a S) {w : Nat} (hw : w < a 1 0 0) : f_X3_isWork S (nI w) = some 1 := by
  have h4 := hI.2.2.1
  unfold f_X3_isWork; rw [if_neg (nI_pos (by omega)), hC.2.1, if_neg (nI_ge hw (by omega))]
theorem iwM {n : Nat} {a : Ab} {T : St} (hI : Inv n a) (hM : EncM a T) {w : Nat} (hw : w < a 1 0 0) : f_X4_isWork T (nI w) = some 1 := by
  have h4 := hI.2.2.1
  unfold f_X4_isWork; rw [if_neg (nI_pos (by omega)), hM.2.1, if_neg (nI_ge hw (by omega))]
theorem fitP {n : Nat} {a : Ab} (hI : Inv n a) {w : Nat} (hw : w < a 1 0 0) (hp : a 13 w 0 ≠ 0) : a 13 w 0 - 1 + sp a w ≤ 36 ∧ a 13 w 0 - 1 < 36 ∧ a 13 w 0 - 1 + sp a w ≤ a 0 0 0 := by
  have h1 := (hI.2.2.2.1 w hw).2.2.2.1 hp
  have h2 := hI.2.1
  have h3 := sp_le hI hw
  unfold sp at *
  omega
/-- the placed works from w on keep the rules -/
def hdN (a : Ab) : Nat → Nat → Bool
  | _, 0 => true
  | w, k + 1 => (decide (a 13 w 0 = 0 ∨ rl a w (a 13 w 0 - 1) = 0)) && hdN a (w + 1) k
theorem hdN_s {a : Ab} {w k : Nat} : hdN a w (k + 1) = ((decide (a 13 w 0 = 0 ∨ rl a w (a 13 w 0 - 1) = 0)) && hdN a (w + 1) k) := by rw [hdN]
theorem holds_C {n : Nat} {a : Ab} {S : St} (hI : Inv n a) (hC : EncC a S) : ∀ (d m w : Nat), w + d = a 1 0 0 → d < m → f_X3_holds_L2 (fun _ => some 1) m S (nI w) = some (if hdN a w d = true then 1 else 0) := by
  have h4 := hI.2.2.1
  intro d
  induction d with
  | zero =>
    intro m w hw hm
    obtain ⟨m, rfl⟩ : ∃ q, m = q + 1 := ⟨m - 1, by omega⟩
    rw [u_X3_holds_L2, hC.2.1, if_pos (nI_le (by omega) (by omega))]
    rfl
  | succ d ih =>
    intro m w hw hm
    obtain ⟨m, rfl⟩ : ∃ q, m = q + 1 := ⟨m - 1, by omega⟩
    have hw4 : w < 4 := by omega
    have hwm : w < a 1 0 0 := by omega
    rw [u_X3_holds_L2, hC.2.1, if_neg (nI_ge (by omega) (by omega)), isPW hI hC hw4 (iwC hI hC hwm), Option.bind_some, nI_1, ih m (w + 1) (by omega) (by omega), hdN_s]
    by_cases c1 : a 13 w 0 = 0
    · simp only [c1, if_true, true_or, decide_true, Bool.true_and]
    · have hf := fitP hI hwm c1
      have hr := rl_le a w (a 13 w 0 - 1)
      have k : (nI (rl a w (a 13 w 0 - 1)) = 0) = (rl a w (a 13 w 0 - 1) = 0) := eqI (y := 0) (by omega) (by omega)
      simp only [if_neg c1, one0, if_false, cI (show w < 100000 by omega), gI4 hw4, (encW hC hw4).2.2.2.2.2.2.2.1, stp c1, rule_C hI hC hwm hf.2.1, Option.bind_some, k]
      by_cases c2 : rl a w (a 13 w 0 - 1) = 0
      · simp only [c2, if_true, or_true, decide_true, Bool.true_and]
      · have e : decide (a 13 w 0 = 0 ∨ rl a w (a 13 w 0 - 1) = 0) = false := decide_eq_false (by omega)
        rw [if_neg c2, e]; rfl
theorem holds_M {n : Nat} {a : Ab} {T : St} (hI : Inv n a) (hM : EncM a T) (kk : St → Int32 → Option Int32) : ∀ (d m w f : Nat), f ≤ 1 → w + d = a 1 0 0 → d < m → f_X4_holds_L4 kk m T (nI f) (nI w) = kk T (nI (if f = 1 ∧ hdN a w d = true then 1 else 0)) := by
  have h4 := hI.2.2.1
  intro d
  induction d with
  | zero =>
    intro m w f hf hw hm
    obtain ⟨m, rfl⟩ : ∃ q, m = q + 1 := ⟨m - 1, by omega⟩
    rw [u_X4_holds_L4, hM.2.1, if_pos (nI_le (by omega) (by omega))]
    rcases (show f = 0 ∨ f = 1 by omega) with rfl | rfl <;> rfl
  | succ d ih =>
    intro m w f hf hw hm
    obtain ⟨m, rfl⟩ : ∃ q, m = q + 1 := ⟨m - 1, by omega⟩
    have hw4 : w < 4 := by omega
    have hwm : w < a 1 0 0 := by omega
    have h13 := st13 hI hw4
    have i0 : f_X4_holds_L4 kk m T 0 (nI (w + 1)) = _ := ih m (w + 1) 0 (by omega) (by omega) (by omega)
    have i1 : f_X4_holds_L4 kk m T 1 (nI (w + 1)) = _ := ih m (w + 1) 1 (by omega) (by omega) (by omega)
    have ks : (stI (a 13 w 0) = (-1)) = (a 13 w 0 = 0) := propext (stI_m1 (by omega))
    have kf : (nI f = 0) = (f = 0) := eqI (y := 0) (by omega) (by omega)
    rw [u_X4_holds_L4, hM.2.1, if_neg (nI_ge (by omega) (by omega)), hdN_s]
    simp only [nI_1, i0, i1, kf, cI (show w < 100000 by omega), gI4 hw4, if_false, (hM.2.2.1 w hwm).2.2.2.2.2, ks]
    by_cases f0 : f = 0
    · subst f0
      simp only [if_true, show ((0 : Nat) = 1) = False from by decide, false_and, if_false]
    · have f1 : f = 1 := by omega
      subst f1
      rw [if_neg f0]
      by_cases c1 : a 13 w 0 = 0
      · simp only [c1, if_true, true_or, decide_true, Bool.true_and]
      · have hft := fitP hI hwm c1
        have hr := rl_le a w (a 13 w 0 - 1)
        have k : (nI (rl a w (a 13 w 0 - 1)) = 0) = (rl a w (a 13 w 0 - 1) = 0) := eqI (y := 0) (by omega) (by omega)
        simp only [if_neg c1, stp c1, rule_M hI hM hwm hft.2.1, Option.bind_some, k]
        by_cases c2 : rl a w (a 13 w 0 - 1) = 0
        · simp only [c2, if_true, or_true, decide_true, Bool.true_and]
        · have e : decide (a 13 w 0 = 0 ∨ rl a w (a 13 w 0 - 1) = 0) = false := decide_eq_false (by omega)
          rw [if_neg c2, e]; rfl
theorem st_holds : LS_holds RelA := by
  intro n S T hn hR
  obtain ⟨a, hI, hC, hM⟩ := hR
  have h4 := hI.2.2.1
  unfold f_X3_holds f_X4_holds
  have e1 := holds_C hI hC (a 1 0 0) 1000 0 (by omega) (by omega)
  have e2 := holds_M hI hM (fun _ x => if ¬ (x = 0 ∨ x = 1) then none else some x) (a 1 0 0) 1000 0 1 (by omega) (by omega) (by omega)
  refine ⟨_, e1, e2.trans ?_⟩
  by_cases c : hdN a 0 (a 1 0 0) = true
  · simp only [c, and_self, if_true]; rfl
  · simp only [c, and_false, if_false, Bool.false_eq_true]; rfl
def opN (a : Ab) (h : Nat) : Nat → Nat → Nat
  | _, 0 => 0
  | w, k + 1 => (if a 13 w 0 ≠ 0 ∧ a 13 w 0 - 1 ≤ h ∧ h < a 13 w 0 - 1 + sp a w then 1 else 0) + opN a h (w + 1) k
theorem opN_s {a : Ab} {h w k : Nat} : opN a h w (k + 1) = (if a 13 w 0 ≠ 0 ∧ a 13 w 0 - 1 ≤ h ∧ h < a 13 w 0 - 1 + sp a w then 1 else 0) + opN a h (w + 1) k := by rw [opN]
theorem open_C {n : Nat} {a : Ab} {S : St} (hI : Inv n a) (hC : EncC a S) {h : Nat} (hh : h < 36) (kk : St → Int32 → Option Int32) : ∀ (d m w c : Nat), w + d = a 1 0 0 → d < m → f_X3_open_L14 kk m S (nI h) (nI c) (nI w) = kk S (nI (c + opN a h w d)) := by
  have h4 := hI.2.2.1
  intro d
  induction d with
  | zero =>
    intro m w c hw hm
    obtain ⟨m, rfl⟩ : ∃ q, m = q + 1 := ⟨m - 1, by omega⟩
    rw [u_X3_open_L14, hC.2.1, if_pos (nI_le (by omega) (by omega))]
    rfl
  | succ d ih =>
    intro m w c hw hm
    obtain ⟨m, rfl⟩ : ∃ q, m = q + 1 := ⟨m - 1, by omega⟩
    have hw4 : w < 4 := by omega
    have hwm : w < a 1 0 0 := by omega
    rw [u_X3_open_L14, hC.2.1, if_neg (nI_ge (by omega) (by omega)), isPW hI hC hw4 (iwC hI hC hwm), Option.bind_some, nI_1, nI_1, ih m (w + 1) c (by omega) (by omega), ih m (w + 1) (c + 1) (by omega) (by omega), opN_s]
    by_cases c1 : a 13 w 0 = 0
    · simp only [c1, if_true, ne_eq, not_true_eq_false, false_and, if_false, Nat.zero_add]
    · have hf := fitP hI hwm c1
      have hs := sp_le hI hwm
      obtain ⟨y, ey, hy⟩ := bitsFrom_of (f := a 13 w 0 - 1) (m := sp a w) (by omega) (by omega)
      have es : f_X2_spanFrom S w (nI (a 13 w 0 - 1)) = some y := by
        unfold f_X2_spanFrom
        rw [span_C hC hw4, Option.bind_some, ey]; rfl
      simp only [if_neg c1, one0, if_false, cI (show w < 100000 by omega), gI4 hw4, (encW hC hw4).2.2.2.2.2.2.2.1, stp c1, es, Option.bind_some, hasBit_of _ (show h < 64 by omega), hy h (by omega)]
      by_cases c2 : a 13 w 0 - 1 ≤ h ∧ h < a 13 w 0 - 1 + sp a w
      · simp only [c2, and_self, decide_true, if_true, one0, if_false, ne_eq, c1, not_false_eq_true, true_and, Nat.add_assoc]
      · simp only [c2, decide_false, Bool.false_eq_true, if_false, if_true, and_false, Nat.zero_add]
theorem open_M {n : Nat} {a : Ab} {T : St} (hI : Inv n a) (hM : EncM a T) {h : Nat} (hh : h < 36) (kk : St → Int32 → Option Int32) : ∀ (d m w c : Nat), w + d = a 1 0 0 → d < m → f_X4_open_L14 kk m T (nI h) (nI c) (nI w) = kk T (nI (c + opN a h w d)) := by
  have h4 := hI.2.2.1
  intro d
  induction d with
  | zero =>
    intro m w c hw hm
    obtain ⟨m, rfl⟩ : ∃ q, m = q + 1 := ⟨m - 1, by omega⟩
    rw [u_X4_open_L14, hM.2.1, if_pos (nI_le (by omega) (by omega))]
    rfl
  | succ d ih =>
    intro m w c hw hm
    obtain ⟨m, rfl⟩ : ∃ q, m = q + 1 := ⟨m - 1, by omega⟩
    have hw4 : w < 4 := by omega
    have hwm : w < a 1 0 0 := by omega
    have h13 := st13 hI hw4
    have ks : (stI (a 13 w 0) = (-1)) = (a 13 w 0 = 0) := propext (stI_m1 (by omega))
    have i0 : f_X4_open_L14 kk m T (nI h) (nI c + 0) (nI (w + 1)) = _ := (congrArg (fun z => f_X4_open_L14 kk m T (nI h) z (nI (w + 1))) (nI_add c 0)).trans (ih m (w + 1) c (by omega) (by omega))
    have i1 := ih m (w + 1) (c + 1) (by omega) (by omega)
    rw [u_X4_open_L14, hM.2.1, if_neg (nI_ge (by omega) (by omega)), opN_s]
    simp only [nI_1, i0, i1, cI (show w < 100000 by omega), gI4 hw4, if_false, (hM.2.2.1 w hwm).2.2.2.2.2, ks]
    by_cases c1 : a 13 w 0 = 0
    · simp only [c1, if_true, ne_eq, not_true_eq_false, false_and, if_false, Nat.zero_add]
    · have hf := fitP hI hwm c1
      have hs := sp_le hI hwm
      have k1 : (nI h < nI (a 13 w 0 - 1)) = (h < a 13 w 0 - 1) := ltI (by omega) (by omega)
      have k2 : (nI (a 13 w 0 - 1 + sp a w) ≤ nI h) = (a 13 w 0 - 1 + sp a w ≤ h) := leI (by omega) (by omega)
      simp only [if_neg c1, stp c1, span_M hM hwm hw4, Option.bind_some, nI_add, k1, k2]
      by_cases c2 : h < a 13 w 0 - 1
      · rw [if_pos c2, if_neg (by omega), Nat.zero_add]
      · rw [if_neg c2]
        by_cases c3 : a 13 w 0 - 1 + sp a w ≤ h
        · rw [if_pos c3, if_neg (by omega), Nat.zero_add]
        · rw [if_neg c3, if_pos (by omega), Nat.add_assoc]
theorem st_open : LS_open RelA := by
  intro n S T a1 hn hR
  obtain ⟨a, hI, hC, hM⟩ := hR
  have h4 := hI.2.2.1
  unfold f_X3_open f_X4_open
  rcases ihr hI hC hM a1 with ⟨e3, e4⟩ | ⟨h, hh, hh36, rfl, e3, e4⟩
  · exact ⟨-1, by simp [e3], by simp [e4]⟩
  · simp only [e3, e4, Option.bind_some, one0, if_false]
    exact ⟨_, open_C hI hC hh36 (fun _ x => some x) (a 1 0 0) 1000 0 0 (by omega) (by omega), open_M hI hM hh36 (fun _ x => some x) (a 1 0 0) 1000 0 0 (by omega) (by omega)⟩
/-- the delay of the placed works from w on -/
def lsN (a : Ab) : Nat → Nat → Nat
  | _, 0 => 0
  | w, k + 1 => (if a 13 w 0 = 0 then 0 else dl a w (a 13 w 0 - 1)) + lsN a (w + 1) k
theorem lsN_s {a : Ab} {w k : Nat} : lsN a w (k + 1) = (if a 13 w 0 = 0 then 0 else dl a w (a 13 w 0 - 1)) + lsN a (w + 1) k := by rw [lsN]
theorem least_C {n : Nat} {a : Ab} {S : St} (hI : Inv n a) (hC : EncC a S) (kk : St → Int32 → Option Int32) : ∀ (d m w c : Nat), w + d = a 1 0 0 → d < m → f_X3_least_L40 kk m S (nI c) (nI w) = kk S (nI (c + lsN a w d)) := by
  have h4 := hI.2.2.1
  intro d
  induction d with
  | zero =>
    intro m w c hw hm
    obtain ⟨m, rfl⟩ : ∃ q, m = q + 1 := ⟨m - 1, by omega⟩
    rw [u_X3_least_L40, hC.2.1, if_pos (nI_le (by omega) (by omega))]
    rfl
  | succ d ih =>
    intro m w c hw hm
    obtain ⟨m, rfl⟩ : ∃ q, m = q + 1 := ⟨m - 1, by omega⟩
    have hw4 : w < 4 := by omega
    have hwm : w < a 1 0 0 := by omega
    rw [u_X3_least_L40, hC.2.1, if_neg (nI_ge (by omega) (by omega)), isPW hI hC hw4 (iwC hI hC hwm), Option.bind_some, nI_1, lsN_s]
    by_cases c1 : a 13 w 0 = 0
    · simp only [c1, if_true, Nat.zero_add]
      exact ih m (w + 1) c (by omega) (by omega)
    · have hf := fitP hI hwm c1
      simp only [if_neg c1, one0, if_false, cI (show w < 100000 by omega), gI4 hw4, (encW hC hw4).2.2.2.2.2.2.2.1, stp c1, delay_C hC hw4 hf.1, Option.bind_some, nI_add]
      rw [ih m (w + 1) _ (by omega) (by omega), Nat.add_assoc]
theorem least_M {n : Nat} {a : Ab} {T : St} (hI : Inv n a) (hM : EncM a T) (kk : St → Int32 → Option Int32) : ∀ (d m w c : Nat), w + d = a 1 0 0 → d < m → f_X4_least_L9 kk m T (nI c) (nI w) = kk T (nI (c + lsN a w d)) := by
  have h4 := hI.2.2.1
  intro d
  induction d with
  | zero =>
    intro m w c hw hm
    obtain ⟨m, rfl⟩ : ∃ q, m = q + 1 := ⟨m - 1, by omega⟩
    rw [u_X4_least_L9, hM.2.1, if_pos (nI_le (by omega) (by omega))]
    rfl
  | succ d ih =>
    intro m w c hw hm
    obtain ⟨m, rfl⟩ : ∃ q, m = q + 1 := ⟨m - 1, by omega⟩
    have hw4 : w < 4 := by omega
    have hwm : w < a 1 0 0 := by omega
    have h13 := st13 hI hw4
    have ks : (stI (a 13 w 0) = (-1)) = (a 13 w 0 = 0) := propext (stI_m1 (by omega))
    rw [u_X4_least_L9, hM.2.1, if_neg (nI_ge (by omega) (by omega)), lsN_s]
    simp only [nI_1, cI (show w < 100000 by omega), gI4 hw4, if_false, (hM.2.2.1 w hwm).2.2.2.2.2, ks]
    by_cases c1 : a 13 w 0 = 0
    · simp only [c1, if_true, Nat.zero_add]
      rw [show nI c + 0 = nI c from nI_add c 0]
      exact ih m (w + 1) c (by omega) (by omega)
    · have hf := fitP hI hwm c1
      simp only [if_neg c1, stp c1, delay_M hI hM hwm hw4 hf.1, Option.bind_some, nI_add]
      rw [ih m (w + 1) _ (by omega) (by omega), Nat.add_assoc]
theorem st_least : LS_least RelA := by
  intro n S T a1 hn hR
  obtain ⟨a, hI, hC, hM⟩ := hR
  have h4 := hI.2.2.1
  unfold f_X3_least f_X4_least
  by_cases e0 : a1 = (-1)
  · rw [if_pos e0, if_pos e0]
    exact ⟨_, least_C hI hC (fun _ x => some x) (a 1 0 0) 1000 0 0 (by omega) (by omega), least_M hI hM (fun _ x => some x) (a 1 0 0) 1000 0 0 (by omega) (by omega)⟩
  · rw [if_neg e0, if_neg e0]
    rcases iw hI hC hM a1 with ⟨e1, e2⟩ | ⟨w, hw, hw4, rfl, e1, e2⟩
    · exact ⟨-1, by simp [isPW0 e1], by simp [e2]⟩
    · have h13 := st13 hI hw4
      have ks : (stI (a 13 w 0) = (-1)) = (a 13 w 0 = 0) := propext (stI_m1 (by omega))
      simp only [isPW hI hC hw4 e1, e2, Option.bind_some, one0, if_false, cI (show w < 100000 by omega), gI4 hw4, (hM.2.2.1 w hw).2.2.2.2.2, ks, (encW hC hw4).2.2.2.2.2.2.2.1]
      by_cases c1 : a 13 w 0 = 0
      · exact ⟨-1, by simp [c1], by simp [c1]⟩
      · have hf := fitP hI hw c1
        simp only [if_neg c1, one0, if_false, stp c1, delay_C hC hw4 hf.1, delay_M hI hM hw hw4 hf.1, Option.bind_some]
        exact ⟨_, rfl, rfl⟩
/-- what a work's delay costs -/
def coJ (a : Ab) (w : Nat) : Int64 := if a 13 w 0 = 0 then 0 else (lN (dl a w (a 13 w 0 - 1)) * lN (a 18 0 0)) / 60
theorem cost_C {n : Nat} {a : Ab} {S : St} (hI : Inv n a) (hC : EncC a S) {w : Nat} (hw : w < a 1 0 0) : f_X3_costOf S (nI w) = some (coJ a w) := by
  have h4 := hI.2.2.1
  have hw4 : w < 4 := by omega
  unfold f_X3_costOf coJ
  rw [isPW hI hC hw4 (iwC hI hC hw), Option.bind_some]
  by_cases c1 : a 13 w 0 = 0
  · simp [c1]
  · have hf := fitP hI hw c1
    have hd := dl_le hI hw hf.1
    have h18 := hI.2.2.2.2.2.2.2.2
    simp only [if_neg c1, one0, if_false, cI (show w < 100000 by omega), gI4 hw4, (encW hC hw4).2.2.2.2.2.2.2.1, stp c1, delay_C hC hw4 hf.1, Option.bind_some, hC.2.2.2.1, nI_l (show dl a w (a 13 w 0 - 1) < 2 ^ 31 by omega), nI_l (show a 18 0 0 < 2 ^ 31 by omega)]
theorem cost_M {n : Nat} {a : Ab} {T : St} (hI : Inv n a) (hM : EncM a T) {w : Nat} (hw : w < a 1 0 0) (r : St → Int32 → Int64 → Int32 → Option Int64) (k : St → Int64 → Option Int64) (x : Int32) (c : Int64) : f_X4_paid_L25 r k T x c (nI w) = r T x (c + coJ a w) (nI (w + 1)) := by
  have h4 := hI.2.2.1
  have hw4 : w < 4 := by omega
  have h13 := st13 hI hw4
  have ks : (stI (a 13 w 0) = (-1)) = (a 13 w 0 = 0) := propext (stI_m1 (by omega))
  unfold f_X4_paid_L25 coJ
  simp only [nI_1, cI (show w < 100000 by omega), gI4 hw4, if_false, (hM.2.2.1 w hw).2.2.2.2.2, ks]
  by_cases c1 : a 13 w 0 = 0
  · simp [c1]
  · have hf := fitP hI hw c1
    have hd := dl_le hI hw hf.1
    simp only [if_neg c1, stp c1, delay_M hI hM hw hw4 hf.1, Option.bind_some, hM.2.2.2.2.2.2.2, nI_l (show dl a w (a 13 w 0 - 1) < 2 ^ 31 by omega)]
def coN (a : Ab) : Int64 → Nat → Nat → Int64
  | c, _, 0 => c
  | c, w, k + 1 => coN a (c + coJ a w) (w + 1) k
theorem paid_C {n : Nat} {a : Ab} {S : St} (hI : Inv n a) (hC : EncC a S) (kk : St → Int64 → Option Int64) : ∀ (d m w : Nat) (c : Int64), w + d = a 1 0 0 → d < m → f_X3_paid_L16 kk m S c (nI w) = kk S (coN a c w d) := by
  have h4 := hI.2.2.1
  intro d
  induction d with
  | zero =>
    intro m w c hw hm
    obtain ⟨m, rfl⟩ : ∃ q, m = q + 1 := ⟨m - 1, by omega⟩
    rw [u_X3_paid_L16, hC.2.1, if_pos (nI_le (by omega) (by omega))]
    rfl
  | succ d ih =>
    intro m w c hw hm
    obtain ⟨m, rfl⟩ : ∃ q, m = q + 1 := ⟨m - 1, by omega⟩
    rw [u_X3_paid_L16, hC.2.1, if_neg (nI_ge (by omega) (by omega)), cost_C hI hC (by omega), Option.bind_some, nI_1]
    exact ih m (w + 1) _ (by omega) (by omega)
theorem paid_M {n : Nat} {a : Ab} {T : St} (hI : Inv n a) (hM : EncM a T) (kk : St → Int64 → Option Int64) : ∀ (d m w : Nat) (c : Int64), w + d = a 1 0 0 → d < m → f_X4_paid_L5 kk m T (-1) c (nI w) = kk T (coN a c w d) := by
  have h4 := hI.2.2.1
  intro d
  induction d with
  | zero =>
    intro m w c hw hm
    obtain ⟨m, rfl⟩ : ∃ q, m = q + 1 := ⟨m - 1, by omega⟩
    rw [u_X4_paid_L5, hM.2.1, if_pos (nI_le (by omega) (by omega))]
    rfl
  | succ d ih =>
    intro m w c hw hm
    obtain ⟨m, rfl⟩ : ∃ q, m = q + 1 := ⟨m - 1, by omega⟩
    rw [u_X4_paid_L5, hM.2.1, if_neg (nI_ge (by omega) (by omega)), if_pos rfl, cost_M hI hM (by omega)]
    exact ih m (w + 1) _ (by omega) (by omega)
/-- one work's alone: none of it after the work, all of it when the work comes -/
theorem paid_M1 {n : Nat} {a : Ab} {T : St} (hI : Inv n a) (hM : EncM a T) (kk : St → Int64 → Option Int64) {x : Int32} (hx : ¬ x = (-1)) : ∀ (d m w : Nat) (c : Int64), w + d = a 1 0 0 → d < m → (∀ v, w ≤ v → v < a 1 0 0 → ¬ x = nI v) → f_X4_paid_L5 kk m T x c (nI w) = kk T c := by
  have h4 := hI.2.2.1
  intro d
  induction d with
  | zero =>
    intro m w c hw hm hv
    obtain ⟨m, rfl⟩ : ∃ q, m = q + 1 := ⟨m - 1, by omega⟩
    rw [u_X4_paid_L5, hM.2.1, if_pos (nI_le (by omega) (by omega))]
  | succ d ih =>
    intro m w c hw hm hv
    obtain ⟨m, rfl⟩ : ∃ q, m = q + 1 := ⟨m - 1, by omega⟩
    rw [u_X4_paid_L5, hM.2.1, if_neg (nI_ge (by omega) (by omega)), if_neg hx, if_neg (hv w (Nat.le_refl _) (by omega)), nI_1]
    exact ih m (w + 1) c (by omega) (by omega) (fun v h1 h2 => hv v (by omega) h2)
theorem paid_M2 {n : Nat} {a : Ab} {T : St} (hI : Inv n a) (hM : EncM a T) (kk : St → Int64 → Option Int64) {u : Nat} (hu : u < a 1 0 0) : ∀ (d m w : Nat), w + d = a 1 0 0 → d < m → w ≤ u → f_X4_paid_L5 kk m T (nI u) 0 (nI w) = kk T (coJ a u) := by
  have h4 := hI.2.2.1
  have hx : ¬ nI u = (-1) := stI_ne (by omega)
  intro d
  induction d with
  | zero => intro m w hw hm hv; omega
  | succ d ih =>
    intro m w hw hm hv
    obtain ⟨m, rfl⟩ : ∃ q, m = q + 1 := ⟨m - 1, by omega⟩
    have k : (nI u = nI w) = (u = w) := eqI (by omega) (by omega)
    rw [u_X4_paid_L5, hM.2.1, if_neg (nI_ge (by omega) (by omega)), if_neg hx]
    by_cases e : u = w
    · subst e
      rw [if_pos rfl, cost_M hI hM hu, paid_M1 hI hM kk hx d m (u + 1) _ (by omega) (by omega) (fun v h1 h2 q => by
        have : u = v := (nI_eq (by omega) (by omega)).mp q
        omega)]
      simp
    · rw [if_neg (by rw [k]; exact e), nI_1]
      exact ih m (w + 1) (by omega) (by omega) (by omega)
theorem st_paid : LS_paid RelA := by
  intro n S T a1 hn hR
  obtain ⟨a, hI, hC, hM⟩ := hR
  have h4 := hI.2.2.1
  unfold f_X3_paid f_X4_paid
  by_cases e0 : a1 = (-1)
  · subst e0
    rw [if_pos rfl]
    exact ⟨_, paid_C hI hC (fun _ x => some x) (a 1 0 0) 1000 0 0 (by omega) (by omega), paid_M hI hM (fun _ x => some x) (a 1 0 0) 1000 0 0 (by omega) (by omega)⟩
  · rw [if_neg e0]
    rcases pk_ix a1 (n := a 1 0 0) (by omega) with h | h | ⟨w, hw, rfl⟩
    · refine ⟨0, ?_, paid_M1 hI hM (fun _ x => some x) e0 (a 1 0 0) 1000 0 0 (by omega) (by omega) (fun v _ h2 q => ?_)⟩
      · unfold f_X3_costOf
        rw [isPW0 (by unfold f_X3_isWork; rw [if_pos h])]; rfl
      · rw [q] at h; exact nI_pos (by omega) h
    · refine ⟨0, ?_, paid_M1 hI hM (fun _ x => some x) e0 (a 1 0 0) 1000 0 0 (by omega) (by omega) (fun v _ h2 q => ?_)⟩
      · unfold f_X3_costOf
        rw [isPW0 (by
          unfold f_X3_isWork
          by_cases h0 : a1 < 0
          · rw [if_pos h0]
          · rw [if_neg h0, hC.2.1, if_pos h])]; rfl
      · rw [q] at h; exact nI_ge h2 (by omega) h
    · exact ⟨coJ a w, by rw [cost_C hI hC hw]; rfl, paid_M2 hI hM (fun _ x => some x) hw (a 1 0 0) 1000 0 (by omega) (by omega) (Nat.zero_le _)⟩
