/-! rules 5 and 6; the questions that need them -/
theorem stp {c : Nat} (h : c ≠ 0) : stI c = nI (c - 1) := if_neg h
def apt (a : Ab) (w h v g gap : Nat) : Prop := h + sp a w + gap ≤ g ∨ g + sp a v + gap ≤ h
theorem apt_dec (a : Ab) (w h v g gap : Nat) : apt a w h v g gap ∨ ¬ apt a w h v g gap := by unfold apt; omega
def pNr (a : Ab) (w h v : Nat) : Bool := decide (v ≠ w ∧ a 13 v 0 ≠ 0 ∧ a 4 w v = 1 ∧ ¬ (h + sp a w + 0 ≤ a 13 v 0 - 1 ∨ a 13 v 0 - 1 + sp a v + 0 ≤ h))
def pCr (a : Ab) (w h v : Nat) : Bool := decide (v ≠ w ∧ a 13 v 0 ≠ 0 ∧ a 10 w 0 = a 10 v 0 ∧ ¬ (h + sp a w + a 11 0 (a 10 w 0) ≤ a 13 v 0 - 1 ∨ a 13 v 0 - 1 + sp a v + a 11 0 (a 10 w 0) ≤ h))
/-- the first rule that a start breaks, with the others as they are placed -/
def rl (a : Ab) (w h : Nat) : Nat := if al a w h ≠ 0 then al a w h else if exN (pNr a w h) 0 (a 1 0 0) = true then 5 else if exN (pCr a w h) 0 (a 1 0 0) = true then 6 else 0
theorem al_le (a : Ab) (w h : Nat) : al a w h ≤ 4 := by unfold al; (repeat' split) <;> omega
theorem rl_le (a : Ab) (w h : Nat) : rl a w h ≤ 6 := by have := al_le a w h; unfold rl; (repeat' split) <;> omega
theorem rl_fit {a : Ab} {w h : Nat} (e : rl a w h = 0) : h + sp a w ≤ a 0 0 0 := by
  unfold rl at e
  by_cases q : al a w h ≠ 0
  · rw [if_pos q] at e; exact absurd e q
  · exact al_fit (by omega)
theorem apart_C {n : Nat} {a : Ab} {S : St} (hI : Inv n a) (hC : EncC a S) {w v h gap : Nat} (hw : w < a 1 0 0) (hv : v < a 1 0 0) (hh : h < 36) (hg : gap ≤ 36) (hp : a 13 v 0 ≠ 0) : f_X2_isApart S w (nI h) v (nI gap) = some (if (h + sp a w + gap ≤ a 13 v 0 - 1 ∨ a 13 v 0 - 1 + sp a v + gap ≤ h) then 1 else 0) := by
  have h4 := hI.2.2.1
  have hs1 := sp_le hI hw
  have hs2 := sp_le hI hv
  have h13 := st13 hI (show v < 4 by omega)
  unfold f_X2_isApart
  rw [span_C hC (show w < 4 by omega), Option.bind_some, (encW hC (show v < 4 by omega)).2.2.2.2.2.2.2.1, stp hp, span_C hC (show v < 4 by omega), Option.bind_some]
  simp only [nI_add]
  have k1 : (nI (h + sp a w + gap) ≤ nI (a 13 v 0 - 1)) = (h + sp a w + gap ≤ a 13 v 0 - 1) := leI (by omega) (by omega)
  have k2 : (nI h < nI (a 13 v 0 - 1 + sp a v + gap)) = (h < a 13 v 0 - 1 + sp a v + gap) := ltI (by omega) (by omega)
  simp only [k1, k2]
  by_cases c1 : h + sp a w + gap ≤ a 13 v 0 - 1
  · rw [if_pos c1, if_pos (Or.inl c1)]
  · rw [if_neg c1]
    by_cases c2 : h < a 13 v 0 - 1 + sp a v + gap
    · rw [if_pos c2, if_neg (by omega)]
    · rw [if_neg c2, if_pos (by omega)]
theorem near_C {n : Nat} {a : Ab} {S : St} (hI : Inv n a) (hC : EncC a S) {w h : Nat} (hw : w < a 1 0 0) (hh : h < 36) (kk : St → Option Int32) : ∀ (d m v : Nat), v + d = a 1 0 0 → d < m → f_X3_clashesWithNear_L2 kk m S (nI w) (nI h) (nI v) = if exN (pNr a w h) v d = true then some 1 else kk S := by
  have h4 := hI.2.2.1
  have hw4 : w < 4 := by omega
  intro d
  induction d with
  | zero =>
    intro m v hv hm
    obtain ⟨m, rfl⟩ : ∃ q, m = q + 1 := ⟨m - 1, by omega⟩
    rw [u_X3_clashesWithNear_L2, hC.2.1, if_pos (nI_le (by omega) (by omega))]
    rfl
  | succ d ih =>
    intro m v hv hm
    obtain ⟨m, rfl⟩ : ∃ q, m = q + 1 := ⟨m - 1, by omega⟩
    have hv4 : v < 4 := by omega
    have ih1 := ih m (v + 1) (by omega) (by omega)
    rw [u_X3_clashesWithNear_L2, hC.2.1, if_neg (nI_ge (by omega) (by omega)), exN_s]
    have kv : (nI v = nI w) = (v = w) := eqI (by omega) (by omega)
    simp only [nI_1, kv, cI (show v < 100000 by omega), cI (show w < 100000 by omega), gI4 hv4, gI4 hw4, if_false, isPl hI hC hv4, Option.bind_some, hasBit_of _ (show v < 64 by omega), (encW hC hw4).2.2.2.2.2.1 v hv4, ih1]
    by_cases c1 : v = w
    · have : pNr a w h v = false := decide_eq_false (fun q => q.1 c1)
      rw [if_pos c1, this, Bool.false_or]
    · rw [if_neg c1]
      by_cases c2 : a 13 v 0 = 0
      · have : pNr a w h v = false := decide_eq_false (fun q => q.2.1 c2)
        simp only [if_pos c2, this, Bool.false_or, if_true]
      · simp only [if_neg c2, one0, if_false]
        by_cases c3 : a 4 w v = 1
        · have hap := apart_C (gap := 0) hI hC hw (show v < a 1 0 0 by omega) hh (by omega) c2
          have hap : f_X2_isApart S w (nI h) v 0 = _ := hap
          simp only [c3, decide_true, if_true, one0, if_false, hap, Option.bind_some]
          by_cases c4 : (h + sp a w + 0 ≤ a 13 v 0 - 1 ∨ a 13 v 0 - 1 + sp a v + 0 ≤ h)
          · have : pNr a w h v = false := decide_eq_false (fun q => q.2.2.2 c4)
            simp only [if_pos c4, one0, if_false, this, Bool.false_or]
          · have : pNr a w h v = true := decide_eq_true ⟨c1, c2, c3, c4⟩
            simp only [if_neg c4, if_true, this, Bool.true_or]
        · have : pNr a w h v = false := decide_eq_false (fun q => c3 q.2.2.1)
          simp only [c3, decide_false, Bool.false_eq_true, if_false, if_true, this, Bool.false_or]
theorem crew_C {n : Nat} {a : Ab} {S : St} (hI : Inv n a) (hC : EncC a S) {w h : Nat} (hw : w < a 1 0 0) (hh : h < 36) (kk : St → Option Int32) : ∀ (d m v : Nat), v + d = a 1 0 0 → d < m → f_X3_clashesWithCrew_L13 kk m S (nI w) (nI h) (nI (a 10 w 0)) (nI v) = if exN (pCr a w h) v d = true then some 1 else kk S := by
  have h4 := hI.2.2.1
  have hw4 : w < 4 := by omega
  have hc4 := (hI.2.2.2.2.1 w hw4).2.1
  intro d
  induction d with
  | zero =>
    intro m v hv hm
    obtain ⟨m, rfl⟩ : ∃ q, m = q + 1 := ⟨m - 1, by omega⟩
    rw [u_X3_clashesWithCrew_L13, hC.2.1, if_pos (nI_le (by omega) (by omega))]
    rfl
  | succ d ih =>
    intro m v hv hm
    obtain ⟨m, rfl⟩ : ∃ q, m = q + 1 := ⟨m - 1, by omega⟩
    have hv4 : v < 4 := by omega
    have ih1 := ih m (v + 1) (by omega) (by omega)
    have hcv := (hI.2.2.2.2.1 v hv4).2.1
    rw [u_X3_clashesWithCrew_L13, hC.2.1, if_neg (nI_ge (by omega) (by omega)), exN_s]
    have kv : (nI v = nI w) = (v = w) := eqI (by omega) (by omega)
    have kc : (nI (a 10 v 0) = nI (a 10 w 0)) = (a 10 v 0 = a 10 w 0) := eqI (by omega) (by omega)
    simp only [nI_1, kv, cI (show v < 100000 by omega), cI (show w < 100000 by omega), cI (show a 10 w 0 < 100000 by omega), gI4 hv4, gI4 hw4, gI4 hc4, if_false, isPl hI hC hv4, Option.bind_some, (encW hC hv4).2.2.2.2.2.2.1, kc, hC.2.2.2.2.2.1 _ hc4, ih1]
    by_cases c1 : v = w
    · have : pCr a w h v = false := decide_eq_false (fun q => q.1 c1)
      rw [if_pos c1, this, Bool.false_or]
    · rw [if_neg c1]
      by_cases c2 : a 13 v 0 = 0
      · have : pCr a w h v = false := decide_eq_false (fun q => q.2.1 c2)
        simp only [if_pos c2, this, Bool.false_or, if_true]
      · simp only [if_neg c2, one0, if_false]
        by_cases c3 : a 10 v 0 = a 10 w 0
        · have hap := apart_C (gap := a 11 0 (a 10 w 0)) hI hC hw (show v < a 1 0 0 by omega) hh (hI.2.2.2.2.2.2.1 _ hc4) c2
          simp only [if_pos c3, hap, Option.bind_some]
          by_cases c4 : (h + sp a w + a 11 0 (a 10 w 0) ≤ a 13 v 0 - 1 ∨ a 13 v 0 - 1 + sp a v + a 11 0 (a 10 w 0) ≤ h)
          · have : pCr a w h v = false := decide_eq_false (fun q => q.2.2.2 c4)
            simp only [if_pos c4, one0, if_false, this, Bool.false_or]
          · have : pCr a w h v = true := decide_eq_true ⟨c1, c2, c3.symm, c4⟩
            simp only [if_neg c4, if_true, this, Bool.true_or]
        · have : pCr a w h v = false := decide_eq_false (fun q => c3 q.2.2.1.symm)
          simp only [if_neg c3, this, Bool.false_or]
theorem rule_C {n : Nat} {a : Ab} {S : St} (hI : Inv n a) (hC : EncC a S) {w h : Nat} (hw : w < a 1 0 0) (hh : h < 36) : f_X3_firstBrokenRule S (nI w) (nI h) = some (nI (rl a w h)) := by
  have h4 := hI.2.2.1
  have hw4 : w < 4 := by omega
  have hc4 := (hI.2.2.2.2.1 w hw4).2.1
  have hal := al_le a w h
  unfold f_X3_firstBrokenRule f_X3_clashesWithNear f_X3_clashesWithCrew rl
  have e1 := near_C hI hC hw hh (fun _ => some 0) (a 1 0 0) 1000 0 (by omega) (by omega)
  have e2 := crew_C hI hC hw hh (fun _ => some 0) (a 1 0 0) 1000 0 (by omega) (by omega)
  have e1 : f_X3_clashesWithNear_L2 (fun _ => some 0) 1000 S (nI w) (nI h) 0 = _ := e1
  have e2 : f_X3_clashesWithCrew_L13 (fun _ => some 0) 1000 S (nI w) (nI h) (nI (a 10 w 0)) 0 = _ := e2
  have k0 : (nI (al a w h) = 0) = (al a w h = 0) := eqI (y := 0) (by omega) (by omega)
  simp only [cI (show w < 100000 by omega), gI4 hw4, if_false, hC.1, al_C hI hC hw hh, Option.bind_some, (encW hC hw4).2.2.2.2.2.2.1, e1, e2, k0]
  by_cases c0 : al a w h = 0
  · by_cases c1 : exN (pNr a w h) 0 (a 1 0 0) = true
    · simp only [c0, c1, ne_eq, not_true_eq_false, if_true, if_false, Option.bind_some, one0]; rfl
    · by_cases c2 : exN (pCr a w h) 0 (a 1 0 0) = true
      · simp only [c0, c1, c2, ne_eq, not_true_eq_false, if_true, if_false, Option.bind_some, one0]; rfl
      · simp only [c0, c1, c2, ne_eq, not_true_eq_false, if_true, if_false, Option.bind_some, one0]; rfl
  · simp only [c0, ne_eq, not_false_eq_true, if_true, if_false]
theorem gnear_M {n : Nat} {a : Ab} {T : St} (hI : Inv n a) (hM : EncM a T) {w v h g : Nat} (hw : w < a 1 0 0) (hv : v < a 1 0 0) (hh : h < 36) (hg : g < 36) : f_X4_goesNear T (nI w) (nI h) (nI v) (nI g) = some (if a 4 w v = 1 ∧ ¬ (h + sp a w + 0 ≤ g ∨ g + sp a v + 0 ≤ h) then 0 else 1) := by
  have h4 := hI.2.2.1
  have hw4 : w < 4 := by omega
  have hv4 : v < 4 := by omega
  have hs1 := sp_le hI hw
  have hs2 := sp_le hI hv
  have hn := ((hI.2.2.2.2.1 w hw4).2.2.2.2.2.2.2.1 v hv4).1
  unfold f_X4_goesNear
  have k0 : (nI (a 4 w v) = 0) = (a 4 w v = 0) := eqI (y := 0) (by omega) (by omega)
  have k1 : (nI (h + sp a w) ≤ nI g) = (h + sp a w ≤ g) := leI (by omega) (by omega)
  have k2 : (nI h < nI (g + sp a v)) = (h < g + sp a v) := ltI (by omega) (by omega)
  simp only [c16 hw4 hv4, g16 hw4 hv4, if_false, (hM.2.2.2.1 w hw4).2.2.2.1 v hv4, k0, span_M hM hw hw4, span_M hM hv hv4, Option.bind_some, nI_add, k1, k2]
  by_cases c0 : a 4 w v = 0
  · rw [if_pos c0, if_neg (by omega)]
  · rw [if_neg c0]
    by_cases c1 : h + sp a w ≤ g
    · rw [if_pos c1, if_neg (by omega)]
    · rw [if_neg c1]
      by_cases c2 : h < g + sp a v
      · rw [if_pos c2, if_pos (by omega)]
      · rw [if_neg c2, if_neg (by omega)]
theorem gcrew_M {n : Nat} {a : Ab} {T : St} (hI : Inv n a) (hM : EncM a T) {w v h g : Nat} (hw : w < a 1 0 0) (hv : v < a 1 0 0) (hh : h < 36) (hg : g < 36) : f_X4_goesCrew T (nI w) (nI h) (nI v) (nI g) = some (if a 10 w 0 = a 10 v 0 ∧ ¬ (h + sp a w + a 11 0 (a 10 w 0) ≤ g ∨ g + sp a v + a 11 0 (a 10 w 0) ≤ h) then 0 else 1) := by
  have h4 := hI.2.2.1
  have hw4 : w < 4 := by omega
  have hv4 : v < 4 := by omega
  have hs1 := sp_le hI hw
  have hs2 := sp_le hI hv
  have hc4 := (hI.2.2.2.2.1 w hw4).2.1
  have hc5 := (hI.2.2.2.2.1 v hv4).2.1
  have hr := hI.2.2.2.2.2.2.1 _ hc4
  unfold f_X4_goesCrew
  have k0 : (nI (a 10 w 0) = nI (a 10 v 0)) = (a 10 w 0 = a 10 v 0) := eqI (by omega) (by omega)
  have k1 : (nI (h + sp a w + a 11 0 (a 10 w 0)) ≤ nI g) = (h + sp a w + a 11 0 (a 10 w 0) ≤ g) := leI (by omega) (by omega)
  have k2 : (nI h < nI (g + sp a v + a 11 0 (a 10 w 0))) = (h < g + sp a v + a 11 0 (a 10 w 0)) := ltI (by omega) (by omega)
  simp only [cI (show w < 100000 by omega), cI (show v < 100000 by omega), gI4 hw4, gI4 hv4, if_false, (hM.2.2.1 w hw).2.2.2.2.1, (hM.2.2.1 v hv).2.2.2.2.1, cI (show a 10 w 0 < 100000 by omega), gI4 hc4, k0, span_M hM hw hw4, span_M hM hv hv4, Option.bind_some, hM.2.2.2.2.1 _ hc4, nI_add, k1, k2]
  by_cases c0 : a 10 w 0 = a 10 v 0
  · rw [if_pos c0]
    by_cases c1 : h + sp a w + a 11 0 (a 10 w 0) ≤ g
    · rw [if_pos c1, if_neg (by omega)]
    · rw [if_neg c1]
      by_cases c2 : h < g + sp a v + a 11 0 (a 10 w 0)
      · rw [if_pos c2, if_pos (by omega)]
      · rw [if_neg c2, if_neg (by omega)]
  · rw [if_neg c0, if_neg (fun q => c0 q.1)]
theorem brk_M {n : Nat} {a : Ab} {T : St} (hI : Inv n a) (hM : EncM a T) {w h : Nat} (hw : w < a 1 0 0) (hh : h < 36) (kk : St → Int32 → Int32 → Option Int32) : ∀ (d m f s v : Nat), f ≤ 1 → s ≤ 1 → v + d = a 1 0 0 → d < m → f_X4_breaks_L22 kk m T (nI w) (nI h) (nI f) (nI s) (nI v) = kk T (nI (if f = 1 ∨ exN (pNr a w h) v d = true then 1 else 0)) (nI (if s = 1 ∨ exN (pCr a w h) v d = true then 1 else 0)) := by
  have h4 := hI.2.2.1
  have hw4 : w < 4 := by omega
  intro d
  induction d with
  | zero =>
    intro m f s v hf hs hv hm
    obtain ⟨m, rfl⟩ : ∃ q, m = q + 1 := ⟨m - 1, by omega⟩
    rw [u_X4_breaks_L22, hM.2.1, if_pos (nI_le (by omega) (by omega))]
    unfold exN
    rcases (show f = 0 ∨ f = 1 by omega) with rfl | rfl <;> rcases (show s = 0 ∨ s = 1 by omega) with rfl | rfl <;> rfl
  | succ d ih =>
    intro m f s v hf hs hv hm
    obtain ⟨m, rfl⟩ : ∃ q, m = q + 1 := ⟨m - 1, by omega⟩
    have hv4 : v < 4 := by omega
    have hvm : v < a 1 0 0 := by omega
    have h13 := st13 hI hv4
    rw [u_X4_breaks_L22, hM.2.1, if_neg (nI_ge (by omega) (by omega))]
    have kv : (nI v = nI w) = (v = w) := eqI (by omega) (by omega)
    have ks : (stI (a 13 v 0) = (-1)) = (a 13 v 0 = 0) := propext (stI_m1 (by omega))
    simp only [nI_1, kv, cI (show v < 100000 by omega), gI4 hv4, if_false, (hM.2.2.1 v hvm).2.2.2.2.2, ks, exN_s]
    by_cases c1 : v = w
    · have e1 : pNr a w h v = false := decide_eq_false (fun q => q.1 c1)
      have e2 : pCr a w h v = false := decide_eq_false (fun q => q.1 c1)
      rw [if_pos c1, ih m f s (v + 1) hf hs (by omega) (by omega), e1, e2, Bool.false_or, Bool.false_or]
    · rw [if_neg c1]
      by_cases c2 : a 13 v 0 = 0
      · have e1 : pNr a w h v = false := decide_eq_false (fun q => q.2.1 c2)
        have e2 : pCr a w h v = false := decide_eq_false (fun q => q.2.1 c2)
        rw [if_pos c2, ih m f s (v + 1) hf hs (by omega) (by omega), e1, e2, Bool.false_or, Bool.false_or]
      · rw [if_neg c2]
        have h76 : ∀ f2, f2 ≤ 1 → f_X4_breaks_L76 (f_X4_breaks_L22 kk m) kk T (nI w) (nI h) (nI s) (nI v) (nI f2) = f_X4_breaks_L22 kk m T (nI w) (nI h) (nI f2) (nI (if s = 1 ∨ pCr a w h v = true then 1 else 0)) (nI (v + 1)) := by
          intro f2 hf2
          unfold f_X4_breaks_L76
          have kz : (nI s = 0) = (s = 0) := eqI (y := 0) (by omega) (by omega)
          have hgc := gcrew_M hI hM hw hvm hh (g := a 13 v 0 - 1) (by omega)
          simp only [kz, nI_1, cI (show v < 100000 by omega), gI4 hv4, if_false, (hM.2.2.1 v hvm).2.2.2.2.2, stp c2, hgc, Option.bind_some]
          by_cases s0 : s = 0
          · rw [if_pos s0]
            by_cases c4 : a 10 w 0 = a 10 v 0 ∧ ¬ (h + sp a w + a 11 0 (a 10 w 0) ≤ a 13 v 0 - 1 ∨ a 13 v 0 - 1 + sp a v + a 11 0 (a 10 w 0) ≤ h)
            · have e2 : pCr a w h v = true := decide_eq_true ⟨c1, c2, c4.1, c4.2⟩
              rw [if_pos (if_pos c4), if_pos (Or.inr e2)]; rfl
            · have e2 : pCr a w h v = false := decide_eq_false (fun q => c4 ⟨q.2.2.1, q.2.2.2⟩)
              rw [if_neg (by rw [if_neg c4]; decide), if_neg (by rw [e2]; simp [s0])]; rfl
          · rw [if_neg s0, if_pos (Or.inl (by omega))]; rfl
        have hgn := gnear_M hI hM hw hvm hh (g := a 13 v 0 - 1) (by omega)
        have kf : (nI f = 0) = (f = 0) := eqI (y := 0) (by omega) (by omega)
        unfold f_X4_breaks_L71
        have h1 : f_X4_breaks_L76 (f_X4_breaks_L22 kk m) kk T (nI w) (nI h) (nI s) (nI v) 1 = _ := h76 1 (by omega)
        have h0 : f_X4_breaks_L76 (f_X4_breaks_L22 kk m) kk T (nI w) (nI h) (nI s) (nI v) 0 = _ := h76 0 (by omega)
        simp only [kf, stp c2, hgn, Option.bind_some, h1, h0]
        have hs2 : (if s = 1 ∨ pCr a w h v = true then 1 else 0) ≤ 1 := by split <;> omega
        have i1 := ih m 1 _ (v + 1) (by omega) hs2 (by omega) (by omega)
        have i0 := ih m 0 _ (v + 1) (by omega) hs2 (by omega) (by omega)
        rw [i1, i0]
        have es : (if (if s = 1 ∨ pCr a w h v = true then 1 else 0) = 1 ∨ exN (pCr a w h) (v + 1) d = true then 1 else 0) = (if s = 1 ∨ (pCr a w h v || exN (pCr a w h) (v + 1) d) = true then 1 else 0) := by
          by_cases z1 : s = 1 <;> rcases Bool.eq_false_or_eq_true (pCr a w h v) with e1 | e1 <;> rcases Bool.eq_false_or_eq_true (exN (pCr a w h) (v + 1) d) with e2 | e2 <;> simp [z1, e1, e2]
        rw [es]
        by_cases f0 : f = 0
        · subst f0
          by_cases c4 : a 4 w v = 1 ∧ ¬ (h + sp a w + 0 ≤ a 13 v 0 - 1 ∨ a 13 v 0 - 1 + sp a v + 0 ≤ h)
          · have e2 : pNr a w h v = true := decide_eq_true ⟨c1, c2, c4.1, c4.2⟩
            simp only [if_pos c4, e2, Bool.true_or, if_true, true_or, or_true]
          · have e2 : pNr a w h v = false := decide_eq_false (fun q => c4 ⟨q.2.2.1, q.2.2.2⟩)
            simp only [if_neg c4, e2, Bool.false_or, if_true, one0, if_false]
        · have f1 : f = 1 := by omega
          subst f1
          simp only [show ((1 : Nat) = 0) = False from by decide, if_false, true_or, if_true]
theorem rule_M {n : Nat} {a : Ab} {T : St} (hI : Inv n a) (hM : EncM a T) {w h : Nat} (hw : w < a 1 0 0) (hh : h < 36) : f_X4_breaks T (nI w) (nI h) = some (nI (rl a w h)) := by
  have h4 := hI.2.2.1
  have hw4 : w < 4 := by omega
  have hal := al_le a w h
  unfold f_X4_breaks rl
  rw [al_M hI hM hw hw4 hh, Option.bind_some]
  by_cases c0 : al a w h = 0
  · rw [if_pos (by rw [c0]; decide), if_neg (by omega)]
    have e := brk_M hI hM hw hh (fun _ x4 x5 => if x4 = 0 then (if x5 = 0 then (some 0) else (some 6)) else (some 5)) (a 1 0 0) 1000 0 0 0 (by omega) (by omega) (by omega) (by omega)
    refine Eq.trans e ?_
    by_cases c1 : exN (pNr a w h) 0 (a 1 0 0) = true
    · rw [if_pos c1, if_pos (Or.inr c1)]; rfl
    · rw [if_neg c1, if_neg (show ¬ ((0 : Nat) = 1 ∨ exN (pNr a w h) 0 (a 1 0 0) = true) from fun q => q.elim (by decide) c1)]
      by_cases c2 : exN (pCr a w h) 0 (a 1 0 0) = true
      · rw [if_pos c2, if_pos (Or.inr c2)]; rfl
      · rw [if_neg c2, if_neg (show ¬ ((0 : Nat) = 1 ∨ exN (pCr a w h) 0 (a 1 0 0) = true) from fun q => q.elim (by decide) c2)]; rfl
  · rw [if_neg (show ¬ nI (al a w h) ≤ 0 from nI_nle (by omega) (by omega)), if_pos c0]
theorem st_may : LS_may RelA := by
  intro n S T a1 a2 hn hR
  obtain ⟨a, hI, hC, hM⟩ := hR
  unfold f_X3_may f_X4_may
  rcases iw hI hC hM a1 with ⟨e1, e2⟩ | ⟨w, hw, hw4, rfl, e1, e2⟩
  · exact ⟨0, by simp [e1], by simp [e2]⟩
  rcases ihr hI hC hM a2 with ⟨e3, e4⟩ | ⟨h, hh, hh36, rfl, e3, e4⟩
  · exact ⟨0, by simp [e1, e3], by simp [e2, e4]⟩
  rw [e1, e2, e3, e4, rule_C hI hC hw hh36, rule_M hI hM hw hh36]
  exact ⟨if nI (rl a w h) = 0 then 1 else 0, by simp only [Option.bind_some, one0, if_false]; split <;> rfl, by simp only [Option.bind_some, one0, if_false]; split <;> rfl⟩
