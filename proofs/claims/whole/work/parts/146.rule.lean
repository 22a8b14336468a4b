/-! spans, delays, the rules -/
theorem leI {x y : Nat} (hx : x < 1048576) (hy : y < 1048576) : (nI x ≤ nI y) = (x ≤ y) := propext (nI_leI (by omega) (by omega))
theorem ltI {x y : Nat} (hx : x < 1048576) (hy : y < 1048576) : (nI x < nI y) = (x < y) := propext (nI_ltI (by omega) (by omega))
theorem eqI {x y : Nat} (hx : x < 1048576) (hy : y < 1048576) : (nI x = nI y) = (x = y) := propext (nI_eq (by omega) (by omega))
def sp (a : Ab) (w : Nat) : Nat := a 3 w 0 + a 2 w 0
theorem sp_le {n : Nat} {a : Ab} (hI : Inv n a) {w : Nat} (hw : w < a 1 0 0) : 1 ≤ sp a w ∧ sp a w ≤ 15 := by
  obtain ⟨q0, q1, q2, -⟩ := hI.2.2.2.1 w hw
  unfold sp; omega
theorem span_C {a : Ab} {S : St} (hC : EncC a S) {w : Nat} (hw : w < 4) : f_X2_span S w = some (nI (sp a w)) := by
  unfold f_X2_span sp
  rw [(encW hC hw).1, (encW hC hw).2.1, nI_add]
theorem span_M {a : Ab} {T : St} (hM : EncM a T) {w : Nat} (hw : w < a 1 0 0) (hw4 : w < 4) : f_X4_span T (nI w) = some (nI (sp a w)) := by
  unfold f_X4_span sp
  simp only [cI (show w < 100000 by omega), gI4 hw4, if_false, (hM.2.2.1 w hw).1, (hM.2.2.1 w hw).2.1, nI_add]
/-- the delay of k hours from h on -/
def dS (a : Ab) (w : Nat) : Nat → Nat → Nat
  | _, 0 => 0
  | h, k + 1 => a 5 w h + dS a w (h + 1) k
def dl (a : Ab) (w h : Nat) : Nat := dS a w h (sp a w)
theorem dS_le {n : Nat} {a : Ab} (hI : Inv n a) {w : Nat} (hw : w < 4) : ∀ k h, h + k ≤ 36 → dS a w h k ≤ 100000 * k := by
  intro k
  induction k with
  | zero => intro h _; exact Nat.zero_le _
  | succ k ih =>
    intro h hh
    unfold dS
    have := ih (h + 1) (by omega)
    have := (hI.2.2.2.2.1 w hw).2.2.2.2.2.2.2.2.1 h (by omega)
    omega
theorem dl_le {n : Nat} {a : Ab} (hI : Inv n a) {w h : Nat} (hw : w < a 1 0 0) (hh : h + sp a w ≤ 36) : dl a w h ≤ 1500000 := by
  have := dS_le hI (w := w) (by have := hI.2.2.1; omega) (sp a w) h hh
  have := (sp_le hI hw).2
  unfold dl; omega
theorem dly_C {a : Ab} {S : St} (hC : EncC a S) {w : Nat} (hw : w < 4) (kk : St → Int32 → Option Int32) : ∀ (d m h c : Nat), h + d ≤ 36 → d < m → f_X2_delayFrom_L17 w kk m S (nI (h + d)) (nI c) (nI h) = kk S (nI (c + dS a w h d)) := by
  intro d
  induction d with
  | zero =>
    intro m h c hh hm
    obtain ⟨m, rfl⟩ : ∃ q, m = q + 1 := ⟨m - 1, by omega⟩
    rw [u_X2_delayFrom_L17, if_pos (nI_le (by omega) (by omega))]
    rfl
  | succ d ih =>
    intro m h c hh hm
    obtain ⟨m, rfl⟩ : ∃ q, m = q + 1 := ⟨m - 1, by omega⟩
    rw [u_X2_delayFrom_L17, if_neg (nI_ge (by omega) (by omega))]
    simp only [cI (show h < 100000 by omega), gI36 (show h < 36 by omega), if_false, (encW hC hw).2.2.2.2.2.2.2.2.2 h (by omega), nI_add, nI_1]
    rw [show h + (d + 1) = (h + 1) + d by omega, ih m (h + 1) (c + a 5 w h) (by omega) (by omega), dS, Nat.add_assoc]
theorem delay_C {a : Ab} {S : St} (hC : EncC a S) {w h : Nat} (hw : w < 4) (hh : h + sp a w ≤ 36) : f_X2_delayFrom S w (nI h) = some (nI (dl a w h)) := by
  unfold f_X2_delayFrom
  rw [span_C hC hw, Option.bind_some, nI_add]
  have e : (if (36 : Int32) < nI (h + sp a w) then 36 else nI (h + sp a w)) = nI (h + sp a w) := if_neg (nI_nlt (a := 36) (b := h + sp a w) hh (by omega))
  rw [e]
  have := dly_C hC hw (fun _ x => some x) (sp a w) 1000 h 0 hh (by omega)
  rw [Nat.zero_add] at this
  exact this
theorem dly_M {n : Nat} {a : Ab} {T : St} (hI : Inv n a) (hM : EncM a T) {w h0 : Nat} (hw : w < a 1 0 0) (hw4 : w < 4) (hh : h0 + sp a w ≤ 36) (kk : St → Int32 → Option Int32) : ∀ (d m h c : Nat), h + d = h0 + sp a w → d < m → f_X4_delayOf_L5 kk m T (nI w) (nI h0) (nI c) (nI h) = kk T (nI (c + dS a w h d)) := by
  intro d
  induction d with
  | zero =>
    intro m h c he hm
    obtain ⟨m, rfl⟩ : ∃ q, m = q + 1 := ⟨m - 1, by omega⟩
    rw [u_X4_delayOf_L5, span_M hM hw hw4, Option.bind_some, nI_add, if_pos (nI_le (by omega) (by omega))]
    rfl
  | succ d ih =>
    intro m h c he hm
    obtain ⟨m, rfl⟩ : ∃ q, m = q + 1 := ⟨m - 1, by omega⟩
    rw [u_X4_delayOf_L5, span_M hM hw hw4, Option.bind_some, nI_add, if_neg (nI_ge (by omega) (by omega))]
    simp only [c144 hw4 (show h < 36 by omega), g144 hw4 (show h < 36 by omega), if_false, (hM.2.2.2.1 w hw4).2.2.2.2.1 h (by omega), nI_add, nI_1]
    rw [ih m (h + 1) (c + a 5 w h) (by omega) (by omega), dS, Nat.add_assoc]
theorem delay_M {n : Nat} {a : Ab} {T : St} (hI : Inv n a) (hM : EncM a T) {w h : Nat} (hw : w < a 1 0 0) (hw4 : w < 4) (hh : h + sp a w ≤ 36) : f_X4_delayOf T (nI w) (nI h) = some (nI (dl a w h)) := by
  unfold f_X4_delayOf
  have := dly_M hI hM hw hw4 hh (fun _ x => some x) (sp a w) 1000 h 0 rfl (by omega)
  rw [Nat.zero_add] at this
  exact this
/-- one of k hours from h on -/
def exN (p : Nat → Bool) : Nat → Nat → Bool
  | _, 0 => false
  | h, k + 1 => p h || exN p (h + 1) k
theorem exN_iff {p : Nat → Bool} : ∀ k h, exN p h k = true ↔ ∃ j, h ≤ j ∧ j < h + k ∧ p j = true := by
  intro k
  induction k with
  | zero =>
    intro h
    unfold exN
    constructor
    · intro q; cases q
    · intro ⟨j, h1, h2, _⟩; omega
  | succ k ih =>
    intro h
    unfold exN
    rw [Bool.or_eq_true, ih (h + 1)]
    constructor
    · rintro (q | ⟨j, h1, h2, q⟩)
      · exact ⟨h, Nat.le_refl _, by omega, q⟩
      · exact ⟨j, by omega, by omega, q⟩
    · intro ⟨j, h1, h2, q⟩
      by_cases e : j = h
      · subst e; exact Or.inl q
      · exact Or.inr ⟨j, by omega, by omega, q⟩
theorem exN_no {p : Nat → Bool} {k h : Nat} : exN p h k = false ↔ ∀ j, h ≤ j → j < h + k → p j = false := by
  constructor
  · intro q j h1 h2
    cases e : p j with
    | false => rfl
    | true =>
      have := (exN_iff k h).mpr ⟨j, h1, h2, e⟩
      rw [q] at this; cases this
  · intro q
    cases e : exN p h k with
    | false => rfl
    | true =>
      obtain ⟨j, h1, h2, h3⟩ := (exN_iff k h).mp e
      rw [q j h1 h2] at h3; cases h3
theorem exN_s {p : Nat → Bool} {h k : Nat} : exN p h (k + 1) = (p h || exN p (h + 1) k) := by rw [exN]
def pNi (a : Ab) (w k : Nat) : Bool := decide (a 6 w 0 = 1 ∧ ¬ (20 ≤ k % 24 ∨ k % 24 ≤ 4))
def pEv (a : Ab) (w k : Nat) : Bool := decide (a 7 w k = 1)
def pNo (a : Ab) (w k : Nat) : Bool := decide (a 8 w 0 ≤ k ∧ k ≤ a 9 w 0)
/-- the first of rules 1 to 4 that a start breaks; 0: none -/
def al (a : Ab) (w h : Nat) : Nat :=
  if a 0 0 0 < h + sp a w then 1 else if exN (pNi a w) h (sp a w) = true then 2 else if exN (pEv a w) h (sp a w) = true then 3 else if exN (pNo a w) (h + a 3 w 0) (a 2 w 0) = true then 4 else 0
theorem al_fit {a : Ab} {w h : Nat} (e : al a w h = 0) : h + sp a w ≤ a 0 0 0 := by
  unfold al at e
  by_cases q : a 0 0 0 < h + sp a w
  · rw [if_pos q] at e; cases e
  · omega
theorem al_C {n : Nat} {a : Ab} {S : St} (hI : Inv n a) (hC : EncC a S) {w h : Nat} (hw : w < a 1 0 0) (hh : h < 36) : f_X2_firstBrokenAlone S w (nI h) (nI (a 0 0 0)) = some (nI (al a w h)) := by
  have hw4 : w < 4 := by have := hI.2.2.1; omega
  have hn := hI.2.1
  have hsp := sp_le hI hw
  have hW := encW hC hw4
  unfold f_X2_firstBrokenAlone al
  rw [span_C hC hw4, Option.bind_some, nI_add]
  by_cases hfit : h + sp a w ≤ a 0 0 0
  case neg => rw [if_neg (nI_ge (by omega) (by omega)), if_pos (by omega)]; rfl
  rw [if_pos (nI_le hfit (by omega)), if_neg (by omega)]
  have hbits : ∃ y, f_X2_spanFrom S w (nI h) = some y ∧ ∀ j, j < 64 → bt y j = decide (h ≤ j ∧ j < h + sp a w) := by
    unfold f_X2_spanFrom
    obtain ⟨y, ey, hy⟩ := bitsFrom_of (f := h) (m := sp a w) (by omega) (by omega)
    exact ⟨y, by rw [span_C hC hw4, Option.bind_some, ey]; rfl, hy⟩
  obtain ⟨y, ey, hy⟩ := hbits
  rw [ey, Option.bind_some]
  have hrest : f_X2_firstBrokenAlone_L37 w S (nI h) y = some (nI (if exN (pEv a w) h (sp a w) = true then 3 else if exN (pNo a w) (h + a 3 w 0) (a 2 w 0) = true then 4 else 0)) := by
    unfold f_X2_firstBrokenAlone_L37
    have e1 : (lg_cmp (y &&& S.2 0 w 0) 0 = 0) ↔ exN (pEv a w) h (sp a w) = false := by
      rw [meet_iff, exN_no]
      constructor
      · intro q j h1 h2
        have := q j (by omega)
        rw [hy j (by omega), hW.2.2.2.1 j (by omega)] at this
        simp only [decide_eq_true_eq] at this
        unfold pEv
        exact decide_eq_false (fun z => this ⟨⟨h1, h2⟩, z⟩)
      · intro q j hj hh2
        rw [hy j hj] at hh2
        have hb := of_decide_eq_true hh2.1
        rw [hW.2.2.2.1 j (by omega)] at hh2
        have := q j hb.1 hb.2
        unfold pEv at this
        exact of_decide_eq_false this (of_decide_eq_true hh2.2)
    by_cases hev : exN (pEv a w) h (sp a w) = true
    · rw [if_pos hev, if_neg (by rw [e1, hev]; decide)]; rfl
    · rw [if_neg hev, if_pos (by rw [e1]; simpa using hev), hW.2.1, hW.1, nI_add]
      obtain ⟨y2, ey2, hy2⟩ := bitsFrom_of (f := h + a 3 w 0) (m := a 2 w 0) (by unfold sp at hsp hfit; omega) (by unfold sp at hsp hfit; omega)
      rw [ey2, Option.bind_some]
      have e2 : (lg_cmp (y2 &&& S.2 1 w 0) 0 = 0) ↔ exN (pNo a w) (h + a 3 w 0) (a 2 w 0) = false := by
        rw [meet_iff, exN_no]
        constructor
        · intro q j h1 h2
          have hj : j < 36 := by unfold sp at hfit; omega
          have := q j (by omega)
          rw [hy2 j (by omega), hW.2.2.2.2.1 j hj] at this
          simp only [decide_eq_true_eq] at this
          unfold pNo
          exact decide_eq_false (fun z => this ⟨⟨h1, h2⟩, z⟩)
        · intro q j hj hh2
          rw [hy2 j hj] at hh2
          have hb := of_decide_eq_true hh2.1
          have hj : j < 36 := by unfold sp at hfit; omega
          rw [hW.2.2.2.2.1 j hj] at hh2
          have := q j hb.1 hb.2
          unfold pNo at this
          exact of_decide_eq_false this (of_decide_eq_true hh2.2)
      by_cases hno : exN (pNo a w) (h + a 3 w 0) (a 2 w 0) = true
      · rw [if_pos hno, if_neg (by rw [e2, hno]; decide)]; rfl
      · rw [if_neg hno, if_pos (by rw [e2]; simpa using hno)]; rfl
  rw [hrest, hW.2.2.1]
  have h6 := (hI.2.2.2.2.1 w hw4).1
  by_cases hn0 : a 6 w 0 = 0
  · rw [if_pos (by rw [hn0]; rfl)]
    have e3 : exN (pNi a w) h (sp a w) = false := exN_no.mpr (fun j _ _ => decide_eq_false (fun z => by omega))
    rw [e3, if_neg (show ¬ (false = true) by decide)]
  · have h61 : a 6 w 0 = 1 := by omega
    rw [if_neg (by rw [h61]; decide)]
    have e3 : (lg_cmp (y &&& -535822368) 0 = 0) ↔ exN (pNi a w) h (sp a w) = false := by
      rw [meet_iff, exN_no]
      constructor
      · intro q j h1 h2
        have := q j (by omega)
        rw [hy j (by omega), bt_night j (by omega)] at this
        simp only [decide_eq_true_eq, Bool.not_eq_true', decide_eq_false_iff_not] at this
        unfold pNi
        exact decide_eq_false (fun z => this ⟨⟨h1, h2⟩, z.2⟩)
      · intro q j hj hh2
        rw [hy j hj] at hh2
        have hb := of_decide_eq_true hh2.1
        rw [bt_night j (by omega)] at hh2
        have := q j hb.1 hb.2
        unfold pNi at this
        simp only [Bool.not_eq_true', decide_eq_false_iff_not] at hh2
        exact of_decide_eq_false this ⟨h61, hh2.2⟩
    by_cases hni : exN (pNi a w) h (sp a w) = true
    · rw [if_pos hni, if_neg (by rw [e3, hni]; decide)]; rfl
    · rw [if_neg hni, if_pos (by rw [e3]; simpa using hni)]
/-- the reference: the least of what its hours break -/
def ow (a : Ab) (w h0 k : Nat) : Nat := if pNi a w k = true then 2 else if pEv a w k = true then 3 else if h0 + a 3 w 0 ≤ k ∧ pNo a w k = true then 4 else 0
def mb (b o : Nat) : Nat := if o = 0 then b else if b = 0 then o else if b ≤ o then b else o
def fB (a : Ab) (w h0 : Nat) : Nat → Nat → Nat → Nat
  | b, _, 0 => b
  | b, k, d + 1 => fB a w h0 (mb b (ow a w h0 k)) (k + 1) d
theorem fB_eq (a : Ab) (w h0 : Nat) : ∀ d b k, (b = 0 ∨ b = 2 ∨ b = 3 ∨ b = 4) → fB a w h0 b k d = if b = 2 ∨ exN (pNi a w) k d = true then 2 else if b = 3 ∨ exN (pEv a w) k d = true then 3 else if b = 4 ∨ exN (fun k => decide (h0 + a 3 w 0 ≤ k) && pNo a w k) k d = true then 4 else 0 := by
  intro d
  induction d with
  | zero => intro b k hb; unfold fB exN; rcases hb with rfl | rfl | rfl | rfl <;> rfl
  | succ d ih =>
    intro b k hb
    have hm : mb b (ow a w h0 k) = 0 ∨ mb b (ow a w h0 k) = 2 ∨ mb b (ow a w h0 k) = 3 ∨ mb b (ow a w h0 k) = 4 := by
      unfold mb ow
      rcases hb with rfl | rfl | rfl | rfl <;> (repeat' split) <;> omega
    unfold fB
    rw [ih _ _ hm]
    unfold mb ow
    simp only [exN_s]
    rcases Bool.eq_false_or_eq_true (pNi a w k) with e1 | e1 <;> rcases Bool.eq_false_or_eq_true (pEv a w k) with e2 | e2 <;> rcases Bool.eq_false_or_eq_true (pNo a w k) with e3 | e3 <;> by_cases hq : h0 + a 3 w 0 ≤ k <;> rcases hb with rfl | rfl | rfl | rfl <;> simp [hq, e1, e2, e3]
theorem exN_shift {p : Nat → Bool} {h s l : Nat} : exN (fun k => decide (h + s ≤ k) && p k) h (s + l) = exN p (h + s) l := by
  rw [Bool.eq_iff_iff, exN_iff, exN_iff]
  constructor
  · rintro ⟨j, h1, h2, q⟩
    simp only [Bool.and_eq_true, decide_eq_true_eq] at q
    exact ⟨j, q.1, by omega, q.2⟩
  · rintro ⟨j, h1, h2, q⟩
    exact ⟨j, by omega, by omega, by simp only [Bool.and_eq_true, decide_eq_true_eq]; exact ⟨h1, q⟩⟩
theorem ba_M {n : Nat} {a : Ab} {T : St} (hI : Inv n a) (hM : EncM a T) {w h0 : Nat} (hw : w < a 1 0 0) (hw4 : w < 4) (hh : h0 + sp a w ≤ 36) (kk : St → Int32 → Option Int32) : ∀ (d m b k : Nat), b ≤ 4 → h0 ≤ k → k + d = h0 + sp a w → d < m → f_X4_breaksAlone_L21 kk m T (nI w) (nI h0) (nI b) (nI k) = kk T (nI (fB a w h0 b k d)) := by
  obtain ⟨m2, m3, m8, m9, m10, m13⟩ := hM.2.2.1 w hw
  obtain ⟨n6, n12, n20, n4, n5, n7⟩ := hM.2.2.2.1 w hw4
  have iW := hI.2.2.2.2.1 w hw4
  have iM := hI.2.2.2.1 w hw
  intro d
  induction d with
  | zero =>
    intro m b k hb hk he hm
    obtain ⟨m, rfl⟩ : ∃ q, m = q + 1 := ⟨m - 1, by omega⟩
    rw [u_X4_breaksAlone_L21, span_M hM hw hw4, Option.bind_some, nI_add, if_pos (nI_le (by omega) (by omega))]
    rfl
  | succ d ih =>
    intro m b k hb hk he hm
    obtain ⟨m, rfl⟩ : ∃ q, m = q + 1 := ⟨m - 1, by omega⟩
    have hk36 : k < 36 := by omega
    have hmb : mb b (ow a w h0 k) ≤ 4 := by
      unfold mb ow
      (repeat' split) <;> omega
    have goal : f_X4_breaksAlone_L21 kk m T (nI w) (nI h0) (nI (mb b (ow a w h0 k))) (nI (k + 1)) = kk T (nI (fB a w h0 b k (d + 1))) := ih m _ (k + 1) hmb (by omega) (by omega) (by omega)
    have h137 : ∀ o, o = ow a w h0 k → f_X4_breaksAlone_L137 (f_X4_breaksAlone_L21 kk m) kk T (nI w) (nI h0) (nI b) (nI k) (nI o) = kk T (nI (fB a w h0 b k (d + 1))) := by
      intro o eo
      have ho : o ≤ 4 := by rw [eo]; unfold ow; (repeat' split) <;> omega
      unfold f_X4_breaksAlone_L137
      rw [nI_1, ← goal, ← eo]
      have k1 : (nI o ≤ 0) = (o ≤ 0) := leI (y := 0) (by omega) (by omega)
      have k2 : (nI b = 0) = (b = 0) := eqI (y := 0) (by omega) (by omega)
      have k3 : (nI b ≤ nI o) = (b ≤ o) := leI (by omega) (by omega)
      simp only [k1, k2, k3]
      unfold mb
      by_cases o0 : o = 0
      · rw [if_pos (by omega), if_pos o0]
      · rw [if_neg (by omega), if_neg o0]
        by_cases b0 : b = 0
        · rw [if_pos b0, if_pos b0]
        · rw [if_neg b0, if_neg b0]
          by_cases bo : b ≤ o
          · rw [if_pos bo, if_pos bo]
          · rw [if_neg bo, if_neg bo]
    have h78 : pNi a w k = false → f_X4_breaksAlone_L78 (f_X4_breaksAlone_L21 kk m) kk T (nI w) (nI h0) (nI b) (nI k) = kk T (nI (fB a w h0 b k (d + 1))) := by
      intro hni
      unfold f_X4_breaksAlone_L78 f_X4_breaksAlone_L136
      simp only [c144 hw4 hk36, g144 hw4 hk36, cI (show w < 100000 by omega), gI4 hw4, if_false, n7 k hk36, m3, m8, m9, nI_add]
      have i7 := iW.2.2.2.2.2.2.2.2.2 k hk36
      have k1 : (nI (a 7 w k) = 0) = (a 7 w k = 0) := eqI (y := 0) (by omega) (by omega)
      have k2 : (nI k < nI (h0 + a 3 w 0)) = (k < h0 + a 3 w 0) := ltI (by omega) (by have := iM.2.2.1; omega)
      have k3 : (nI k < nI (a 8 w 0)) = (k < a 8 w 0) := ltI (by omega) (by have := iW.2.2.2.2.1; omega)
      have k4 : (nI (a 9 w 0) < nI k) = (a 9 w 0 < k) := ltI (by have := iW.2.2.2.2.2.1; omega) (by omega)
      simp only [k1, k2, k3, k4]
      by_cases hev : a 7 w k = 1
      · rw [if_neg (by omega)]
        exact h137 3 (by unfold ow; rw [hni, if_neg (by decide), if_pos (by unfold pEv; exact decide_eq_true hev)])
      · have pe : pEv a w k = false := decide_eq_false hev
        rw [if_pos (by omega)]
        by_cases c1 : k < h0 + a 3 w 0
        · rw [if_pos c1]
          exact h137 0 (by unfold ow; rw [hni, pe, if_neg (by decide), if_neg (by decide), if_neg (by omega)])
        · rw [if_neg c1]
          by_cases c2 : k < a 8 w 0
          · rw [if_pos c2]
            exact h137 0 (by unfold ow pNo; rw [hni, pe, if_neg (by decide), if_neg (by decide), if_neg (by simp; omega)])
          · rw [if_neg c2]
            by_cases c3 : a 9 w 0 < k
            · rw [if_pos c3]
              exact h137 0 (by unfold ow pNo; rw [hni, pe, if_neg (by decide), if_neg (by decide), if_neg (by simp; omega)])
            · rw [if_neg c3]
              exact h137 4 (by unfold ow pNo; rw [hni, pe, if_neg (by decide), if_neg (by decide), if_pos (by simp; omega)])
    have h58 : ∀ y0 : Nat, (y0 = if 20 ≤ k % 24 ∨ k % 24 ≤ 4 then 1 else 0) → f_X4_breaksAlone_L58 (f_X4_breaksAlone_L21 kk m) kk T (nI w) (nI h0) (nI b) (nI k) (nI y0) = kk T (nI (fB a w h0 b k (d + 1))) := by
      intro y0 ey
      unfold f_X4_breaksAlone_L58
      have hy : y0 ≤ 1 := by rw [ey]; split <;> omega
      simp only [cI (show w < 100000 by omega), gI4 hw4, if_false, n6]
      have k1 : (nI (a 6 w 0) = 0) = (a 6 w 0 = 0) := eqI (y := 0) (by have := iW.1; omega) (by omega)
      have k2 : (nI y0 = 0) = (y0 = 0) := eqI (y := 0) (by omega) (by omega)
      simp only [k1, k2]
      by_cases hn0 : a 6 w 0 = 0
      · rw [if_pos hn0]
        exact h78 (decide_eq_false (fun z => by omega))
      · rw [if_neg hn0]
        by_cases hd : 20 ≤ k % 24 ∨ k % 24 ≤ 4
        · rw [if_pos hd] at ey
          rw [if_neg (by omega)]
          exact h78 (decide_eq_false (fun z => z.2 hd))
        · rw [if_neg hd] at ey
          rw [if_pos ey]
          exact h137 2 (by
            have : pNi a w k = true := decide_eq_true ⟨by have := iW.1; omega, hd⟩
            unfold ow; rw [if_pos this])
    rw [u_X4_breaksAlone_L21, span_M hM hw hw4, Option.bind_some, nI_add, if_neg (nI_ge (by omega) (by omega))]
    rw [show (24 : Int32) = nI 24 from rfl, pk_rem (by omega) (by omega) (by omega)]
    have hmod : k % 24 < 24 := Nat.mod_lt _ (by omega)
    have e20 : ((20 : Int32) ≤ nI (k % 24)) = (20 ≤ k % 24) := leI (x := 20) (by omega) (by omega)
    have e4 : ((4 : Int32) < nI (k % 24)) = (4 < k % 24) := ltI (x := 4) (by omega) (by omega)
    simp only [e20, e4]
    unfold f_X4_breaksAlone_L53
    by_cases c1 : 20 ≤ k % 24
    · rw [if_pos c1]; exact h58 1 (by rw [if_pos (Or.inl c1)])
    · rw [if_neg c1]
      by_cases c2 : 4 < k % 24
      · rw [if_pos c2]; exact h58 0 (by rw [if_neg (by omega)])
      · rw [if_neg c2]; exact h58 1 (by rw [if_pos (Or.inr (by omega))])
theorem al_M {n : Nat} {a : Ab} {T : St} (hI : Inv n a) (hM : EncM a T) {w h : Nat} (hw : w < a 1 0 0) (hw4 : w < 4) (hh : h < 36) : f_X4_breaksAlone T (nI w) (nI h) = some (nI (al a w h)) := by
  have hn := hI.2.1
  have hsp := sp_le hI hw
  unfold f_X4_breaksAlone al
  rw [span_M hM hw hw4, Option.bind_some, nI_add, hM.1]
  by_cases hfit : h + sp a w ≤ a 0 0 0
  case neg => rw [if_neg (nI_ge (by omega) (by omega)), if_pos (by omega)]; rfl
  rw [if_pos (nI_le hfit (by omega)), if_neg (by omega)]
  have := ba_M hI hM hw hw4 (h0 := h) (by omega) (fun _ x => some x) (sp a w) 1000 0 h (by omega) (Nat.le_refl _) rfl (by omega)
  refine Eq.trans this ?_
  rw [fB_eq a w h (sp a w) 0 h (Or.inl rfl)]
  have e : exN (fun k => decide (h + a 3 w 0 ≤ k) && pNo a w k) h (sp a w) = exN (pNo a w) (h + a 3 w 0) (a 2 w 0) := exN_shift
  rw [e]
  simp
