/-! THE LEAST PLAN. L: the late work (9: none), hr: the hour before which it can't begin. -/
def okS (a : Ab) (L hr w h : Nat) : Prop := al a w h = 0 ∧ (3 ≤ a 12 w 0 → a 13 w 0 = h + 1) ∧ (w = L → hr ≤ h) ∧ h < a 0 0 0
def mvc (a : Ab) (L w h : Nat) : Nat := if L < 4 ∧ w ≠ L ∧ a 13 w 0 ≠ h + 1 then 1 else 0
def cst (a : Ab) (L w h : Nat) : Nat := dl a w h + 10000000 * mvc a L w h
def dg (w h : Nat) : Nat := h * 36 ^ (3 - w)
/-- a start's weight: its cost and, behind it, the start as a digit -/
def wt (a : Ab) (L w h : Nat) : Nat := cst a L w h * 1679616 + dg w h
def prs (a : Ab) (v g w h : Nat) : Prop := (a 4 v w = 1 → apt a v g w h 0) ∧ (a 10 v 0 = a 10 w 0 → apt a v g w h (a 11 0 (a 10 v 0)))
/-- f goes on from t's first w starts, and keeps all rules from there on -/
def cmpl (a : Ab) (L hr w : Nat) (t f : Nat → Nat) : Prop := (∀ v, v < w → f v = t v) ∧ ∀ u, w ≤ u → u < a 1 0 0 → okS a L hr u (f u) ∧ ∀ v, v < u → prs a v (f v) u (f u)
def tw (a : Ab) (L : Nat) : Nat → Nat → (Nat → Nat) → Nat
  | _, 0, _ => 0
  | w, d + 1, f => wt a L w (f w) + tw a L (w + 1) d f
def tc (a : Ab) (L : Nat) : Nat → Nat → (Nat → Nat) → Nat
  | _, 0, _ => 0
  | w, d + 1, f => cst a L w (f w) + tc a L (w + 1) d f
def td : Nat → Nat → (Nat → Nat) → Nat
  | _, 0, _ => 0
  | w, d + 1, f => dg w (f w) + td (w + 1) d f
theorem tw_split (a : Ab) (L : Nat) (f : Nat → Nat) : ∀ d w, tw a L w d f = tc a L w d f * 1679616 + td w d f := by
  intro d
  induction d with
  | zero => intro w; simp only [tw, tc, td, Nat.zero_mul]
  | succ d ih => intro w; rw [tw, tc, td, ih (w + 1)]; unfold wt; omega
theorem tw_congr (a : Ab) (L : Nat) {f g : Nat → Nat} : ∀ d w, (∀ v, w ≤ v → v < w + d → f v = g v) → tw a L w d f = tw a L w d g := by
  intro d
  induction d with
  | zero => intro w _; rfl
  | succ d ih => intro w h; rw [tw, tw, ih (w + 1) (fun v h1 h2 => h v (by omega) (by omega)), h w (Nat.le_refl _) (by omega)]
theorem tc_congr (a : Ab) (L : Nat) {f g : Nat → Nat} : ∀ d w, (∀ v, w ≤ v → v < w + d → f v = g v) → tc a L w d f = tc a L w d g := by
  intro d
  induction d with
  | zero => intro w _; rfl
  | succ d ih => intro w h; rw [tc, tc, ih (w + 1) (fun v h1 h2 => h v (by omega) (by omega)), h w (Nat.le_refl _) (by omega)]
def isB (a : Ab) (L hr : Nat) (f : Nat → Nat) : Prop := cmpl a L hr 0 f f ∧ ∀ g, cmpl a L hr 0 g g → tw a L 0 (a 1 0 0) f ≤ tw a L 0 (a 1 0 0) g
theorem cmpl_36 {n : Nat} {a : Ab} (hI : Inv n a) {L hr : Nat} {f : Nat → Nat} (h : cmpl a L hr 0 f f) {w : Nat} (hw : w < a 1 0 0) : f w < 36 := by
  have := (h.2 w (Nat.zero_le _) hw).1.2.2.2
  have := hI.2.1
  omega
theorem td_uniq {m : Nat} (hm : m ≤ 4) {f g : Nat → Nat} (hf : ∀ w, w < m → f w < 36) (hg : ∀ w, w < m → g w < 36) {x y : Nat} (h : x * 1679616 + td 0 m f = y * 1679616 + td 0 m g) : ∀ w, w < m → f w = g w := by
  rcases (show m = 0 ∨ m = 1 ∨ m = 2 ∨ m = 3 ∨ m = 4 by omega) with rfl | rfl | rfl | rfl | rfl
  · intro w hw; omega
  · have f0 := hf 0 (by omega); have g0 := hg 0 (by omega)
    simp only [td, dg, Nat.zero_add, Nat.reduceAdd, Nat.reduceSub, Nat.reducePow] at h
    intro w hw
    rcases (show w = 0 by omega) with rfl
    omega
  · have f0 := hf 0 (by omega); have g0 := hg 0 (by omega)
    have f1 := hf 1 (by omega); have g1 := hg 1 (by omega)
    simp only [td, dg, Nat.zero_add, Nat.reduceAdd, Nat.reduceSub, Nat.reducePow] at h
    intro w hw
    rcases (show w = 0 ∨ w = 1 by omega) with rfl | rfl <;> omega
  · have f0 := hf 0 (by omega); have g0 := hg 0 (by omega)
    have f1 := hf 1 (by omega); have g1 := hg 1 (by omega)
    have f2 := hf 2 (by omega); have g2 := hg 2 (by omega)
    simp only [td, dg, Nat.zero_add, Nat.reduceAdd, Nat.reduceSub, Nat.reducePow] at h
    intro w hw
    rcases (show w = 0 ∨ w = 1 ∨ w = 2 by omega) with rfl | rfl | rfl <;> omega
  · have f0 := hf 0 (by omega); have g0 := hg 0 (by omega)
    have f1 := hf 1 (by omega); have g1 := hg 1 (by omega)
    have f2 := hf 2 (by omega); have g2 := hg 2 (by omega)
    have f3 := hf 3 (by omega); have g3 := hg 3 (by omega)
    simp only [td, dg, Nat.zero_add, Nat.reduceAdd, Nat.reduceSub, Nat.reducePow] at h
    intro w hw
    rcases (show w = 0 ∨ w = 1 ∨ w = 2 ∨ w = 3 by omega) with rfl | rfl | rfl | rfl <;> omega
theorem isB_uniq {n : Nat} {a : Ab} (hI : Inv n a) {L hr : Nat} {f g : Nat → Nat} (hf : isB a L hr f) (hg : isB a L hr g) : ∀ w, w < a 1 0 0 → f w = g w := by
  have h1 := hf.2 g hg.1
  have h2 := hg.2 f hf.1
  have h3 : tw a L 0 (a 1 0 0) f = tw a L 0 (a 1 0 0) g := Nat.le_antisymm h1 h2
  rw [tw_split, tw_split] at h3
  exact td_uniq hI.2.2.1 (fun w hw => cmpl_36 hI hf.1 hw) (fun w hw => cmpl_36 hI hg.1 hw) h3
/-- f comes before g -/
def lexL (m : Nat) (f g : Nat → Nat) : Prop := ∃ j, j < m ∧ (∀ v, v < j → f v = g v) ∧ f j < g j
theorem td_lex {m : Nat} (hm : m ≤ 4) {f g : Nat → Nat} (hf : ∀ w, w < m → f w < 36) (h : lexL m f g) : td 0 m f < td 0 m g := by
  obtain ⟨j, hj, he, hlt⟩ := h
  rcases (show m = 0 ∨ m = 1 ∨ m = 2 ∨ m = 3 ∨ m = 4 by omega) with rfl | rfl | rfl | rfl | rfl
  · omega
  · rcases (show j = 0 by omega) with rfl
    simp only [td, dg, Nat.zero_add, Nat.reduceAdd, Nat.reduceSub, Nat.reducePow]; omega
  · have f1 := hf 1 (by omega)
    rcases (show j = 0 ∨ j = 1 by omega) with rfl | rfl
    · simp only [td, dg, Nat.zero_add, Nat.reduceAdd, Nat.reduceSub, Nat.reducePow]; omega
    · have e0 := he 0 (by omega)
      simp only [td, dg, Nat.zero_add, Nat.reduceAdd, Nat.reduceSub, Nat.reducePow]; omega
  · have f1 := hf 1 (by omega)
    have f2 := hf 2 (by omega)
    rcases (show j = 0 ∨ j = 1 ∨ j = 2 by omega) with rfl | rfl | rfl
    · simp only [td, dg, Nat.zero_add, Nat.reduceAdd, Nat.reduceSub, Nat.reducePow]; omega
    · have e0 := he 0 (by omega)
      simp only [td, dg, Nat.zero_add, Nat.reduceAdd, Nat.reduceSub, Nat.reducePow]; omega
    · have e0 := he 0 (by omega)
      have e1 := he 1 (by omega)
      simp only [td, dg, Nat.zero_add, Nat.reduceAdd, Nat.reduceSub, Nat.reducePow]; omega
  · have f1 := hf 1 (by omega)
    have f2 := hf 2 (by omega)
    have f3 := hf 3 (by omega)
    rcases (show j = 0 ∨ j = 1 ∨ j = 2 ∨ j = 3 by omega) with rfl | rfl | rfl | rfl
    · simp only [td, dg, Nat.zero_add, Nat.reduceAdd, Nat.reduceSub, Nat.reducePow]; omega
    · have e0 := he 0 (by omega)
      simp only [td, dg, Nat.zero_add, Nat.reduceAdd, Nat.reduceSub, Nat.reducePow]; omega
    · have e0 := he 0 (by omega)
      have e1 := he 1 (by omega)
      simp only [td, dg, Nat.zero_add, Nat.reduceAdd, Nat.reduceSub, Nat.reducePow]; omega
    · have e0 := he 0 (by omega)
      have e1 := he 1 (by omega)
      have e2 := he 2 (by omega)
      simp only [td, dg, Nat.zero_add, Nat.reduceAdd, Nat.reduceSub, Nat.reducePow]; omega
theorem mvc_le (a : Ab) (L w h : Nat) : mvc a L w h ≤ 1 := by unfold mvc; split <;> omega
theorem cst_le {n : Nat} {a : Ab} (hI : Inv n a) {L hr w h : Nat} (hw : w < a 1 0 0) (hk : okS a L hr w h) : cst a L w h ≤ 11500000 := by
  have h1 := al_fit hk.1
  have h2 := hI.2.1
  have := dl_le hI hw (show h + sp a w ≤ 36 by omega)
  have := mvc_le a L w h
  unfold cst; omega
theorem dg_le {w h : Nat} (hh : h < 36) : dg w h ≤ 1632960 := by
  unfold dg
  have : 36 ^ (3 - w) ≤ 36 ^ 3 := Nat.pow_le_pow_right (by omega) (by omega)
  have h2 : h * 36 ^ (3 - w) ≤ 35 * 36 ^ 3 := Nat.mul_le_mul (by omega) this
  omega
theorem wt_le {n : Nat} {a : Ab} (hI : Inv n a) {L hr w h : Nat} (hw : w < a 1 0 0) (hk : okS a L hr w h) : wt a L w h ≤ 20000000000000 := by
  have := cst_le hI hw hk
  have := dg_le (w := w) (show h < 36 by have := hk.2.2.2; have := hI.2.1; omega)
  unfold wt; omega
def upT (t : Nat → Nat) (w h : Nat) : Nat → Nat := fun v => if v = w then h else t v
theorem upT_same (t : Nat → Nat) (w h : Nat) : upT t w h w = h := by simp [upT]
theorem upT_ne {t : Nat → Nat} {w h v : Nat} (e : v ≠ w) : upT t w h v = t v := by simp [upT, e]
theorem cmpl_mono {a : Ab} {L hr w : Nat} {t f : Nat → Nat} (hc : cmpl a L hr w t f) : cmpl a L hr (w + 1) (upT t w (f w)) f := by
  refine ⟨fun v hv => ?_, fun u h1 h2 => hc.2 u (by omega) h2⟩
  by_cases e : v = w
  · rw [e, upT_same]
  · rw [upT_ne e]; exact hc.1 v (by omega)
theorem cmpl_back {a : Ab} {L hr w h : Nat} {t f : Nat → Nat} (hk : okS a L hr w h) (hp : ∀ v, v < w → prs a v (t v) w h) (hc : cmpl a L hr (w + 1) (upT t w h) f) : cmpl a L hr w t f ∧ f w = h := by
  have e1 : f w = h := by have := hc.1 w (by omega); rw [upT_same] at this; exact this
  have e2 : ∀ v, v < w → f v = t v := fun v hv => by have := hc.1 v (by omega); rw [upT_ne (by omega)] at this; exact this
  refine ⟨⟨e2, fun u h1 h2 => ?_⟩, e1⟩
  by_cases e : u = w
  · subst e
    rw [e1]
    exact ⟨hk, fun v hv => by rw [e2 v hv]; exact hp v hv⟩
  · exact hc.2 u (by omega) h2
