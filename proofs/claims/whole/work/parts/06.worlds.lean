/-- the classes of the arrays: 0 int[], 1 long[], 2 Work[], 3 int[][], 4 long[][], 5 boolean[] -/
def xty (cy : Nat → ClassId) : List (ClassId × FieldType) := [(cy 0, .int), (cy 1, .long), (cy 2, .object "ClosureHours$Work"), (cy 3, .array .int), (cy 4, .array .long), (cy 5, .boolean)]
def fsR (ad : Nat → Nat) (S : St) : List Value := [.int (S.1 0 0 0), .ref (ad 1), .ref (ad 2), .ref (ad 3), .ref (ad 4), .int (S.1 1 0 0), .int (S.1 2 0 0), .int (S.1 3 0 0)]
def fsN (ad : Nat → Nat) (S : St) : List Value := [.ref (ad 5), .ref (ad 6), .int (S.1 13 0 0)]
def fsS (ad : Nat → Nat) (S : St) : List Value := [.ref (ad 7), .ref (ad 11), .ref (ad 12), .ref (ad 13), .ref (ad 8), .ref (ad 14), .ref (ad 9), .ref (ad 10), .long (S.2 4 0 0), .int (S.1 22 0 0)]
def fsW (ad : Nat → Nat) (S : St) (w : Nat) : List Value := [.ref (ad (19 + w)), .int (S.1 4 w 0), .int (S.1 5 w 0), .int (S.1 6 w 0), .long (S.2 0 w 0), .long (S.2 1 w 0), .int (S.1 7 w 0), .int (S.1 8 w 0), .int (S.1 9 w 0), .int (S.1 10 w 0)]
def rfA (ad : Nat → Nat) (b : Nat) : Nat → Option Nat := fun i => some (ad (b + i))
def wC (cy : Nat → ClassId) (ad : Nat → Nat) (S : St) : va_W := [(ad 0, .inr (3, fsR ad S)), (ad 1, .inl (cy 2, 4, .inr (.inr (.inr (.inr (rfA ad 15)))))), (ad 2, .inl (cy 0, 4, .inl (S.1 12 0))), (ad 3, .inr (0, fsN ad S)), (ad 4, .inr (1, fsS ad S)), (ad 5, .inl (cy 0, 200, .inl (S.1 14 0))), (ad 6, .inl (cy 0, 200, .inl (S.1 15 0))), (ad 7, .inl (cy 0, 4, .inl (S.1 16 0))), (ad 8, .inl (cy 0, 4, .inl (S.1 19 0))), (ad 9, .inl (cy 0, 4, .inl (S.1 20 0))), (ad 10, .inl (cy 0, 4, .inl (S.1 21 0))), (ad 11, .inl (cy 3, 4, .inr (.inr (.inr (.inr (rfA ad 23)))))), (ad 12, .inl (cy 4, 4, .inr (.inr (.inr (.inr (rfA ad 27)))))), (ad 13, .inl (cy 3, 4, .inr (.inr (.inr (.inr (rfA ad 31)))))), (ad 14, .inl (cy 4, 4, .inr (.inr (.inr (.inr (rfA ad 35)))))), (ad 15, .inr (2, fsW ad S 0)), (ad 16, .inr (2, fsW ad S 1)), (ad 17, .inr (2, fsW ad S 2)), (ad 18, .inr (2, fsW ad S 3)), (ad 19, .inl (cy 0, 36, .inl (S.1 11 0))), (ad 20, .inl (cy 0, 36, .inl (S.1 11 1))), (ad 21, .inl (cy 0, 36, .inl (S.1 11 2))), (ad 22, .inl (cy 0, 36, .inl (S.1 11 3))), (ad 23, .inl (cy 0, 4, .inl (S.1 17 0))), (ad 24, .inl (cy 0, 4, .inl (S.1 17 1))), (ad 25, .inl (cy 0, 4, .inl (S.1 17 2))), (ad 26, .inl (cy 0, 4, .inl (S.1 17 3))), (ad 27, .inl (cy 1, 36, .inr (.inl (S.2 2 0)))), (ad 28, .inl (cy 1, 36, .inr (.inl (S.2 2 1)))), (ad 29, .inl (cy 1, 36, .inr (.inl (S.2 2 2)))), (ad 30, .inl (cy 1, 36, .inr (.inl (S.2 2 3)))), (ad 31, .inl (cy 0, 36, .inl (S.1 18 0))), (ad 32, .inl (cy 0, 36, .inl (S.1 18 1))), (ad 33, .inl (cy 0, 36, .inl (S.1 18 2))), (ad 34, .inl (cy 0, 36, .inl (S.1 18 3))), (ad 35, .inl (cy 1, 4, .inr (.inl (S.2 3 0)))), (ad 36, .inl (cy 1, 4, .inr (.inl (S.2 3 1)))), (ad 37, .inl (cy 1, 4, .inr (.inl (S.2 3 2)))), (ad 38, .inl (cy 1, 4, .inr (.inl (S.2 3 3))))]
theorem gC_root (cy : Nat → ClassId) (ad : Nat → Nat) (S : St) : (wC cy ad S)[0]? = some (ad 0, .inr (3, fsR ad S)) := rfl
theorem gC_works (cy : Nat → ClassId) (ad : Nat → Nat) (S : St) : (wC cy ad S)[1]? = some (ad 1, .inl (cy 2, 4, .inr (.inr (.inr (.inr (rfA ad 15)))))) := rfl
theorem gC_rests (cy : Nat → ClassId) (ad : Nat → Nat) (S : St) : (wC cy ad S)[2]? = some (ad 2, .inl (cy 0, 4, .inl (S.1 12 0))) := rfl
theorem gC_nots (cy : Nat → ClassId) (ad : Nat → Nat) (S : St) : (wC cy ad S)[3]? = some (ad 3, .inr (0, fsN ad S)) := rfl
theorem gC_srch (cy : Nat → ClassId) (ad : Nat → Nat) (S : St) : (wC cy ad S)[4]? = some (ad 4, .inr (1, fsS ad S)) := rfl
theorem gC_nwk (cy : Nat → ClassId) (ad : Nat → Nat) (S : St) : (wC cy ad S)[5]? = some (ad 5, .inl (cy 0, 200, .inl (S.1 14 0))) := rfl
theorem gC_nst (cy : Nat → ClassId) (ad : Nat → Nat) (S : St) : (wC cy ad S)[6]? = some (ad 6, .inl (cy 0, 200, .inl (S.1 15 0))) := rfl
theorem gC_spans (cy : Nat → ClassId) (ad : Nat → Nat) (S : St) : (wC cy ad S)[7]? = some (ad 7, .inl (cy 0, 4, .inl (S.1 16 0))) := rfl
theorem gC_offd (cy : Nat → ClassId) (ad : Nat → Nat) (S : St) : (wC cy ad S)[8]? = some (ad 8, .inl (cy 0, 4, .inl (S.1 19 0))) := rfl
theorem gC_trial (cy : Nat → ClassId) (ad : Nat → Nat) (S : St) : (wC cy ad S)[9]? = some (ad 9, .inl (cy 0, 4, .inl (S.1 20 0))) := rfl
theorem gC_best (cy : Nat → ClassId) (ad : Nat → Nat) (S : St) : (wC cy ad S)[10]? = some (ad 10, .inl (cy 0, 4, .inl (S.1 21 0))) := rfl
theorem gC_gapsO (cy : Nat → ClassId) (ad : Nat → Nat) (S : St) : (wC cy ad S)[11]? = some (ad 11, .inl (cy 3, 4, .inr (.inr (.inr (.inr (rfA ad 23)))))) := rfl
theorem gC_weisO (cy : Nat → ClassId) (ad : Nat → Nat) (S : St) : (wC cy ad S)[12]? = some (ad 12, .inl (cy 4, 4, .inr (.inr (.inr (.inr (rfA ad 27)))))) := rfl
theorem gC_ordO (cy : Nat → ClassId) (ad : Nat → Nat) (S : St) : (wC cy ad S)[13]? = some (ad 13, .inl (cy 3, 4, .inr (.inr (.inr (.inr (rfA ad 31)))))) := rfl
theorem gC_leftO (cy : Nat → ClassId) (ad : Nat → Nat) (S : St) : (wC cy ad S)[14]? = some (ad 14, .inl (cy 4, 4, .inr (.inr (.inr (.inr (rfA ad 35)))))) := rfl
theorem gC_work (cy : Nat → ClassId) (ad : Nat → Nat) (S : St) {w : Nat} (hw : w < 4) : (wC cy ad S)[15 + w]? = some (ad (15 + w), .inr (2, fsW ad S w)) := by
  match w, hw with
  | 0, _ => rfl
  | 1, _ => rfl
  | 2, _ => rfl
  | 3, _ => rfl
theorem gC_dly (cy : Nat → ClassId) (ad : Nat → Nat) (S : St) {w : Nat} (hw : w < 4) : (wC cy ad S)[19 + w]? = some (ad (19 + w), .inl (cy 0, 36, .inl (S.1 11 w))) := by
  match w, hw with
  | 0, _ => rfl
  | 1, _ => rfl
  | 2, _ => rfl
  | 3, _ => rfl
theorem gC_gaps (cy : Nat → ClassId) (ad : Nat → Nat) (S : St) {w : Nat} (hw : w < 4) : (wC cy ad S)[23 + w]? = some (ad (23 + w), .inl (cy 0, 4, .inl (S.1 17 w))) := by
  match w, hw with
  | 0, _ => rfl
  | 1, _ => rfl
  | 2, _ => rfl
  | 3, _ => rfl
theorem gC_weis (cy : Nat → ClassId) (ad : Nat → Nat) (S : St) {w : Nat} (hw : w < 4) : (wC cy ad S)[27 + w]? = some (ad (27 + w), .inl (cy 1, 36, .inr (.inl (S.2 2 w)))) := by
  match w, hw with
  | 0, _ => rfl
  | 1, _ => rfl
  | 2, _ => rfl
  | 3, _ => rfl
theorem gC_ord (cy : Nat → ClassId) (ad : Nat → Nat) (S : St) {w : Nat} (hw : w < 4) : (wC cy ad S)[31 + w]? = some (ad (31 + w), .inl (cy 0, 36, .inl (S.1 18 w))) := by
  match w, hw with
  | 0, _ => rfl
  | 1, _ => rfl
  | 2, _ => rfl
  | 3, _ => rfl
theorem gC_left (cy : Nat → ClassId) (ad : Nat → Nat) (S : St) {w : Nat} (hw : w < 4) : (wC cy ad S)[35 + w]? = some (ad (35 + w), .inl (cy 1, 4, .inr (.inl (S.2 3 w)))) := by
  match w, hw with
  | 0, _ => rfl
  | 1, _ => rfl
  | 2, _ => rfl
  | 3, _ => rfl
theorem sC_made (cy : Nat → ClassId) (ad : Nat → Nat) (S : St) (v : Int32) : (wC cy ad S).set 0 (ad 0, .inr (3, (fsR ad S).set 5 (.int v))) = wC cy ad (xI S 1 0 0 v) := rfl
theorem sC_moved (cy : Nat → ClassId) (ad : Nat → Nat) (S : St) (v : Int32) : (wC cy ad S).set 0 (ad 0, .inr (3, (fsR ad S).set 6 (.int v))) = wC cy ad (xI S 2 0 0 v) := rfl
theorem sC_cents (cy : Nat → ClassId) (ad : Nat → Nat) (S : St) (v : Int32) : (wC cy ad S).set 0 (ad 0, .inr (3, (fsR ad S).set 7 (.int v))) = wC cy ad (xI S 3 0 0 v) := rfl
theorem sC_total (cy : Nat → ClassId) (ad : Nat → Nat) (S : St) (v : Int32) : (wC cy ad S).set 3 (ad 3, .inr (0, (fsN ad S).set 2 (.int v))) = wC cy ad (xI S 13 0 0 v) := rfl
theorem sC_bestW (cy : Nat → ClassId) (ad : Nat → Nat) (S : St) (v : Int64) : (wC cy ad S).set 4 (ad 4, .inr (1, (fsS ad S).set 8 (.long v))) = wC cy ad (xJ S 4 0 0 v) := rfl
theorem sC_many (cy : Nat → ClassId) (ad : Nat → Nat) (S : St) (v : Int32) : (wC cy ad S).set 4 (ad 4, .inr (1, (fsS ad S).set 9 (.int v))) = wC cy ad (xI S 22 0 0 v) := rfl
theorem sC_len (cy : Nat → ClassId) (ad : Nat → Nat) (S : St) (v : Int32) {w : Nat} (hw : w < 4) : (wC cy ad S).set (15 + w) (ad (15 + w), .inr (2, (fsW ad S w).set 1 (.int v))) = wC cy ad (xI S 4 w 0 v) := by
  match w, hw with
  | 0, _ => rfl
  | 1, _ => rfl
  | 2, _ => rfl
  | 3, _ => rfl
theorem sC_su (cy : Nat → ClassId) (ad : Nat → Nat) (S : St) (v : Int32) {w : Nat} (hw : w < 4) : (wC cy ad S).set (15 + w) (ad (15 + w), .inr (2, (fsW ad S w).set 2 (.int v))) = wC cy ad (xI S 5 w 0 v) := by
  match w, hw with
  | 0, _ => rfl
  | 1, _ => rfl
  | 2, _ => rfl
  | 3, _ => rfl
theorem sC_night (cy : Nat → ClassId) (ad : Nat → Nat) (S : St) (v : Int32) {w : Nat} (hw : w < 4) : (wC cy ad S).set (15 + w) (ad (15 + w), .inr (2, (fsW ad S w).set 3 (.int v))) = wC cy ad (xI S 6 w 0 v) := by
  match w, hw with
  | 0, _ => rfl
  | 1, _ => rfl
  | 2, _ => rfl
  | 3, _ => rfl
theorem sC_evb (cy : Nat → ClassId) (ad : Nat → Nat) (S : St) (v : Int64) {w : Nat} (hw : w < 4) : (wC cy ad S).set (15 + w) (ad (15 + w), .inr (2, (fsW ad S w).set 4 (.long v))) = wC cy ad (xJ S 0 w 0 v) := by
  match w, hw with
  | 0, _ => rfl
  | 1, _ => rfl
  | 2, _ => rfl
  | 3, _ => rfl
theorem sC_nob (cy : Nat → ClassId) (ad : Nat → Nat) (S : St) (v : Int64) {w : Nat} (hw : w < 4) : (wC cy ad S).set (15 + w) (ad (15 + w), .inr (2, (fsW ad S w).set 5 (.long v))) = wC cy ad (xJ S 1 w 0 v) := by
  match w, hw with
  | 0, _ => rfl
  | 1, _ => rfl
  | 2, _ => rfl
  | 3, _ => rfl
theorem sC_nearb (cy : Nat → ClassId) (ad : Nat → Nat) (S : St) (v : Int32) {w : Nat} (hw : w < 4) : (wC cy ad S).set (15 + w) (ad (15 + w), .inr (2, (fsW ad S w).set 6 (.int v))) = wC cy ad (xI S 7 w 0 v) := by
  match w, hw with
  | 0, _ => rfl
  | 1, _ => rfl
  | 2, _ => rfl
  | 3, _ => rfl
theorem sC_crew (cy : Nat → ClassId) (ad : Nat → Nat) (S : St) (v : Int32) {w : Nat} (hw : w < 4) : (wC cy ad S).set (15 + w) (ad (15 + w), .inr (2, (fsW ad S w).set 7 (.int v))) = wC cy ad (xI S 8 w 0 v) := by
  match w, hw with
  | 0, _ => rfl
  | 1, _ => rfl
  | 2, _ => rfl
  | 3, _ => rfl
theorem sC_start (cy : Nat → ClassId) (ad : Nat → Nat) (S : St) (v : Int32) {w : Nat} (hw : w < 4) : (wC cy ad S).set (15 + w) (ad (15 + w), .inr (2, (fsW ad S w).set 8 (.int v))) = wC cy ad (xI S 9 w 0 v) := by
  match w, hw with
  | 0, _ => rfl
  | 1, _ => rfl
  | 2, _ => rfl
  | 3, _ => rfl
theorem sC_state (cy : Nat → ClassId) (ad : Nat → Nat) (S : St) (v : Int32) {w : Nat} (hw : w < 4) : (wC cy ad S).set (15 + w) (ad (15 + w), .inr (2, (fsW ad S w).set 9 (.int v))) = wC cy ad (xI S 10 w 0 v) := by
  match w, hw with
  | 0, _ => rfl
  | 1, _ => rfl
  | 2, _ => rfl
  | 3, _ => rfl
theorem sC_rests (cy : Nat → ClassId) (ad : Nat → Nat) (S : St) (i : Nat) (v : Int32) : (wC cy ad S).set 2 (ad 2, .inl (cy 0, 4, .inl (upd (S.1 12 0) i v))) = wC cy ad (xI S 12 0 i v) := by
  rw [← xI_row]; rfl
theorem sC_nwk (cy : Nat → ClassId) (ad : Nat → Nat) (S : St) (i : Nat) (v : Int32) : (wC cy ad S).set 5 (ad 5, .inl (cy 0, 200, .inl (upd (S.1 14 0) i v))) = wC cy ad (xI S 14 0 i v) := by
  rw [← xI_row]; rfl
theorem sC_nst (cy : Nat → ClassId) (ad : Nat → Nat) (S : St) (i : Nat) (v : Int32) : (wC cy ad S).set 6 (ad 6, .inl (cy 0, 200, .inl (upd (S.1 15 0) i v))) = wC cy ad (xI S 15 0 i v) := by
  rw [← xI_row]; rfl
theorem sC_spans (cy : Nat → ClassId) (ad : Nat → Nat) (S : St) (i : Nat) (v : Int32) : (wC cy ad S).set 7 (ad 7, .inl (cy 0, 4, .inl (upd (S.1 16 0) i v))) = wC cy ad (xI S 16 0 i v) := by
  rw [← xI_row]; rfl
theorem sC_offd (cy : Nat → ClassId) (ad : Nat → Nat) (S : St) (i : Nat) (v : Int32) : (wC cy ad S).set 8 (ad 8, .inl (cy 0, 4, .inl (upd (S.1 19 0) i v))) = wC cy ad (xI S 19 0 i v) := by
  rw [← xI_row]; rfl
theorem sC_trial (cy : Nat → ClassId) (ad : Nat → Nat) (S : St) (i : Nat) (v : Int32) : (wC cy ad S).set 9 (ad 9, .inl (cy 0, 4, .inl (upd (S.1 20 0) i v))) = wC cy ad (xI S 20 0 i v) := by
  rw [← xI_row]; rfl
theorem sC_best (cy : Nat → ClassId) (ad : Nat → Nat) (S : St) (i : Nat) (v : Int32) : (wC cy ad S).set 10 (ad 10, .inl (cy 0, 4, .inl (upd (S.1 21 0) i v))) = wC cy ad (xI S 21 0 i v) := by
  rw [← xI_row]; rfl
theorem sC_bestR (cy : Nat → ClassId) (ad : Nat → Nat) (S : St) (g : Nat → Int32) : (wC cy ad S).set 10 (ad 10, .inl (cy 0, 4, .inl g)) = wC cy ad (xR S 21 0 g) := by
  conv => lhs; rw [← xR_row S 21 0 g]
  rfl
theorem sC_dly (cy : Nat → ClassId) (ad : Nat → Nat) (S : St) (i : Nat) (v : Int32) {w : Nat} (hw : w < 4) : (wC cy ad S).set (19 + w) (ad (19 + w), .inl (cy 0, 36, .inl (upd (S.1 11 w) i v))) = wC cy ad (xI S 11 w i v) := by
  rw [← xI_row]
  match w, hw with
  | 0, _ => rfl
  | 1, _ => rfl
  | 2, _ => rfl
  | 3, _ => rfl
theorem sC_gaps (cy : Nat → ClassId) (ad : Nat → Nat) (S : St) (i : Nat) (v : Int32) {w : Nat} (hw : w < 4) : (wC cy ad S).set (23 + w) (ad (23 + w), .inl (cy 0, 4, .inl (upd (S.1 17 w) i v))) = wC cy ad (xI S 17 w i v) := by
  rw [← xI_row]
  match w, hw with
  | 0, _ => rfl
  | 1, _ => rfl
  | 2, _ => rfl
  | 3, _ => rfl
theorem sC_weis (cy : Nat → ClassId) (ad : Nat → Nat) (S : St) (i : Nat) (v : Int64) {w : Nat} (hw : w < 4) : (wC cy ad S).set (27 + w) (ad (27 + w), .inl (cy 1, 36, .inr (.inl (vp_updL (S.2 2 w) i v)))) = wC cy ad (xJ S 2 w i v) := by
  rw [← xJ_row]
  match w, hw with
  | 0, _ => rfl
  | 1, _ => rfl
  | 2, _ => rfl
  | 3, _ => rfl
theorem sC_ord (cy : Nat → ClassId) (ad : Nat → Nat) (S : St) (i : Nat) (v : Int32) {w : Nat} (hw : w < 4) : (wC cy ad S).set (31 + w) (ad (31 + w), .inl (cy 0, 36, .inl (upd (S.1 18 w) i v))) = wC cy ad (xI S 18 w i v) := by
  rw [← xI_row]
  match w, hw with
  | 0, _ => rfl
  | 1, _ => rfl
  | 2, _ => rfl
  | 3, _ => rfl
theorem sC_left (cy : Nat → ClassId) (ad : Nat → Nat) (S : St) (i : Nat) (v : Int64) {w : Nat} (hw : w < 4) : (wC cy ad S).set (35 + w) (ad (35 + w), .inl (cy 1, 4, .inr (.inl (vp_updL (S.2 3 w) i v)))) = wC cy ad (xJ S 3 w i v) := by
  rw [← xJ_row]
  match w, hw with
  | 0, _ => rfl
  | 1, _ => rfl
  | 2, _ => rfl
  | 3, _ => rfl
def fsM (ad : Nat → Nat) (S : St) : List Value := [.int (S.1 0 0 0), .int (S.1 1 0 0), .ref (ad 1), .ref (ad 2), .ref (ad 3), .ref (ad 4), .ref (ad 5), .ref (ad 6), .ref (ad 7), .ref (ad 8), .ref (ad 9), .ref (ad 10), .ref (ad 11), .ref (ad 12), .ref (ad 13), .ref (ad 14), .ref (ad 15), .ref (ad 16), .ref (ad 17), .ref (ad 18), .ref (ad 19), .int (S.1 21 0 0), .ref (ad 20), .ref (ad 21), .long (S.2 0 0 0)]
def wM (cy : Nat → ClassId) (ad : Nat → Nat) (S : St) : va_W := [(ad 0, .inr (4, fsM ad S)), (ad 1, .inl (cy 0, 4, .inl (S.1 2 0))), (ad 2, .inl (cy 0, 4, .inl (S.1 3 0))), (ad 3, .inl (cy 5, 16, .inl (S.1 4 0))), (ad 4, .inl (cy 0, 144, .inl (S.1 5 0))), (ad 5, .inl (cy 5, 4, .inl (S.1 6 0))), (ad 6, .inl (cy 5, 144, .inl (S.1 7 0))), (ad 7, .inl (cy 0, 4, .inl (S.1 8 0))), (ad 8, .inl (cy 0, 4, .inl (S.1 9 0))), (ad 9, .inl (cy 0, 4, .inl (S.1 10 0))), (ad 10, .inl (cy 0, 4, .inl (S.1 11 0))), (ad 11, .inl (cy 0, 4, .inl (S.1 12 0))), (ad 12, .inl (cy 0, 4, .inl (S.1 13 0))), (ad 13, .inl (cy 0, 4, .inl (S.1 14 0))), (ad 14, .inl (cy 0, 4, .inl (S.1 15 0))), (ad 15, .inl (cy 0, 4, .inl (S.1 16 0))), (ad 16, .inl (cy 0, 4, .inl (S.1 17 0))), (ad 17, .inl (cy 5, 144, .inl (S.1 18 0))), (ad 18, .inl (cy 0, 144, .inl (S.1 19 0))), (ad 19, .inl (cy 5, 4, .inl (S.1 20 0))), (ad 20, .inl (cy 0, 200, .inl (S.1 22 0))), (ad 21, .inl (cy 0, 200, .inl (S.1 23 0)))]
theorem gM_root (cy : Nat → ClassId) (ad : Nat → Nat) (S : St) : (wM cy ad S)[0]? = some (ad 0, .inr (4, fsM ad S)) := rfl
theorem gM_lengths (cy : Nat → ClassId) (ad : Nat → Nat) (S : St) : (wM cy ad S)[1]? = some (ad 1, .inl (cy 0, 4, .inl (S.1 2 0))) := rfl
theorem sM_lengths (cy : Nat → ClassId) (ad : Nat → Nat) (S : St) (i : Nat) (v : Int32) : (wM cy ad S).set 1 (ad 1, .inl (cy 0, 4, .inl (upd (S.1 2 0) i v))) = wM cy ad (xI S 2 0 i v) := by
  rw [← xI_row]; rfl
theorem gM_setUps (cy : Nat → ClassId) (ad : Nat → Nat) (S : St) : (wM cy ad S)[2]? = some (ad 2, .inl (cy 0, 4, .inl (S.1 3 0))) := rfl
theorem sM_setUps (cy : Nat → ClassId) (ad : Nat → Nat) (S : St) (i : Nat) (v : Int32) : (wM cy ad S).set 2 (ad 2, .inl (cy 0, 4, .inl (upd (S.1 3 0) i v))) = wM cy ad (xI S 3 0 i v) := by
  rw [← xI_row]; rfl
theorem gM_nears (cy : Nat → ClassId) (ad : Nat → Nat) (S : St) : (wM cy ad S)[3]? = some (ad 3, .inl (cy 5, 16, .inl (S.1 4 0))) := rfl
theorem sM_nears (cy : Nat → ClassId) (ad : Nat → Nat) (S : St) (i : Nat) (v : Int32) : (wM cy ad S).set 3 (ad 3, .inl (cy 5, 16, .inl (upd (S.1 4 0) i v))) = wM cy ad (xI S 4 0 i v) := by
  rw [← xI_row]; rfl
theorem gM_delays (cy : Nat → ClassId) (ad : Nat → Nat) (S : St) : (wM cy ad S)[4]? = some (ad 4, .inl (cy 0, 144, .inl (S.1 5 0))) := rfl
theorem sM_delays (cy : Nat → ClassId) (ad : Nat → Nat) (S : St) (i : Nat) (v : Int32) : (wM cy ad S).set 4 (ad 4, .inl (cy 0, 144, .inl (upd (S.1 5 0) i v))) = wM cy ad (xI S 5 0 i v) := by
  rw [← xI_row]; rfl
theorem gM_nights (cy : Nat → ClassId) (ad : Nat → Nat) (S : St) : (wM cy ad S)[5]? = some (ad 5, .inl (cy 5, 4, .inl (S.1 6 0))) := rfl
theorem sM_nights (cy : Nat → ClassId) (ad : Nat → Nat) (S : St) (i : Nat) (v : Int32) : (wM cy ad S).set 5 (ad 5, .inl (cy 5, 4, .inl (upd (S.1 6 0) i v))) = wM cy ad (xI S 6 0 i v) := by
  rw [← xI_row]; rfl
theorem gM_events (cy : Nat → ClassId) (ad : Nat → Nat) (S : St) : (wM cy ad S)[6]? = some (ad 6, .inl (cy 5, 144, .inl (S.1 7 0))) := rfl
theorem sM_events (cy : Nat → ClassId) (ad : Nat → Nat) (S : St) (i : Nat) (v : Int32) : (wM cy ad S).set 6 (ad 6, .inl (cy 5, 144, .inl (upd (S.1 7 0) i v))) = wM cy ad (xI S 7 0 i v) := by
  rw [← xI_row]; rfl
theorem gM_noiseFrom (cy : Nat → ClassId) (ad : Nat → Nat) (S : St) : (wM cy ad S)[7]? = some (ad 7, .inl (cy 0, 4, .inl (S.1 8 0))) := rfl
theorem sM_noiseFrom (cy : Nat → ClassId) (ad : Nat → Nat) (S : St) (i : Nat) (v : Int32) : (wM cy ad S).set 7 (ad 7, .inl (cy 0, 4, .inl (upd (S.1 8 0) i v))) = wM cy ad (xI S 8 0 i v) := by
  rw [← xI_row]; rfl
theorem gM_noiseTo (cy : Nat → ClassId) (ad : Nat → Nat) (S : St) : (wM cy ad S)[8]? = some (ad 8, .inl (cy 0, 4, .inl (S.1 9 0))) := rfl
theorem sM_noiseTo (cy : Nat → ClassId) (ad : Nat → Nat) (S : St) (i : Nat) (v : Int32) : (wM cy ad S).set 8 (ad 8, .inl (cy 0, 4, .inl (upd (S.1 9 0) i v))) = wM cy ad (xI S 9 0 i v) := by
  rw [← xI_row]; rfl
theorem gM_crews (cy : Nat → ClassId) (ad : Nat → Nat) (S : St) : (wM cy ad S)[9]? = some (ad 9, .inl (cy 0, 4, .inl (S.1 10 0))) := rfl
theorem sM_crews (cy : Nat → ClassId) (ad : Nat → Nat) (S : St) (i : Nat) (v : Int32) : (wM cy ad S).set 9 (ad 9, .inl (cy 0, 4, .inl (upd (S.1 10 0) i v))) = wM cy ad (xI S 10 0 i v) := by
  rw [← xI_row]; rfl
theorem gM_rests (cy : Nat → ClassId) (ad : Nat → Nat) (S : St) : (wM cy ad S)[10]? = some (ad 10, .inl (cy 0, 4, .inl (S.1 11 0))) := rfl
theorem sM_rests (cy : Nat → ClassId) (ad : Nat → Nat) (S : St) (i : Nat) (v : Int32) : (wM cy ad S).set 10 (ad 10, .inl (cy 0, 4, .inl (upd (S.1 11 0) i v))) = wM cy ad (xI S 11 0 i v) := by
  rw [← xI_row]; rfl
theorem gM_states (cy : Nat → ClassId) (ad : Nat → Nat) (S : St) : (wM cy ad S)[11]? = some (ad 11, .inl (cy 0, 4, .inl (S.1 12 0))) := rfl
theorem sM_states (cy : Nat → ClassId) (ad : Nat → Nat) (S : St) (i : Nat) (v : Int32) : (wM cy ad S).set 11 (ad 11, .inl (cy 0, 4, .inl (upd (S.1 12 0) i v))) = wM cy ad (xI S 12 0 i v) := by
  rw [← xI_row]; rfl
theorem gM_starts (cy : Nat → ClassId) (ad : Nat → Nat) (S : St) : (wM cy ad S)[12]? = some (ad 12, .inl (cy 0, 4, .inl (S.1 13 0))) := rfl
theorem sM_starts (cy : Nat → ClassId) (ad : Nat → Nat) (S : St) (i : Nat) (v : Int32) : (wM cy ad S).set 12 (ad 12, .inl (cy 0, 4, .inl (upd (S.1 13 0) i v))) = wM cy ad (xI S 13 0 i v) := by
  rw [← xI_row]; rfl
theorem gM_tried (cy : Nat → ClassId) (ad : Nat → Nat) (S : St) : (wM cy ad S)[13]? = some (ad 13, .inl (cy 0, 4, .inl (S.1 14 0))) := rfl
theorem sM_tried (cy : Nat → ClassId) (ad : Nat → Nat) (S : St) (i : Nat) (v : Int32) : (wM cy ad S).set 13 (ad 13, .inl (cy 0, 4, .inl (upd (S.1 14 0) i v))) = wM cy ad (xI S 14 0 i v) := by
  rw [← xI_row]; rfl
theorem gM_best (cy : Nat → ClassId) (ad : Nat → Nat) (S : St) : (wM cy ad S)[14]? = some (ad 14, .inl (cy 0, 4, .inl (S.1 15 0))) := rfl
theorem sM_best (cy : Nat → ClassId) (ad : Nat → Nat) (S : St) (i : Nat) (v : Int32) : (wM cy ad S).set 14 (ad 14, .inl (cy 0, 4, .inl (upd (S.1 15 0) i v))) = wM cy ad (xI S 15 0 i v) := by
  rw [← xI_row]; rfl
theorem gM_othersTo (cy : Nat → ClassId) (ad : Nat → Nat) (S : St) : (wM cy ad S)[15]? = some (ad 15, .inl (cy 0, 4, .inl (S.1 16 0))) := rfl
theorem sM_othersTo (cy : Nat → ClassId) (ad : Nat → Nat) (S : St) (i : Nat) (v : Int32) : (wM cy ad S).set 15 (ad 15, .inl (cy 0, 4, .inl (upd (S.1 16 0) i v))) = wM cy ad (xI S 16 0 i v) := by
  rw [← xI_row]; rfl
theorem gM_sumTo (cy : Nat → ClassId) (ad : Nat → Nat) (S : St) : (wM cy ad S)[16]? = some (ad 16, .inl (cy 0, 4, .inl (S.1 17 0))) := rfl
theorem sM_sumTo (cy : Nat → ClassId) (ad : Nat → Nat) (S : St) (i : Nat) (v : Int32) : (wM cy ad S).set 16 (ad 16, .inl (cy 0, 4, .inl (upd (S.1 17 0) i v))) = wM cy ad (xI S 17 0 i v) := by
  rw [← xI_row]; rfl
theorem gM_alone (cy : Nat → ClassId) (ad : Nat → Nat) (S : St) : (wM cy ad S)[17]? = some (ad 17, .inl (cy 5, 144, .inl (S.1 18 0))) := rfl
theorem sM_alone (cy : Nat → ClassId) (ad : Nat → Nat) (S : St) (i : Nat) (v : Int32) : (wM cy ad S).set 17 (ad 17, .inl (cy 5, 144, .inl (upd (S.1 18 0) i v))) = wM cy ad (xI S 18 0 i v) := by
  rw [← xI_row]; rfl
theorem gM_sums (cy : Nat → ClassId) (ad : Nat → Nat) (S : St) : (wM cy ad S)[18]? = some (ad 18, .inl (cy 0, 144, .inl (S.1 19 0))) := rfl
theorem sM_sums (cy : Nat → ClassId) (ad : Nat → Nat) (S : St) (i : Nat) (v : Int32) : (wM cy ad S).set 18 (ad 18, .inl (cy 0, 144, .inl (upd (S.1 19 0) i v))) = wM cy ad (xI S 19 0 i v) := by
  rw [← xI_row]; rfl
theorem gM_movedNow (cy : Nat → ClassId) (ad : Nat → Nat) (S : St) : (wM cy ad S)[19]? = some (ad 19, .inl (cy 5, 4, .inl (S.1 20 0))) := rfl
theorem sM_movedNow (cy : Nat → ClassId) (ad : Nat → Nat) (S : St) (i : Nat) (v : Int32) : (wM cy ad S).set 19 (ad 19, .inl (cy 5, 4, .inl (upd (S.1 20 0) i v))) = wM cy ad (xI S 20 0 i v) := by
  rw [← xI_row]; rfl
theorem gM_noticeWork (cy : Nat → ClassId) (ad : Nat → Nat) (S : St) : (wM cy ad S)[20]? = some (ad 20, .inl (cy 0, 200, .inl (S.1 22 0))) := rfl
theorem sM_noticeWork (cy : Nat → ClassId) (ad : Nat → Nat) (S : St) (i : Nat) (v : Int32) : (wM cy ad S).set 20 (ad 20, .inl (cy 0, 200, .inl (upd (S.1 22 0) i v))) = wM cy ad (xI S 22 0 i v) := by
  rw [← xI_row]; rfl
theorem gM_noticeStart (cy : Nat → ClassId) (ad : Nat → Nat) (S : St) : (wM cy ad S)[21]? = some (ad 21, .inl (cy 0, 200, .inl (S.1 23 0))) := rfl
theorem sM_noticeStart (cy : Nat → ClassId) (ad : Nat → Nat) (S : St) (i : Nat) (v : Int32) : (wM cy ad S).set 21 (ad 21, .inl (cy 0, 200, .inl (upd (S.1 23 0) i v))) = wM cy ad (xI S 23 0 i v) := by
  rw [← xI_row]; rfl
theorem sM_f_works (cy : Nat → ClassId) (ad : Nat → Nat) (S : St) (v : Int32) : (wM cy ad S).set 0 (ad 0, .inr (4, (fsM ad S).set 1 (.int v))) = wM cy ad (xI S 1 0 0 v) := rfl
theorem sM_f_notices (cy : Nat → ClassId) (ad : Nat → Nat) (S : St) (v : Int32) : (wM cy ad S).set 0 (ad 0, .inr (4, (fsM ad S).set 21 (.int v))) = wM cy ad (xI S 21 0 0 v) := rfl
theorem sM_f_cents (cy : Nat → ClassId) (ad : Nat → Nat) (S : St) (v : Int64) : (wM cy ad S).set 0 (ad 0, .inr (4, (fsM ad S).set 24 (.long v))) = wM cy ad (xJ S 0 0 0 v) := rfl
