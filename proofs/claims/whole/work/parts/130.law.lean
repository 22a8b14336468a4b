theorem va_D_congr {A : Nat → Prop} {ws ws2 : va_W} (h : ws.map Prod.fst = ws2.map Prod.fst) (hD : va_D A ws) : va_D A ws2 := by
  have at2 : ∀ (k : Nat) (q : Nat × va_E), ws2[k]? = some q → ∃ q1, ws[k]? = some q1 ∧ q1.1 = q.1 := fun k q hq => by
    have h1 : (ws2.map Prod.fst)[k]? = some q.1 := by rw [List.getElem?_map, hq]; rfl
    rw [← h, List.getElem?_map] at h1
    cases hw : ws[k]? with
    | none => rw [hw] at h1; cases h1
    | some q1 => rw [hw] at h1; exact ⟨q1, rfl, Option.some.inj h1⟩
  refine ⟨fun i j p q hp hq e => ?_, fun k q hq => ?_⟩
  · obtain ⟨p1, e1, e2⟩ := at2 i p hp
    obtain ⟨q1, e3, e4⟩ := at2 j q hq
    exact hD.1 i j p1 q1 e1 e3 (by rw [e2, e4, e])
  · obtain ⟨q1, e1, e2⟩ := at2 k q hq
    rw [← e2]
    exact hD.2 k q1 e1
theorem wCM_fst (cy : Nat → ClassId) (aC aM : Nat → Nat) (S T S2 T2 : St) : (wC cy aC S ++ wM cy aM T).map Prod.fst = (wC cy aC S2 ++ wM cy aM T2).map Prod.fst := rfl
/-- what stays over the law's body -/
def LC (p : Program) (s : State) (m : MethodId) (c : Code) (D : va_G) (cy : Nat → ClassId) (aC aM tz : Nat → Nat) (b L : Nat) (xs : Nat → Int32) : Prop :=
  p.tables.exec = Jvm.exec ∧ c.code = cL_law ∧ c.maxLocals = 4 ∧ s.vm.findClass RL = some m.cls ∧ (∀ w ∈ wsL_law, w.before #[Value.ref b] s = true) ∧ va_K D vwCl (xty cy) s ∧ XN s ∧ va_X b L xs s s.heap ∧ b < s.heap.size ∧ (∀ S T : St, va_D (fun q : Nat => s.heap.size ≤ q) (wC cy aC S ++ wM cy aM T)) ∧ ZS tz (fun q : Nat => s.heap.size ≤ q) s s.heap
def LJ (p : Program) (l : Launch) (e : Env) (s : State) (m : MethodId) (b : Nat) (below : List Frame) (meth : Method) (c : Code) (D : va_G) (cy : Nat → ClassId) (aC aM : Nat → Nat) (ce sl : Nat) (Q : State → Prop) (S T : St) (pc : Nat) (lv : List (Nat × Value)) (st : List Value) : Prop :=
  ∀ (H : Heap) (locs : List Loc) (ls : Array Slot), va_P D vwCl (wC cy aC S) H → va_P D vwCl (wM cy aM T) H → va_S (fun q : Nat => s.heap.size ≤ q) s.heap H locs → lv_has ls 4 lv → W p l e room_1 s m #[Value.ref b] below meth c H locs ce sl Q (F0 m pc ls st)
section LJJ
variable {p : Program} {l : Launch} {e : Env} {s : State} {m : MethodId} {b : Nat} {below : List Frame} {meth : Method} {c : Code} {D : va_G} {cy : Nat → ClassId} {aC aM tz : Nat → Nat} {ce sl : Nat} {Q : State → Prop} {S T : St} {pc : Nat} {lv : List (Nat × Value)} {st : List Value} {L : Nat} {xs : Nat → Int32}
theorem l_iconst (C : LC p s m c D cy aC aM tz b L xs) {n : Int} {v : Int32} (hd : decode cL_law pc = .ok (.iconst n, 1)) (hv : Int32.ofInt n = v) (k : LJ p l e s m b below meth c D cy aC aM ce sl Q S T (pc + 1) lv (.int v :: st)) : LJ p l e s m b below meth c D cy aC aM ce sl Q S T pc lv st := fun H locs ls hP hQ hS hl => lv_iconst C.1 C.2.1 hd hv (k H locs ls hP hQ hS hl)
theorem l_bipush (C : LC p s m c D cy aC aM tz b L xs) {n : Int} {v : Int32} (hd : decode cL_law pc = .ok (.bipush n, 2)) (hv : (Int8.ofInt n).toInt32 = v) (k : LJ p l e s m b below meth c D cy aC aM ce sl Q S T (pc + 2) lv (.int v :: st)) : LJ p l e s m b below meth c D cy aC aM ce sl Q S T pc lv st := fun H locs ls hP hQ hS hl => lv_bipush C.1 C.2.1 hd hv (k H locs ls hP hQ hS hl)
theorem l_iload_n (C : LC p s m c D cy aC aM tz b L xs) {k0 : Fin 4} {i : Nat} {x : Int32} (hd : decode cL_law pc = .ok (.iload_n k0, 1)) (hi : (k0 : Nat) = i) (j : Nat) (hj : lv[j]? = some (i, .int x)) (k : LJ p l e s m b below meth c D cy aC aM ce sl Q S T (pc + 1) lv (.int x :: st)) : LJ p l e s m b below meth c D cy aC aM ce sl Q S T pc lv st := fun H locs ls hP hQ hS hl => lv_iload_n C.1 C.2.1 hd hi (lv_at hl j hj) (k H locs ls hP hQ hS hl)
theorem l_aload_n (C : LC p s m c D cy aC aM tz b L xs) {k0 : Fin 4} {i : Nat} {x : Nat} (hd : decode cL_law pc = .ok (.aload_n k0, 1)) (hi : (k0 : Nat) = i) (j : Nat) (hj : lv[j]? = some (i, .ref x)) (k : LJ p l e s m b below meth c D cy aC aM ce sl Q S T (pc + 1) lv (.ref x :: st)) : LJ p l e s m b below meth c D cy aC aM ce sl Q S T pc lv st := fun H locs ls hP hQ hS hl => lv_aload_n C.1 C.2.1 hd hi (lv_at hl j hj) (k H locs ls hP hQ hS hl)
theorem l_iadd (C : LC p s m c D cy aC aM tz b L xs) {x y : Int32} (hd : decode cL_law pc = .ok (.iadd, 1)) (k : LJ p l e s m b below meth c D cy aC aM ce sl Q S T (pc + 1) lv (.int (x + y) :: st)) : LJ p l e s m b below meth c D cy aC aM ce sl Q S T pc lv (.int y :: .int x :: st) := fun H locs ls hP hQ hS hl => lv_iadd C.1 C.2.1 hd (k H locs ls hP hQ hS hl)
theorem l_isub (C : LC p s m c D cy aC aM tz b L xs) {x y : Int32} (hd : decode cL_law pc = .ok (.isub, 1)) (k : LJ p l e s m b below meth c D cy aC aM ce sl Q S T (pc + 1) lv (.int (x - y) :: st)) : LJ p l e s m b below meth c D cy aC aM ce sl Q S T pc lv (.int y :: .int x :: st) := fun H locs ls hP hQ hS hl => lv_isub C.1 C.2.1 hd (k H locs ls hP hQ hS hl)
theorem l_iand (C : LC p s m c D cy aC aM tz b L xs) {x y : Int32} (hd : decode cL_law pc = .ok (.iand, 1)) (k : LJ p l e s m b below meth c D cy aC aM ce sl Q S T (pc + 1) lv (.int (x &&& y) :: st)) : LJ p l e s m b below meth c D cy aC aM ce sl Q S T pc lv (.int y :: .int x :: st) := fun H locs ls hP hQ hS hl => lv_iand C.1 C.2.1 hd (k H locs ls hP hQ hS hl)
theorem l_lcmp (C : LC p s m c D cy aC aM tz b L xs) {x y : Int64} (hd : decode cL_law pc = .ok (.lcmp, 1)) (k : LJ p l e s m b below meth c D cy aC aM ce sl Q S T (pc + 1) lv (.int (lg_cmp x y) :: st)) : LJ p l e s m b below meth c D cy aC aM ce sl Q S T pc lv (.long y :: .long x :: st) := fun H locs ls hP hQ hS hl => W.lcmp C.1 C.2.1 hd (k H locs ls hP hQ hS hl)
theorem l_goto (C : LC p s m c D cy aC aM tz b L xs) {off : Int} {tgt : Nat} (hd : decode cL_law pc = .ok (.goto off, 3)) (ht : (pc : Int) + off = (tgt : Int)) (k : LJ p l e s m b below meth c D cy aC aM ce sl Q S T tgt lv st) : LJ p l e s m b below meth c D cy aC aM ce sl Q S T pc lv st := fun H locs ls hP hQ hS hl => lv_goto C.1 C.2.1 hd ht (k H locs ls hP hQ hS hl)
theorem l_iinc (C : LC p s m c D cy aC aM tz b L xs) {i k0 : Nat} {n : Int} {x v : Int32} {lv2 : List (Nat × Value)} (hd : decode cL_law pc = .ok (.iinc i n, 3)) (hk : lv[k0]? = some (i, .int x)) (hv : x + Int32.ofInt n = v) (hn : i < 4) (h2 : (i, Value.int v) :: lv.filter (fun q => !(q.1 == i) && !(q.1 + 1 == i && q.2.category == 2)) = lv2) (k : LJ p l e s m b below meth c D cy aC aM ce sl Q S T (pc + 3) lv2 st) : LJ p l e s m b below meth c D cy aC aM ce sl Q S T pc lv st := fun H locs ls hP hQ hS hl => lv_iinc C.1 C.2.1 hd hl hk hv hn h2 (fun ls2 hl2 => k H locs ls2 hP hQ hS hl2)
theorem l_icmp_eq (C : LC p s m c D cy aC aM tz b L xs) {x y : Int32} {off : Int} {tgt : Nat} (hd : decode cL_law pc = .ok (.if_icmp .eq off, 3)) (ht : (pc : Int) + off = (tgt : Int)) (kt : x = y → LJ p l e s m b below meth c D cy aC aM ce sl Q S T tgt lv st) (kf : ¬ x = y → LJ p l e s m b below meth c D cy aC aM ce sl Q S T (pc + 3) lv st) : LJ p l e s m b below meth c D cy aC aM ce sl Q S T pc lv (.int y :: .int x :: st) := fun H locs ls hP hQ hS hl => lv_icmp_eq C.1 C.2.1 hd ht (fun h => kt h H locs ls hP hQ hS hl) (fun h => kf h H locs ls hP hQ hS hl)
theorem l_icmp_gt (C : LC p s m c D cy aC aM tz b L xs) {x y : Int32} {off : Int} {tgt : Nat} (hd : decode cL_law pc = .ok (.if_icmp .gt off, 3)) (ht : (pc : Int) + off = (tgt : Int)) (kt : y < x → LJ p l e s m b below meth c D cy aC aM ce sl Q S T tgt lv st) (kf : ¬ y < x → LJ p l e s m b below meth c D cy aC aM ce sl Q S T (pc + 3) lv st) : LJ p l e s m b below meth c D cy aC aM ce sl Q S T pc lv (.int y :: .int x :: st) := fun H locs ls hP hQ hS hl => lv_icmp_gt C.1 C.2.1 hd ht (fun h => kt h H locs ls hP hQ hS hl) (fun h => kf h H locs ls hP hQ hS hl)
theorem l_if_eq (C : LC p s m c D cy aC aM tz b L xs) {x : Int32} {off : Int} {tgt : Nat} (hd : decode cL_law pc = .ok (.ifCond .eq off, 3)) (ht : (pc : Int) + off = (tgt : Int)) (kt : x = 0 → LJ p l e s m b below meth c D cy aC aM ce sl Q S T tgt lv st) (kf : ¬ x = 0 → LJ p l e s m b below meth c D cy aC aM ce sl Q S T (pc + 3) lv st) : LJ p l e s m b below meth c D cy aC aM ce sl Q S T pc lv (.int x :: st) := fun H locs ls hP hQ hS hl => lv_if_eq C.1 C.2.1 hd ht (fun h => kt h H locs ls hP hQ hS hl) (fun h => kf h H locs ls hP hQ hS hl)
theorem l_sld (C : LC p s m c D cy aC aM tz b L xs) {i : Int32} (hi : ¬ (i < 0 ∨ L ≤ i.toNatClampNeg)) (hd : decode cL_law pc = .ok (.iaload, 1)) (k : LJ p l e s m b below meth c D cy aC aM ce sl Q S T (pc + 1) lv (.int (xs i.toNatClampNeg) :: st)) : LJ p l e s m b below meth c D cy aC aM ce sl Q S T pc lv (.int i :: .ref b :: st) := fun H locs ls hP hQ hS hl => va_sld C.1 C.2.1 C.2.2.2.2.2.2.2.1 C.2.2.2.2.2.2.2.2.1 (Nat.not_le.mpr C.2.2.2.2.2.2.2.2.1) hS hi hd (k H locs ls hP hQ hS hl)
theorem l_slen (C : LC p s m c D cy aC aM tz b L xs) (hd : decode cL_law pc = .ok (.arraylength, 1)) (k : LJ p l e s m b below meth c D cy aC aM ce sl Q S T (pc + 1) lv (.int (nI L) :: st)) : LJ p l e s m b below meth c D cy aC aM ce sl Q S T pc lv (.ref b :: st) := fun H locs ls hP hQ hS hl => va_slen C.1 C.2.1 C.2.2.2.2.2.2.2.1 C.2.2.2.2.2.2.2.2.1 (Nat.not_le.mpr C.2.2.2.2.2.2.2.2.1) hS hd (k H locs ls hP hQ hS hl)
theorem l_tabIn (C : LC p s m c D cy aC aM tz b L xs) {dflt lo hi off : Int} {offs : Array Int} {len tgt : Nat} {x : Int32} (hd : decode cL_law pc = .ok (.tableswitch dflt lo hi offs, len)) (h1 : ¬ x.toInt < lo) (h2 : ¬ hi < x.toInt) (ho : offs[(x.toInt - lo).toNat]? = some off) (ht : (pc : Int) + off = (tgt : Int)) (k : LJ p l e s m b below meth c D cy aC aM ce sl Q S T tgt lv st) : LJ p l e s m b below meth c D cy aC aM ce sl Q S T pc lv (.int x :: st) := fun H locs ls hP hQ hS hl => lv_tableIn C.1 C.2.1 hd h1 h2 ho ht (k H locs ls hP hQ hS hl)
theorem l_tabOut (C : LC p s m c D cy aC aM tz b L xs) {dflt lo hi : Int} {offs : Array Int} {len tgt : Nat} {x : Int32} (hd : decode cL_law pc = .ok (.tableswitch dflt lo hi offs, len)) (h : x.toInt < lo ∨ hi < x.toInt) (ht : (pc : Int) + dflt = (tgt : Int)) (k : LJ p l e s m b below meth c D cy aC aM ce sl Q S T tgt lv st) : LJ p l e s m b below meth c D cy aC aM ce sl Q S T pc lv (.int x :: st) := fun H locs ls hP hQ hS hl => lv_tableOut C.1 C.2.1 hd h ht (k H locs ls hP hQ hS hl)
theorem l_sub {lv2 : List (Nat × Value)} (ks : List Nat) (h : lv_pick lv ks = lv2) (k : LJ p l e s m b below meth c D cy aC aM ce sl Q S T pc lv2 st) : LJ p l e s m b below meth c D cy aC aM ce sl Q S T pc lv st := fun H locs ls hP hQ hS hl => k H locs ls hP hQ hS (lv_sub hl ks h)
theorem l_callCi (C : LC p s m c D cy aC aM tz b L xs) {y : MethodName} {ws : List Cond} {rm : Room} {bytes : ByteArray} {maxL n index : Nat} {rt : Option FieldType} {As st0 : List Value} {S2 : St} {r : Int32} (hM : XMi l D (wC cy aC) (xty cy) y ws rm (.ref (aC 0) :: As) S r S2) (cw : CallW room_1 s #[Value.ref b] RL RX3 index y bytes maxL rt ws rm 0 0 n) (hn : As.length = n) (hst : st0 = As.reverse ++ .ref (aC 0) :: st) (hw : (st.map fun v => v.category).sum ≤ 8) (hce : ce ≤ room_1.cells) (hsl : sl ≤ room_1.slots) (hd : decode cL_law pc = .ok (.invokevirtual index, 3)) (k : LJ p l e s m b below meth c D cy aC aM ce sl Q S2 T (pc + 3) lv (.int r :: st)) : LJ p l e s m b below meth c D cy aC aM ce sl Q S T pc lv st0 := fun H locs ls hP hQ hS hl => by
  have hDD := C.2.2.2.2.2.2.2.2.2.1 S T
  have hDc : va_D (fun q : Nat => s.heap.size ≤ q) (wC cy aC S) := ⟨fun i j p1 q1 h1 h2 e1 => hDD.1 i j p1 q1 (by rw [List.getElem?_append_left (List.getElem?_eq_some_iff.mp h1).1]; exact h1) (by rw [List.getElem?_append_left (List.getElem?_eq_some_iff.mp h2).1]; exact h2) e1, fun k9 q1 h1 => hDD.2 k9 q1 (by rw [List.getElem?_append_left (List.getElem?_eq_some_iff.mp h1).1]; exact h1)⟩
  have hF : ∀ q, va_A (wC cy aC S) H.size q → s.heap.size ≤ q := fun q h => by
    rcases h with ⟨k9, e9, h⟩ | h
    · exact hDc.2 k9 _ h
    · exact Nat.le_trans hS.1 h
  have hO : ∀ (k9 : Nat) (q : Nat × va_E), (wM cy aM T)[k9]? = some q → q.1 < H.size ∧ ¬ va_A (wC cy aC S) H.size q.1 := fun k9 q hq => by
    have hlt := (hQ k9 q hq).lt
    refine ⟨hlt, fun h => ?_⟩
    rcases h with ⟨k8, e8, h⟩ | h
    · have e7 := hDD.1 k8 ((wC cy aC S).length + k9) (q.1, e8) q (by rw [List.getElem?_append_left (List.getElem?_eq_some_iff.mp h).1]; exact h) (by rw [List.getElem?_append_right (Nat.le_add_right _ _), Nat.add_sub_cancel_left]; exact hq) rfl
      have := (List.getElem?_eq_some_iff.mp h).1
      omega
    · omega
  refine va_calli (va_runV (As := As) (rest := st) ⟨C.1, C.2.1, C.2.2.1, C.2.2.2.1, C.2.2.2.2.1⟩ (hM H.size) cw ⟨XP.blind, va_recv C.2.2.2.2.2.1 hP (ci := 3) rfl (gC_root cy aC S), fun U hU hW => ⟨rfl, by rw [hU], by rw [hU]; exact hP, va_K.moved hW.alike C.2.2.2.2.2.1, hDc.weaken (fun _ _ _ _ => trivial), XN.warm hW C.2.2.2.2.2.2.1⟩⟩ rfl hn hl.1 hst (lv_room hw) hd ⟨hce, hsl⟩) hS (fun q _ h => hF q h) hF (fun r1 u t H1 locs1 ht hvm hw2 hB hz1 hk1 hS1 => ?_)
  obtain ⟨rfl, rfl⟩ := hw2
  obtain ⟨hP1, hD1⟩ := hB
  rw [ht] at hP1
  have hO1 : va_P D vwCl (wM cy aM T) H1 := fun k9 q hq => (hQ k9 q hq).kept (hk1 q.1 (hO k9 q hq).1 (hO k9 q hq).2)
  exact k H1 locs1 ls hP1 hO1 hS1 hl
theorem l_callCl (C : LC p s m c D cy aC aM tz b L xs) {y : MethodName} {ws : List Cond} {rm : Room} {bytes : ByteArray} {maxL n index : Nat} {rt : Option FieldType} {As st0 : List Value} {S2 : St} {r : Int64} (hM : XMl l D (wC cy aC) (xty cy) y ws rm (.ref (aC 0) :: As) S r S2) (cw : CallW room_1 s #[Value.ref b] RL RX3 index y bytes maxL rt ws rm 0 0 n) (hn : As.length = n) (hst : st0 = As.reverse ++ .ref (aC 0) :: st) (hw : (st.map fun v => v.category).sum ≤ 8) (hce : ce ≤ room_1.cells) (hsl : sl ≤ room_1.slots) (hd : decode cL_law pc = .ok (.invokevirtual index, 3)) (k : LJ p l e s m b below meth c D cy aC aM ce sl Q S2 T (pc + 3) lv (.long r :: st)) : LJ p l e s m b below meth c D cy aC aM ce sl Q S T pc lv st0 := fun H locs ls hP hQ hS hl => by
  have hDD := C.2.2.2.2.2.2.2.2.2.1 S T
  have hDc : va_D (fun q : Nat => s.heap.size ≤ q) (wC cy aC S) := ⟨fun i j p1 q1 h1 h2 e1 => hDD.1 i j p1 q1 (by rw [List.getElem?_append_left (List.getElem?_eq_some_iff.mp h1).1]; exact h1) (by rw [List.getElem?_append_left (List.getElem?_eq_some_iff.mp h2).1]; exact h2) e1, fun k9 q1 h1 => hDD.2 k9 q1 (by rw [List.getElem?_append_left (List.getElem?_eq_some_iff.mp h1).1]; exact h1)⟩
  have hF : ∀ q, va_A (wC cy aC S) H.size q → s.heap.size ≤ q := fun q h => by
    rcases h with ⟨k9, e9, h⟩ | h
    · exact hDc.2 k9 _ h
    · exact Nat.le_trans hS.1 h
  have hO : ∀ (k9 : Nat) (q : Nat × va_E), (wM cy aM T)[k9]? = some q → q.1 < H.size ∧ ¬ va_A (wC cy aC S) H.size q.1 := fun k9 q hq => by
    have hlt := (hQ k9 q hq).lt
    refine ⟨hlt, fun h => ?_⟩
    rcases h with ⟨k8, e8, h⟩ | h
    · have e7 := hDD.1 k8 ((wC cy aC S).length + k9) (q.1, e8) q (by rw [List.getElem?_append_left (List.getElem?_eq_some_iff.mp h).1]; exact h) (by rw [List.getElem?_append_right (Nat.le_add_right _ _), Nat.add_sub_cancel_left]; exact hq) rfl
      have := (List.getElem?_eq_some_iff.mp h).1
      omega
    · omega
  refine va_calll (va_runV (As := As) (rest := st) ⟨C.1, C.2.1, C.2.2.1, C.2.2.2.1, C.2.2.2.2.1⟩ (hM H.size) cw ⟨XP.blind, va_recv C.2.2.2.2.2.1 hP (ci := 3) rfl (gC_root cy aC S), fun U hU hW => ⟨rfl, by rw [hU], by rw [hU]; exact hP, va_K.moved hW.alike C.2.2.2.2.2.1, hDc.weaken (fun _ _ _ _ => trivial), XN.warm hW C.2.2.2.2.2.2.1⟩⟩ rfl hn hl.1 hst (lv_room hw) hd ⟨hce, hsl⟩) hS (fun q _ h => hF q h) hF (fun r1 u t H1 locs1 ht hvm hw2 hB hz1 hk1 hS1 => ?_)
  obtain ⟨rfl, rfl⟩ := hw2
  obtain ⟨hP1, hD1⟩ := hB
  rw [ht] at hP1
  have hO1 : va_P D vwCl (wM cy aM T) H1 := fun k9 q hq => (hQ k9 q hq).kept (hk1 q.1 (hO k9 q hq).1 (hO k9 q hq).2)
  exact k H1 locs1 ls hP1 hO1 hS1 hl
theorem l_callCz (C : LC p s m c D cy aC aM tz b L xs) {y : MethodName} {ws : List Cond} {rm : Room} {bytes : ByteArray} {maxL n index : Nat} {rt : Option FieldType} {As st0 : List Value} {S2 : St} {r : Int32} (hM : XMz l D (wC cy aC) (xty cy) tz y ws rm (.ref (aC 0) :: As) S r S2) (cw : CallW room_1 s #[Value.ref b] RL RX3 index y bytes maxL rt ws rm 0 0 n) (hn : As.length = n) (hst : st0 = As.reverse ++ .ref (aC 0) :: st) (hw : (st.map fun v => v.category).sum ≤ 8) (hce : ce ≤ room_1.cells) (hsl : sl ≤ room_1.slots) (hd : decode cL_law pc = .ok (.invokevirtual index, 3)) (k : LJ p l e s m b below meth c D cy aC aM ce sl Q S2 T (pc + 3) lv (.int r :: st)) : LJ p l e s m b below meth c D cy aC aM ce sl Q S T pc lv st0 := fun H locs ls hP hQ hS hl => by
  have hDD := C.2.2.2.2.2.2.2.2.2.1 S T
  have hDc : va_D (fun q : Nat => s.heap.size ≤ q) (wC cy aC S) := ⟨fun i j p1 q1 h1 h2 e1 => hDD.1 i j p1 q1 (by rw [List.getElem?_append_left (List.getElem?_eq_some_iff.mp h1).1]; exact h1) (by rw [List.getElem?_append_left (List.getElem?_eq_some_iff.mp h2).1]; exact h2) e1, fun k9 q1 h1 => hDD.2 k9 q1 (by rw [List.getElem?_append_left (List.getElem?_eq_some_iff.mp h1).1]; exact h1)⟩
  have hF : ∀ q, va_A (wC cy aC S) H.size q → s.heap.size ≤ q := fun q h => by
    rcases h with ⟨k9, e9, h⟩ | h
    · exact hDc.2 k9 _ h
    · exact Nat.le_trans hS.1 h
  have hO : ∀ (k9 : Nat) (q : Nat × va_E), (wM cy aM T)[k9]? = some q → q.1 < H.size ∧ ¬ va_A (wC cy aC S) H.size q.1 := fun k9 q hq => by
    have hlt := (hQ k9 q hq).lt
    refine ⟨hlt, fun h => ?_⟩
    rcases h with ⟨k8, e8, h⟩ | h
    · have e7 := hDD.1 k8 ((wC cy aC S).length + k9) (q.1, e8) q (by rw [List.getElem?_append_left (List.getElem?_eq_some_iff.mp h).1]; exact h) (by rw [List.getElem?_append_right (Nat.le_add_right _ _), Nat.add_sub_cancel_left]; exact hq) rfl
      have := (List.getElem?_eq_some_iff.mp h).1
      omega
    · omega
  refine va_calli (va_runV (As := As) (rest := st) ⟨C.1, C.2.1, C.2.2.1, C.2.2.2.1, C.2.2.2.2.1⟩ (hM H.size) cw ⟨XPz.blind, va_recv C.2.2.2.2.2.1 hP (ci := 3) rfl (gC_root cy aC S), fun U hU hW => ⟨rfl, by rw [hU], by rw [hU]; exact hP, va_K.moved hW.alike C.2.2.2.2.2.1, hDc.weaken (fun _ _ _ _ => trivial), XN.warm hW C.2.2.2.2.2.2.1, by rw [hU]; exact ((C.2.2.2.2.2.2.2.2.2.2.kept (fun q h1 h2 => hS.2.1 q h1 h2)).moved hW.alike).narrow hF⟩⟩ rfl hn hl.1 hst (lv_room hw) hd ⟨hce, hsl⟩) hS (fun q _ h => hF q h) hF (fun r1 u t H1 locs1 ht hvm hw2 hB hz1 hk1 hS1 => ?_)
  obtain ⟨rfl, rfl⟩ := hw2
  obtain ⟨hP1, hD1⟩ := hB
  rw [ht] at hP1
  have hO1 : va_P D vwCl (wM cy aM T) H1 := fun k9 q hq => (hQ k9 q hq).kept (hk1 q.1 (hO k9 q hq).1 (hO k9 q hq).2)
  exact k H1 locs1 ls hP1 hO1 hS1 hl
theorem l_callMi (C : LC p s m c D cy aC aM tz b L xs) {y : MethodName} {ws : List Cond} {rm : Room} {bytes : ByteArray} {maxL n index : Nat} {rt : Option FieldType} {As st0 : List Value} {S2 : St} {r : Int32} (hM : XMi l D (wM cy aM) (xty cy) y ws rm (.ref (aM 0) :: As) T r S2) (cw : CallW room_1 s #[Value.ref b] RL RX4 index y bytes maxL rt ws rm 0 0 n) (hn : As.length = n) (hst : st0 = As.reverse ++ .ref (aM 0) :: st) (hw : (st.map fun v => v.category).sum ≤ 8) (hce : ce ≤ room_1.cells) (hsl : sl ≤ room_1.slots) (hd : decode cL_law pc = .ok (.invokevirtual index, 3)) (k : LJ p l e s m b below meth c D cy aC aM ce sl Q S S2 (pc + 3) lv (.int r :: st)) : LJ p l e s m b below meth c D cy aC aM ce sl Q S T pc lv st0 := fun H locs ls hP hQ hS hl => by
  have hDD := C.2.2.2.2.2.2.2.2.2.1 S T
  have hDc : va_D (fun q : Nat => s.heap.size ≤ q) (wM cy aM T) := ⟨fun i j p1 q1 h1 h2 e1 => Nat.add_left_cancel (hDD.1 ((wC cy aC S).length + i) ((wC cy aC S).length + j) p1 q1 (by rw [List.getElem?_append_right (Nat.le_add_right _ _), Nat.add_sub_cancel_left]; exact h1) (by rw [List.getElem?_append_right (Nat.le_add_right _ _), Nat.add_sub_cancel_left]; exact h2) e1), fun k9 q1 h1 => hDD.2 ((wC cy aC S).length + k9) q1 (by rw [List.getElem?_append_right (Nat.le_add_right _ _), Nat.add_sub_cancel_left]; exact h1)⟩
  have hF : ∀ q, va_A (wM cy aM T) H.size q → s.heap.size ≤ q := fun q h => by
    rcases h with ⟨k9, e9, h⟩ | h
    · exact hDc.2 k9 _ h
    · exact Nat.le_trans hS.1 h
  have hO : ∀ (k9 : Nat) (q : Nat × va_E), (wC cy aC S)[k9]? = some q → q.1 < H.size ∧ ¬ va_A (wM cy aM T) H.size q.1 := fun k9 q hq => by
    have hlt := (hP k9 q hq).lt
    refine ⟨hlt, fun h => ?_⟩
    rcases h with ⟨k8, e8, h⟩ | h
    · have e7 := hDD.1 k9 ((wC cy aC S).length + k8) q (q.1, e8) (by rw [List.getElem?_append_left (List.getElem?_eq_some_iff.mp hq).1]; exact hq) (by rw [List.getElem?_append_right (Nat.le_add_right _ _), Nat.add_sub_cancel_left]; exact h) rfl
      have := (List.getElem?_eq_some_iff.mp hq).1
      omega
    · omega
  refine va_calli (va_runV (As := As) (rest := st) ⟨C.1, C.2.1, C.2.2.1, C.2.2.2.1, C.2.2.2.2.1⟩ (hM H.size) cw ⟨XP.blind, va_recv C.2.2.2.2.2.1 hQ (ci := 4) rfl (gM_root cy aM T), fun U hU hW => ⟨rfl, by rw [hU], by rw [hU]; exact hQ, va_K.moved hW.alike C.2.2.2.2.2.1, hDc.weaken (fun _ _ _ _ => trivial), XN.warm hW C.2.2.2.2.2.2.1⟩⟩ rfl hn hl.1 hst (lv_room hw) hd ⟨hce, hsl⟩) hS (fun q _ h => hF q h) hF (fun r1 u t H1 locs1 ht hvm hw2 hB hz1 hk1 hS1 => ?_)
  obtain ⟨rfl, rfl⟩ := hw2
  obtain ⟨hP1, hD1⟩ := hB
  rw [ht] at hP1
  have hO1 : va_P D vwCl (wC cy aC S) H1 := fun k9 q hq => (hP k9 q hq).kept (hk1 q.1 (hO k9 q hq).1 (hO k9 q hq).2)
  exact k H1 locs1 ls hO1 hP1 hS1 hl
theorem l_callMl (C : LC p s m c D cy aC aM tz b L xs) {y : MethodName} {ws : List Cond} {rm : Room} {bytes : ByteArray} {maxL n index : Nat} {rt : Option FieldType} {As st0 : List Value} {S2 : St} {r : Int64} (hM : XMl l D (wM cy aM) (xty cy) y ws rm (.ref (aM 0) :: As) T r S2) (cw : CallW room_1 s #[Value.ref b] RL RX4 index y bytes maxL rt ws rm 0 0 n) (hn : As.length = n) (hst : st0 = As.reverse ++ .ref (aM 0) :: st) (hw : (st.map fun v => v.category).sum ≤ 8) (hce : ce ≤ room_1.cells) (hsl : sl ≤ room_1.slots) (hd : decode cL_law pc = .ok (.invokevirtual index, 3)) (k : LJ p l e s m b below meth c D cy aC aM ce sl Q S S2 (pc + 3) lv (.long r :: st)) : LJ p l e s m b below meth c D cy aC aM ce sl Q S T pc lv st0 := fun H locs ls hP hQ hS hl => by
  have hDD := C.2.2.2.2.2.2.2.2.2.1 S T
  have hDc : va_D (fun q : Nat => s.heap.size ≤ q) (wM cy aM T) := ⟨fun i j p1 q1 h1 h2 e1 => Nat.add_left_cancel (hDD.1 ((wC cy aC S).length + i) ((wC cy aC S).length + j) p1 q1 (by rw [List.getElem?_append_right (Nat.le_add_right _ _), Nat.add_sub_cancel_left]; exact h1) (by rw [List.getElem?_append_right (Nat.le_add_right _ _), Nat.add_sub_cancel_left]; exact h2) e1), fun k9 q1 h1 => hDD.2 ((wC cy aC S).length + k9) q1 (by rw [List.getElem?_append_right (Nat.le_add_right _ _), Nat.add_sub_cancel_left]; exact h1)⟩
  have hF : ∀ q, va_A (wM cy aM T) H.size q → s.heap.size ≤ q := fun q h => by
    rcases h with ⟨k9, e9, h⟩ | h
    · exact hDc.2 k9 _ h
    · exact Nat.le_trans hS.1 h
  have hO : ∀ (k9 : Nat) (q : Nat × va_E), (wC cy aC S)[k9]? = some q → q.1 < H.size ∧ ¬ va_A (wM cy aM T) H.size q.1 := fun k9 q hq => by
    have hlt := (hP k9 q hq).lt
    refine ⟨hlt, fun h => ?_⟩
    rcases h with ⟨k8, e8, h⟩ | h
    · have e7 := hDD.1 k9 ((wC cy aC S).length + k8) q (q.1, e8) (by rw [List.getElem?_append_left (List.getElem?_eq_some_iff.mp hq).1]; exact hq) (by rw [List.getElem?_append_right (Nat.le_add_right _ _), Nat.add_sub_cancel_left]; exact h) rfl
      have := (List.getElem?_eq_some_iff.mp hq).1
      omega
    · omega
  refine va_calll (va_runV (As := As) (rest := st) ⟨C.1, C.2.1, C.2.2.1, C.2.2.2.1, C.2.2.2.2.1⟩ (hM H.size) cw ⟨XP.blind, va_recv C.2.2.2.2.2.1 hQ (ci := 4) rfl (gM_root cy aM T), fun U hU hW => ⟨rfl, by rw [hU], by rw [hU]; exact hQ, va_K.moved hW.alike C.2.2.2.2.2.1, hDc.weaken (fun _ _ _ _ => trivial), XN.warm hW C.2.2.2.2.2.2.1⟩⟩ rfl hn hl.1 hst (lv_room hw) hd ⟨hce, hsl⟩) hS (fun q _ h => hF q h) hF (fun r1 u t H1 locs1 ht hvm hw2 hB hz1 hk1 hS1 => ?_)
  obtain ⟨rfl, rfl⟩ := hw2
  obtain ⟨hP1, hD1⟩ := hB
  rw [ht] at hP1
  have hO1 : va_P D vwCl (wC cy aC S) H1 := fun k9 q hq => (hP k9 q hq).kept (hk1 q.1 (hO k9 q hq).1 (hO k9 q hq).2)
  exact k H1 locs1 ls hO1 hP1 hS1 hl
end LJJ
def LS_work (Rel : Nat → St → St → Prop) : Prop := ∀ (n : Nat) (S T : St) (a1 : Int32) (a2 : Int32), n < 512 → Rel n S T → ∃ (r : Int32) (S2 T2 : St), f_X3_work S a1 a2 = some (r, S2) ∧ f_X4_work T a1 a2 = some (r, T2) ∧ Rel (n + 1) S2 T2
def LS_near (Rel : Nat → St → St → Prop) : Prop := ∀ (n : Nat) (S T : St) (a1 : Int32) (a2 : Int32) (a3 : Int32), n < 512 → Rel n S T → (a3 = 0 ∨ a3 = 1) → ∃ (r : Int32) (S2 T2 : St), f_X3_near S a1 a2 a3 = some (r, S2) ∧ f_X4_near T a1 a2 a3 = some (r, T2) ∧ Rel (n + 1) S2 T2
def LS_delay (Rel : Nat → St → St → Prop) : Prop := ∀ (n : Nat) (S T : St) (a1 : Int32) (a2 : Int32) (a3 : Int32), n < 512 → Rel n S T → ∃ (r : Int32) (S2 T2 : St), f_X3_delay S a1 a2 a3 = some (r, S2) ∧ f_X4_delay T a1 a2 a3 = some (r, T2) ∧ Rel (n + 1) S2 T2
def LS_night (Rel : Nat → St → St → Prop) : Prop := ∀ (n : Nat) (S T : St) (a1 : Int32) (a2 : Int32), n < 512 → Rel n S T → (a2 = 0 ∨ a2 = 1) → ∃ (r : Int32) (S2 T2 : St), f_X3_night S a1 a2 = some (r, S2) ∧ f_X4_night T a1 a2 = some (r, T2) ∧ Rel (n + 1) S2 T2
def LS_event (Rel : Nat → St → St → Prop) : Prop := ∀ (n : Nat) (S T : St) (a1 : Int32) (a2 : Int32) (a3 : Int32), n < 512 → Rel n S T → (a3 = 0 ∨ a3 = 1) → ∃ (r : Int32) (S2 T2 : St), f_X3_event S a1 a2 a3 = some (r, S2) ∧ f_X4_event T a1 a2 a3 = some (r, T2) ∧ Rel (n + 1) S2 T2
def LS_noise (Rel : Nat → St → St → Prop) : Prop := ∀ (n : Nat) (S T : St) (a1 : Int32) (a2 : Int32) (a3 : Int32), n < 512 → Rel n S T → ∃ (r : Int32) (S2 T2 : St), f_X3_noise S a1 a2 a3 = some (r, S2) ∧ f_X4_noise T a1 a2 a3 = some (r, T2) ∧ Rel (n + 1) S2 T2
def LS_crew (Rel : Nat → St → St → Prop) : Prop := ∀ (n : Nat) (S T : St) (a1 : Int32) (a2 : Int32), n < 512 → Rel n S T → ∃ (r : Int32) (S2 T2 : St), f_X3_crew S a1 a2 = some (r, S2) ∧ f_X4_crew T a1 a2 = some (r, T2) ∧ Rel (n + 1) S2 T2
def LS_rest (Rel : Nat → St → St → Prop) : Prop := ∀ (n : Nat) (S T : St) (a1 : Int32) (a2 : Int32), n < 512 → Rel n S T → ∃ (r : Int32) (S2 T2 : St), f_X3_rest S a1 a2 = some (r, S2) ∧ f_X4_rest T a1 a2 = some (r, T2) ∧ Rel (n + 1) S2 T2
def LS_run (Rel : Nat → St → St → Prop) : Prop := ∀ (n : Nat) (S T : St) (a1 : Int32), n < 512 → Rel n S T → ∃ (r : Int32) (S2 T2 : St), f_X3_run S a1 = some (r, S2) ∧ f_X4_run T a1 = some (r, T2) ∧ Rel (n + 1) S2 T2
def LS_drop (Rel : Nat → St → St → Prop) : Prop := ∀ (n : Nat) (S T : St) (a1 : Int32), n < 512 → Rel n S T → ∃ (r : Int32) (S2 T2 : St), f_X3_drop S a1 = some (r, S2) ∧ f_X4_drop T a1 = some (r, T2) ∧ Rel (n + 1) S2 T2
def LS_may (Rel : Nat → St → St → Prop) : Prop := ∀ (n : Nat) (S T : St) (a1 : Int32) (a2 : Int32), n < 512 → Rel n S T → ∃ r : Int32, f_X3_may S a1 a2 = some r ∧ f_X4_may T a1 a2 = some r
def LS_all (Rel : Nat → St → St → Prop) : Prop := ∀ (n : Nat) (S T : St) , n < 512 → Rel n S T → ∃ (r : Int32) (S2 T2 : St), f_X3_all S  = some (r, S2) ∧ f_X4_all T  = some (r, T2) ∧ Rel (n + 1) S2 T2
def LS_late (Rel : Nat → St → St → Prop) : Prop := ∀ (n : Nat) (S T : St) (a1 : Int32) (a2 : Int32), n < 512 → Rel n S T → ∃ (r : Int32) (S2 T2 : St), f_X3_late S a1 a2 = some (r, S2) ∧ f_X4_late T a1 a2 = some (r, T2) ∧ Rel (n + 1) S2 T2
def LS_moved (Rel : Nat → St → St → Prop) : Prop := ∀ (n : Nat) (S T : St) (a1 : Int32), n < 512 → Rel n S T → ∃ r : Int32, f_X3_moved S a1 = some r ∧ f_X4_moved T a1 = some r
def LS_start (Rel : Nat → St → St → Prop) : Prop := ∀ (n : Nat) (S T : St) (a1 : Int32), n < 512 → Rel n S T → ∃ r : Int32, f_X3_start S a1 = some r ∧ f_X4_start T a1 = some r
def LS_least (Rel : Nat → St → St → Prop) : Prop := ∀ (n : Nat) (S T : St) (a1 : Int32), n < 512 → Rel n S T → ∃ r : Int32, f_X3_least S a1 = some r ∧ f_X4_least T a1 = some r
def LS_act (Rel : Nat → St → St → Prop) : Prop := ∀ (n : Nat) (S T : St) (a1 : Int32) (a2 : Int32) (a3 : Int32), n < 512 → Rel n S T → ∃ (r : Int32) (S2 T2 : St), f_X3_act S a1 a2 a3 = some (r, S2) ∧ f_X4_act T a1 a2 a3 = some (r, T2) ∧ Rel (n + 1) S2 T2
def LS_state (Rel : Nat → St → St → Prop) : Prop := ∀ (n : Nat) (S T : St) (a1 : Int32), n < 512 → Rel n S T → ∃ r : Int32, f_X3_state S a1 = some r ∧ f_X4_state T a1 = some r
def LS_notice (Rel : Nat → St → St → Prop) : Prop := ∀ (n : Nat) (S T : St) (a1 : Int32) (a2 : Int32), n < 512 → Rel n S T → ∃ r : Int32, f_X3_notice S a1 a2 = some r ∧ f_X4_notice T a1 a2 = some r
def LS_rate (Rel : Nat → St → St → Prop) : Prop := ∀ (n : Nat) (S T : St) (a1 : Int32), n < 512 → Rel n S T → ∃ (r : Int32) (S2 T2 : St), f_X3_rate S a1 = some (r, S2) ∧ f_X4_rate T a1 = some (r, T2) ∧ Rel (n + 1) S2 T2
def LS_paid (Rel : Nat → St → St → Prop) : Prop := ∀ (n : Nat) (S T : St) (a1 : Int32), n < 512 → Rel n S T → ∃ r : Int64, f_X3_paid S a1 = some r ∧ f_X4_paid T a1 = some r
def LS_open (Rel : Nat → St → St → Prop) : Prop := ∀ (n : Nat) (S T : St) (a1 : Int32), n < 512 → Rel n S T → ∃ r : Int32, f_X3_open S a1 = some r ∧ f_X4_open T a1 = some r
def LS_holds (Rel : Nat → St → St → Prop) : Prop := ∀ (n : Nat) (S T : St) , n < 512 → Rel n S T → ∃ r : Int32, f_X3_holds S  = some r ∧ f_X4_holds T  = some r
def LS_count (Rel : Nat → St → St → Prop) : Prop := ∀ (n : Nat) (S T : St) (a1 : Int32), n < 512 → Rel n S T → ∃ r : Int32, f_X3_count S a1 = some r ∧ f_X4_count T a1 = some r
def LSm (Rel : Nat → St → St → Prop) : Prop := ∀ (n : Nat) (S T : St), Rel n S T → Rel (n + 1) S T
section LCC
variable {p : Program} {l : Launch} {e : Env} {s : State} {m : MethodId} {b : Nat} {below : List Frame} {meth : Method} {c : Code} {D : va_G} {cy : Nat → ClassId} {aC aM tz : Nat → Nat} {ce sl : Nat} {Q : State → Prop} {L : Nat} {xs : Nat → Int32}
set_option maxHeartbeats 4000000 in
set_option maxRecDepth 100000 in
theorem lw_work (C : LC p s m c D cy aC aM tz b L xs) {Rel : Nat → St → St → Prop} (hs : LS_work Rel) (hm : LSm Rel) {n : Nat} {S T : St} {x3 : Int32} (hn : n < 512) (hR : Rel n S T) (hi1 : ¬ (x3 + 1 < 0 ∨ L ≤ (x3 + 1).toNatClampNeg)) (hi2 : ¬ (x3 + 2 < 0 ∨ L ≤ (x3 + 2).toNatClampNeg)) (hi3 : ¬ (x3 + 3 < 0 ∨ L ≤ (x3 + 3).toNatClampNeg)) (hce : ce ≤ room_1.cells) (hsl : sl ≤ room_1.slots) (hnext : ∀ S2 T2 : St, Rel (n + 1) S2 T2 → LJ p l e s m b below meth c D cy aC aM ce sl Q S2 T2 903 [(0, .ref b), (1, .ref (aC 0)), (2, .ref (aM 0)), (3, .int x3)] []) : LJ p l e s m b below meth c D cy aC aM ce sl Q S T 152 [(0, .ref b), (1, .ref (aC 0)), (2, .ref (aM 0)), (3, .int x3)] [] := by
  refine l_aload_n C dL_law_152 rfl 1 rfl ?_
  refine l_aload_n C dL_law_153 rfl 0 rfl ?_
  refine l_iload_n C dL_law_154 rfl 3 rfl ?_
  refine l_iconst (v := 1) C dL_law_155 (by decide) ?_
  refine l_iadd C dL_law_156 ?_
  refine l_sld C hi1 dL_law_157 ?_
  refine l_aload_n C dL_law_158 rfl 0 rfl ?_
  refine l_iload_n C dL_law_159 rfl 3 rfl ?_
  refine l_iconst (v := 2) C dL_law_160 (by decide) ?_
  refine l_iadd C dL_law_161 ?_
  refine l_sld C hi2 dL_law_162 ?_
  obtain ⟨r, S2, T2, hC, hM, hrel⟩ := hs n S T (xs (x3 + 1).toNatClampNeg) (xs (x3 + 2).toNatClampNeg) hn hR 
  refine l_callCi (As := [.int (xs (x3 + 1).toNatClampNeg), .int (xs (x3 + 2).toNatClampNeg)]) (st := []) C (c_X3_work l D cy aC S (xs (x3 + 1).toNatClampNeg) (xs (x3 + 2).toNatClampNeg) hC) (cwV 2 C.2.2.2.2.1 gL_law_X3_work rfl rfl rfl (by decide +kernel) ⟨by decide, by decide⟩) rfl rfl (Nat.le_of_ble_eq_true rfl) hce hsl dL_law_163 ?_
  refine l_aload_n C dL_law_166 rfl 2 rfl ?_
  refine l_aload_n C dL_law_167 rfl 0 rfl ?_
  refine l_iload_n C dL_law_168 rfl 3 rfl ?_
  refine l_iconst (v := 1) C dL_law_169 (by decide) ?_
  refine l_iadd C dL_law_170 ?_
  refine l_sld C hi1 dL_law_171 ?_
  refine l_aload_n C dL_law_172 rfl 0 rfl ?_
  refine l_iload_n C dL_law_173 rfl 3 rfl ?_
  refine l_iconst (v := 2) C dL_law_174 (by decide) ?_
  refine l_iadd C dL_law_175 ?_
  refine l_sld C hi2 dL_law_176 ?_
  refine l_callMi (As := [.int (xs (x3 + 1).toNatClampNeg), .int (xs (x3 + 2).toNatClampNeg)]) (st := [.int r]) C (c_X4_work l D cy aM T (xs (x3 + 1).toNatClampNeg) (xs (x3 + 2).toNatClampNeg) hM) (cwV 2 C.2.2.2.2.1 gL_law_X4_work rfl rfl rfl (by decide +kernel) ⟨by decide, by decide⟩) rfl rfl (Nat.le_of_ble_eq_true rfl) hce hsl dL_law_177 ?_
  refine l_icmp_eq (tgt := 903) C dL_law_180 (by decide) (fun _ => ?_) (fun c9 => absurd rfl c9)
  exact hnext S2 T2 hrel
set_option maxHeartbeats 4000000 in
set_option maxRecDepth 100000 in
theorem lw_near (C : LC p s m c D cy aC aM tz b L xs) {Rel : Nat → St → St → Prop} (hs : LS_near Rel) (hm : LSm Rel) {n : Nat} {S T : St} {x3 : Int32} (hn : n < 512) (hR : Rel n S T) (hi1 : ¬ (x3 + 1 < 0 ∨ L ≤ (x3 + 1).toNatClampNeg)) (hi2 : ¬ (x3 + 2 < 0 ∨ L ≤ (x3 + 2).toNatClampNeg)) (hi3 : ¬ (x3 + 3 < 0 ∨ L ≤ (x3 + 3).toNatClampNeg)) (hce : ce ≤ room_1.cells) (hsl : sl ≤ room_1.slots) (hnext : ∀ S2 T2 : St, Rel (n + 1) S2 T2 → LJ p l e s m b below meth c D cy aC aM ce sl Q S2 T2 903 [(0, .ref b), (1, .ref (aC 0)), (2, .ref (aM 0)), (3, .int x3)] []) : LJ p l e s m b below meth c D cy aC aM ce sl Q S T 185 [(0, .ref b), (1, .ref (aC 0)), (2, .ref (aM 0)), (3, .int x3)] [] := by
  refine l_aload_n C dL_law_185 rfl 1 rfl ?_
  refine l_aload_n C dL_law_186 rfl 0 rfl ?_
  refine l_iload_n C dL_law_187 rfl 3 rfl ?_
  refine l_iconst (v := 1) C dL_law_188 (by decide) ?_
  refine l_iadd C dL_law_189 ?_
  refine l_sld C hi1 dL_law_190 ?_
  refine l_aload_n C dL_law_191 rfl 0 rfl ?_
  refine l_iload_n C dL_law_192 rfl 3 rfl ?_
  refine l_iconst (v := 2) C dL_law_193 (by decide) ?_
  refine l_iadd C dL_law_194 ?_
  refine l_sld C hi2 dL_law_195 ?_
  refine l_aload_n C dL_law_196 rfl 0 rfl ?_
  refine l_iload_n C dL_law_197 rfl 3 rfl ?_
  refine l_iconst (v := 3) C dL_law_198 (by decide) ?_
  refine l_iadd C dL_law_199 ?_
  refine l_sld C hi3 dL_law_200 ?_
  refine l_if_eq (tgt := 208) C dL_law_201 (by decide) (fun (c_201 : (xs (x3 + 3).toNatClampNeg) = 0) => ?_) (fun (c_201 : ¬ (xs (x3 + 3).toNatClampNeg) = 0) => ?_)
  · refine l_iconst (v := 0) C dL_law_208 (by decide) ?_
    obtain ⟨r, S2, T2, hC, hM, hrel⟩ := hs n S T (xs (x3 + 1).toNatClampNeg) (xs (x3 + 2).toNatClampNeg) 0 hn hR (Or.inl rfl)
    refine l_callCi (As := [.int (xs (x3 + 1).toNatClampNeg), .int (xs (x3 + 2).toNatClampNeg), .int 0]) (st := []) C (c_X3_near l D cy aC S (xs (x3 + 1).toNatClampNeg) (xs (x3 + 2).toNatClampNeg) 0 hC) (cwV 3 C.2.2.2.2.1 gL_law_X3_near rfl rfl rfl (by decide +kernel) ⟨by decide, by decide⟩) rfl rfl (Nat.le_of_ble_eq_true rfl) hce hsl dL_law_209 ?_
    refine l_aload_n C dL_law_212 rfl 2 rfl ?_
    refine l_aload_n C dL_law_213 rfl 0 rfl ?_
    refine l_iload_n C dL_law_214 rfl 3 rfl ?_
    refine l_iconst (v := 1) C dL_law_215 (by decide) ?_
    refine l_iadd C dL_law_216 ?_
    refine l_sld C hi1 dL_law_217 ?_
    refine l_aload_n C dL_law_218 rfl 0 rfl ?_
    refine l_iload_n C dL_law_219 rfl 3 rfl ?_
    refine l_iconst (v := 2) C dL_law_220 (by decide) ?_
    refine l_iadd C dL_law_221 ?_
    refine l_sld C hi2 dL_law_222 ?_
    refine l_aload_n C dL_law_223 rfl 0 rfl ?_
    refine l_iload_n C dL_law_224 rfl 3 rfl ?_
    refine l_iconst (v := 3) C dL_law_225 (by decide) ?_
    refine l_iadd C dL_law_226 ?_
    refine l_sld C hi3 dL_law_227 ?_
    refine l_if_eq (tgt := 235) C dL_law_228 (by decide) (fun _ => ?_) (fun c9 => absurd c_201 c9)
    refine l_iconst (v := 0) C dL_law_235 (by decide) ?_
    refine l_callMi (As := [.int (xs (x3 + 1).toNatClampNeg), .int (xs (x3 + 2).toNatClampNeg), .int 0]) (st := [.int r]) C (c_X4_near l D cy aM T (xs (x3 + 1).toNatClampNeg) (xs (x3 + 2).toNatClampNeg) 0 hM) (cwV 3 C.2.2.2.2.1 gL_law_X4_near rfl rfl rfl (by decide +kernel) ⟨by decide, by decide⟩) rfl rfl (Nat.le_of_ble_eq_true rfl) hce hsl dL_law_236 ?_
    refine l_icmp_eq (tgt := 903) C dL_law_239 (by decide) (fun _ => ?_) (fun c9 => absurd rfl c9)
    exact hnext S2 T2 hrel
  · refine l_iconst (v := 1) C dL_law_204 (by decide) ?_
    refine l_goto (tgt := 209) C dL_law_205 (by decide) ?_
    obtain ⟨r, S2, T2, hC, hM, hrel⟩ := hs n S T (xs (x3 + 1).toNatClampNeg) (xs (x3 + 2).toNatClampNeg) 1 hn hR (Or.inr rfl)
    refine l_callCi (As := [.int (xs (x3 + 1).toNatClampNeg), .int (xs (x3 + 2).toNatClampNeg), .int 1]) (st := []) C (c_X3_near l D cy aC S (xs (x3 + 1).toNatClampNeg) (xs (x3 + 2).toNatClampNeg) 1 hC) (cwV 3 C.2.2.2.2.1 gL_law_X3_near rfl rfl rfl (by decide +kernel) ⟨by decide, by decide⟩) rfl rfl (Nat.le_of_ble_eq_true rfl) hce hsl dL_law_209 ?_
    refine l_aload_n C dL_law_212 rfl 2 rfl ?_
    refine l_aload_n C dL_law_213 rfl 0 rfl ?_
    refine l_iload_n C dL_law_214 rfl 3 rfl ?_
    refine l_iconst (v := 1) C dL_law_215 (by decide) ?_
    refine l_iadd C dL_law_216 ?_
    refine l_sld C hi1 dL_law_217 ?_
    refine l_aload_n C dL_law_218 rfl 0 rfl ?_
    refine l_iload_n C dL_law_219 rfl 3 rfl ?_
    refine l_iconst (v := 2) C dL_law_220 (by decide) ?_
    refine l_iadd C dL_law_221 ?_
    refine l_sld C hi2 dL_law_222 ?_
    refine l_aload_n C dL_law_223 rfl 0 rfl ?_
    refine l_iload_n C dL_law_224 rfl 3 rfl ?_
    refine l_iconst (v := 3) C dL_law_225 (by decide) ?_
    refine l_iadd C dL_law_226 ?_
    refine l_sld C hi3 dL_law_227 ?_
    refine l_if_eq (tgt := 235) C dL_law_228 (by decide) (fun c9 => absurd c9 c_201) (fun _ => ?_)
    refine l_iconst (v := 1) C dL_law_231 (by decide) ?_
    refine l_goto (tgt := 236) C dL_law_232 (by decide) ?_
    refine l_callMi (As := [.int (xs (x3 + 1).toNatClampNeg), .int (xs (x3 + 2).toNatClampNeg), .int 1]) (st := [.int r]) C (c_X4_near l D cy aM T (xs (x3 + 1).toNatClampNeg) (xs (x3 + 2).toNatClampNeg) 1 hM) (cwV 3 C.2.2.2.2.1 gL_law_X4_near rfl rfl rfl (by decide +kernel) ⟨by decide, by decide⟩) rfl rfl (Nat.le_of_ble_eq_true rfl) hce hsl dL_law_236 ?_
    refine l_icmp_eq (tgt := 903) C dL_law_239 (by decide) (fun _ => ?_) (fun c9 => absurd rfl c9)
    exact hnext S2 T2 hrel
set_option maxHeartbeats 4000000 in
set_option maxRecDepth 100000 in
theorem lw_delay (C : LC p s m c D cy aC aM tz b L xs) {Rel : Nat → St → St → Prop} (hs : LS_delay Rel) (hm : LSm Rel) {n : Nat} {S T : St} {x3 : Int32} (hn : n < 512) (hR : Rel n S T) (hi1 : ¬ (x3 + 1 < 0 ∨ L ≤ (x3 + 1).toNatClampNeg)) (hi2 : ¬ (x3 + 2 < 0 ∨ L ≤ (x3 + 2).toNatClampNeg)) (hi3 : ¬ (x3 + 3 < 0 ∨ L ≤ (x3 + 3).toNatClampNeg)) (hce : ce ≤ room_1.cells) (hsl : sl ≤ room_1.slots) (hnext : ∀ S2 T2 : St, Rel (n + 1) S2 T2 → LJ p l e s m b below meth c D cy aC aM ce sl Q S2 T2 903 [(0, .ref b), (1, .ref (aC 0)), (2, .ref (aM 0)), (3, .int x3)] []) : LJ p l e s m b below meth c D cy aC aM ce sl Q S T 244 [(0, .ref b), (1, .ref (aC 0)), (2, .ref (aM 0)), (3, .int x3)] [] := by
  refine l_aload_n C dL_law_244 rfl 1 rfl ?_
  refine l_aload_n C dL_law_245 rfl 0 rfl ?_
  refine l_iload_n C dL_law_246 rfl 3 rfl ?_
  refine l_iconst (v := 1) C dL_law_247 (by decide) ?_
  refine l_iadd C dL_law_248 ?_
  refine l_sld C hi1 dL_law_249 ?_
  refine l_aload_n C dL_law_250 rfl 0 rfl ?_
  refine l_iload_n C dL_law_251 rfl 3 rfl ?_
  refine l_iconst (v := 2) C dL_law_252 (by decide) ?_
  refine l_iadd C dL_law_253 ?_
  refine l_sld C hi2 dL_law_254 ?_
  refine l_aload_n C dL_law_255 rfl 0 rfl ?_
  refine l_iload_n C dL_law_256 rfl 3 rfl ?_
  refine l_iconst (v := 3) C dL_law_257 (by decide) ?_
  refine l_iadd C dL_law_258 ?_
  refine l_sld C hi3 dL_law_259 ?_
  obtain ⟨r, S2, T2, hC, hM, hrel⟩ := hs n S T (xs (x3 + 1).toNatClampNeg) (xs (x3 + 2).toNatClampNeg) (xs (x3 + 3).toNatClampNeg) hn hR 
  refine l_callCi (As := [.int (xs (x3 + 1).toNatClampNeg), .int (xs (x3 + 2).toNatClampNeg), .int (xs (x3 + 3).toNatClampNeg)]) (st := []) C (c_X3_delay l D cy aC S (xs (x3 + 1).toNatClampNeg) (xs (x3 + 2).toNatClampNeg) (xs (x3 + 3).toNatClampNeg) hC) (cwV 3 C.2.2.2.2.1 gL_law_X3_delay rfl rfl rfl (by decide +kernel) ⟨by decide, by decide⟩) rfl rfl (Nat.le_of_ble_eq_true rfl) hce hsl dL_law_260 ?_
  refine l_aload_n C dL_law_263 rfl 2 rfl ?_
  refine l_aload_n C dL_law_264 rfl 0 rfl ?_
  refine l_iload_n C dL_law_265 rfl 3 rfl ?_
  refine l_iconst (v := 1) C dL_law_266 (by decide) ?_
  refine l_iadd C dL_law_267 ?_
  refine l_sld C hi1 dL_law_268 ?_
  refine l_aload_n C dL_law_269 rfl 0 rfl ?_
  refine l_iload_n C dL_law_270 rfl 3 rfl ?_
  refine l_iconst (v := 2) C dL_law_271 (by decide) ?_
  refine l_iadd C dL_law_272 ?_
  refine l_sld C hi2 dL_law_273 ?_
  refine l_aload_n C dL_law_274 rfl 0 rfl ?_
  refine l_iload_n C dL_law_275 rfl 3 rfl ?_
  refine l_iconst (v := 3) C dL_law_276 (by decide) ?_
  refine l_iadd C dL_law_277 ?_
  refine l_sld C hi3 dL_law_278 ?_
  refine l_callMi (As := [.int (xs (x3 + 1).toNatClampNeg), .int (xs (x3 + 2).toNatClampNeg), .int (xs (x3 + 3).toNatClampNeg)]) (st := [.int r]) C (c_X4_delay l D cy aM T (xs (x3 + 1).toNatClampNeg) (xs (x3 + 2).toNatClampNeg) (xs (x3 + 3).toNatClampNeg) hM) (cwV 3 C.2.2.2.2.1 gL_law_X4_delay rfl rfl rfl (by decide +kernel) ⟨by decide, by decide⟩) rfl rfl (Nat.le_of_ble_eq_true rfl) hce hsl dL_law_279 ?_
  refine l_icmp_eq (tgt := 903) C dL_law_282 (by decide) (fun _ => ?_) (fun c9 => absurd rfl c9)
  exact hnext S2 T2 hrel
set_option maxHeartbeats 4000000 in
set_option maxRecDepth 100000 in
theorem lw_night (C : LC p s m c D cy aC aM tz b L xs) {Rel : Nat → St → St → Prop} (hs : LS_night Rel) (hm : LSm Rel) {n : Nat} {S T : St} {x3 : Int32} (hn : n < 512) (hR : Rel n S T) (hi1 : ¬ (x3 + 1 < 0 ∨ L ≤ (x3 + 1).toNatClampNeg)) (hi2 : ¬ (x3 + 2 < 0 ∨ L ≤ (x3 + 2).toNatClampNeg)) (hi3 : ¬ (x3 + 3 < 0 ∨ L ≤ (x3 + 3).toNatClampNeg)) (hce : ce ≤ room_1.cells) (hsl : sl ≤ room_1.slots) (hnext : ∀ S2 T2 : St, Rel (n + 1) S2 T2 → LJ p l e s m b below meth c D cy aC aM ce sl Q S2 T2 903 [(0, .ref b), (1, .ref (aC 0)), (2, .ref (aM 0)), (3, .int x3)] []) : LJ p l e s m b below meth c D cy aC aM ce sl Q S T 287 [(0, .ref b), (1, .ref (aC 0)), (2, .ref (aM 0)), (3, .int x3)] [] := by
  refine l_aload_n C dL_law_287 rfl 1 rfl ?_
  refine l_aload_n C dL_law_288 rfl 0 rfl ?_
  refine l_iload_n C dL_law_289 rfl 3 rfl ?_
  refine l_iconst (v := 1) C dL_law_290 (by decide) ?_
  refine l_iadd C dL_law_291 ?_
  refine l_sld C hi1 dL_law_292 ?_
  refine l_aload_n C dL_law_293 rfl 0 rfl ?_
  refine l_iload_n C dL_law_294 rfl 3 rfl ?_
  refine l_iconst (v := 2) C dL_law_295 (by decide) ?_
  refine l_iadd C dL_law_296 ?_
  refine l_sld C hi2 dL_law_297 ?_
  refine l_if_eq (tgt := 305) C dL_law_298 (by decide) (fun (c_298 : (xs (x3 + 2).toNatClampNeg) = 0) => ?_) (fun (c_298 : ¬ (xs (x3 + 2).toNatClampNeg) = 0) => ?_)
  · refine l_iconst (v := 0) C dL_law_305 (by decide) ?_
    obtain ⟨r, S2, T2, hC, hM, hrel⟩ := hs n S T (xs (x3 + 1).toNatClampNeg) 0 hn hR (Or.inl rfl)
    refine l_callCi (As := [.int (xs (x3 + 1).toNatClampNeg), .int 0]) (st := []) C (c_X3_night l D cy aC S (xs (x3 + 1).toNatClampNeg) 0 hC) (cwV 2 C.2.2.2.2.1 gL_law_X3_night rfl rfl rfl (by decide +kernel) ⟨by decide, by decide⟩) rfl rfl (Nat.le_of_ble_eq_true rfl) hce hsl dL_law_306 ?_
    refine l_aload_n C dL_law_309 rfl 2 rfl ?_
    refine l_aload_n C dL_law_310 rfl 0 rfl ?_
    refine l_iload_n C dL_law_311 rfl 3 rfl ?_
    refine l_iconst (v := 1) C dL_law_312 (by decide) ?_
    refine l_iadd C dL_law_313 ?_
    refine l_sld C hi1 dL_law_314 ?_
    refine l_aload_n C dL_law_315 rfl 0 rfl ?_
    refine l_iload_n C dL_law_316 rfl 3 rfl ?_
    refine l_iconst (v := 2) C dL_law_317 (by decide) ?_
    refine l_iadd C dL_law_318 ?_
    refine l_sld C hi2 dL_law_319 ?_
    refine l_if_eq (tgt := 327) C dL_law_320 (by decide) (fun _ => ?_) (fun c9 => absurd c_298 c9)
    refine l_iconst (v := 0) C dL_law_327 (by decide) ?_
    refine l_callMi (As := [.int (xs (x3 + 1).toNatClampNeg), .int 0]) (st := [.int r]) C (c_X4_night l D cy aM T (xs (x3 + 1).toNatClampNeg) 0 hM) (cwV 2 C.2.2.2.2.1 gL_law_X4_night rfl rfl rfl (by decide +kernel) ⟨by decide, by decide⟩) rfl rfl (Nat.le_of_ble_eq_true rfl) hce hsl dL_law_328 ?_
    refine l_icmp_eq (tgt := 903) C dL_law_331 (by decide) (fun _ => ?_) (fun c9 => absurd rfl c9)
    exact hnext S2 T2 hrel
  · refine l_iconst (v := 1) C dL_law_301 (by decide) ?_
    refine l_goto (tgt := 306) C dL_law_302 (by decide) ?_
    obtain ⟨r, S2, T2, hC, hM, hrel⟩ := hs n S T (xs (x3 + 1).toNatClampNeg) 1 hn hR (Or.inr rfl)
    refine l_callCi (As := [.int (xs (x3 + 1).toNatClampNeg), .int 1]) (st := []) C (c_X3_night l D cy aC S (xs (x3 + 1).toNatClampNeg) 1 hC) (cwV 2 C.2.2.2.2.1 gL_law_X3_night rfl rfl rfl (by decide +kernel) ⟨by decide, by decide⟩) rfl rfl (Nat.le_of_ble_eq_true rfl) hce hsl dL_law_306 ?_
    refine l_aload_n C dL_law_309 rfl 2 rfl ?_
    refine l_aload_n C dL_law_310 rfl 0 rfl ?_
    refine l_iload_n C dL_law_311 rfl 3 rfl ?_
    refine l_iconst (v := 1) C dL_law_312 (by decide) ?_
    refine l_iadd C dL_law_313 ?_
    refine l_sld C hi1 dL_law_314 ?_
    refine l_aload_n C dL_law_315 rfl 0 rfl ?_
    refine l_iload_n C dL_law_316 rfl 3 rfl ?_
    refine l_iconst (v := 2) C dL_law_317 (by decide) ?_
    refine l_iadd C dL_law_318 ?_
    refine l_sld C hi2 dL_law_319 ?_
    refine l_if_eq (tgt := 327) C dL_law_320 (by decide) (fun c9 => absurd c9 c_298) (fun _ => ?_)
    refine l_iconst (v := 1) C dL_law_323 (by decide) ?_
    refine l_goto (tgt := 328) C dL_law_324 (by decide) ?_
    refine l_callMi (As := [.int (xs (x3 + 1).toNatClampNeg), .int 1]) (st := [.int r]) C (c_X4_night l D cy aM T (xs (x3 + 1).toNatClampNeg) 1 hM) (cwV 2 C.2.2.2.2.1 gL_law_X4_night rfl rfl rfl (by decide +kernel) ⟨by decide, by decide⟩) rfl rfl (Nat.le_of_ble_eq_true rfl) hce hsl dL_law_328 ?_
    refine l_icmp_eq (tgt := 903) C dL_law_331 (by decide) (fun _ => ?_) (fun c9 => absurd rfl c9)
    exact hnext S2 T2 hrel
set_option maxHeartbeats 4000000 in
set_option maxRecDepth 100000 in
theorem lw_event (C : LC p s m c D cy aC aM tz b L xs) {Rel : Nat → St → St → Prop} (hs : LS_event Rel) (hm : LSm Rel) {n : Nat} {S T : St} {x3 : Int32} (hn : n < 512) (hR : Rel n S T) (hi1 : ¬ (x3 + 1 < 0 ∨ L ≤ (x3 + 1).toNatClampNeg)) (hi2 : ¬ (x3 + 2 < 0 ∨ L ≤ (x3 + 2).toNatClampNeg)) (hi3 : ¬ (x3 + 3 < 0 ∨ L ≤ (x3 + 3).toNatClampNeg)) (hce : ce ≤ room_1.cells) (hsl : sl ≤ room_1.slots) (hnext : ∀ S2 T2 : St, Rel (n + 1) S2 T2 → LJ p l e s m b below meth c D cy aC aM ce sl Q S2 T2 903 [(0, .ref b), (1, .ref (aC 0)), (2, .ref (aM 0)), (3, .int x3)] []) : LJ p l e s m b below meth c D cy aC aM ce sl Q S T 336 [(0, .ref b), (1, .ref (aC 0)), (2, .ref (aM 0)), (3, .int x3)] [] := by
  refine l_aload_n C dL_law_336 rfl 1 rfl ?_
  refine l_aload_n C dL_law_337 rfl 0 rfl ?_
  refine l_iload_n C dL_law_338 rfl 3 rfl ?_
  refine l_iconst (v := 1) C dL_law_339 (by decide) ?_
  refine l_iadd C dL_law_340 ?_
  refine l_sld C hi1 dL_law_341 ?_
  refine l_aload_n C dL_law_342 rfl 0 rfl ?_
  refine l_iload_n C dL_law_343 rfl 3 rfl ?_
  refine l_iconst (v := 2) C dL_law_344 (by decide) ?_
  refine l_iadd C dL_law_345 ?_
  refine l_sld C hi2 dL_law_346 ?_
  refine l_aload_n C dL_law_347 rfl 0 rfl ?_
  refine l_iload_n C dL_law_348 rfl 3 rfl ?_
  refine l_iconst (v := 3) C dL_law_349 (by decide) ?_
  refine l_iadd C dL_law_350 ?_
  refine l_sld C hi3 dL_law_351 ?_
  refine l_if_eq (tgt := 359) C dL_law_352 (by decide) (fun (c_352 : (xs (x3 + 3).toNatClampNeg) = 0) => ?_) (fun (c_352 : ¬ (xs (x3 + 3).toNatClampNeg) = 0) => ?_)
  · refine l_iconst (v := 0) C dL_law_359 (by decide) ?_
    obtain ⟨r, S2, T2, hC, hM, hrel⟩ := hs n S T (xs (x3 + 1).toNatClampNeg) (xs (x3 + 2).toNatClampNeg) 0 hn hR (Or.inl rfl)
    refine l_callCi (As := [.int (xs (x3 + 1).toNatClampNeg), .int (xs (x3 + 2).toNatClampNeg), .int 0]) (st := []) C (c_X3_event l D cy aC S (xs (x3 + 1).toNatClampNeg) (xs (x3 + 2).toNatClampNeg) 0 hC) (cwV 3 C.2.2.2.2.1 gL_law_X3_event rfl rfl rfl (by decide +kernel) ⟨by decide, by decide⟩) rfl rfl (Nat.le_of_ble_eq_true rfl) hce hsl dL_law_360 ?_
    refine l_aload_n C dL_law_363 rfl 2 rfl ?_
    refine l_aload_n C dL_law_364 rfl 0 rfl ?_
    refine l_iload_n C dL_law_365 rfl 3 rfl ?_
    refine l_iconst (v := 1) C dL_law_366 (by decide) ?_
    refine l_iadd C dL_law_367 ?_
    refine l_sld C hi1 dL_law_368 ?_
    refine l_aload_n C dL_law_369 rfl 0 rfl ?_
    refine l_iload_n C dL_law_370 rfl 3 rfl ?_
    refine l_iconst (v := 2) C dL_law_371 (by decide) ?_
    refine l_iadd C dL_law_372 ?_
    refine l_sld C hi2 dL_law_373 ?_
    refine l_aload_n C dL_law_374 rfl 0 rfl ?_
    refine l_iload_n C dL_law_375 rfl 3 rfl ?_
    refine l_iconst (v := 3) C dL_law_376 (by decide) ?_
    refine l_iadd C dL_law_377 ?_
    refine l_sld C hi3 dL_law_378 ?_
    refine l_if_eq (tgt := 386) C dL_law_379 (by decide) (fun _ => ?_) (fun c9 => absurd c_352 c9)
    refine l_iconst (v := 0) C dL_law_386 (by decide) ?_
    refine l_callMi (As := [.int (xs (x3 + 1).toNatClampNeg), .int (xs (x3 + 2).toNatClampNeg), .int 0]) (st := [.int r]) C (c_X4_event l D cy aM T (xs (x3 + 1).toNatClampNeg) (xs (x3 + 2).toNatClampNeg) 0 hM) (cwV 3 C.2.2.2.2.1 gL_law_X4_event rfl rfl rfl (by decide +kernel) ⟨by decide, by decide⟩) rfl rfl (Nat.le_of_ble_eq_true rfl) hce hsl dL_law_387 ?_
    refine l_icmp_eq (tgt := 903) C dL_law_390 (by decide) (fun _ => ?_) (fun c9 => absurd rfl c9)
    exact hnext S2 T2 hrel
  · refine l_iconst (v := 1) C dL_law_355 (by decide) ?_
    refine l_goto (tgt := 360) C dL_law_356 (by decide) ?_
    obtain ⟨r, S2, T2, hC, hM, hrel⟩ := hs n S T (xs (x3 + 1).toNatClampNeg) (xs (x3 + 2).toNatClampNeg) 1 hn hR (Or.inr rfl)
    refine l_callCi (As := [.int (xs (x3 + 1).toNatClampNeg), .int (xs (x3 + 2).toNatClampNeg), .int 1]) (st := []) C (c_X3_event l D cy aC S (xs (x3 + 1).toNatClampNeg) (xs (x3 + 2).toNatClampNeg) 1 hC) (cwV 3 C.2.2.2.2.1 gL_law_X3_event rfl rfl rfl (by decide +kernel) ⟨by decide, by decide⟩) rfl rfl (Nat.le_of_ble_eq_true rfl) hce hsl dL_law_360 ?_
    refine l_aload_n C dL_law_363 rfl 2 rfl ?_
    refine l_aload_n C dL_law_364 rfl 0 rfl ?_
    refine l_iload_n C dL_law_365 rfl 3 rfl ?_
    refine l_iconst (v := 1) C dL_law_366 (by decide) ?_
    refine l_iadd C dL_law_367 ?_
    refine l_sld C hi1 dL_law_368 ?_
    refine l_aload_n C dL_law_369 rfl 0 rfl ?_
    refine l_iload_n C dL_law_370 rfl 3 rfl ?_
    refine l_iconst (v := 2) C dL_law_371 (by decide) ?_
    refine l_iadd C dL_law_372 ?_
    refine l_sld C hi2 dL_law_373 ?_
    refine l_aload_n C dL_law_374 rfl 0 rfl ?_
    refine l_iload_n C dL_law_375 rfl 3 rfl ?_
    refine l_iconst (v := 3) C dL_law_376 (by decide) ?_
    refine l_iadd C dL_law_377 ?_
    refine l_sld C hi3 dL_law_378 ?_
    refine l_if_eq (tgt := 386) C dL_law_379 (by decide) (fun c9 => absurd c9 c_352) (fun _ => ?_)
    refine l_iconst (v := 1) C dL_law_382 (by decide) ?_
    refine l_goto (tgt := 387) C dL_law_383 (by decide) ?_
    refine l_callMi (As := [.int (xs (x3 + 1).toNatClampNeg), .int (xs (x3 + 2).toNatClampNeg), .int 1]) (st := [.int r]) C (c_X4_event l D cy aM T (xs (x3 + 1).toNatClampNeg) (xs (x3 + 2).toNatClampNeg) 1 hM) (cwV 3 C.2.2.2.2.1 gL_law_X4_event rfl rfl rfl (by decide +kernel) ⟨by decide, by decide⟩) rfl rfl (Nat.le_of_ble_eq_true rfl) hce hsl dL_law_387 ?_
    refine l_icmp_eq (tgt := 903) C dL_law_390 (by decide) (fun _ => ?_) (fun c9 => absurd rfl c9)
    exact hnext S2 T2 hrel
set_option maxHeartbeats 4000000 in
set_option maxRecDepth 100000 in
theorem lw_noise (C : LC p s m c D cy aC aM tz b L xs) {Rel : Nat → St → St → Prop} (hs : LS_noise Rel) (hm : LSm Rel) {n : Nat} {S T : St} {x3 : Int32} (hn : n < 512) (hR : Rel n S T) (hi1 : ¬ (x3 + 1 < 0 ∨ L ≤ (x3 + 1).toNatClampNeg)) (hi2 : ¬ (x3 + 2 < 0 ∨ L ≤ (x3 + 2).toNatClampNeg)) (hi3 : ¬ (x3 + 3 < 0 ∨ L ≤ (x3 + 3).toNatClampNeg)) (hce : ce ≤ room_1.cells) (hsl : sl ≤ room_1.slots) (hnext : ∀ S2 T2 : St, Rel (n + 1) S2 T2 → LJ p l e s m b below meth c D cy aC aM ce sl Q S2 T2 903 [(0, .ref b), (1, .ref (aC 0)), (2, .ref (aM 0)), (3, .int x3)] []) : LJ p l e s m b below meth c D cy aC aM ce sl Q S T 395 [(0, .ref b), (1, .ref (aC 0)), (2, .ref (aM 0)), (3, .int x3)] [] := by
  refine l_aload_n C dL_law_395 rfl 1 rfl ?_
  refine l_aload_n C dL_law_396 rfl 0 rfl ?_
  refine l_iload_n C dL_law_397 rfl 3 rfl ?_
  refine l_iconst (v := 1) C dL_law_398 (by decide) ?_
  refine l_iadd C dL_law_399 ?_
  refine l_sld C hi1 dL_law_400 ?_
  refine l_aload_n C dL_law_401 rfl 0 rfl ?_
  refine l_iload_n C dL_law_402 rfl 3 rfl ?_
  refine l_iconst (v := 2) C dL_law_403 (by decide) ?_
  refine l_iadd C dL_law_404 ?_
  refine l_sld C hi2 dL_law_405 ?_
  refine l_aload_n C dL_law_406 rfl 0 rfl ?_
  refine l_iload_n C dL_law_407 rfl 3 rfl ?_
  refine l_iconst (v := 3) C dL_law_408 (by decide) ?_
  refine l_iadd C dL_law_409 ?_
  refine l_sld C hi3 dL_law_410 ?_
  obtain ⟨r, S2, T2, hC, hM, hrel⟩ := hs n S T (xs (x3 + 1).toNatClampNeg) (xs (x3 + 2).toNatClampNeg) (xs (x3 + 3).toNatClampNeg) hn hR 
  refine l_callCi (As := [.int (xs (x3 + 1).toNatClampNeg), .int (xs (x3 + 2).toNatClampNeg), .int (xs (x3 + 3).toNatClampNeg)]) (st := []) C (c_X3_noise l D cy aC S (xs (x3 + 1).toNatClampNeg) (xs (x3 + 2).toNatClampNeg) (xs (x3 + 3).toNatClampNeg) hC) (cwV 3 C.2.2.2.2.1 gL_law_X3_noise rfl rfl rfl (by decide +kernel) ⟨by decide, by decide⟩) rfl rfl (Nat.le_of_ble_eq_true rfl) hce hsl dL_law_411 ?_
  refine l_aload_n C dL_law_414 rfl 2 rfl ?_
  refine l_aload_n C dL_law_415 rfl 0 rfl ?_
  refine l_iload_n C dL_law_416 rfl 3 rfl ?_
  refine l_iconst (v := 1) C dL_law_417 (by decide) ?_
  refine l_iadd C dL_law_418 ?_
  refine l_sld C hi1 dL_law_419 ?_
  refine l_aload_n C dL_law_420 rfl 0 rfl ?_
  refine l_iload_n C dL_law_421 rfl 3 rfl ?_
  refine l_iconst (v := 2) C dL_law_422 (by decide) ?_
  refine l_iadd C dL_law_423 ?_
  refine l_sld C hi2 dL_law_424 ?_
  refine l_aload_n C dL_law_425 rfl 0 rfl ?_
  refine l_iload_n C dL_law_426 rfl 3 rfl ?_
  refine l_iconst (v := 3) C dL_law_427 (by decide) ?_
  refine l_iadd C dL_law_428 ?_
  refine l_sld C hi3 dL_law_429 ?_
  refine l_callMi (As := [.int (xs (x3 + 1).toNatClampNeg), .int (xs (x3 + 2).toNatClampNeg), .int (xs (x3 + 3).toNatClampNeg)]) (st := [.int r]) C (c_X4_noise l D cy aM T (xs (x3 + 1).toNatClampNeg) (xs (x3 + 2).toNatClampNeg) (xs (x3 + 3).toNatClampNeg) hM) (cwV 3 C.2.2.2.2.1 gL_law_X4_noise rfl rfl rfl (by decide +kernel) ⟨by decide, by decide⟩) rfl rfl (Nat.le_of_ble_eq_true rfl) hce hsl dL_law_430 ?_
  refine l_icmp_eq (tgt := 903) C dL_law_433 (by decide) (fun _ => ?_) (fun c9 => absurd rfl c9)
  exact hnext S2 T2 hrel
set_option maxHeartbeats 4000000 in
set_option maxRecDepth 100000 in
theorem lw_crew (C : LC p s m c D cy aC aM tz b L xs) {Rel : Nat → St → St → Prop} (hs : LS_crew Rel) (hm : LSm Rel) {n : Nat} {S T : St} {x3 : Int32} (hn : n < 512) (hR : Rel n S T) (hi1 : ¬ (x3 + 1 < 0 ∨ L ≤ (x3 + 1).toNatClampNeg)) (hi2 : ¬ (x3 + 2 < 0 ∨ L ≤ (x3 + 2).toNatClampNeg)) (hi3 : ¬ (x3 + 3 < 0 ∨ L ≤ (x3 + 3).toNatClampNeg)) (hce : ce ≤ room_1.cells) (hsl : sl ≤ room_1.slots) (hnext : ∀ S2 T2 : St, Rel (n + 1) S2 T2 → LJ p l e s m b below meth c D cy aC aM ce sl Q S2 T2 903 [(0, .ref b), (1, .ref (aC 0)), (2, .ref (aM 0)), (3, .int x3)] []) : LJ p l e s m b below meth c D cy aC aM ce sl Q S T 438 [(0, .ref b), (1, .ref (aC 0)), (2, .ref (aM 0)), (3, .int x3)] [] := by
  refine l_aload_n C dL_law_438 rfl 1 rfl ?_
  refine l_aload_n C dL_law_439 rfl 0 rfl ?_
  refine l_iload_n C dL_law_440 rfl 3 rfl ?_
  refine l_iconst (v := 1) C dL_law_441 (by decide) ?_
  refine l_iadd C dL_law_442 ?_
  refine l_sld C hi1 dL_law_443 ?_
  refine l_aload_n C dL_law_444 rfl 0 rfl ?_
  refine l_iload_n C dL_law_445 rfl 3 rfl ?_
  refine l_iconst (v := 2) C dL_law_446 (by decide) ?_
  refine l_iadd C dL_law_447 ?_
  refine l_sld C hi2 dL_law_448 ?_
  obtain ⟨r, S2, T2, hC, hM, hrel⟩ := hs n S T (xs (x3 + 1).toNatClampNeg) (xs (x3 + 2).toNatClampNeg) hn hR 
  refine l_callCi (As := [.int (xs (x3 + 1).toNatClampNeg), .int (xs (x3 + 2).toNatClampNeg)]) (st := []) C (c_X3_crew l D cy aC S (xs (x3 + 1).toNatClampNeg) (xs (x3 + 2).toNatClampNeg) hC) (cwV 2 C.2.2.2.2.1 gL_law_X3_crew rfl rfl rfl (by decide +kernel) ⟨by decide, by decide⟩) rfl rfl (Nat.le_of_ble_eq_true rfl) hce hsl dL_law_449 ?_
  refine l_aload_n C dL_law_452 rfl 2 rfl ?_
  refine l_aload_n C dL_law_453 rfl 0 rfl ?_
  refine l_iload_n C dL_law_454 rfl 3 rfl ?_
  refine l_iconst (v := 1) C dL_law_455 (by decide) ?_
  refine l_iadd C dL_law_456 ?_
  refine l_sld C hi1 dL_law_457 ?_
  refine l_aload_n C dL_law_458 rfl 0 rfl ?_
  refine l_iload_n C dL_law_459 rfl 3 rfl ?_
  refine l_iconst (v := 2) C dL_law_460 (by decide) ?_
  refine l_iadd C dL_law_461 ?_
  refine l_sld C hi2 dL_law_462 ?_
  refine l_callMi (As := [.int (xs (x3 + 1).toNatClampNeg), .int (xs (x3 + 2).toNatClampNeg)]) (st := [.int r]) C (c_X4_crew l D cy aM T (xs (x3 + 1).toNatClampNeg) (xs (x3 + 2).toNatClampNeg) hM) (cwV 2 C.2.2.2.2.1 gL_law_X4_crew rfl rfl rfl (by decide +kernel) ⟨by decide, by decide⟩) rfl rfl (Nat.le_of_ble_eq_true rfl) hce hsl dL_law_463 ?_
  refine l_icmp_eq (tgt := 903) C dL_law_466 (by decide) (fun _ => ?_) (fun c9 => absurd rfl c9)
  exact hnext S2 T2 hrel
set_option maxHeartbeats 4000000 in
set_option maxRecDepth 100000 in
theorem lw_rest (C : LC p s m c D cy aC aM tz b L xs) {Rel : Nat → St → St → Prop} (hs : LS_rest Rel) (hm : LSm Rel) {n : Nat} {S T : St} {x3 : Int32} (hn : n < 512) (hR : Rel n S T) (hi1 : ¬ (x3 + 1 < 0 ∨ L ≤ (x3 + 1).toNatClampNeg)) (hi2 : ¬ (x3 + 2 < 0 ∨ L ≤ (x3 + 2).toNatClampNeg)) (hi3 : ¬ (x3 + 3 < 0 ∨ L ≤ (x3 + 3).toNatClampNeg)) (hce : ce ≤ room_1.cells) (hsl : sl ≤ room_1.slots) (hnext : ∀ S2 T2 : St, Rel (n + 1) S2 T2 → LJ p l e s m b below meth c D cy aC aM ce sl Q S2 T2 903 [(0, .ref b), (1, .ref (aC 0)), (2, .ref (aM 0)), (3, .int x3)] []) : LJ p l e s m b below meth c D cy aC aM ce sl Q S T 471 [(0, .ref b), (1, .ref (aC 0)), (2, .ref (aM 0)), (3, .int x3)] [] := by
  refine l_aload_n C dL_law_471 rfl 1 rfl ?_
  refine l_aload_n C dL_law_472 rfl 0 rfl ?_
  refine l_iload_n C dL_law_473 rfl 3 rfl ?_
  refine l_iconst (v := 1) C dL_law_474 (by decide) ?_
  refine l_iadd C dL_law_475 ?_
  refine l_sld C hi1 dL_law_476 ?_
  refine l_aload_n C dL_law_477 rfl 0 rfl ?_
  refine l_iload_n C dL_law_478 rfl 3 rfl ?_
  refine l_iconst (v := 2) C dL_law_479 (by decide) ?_
  refine l_iadd C dL_law_480 ?_
  refine l_sld C hi2 dL_law_481 ?_
  obtain ⟨r, S2, T2, hC, hM, hrel⟩ := hs n S T (xs (x3 + 1).toNatClampNeg) (xs (x3 + 2).toNatClampNeg) hn hR 
  refine l_callCi (As := [.int (xs (x3 + 1).toNatClampNeg), .int (xs (x3 + 2).toNatClampNeg)]) (st := []) C (c_X3_rest l D cy aC S (xs (x3 + 1).toNatClampNeg) (xs (x3 + 2).toNatClampNeg) hC) (cwV 2 C.2.2.2.2.1 gL_law_X3_rest rfl rfl rfl (by decide +kernel) ⟨by decide, by decide⟩) rfl rfl (Nat.le_of_ble_eq_true rfl) hce hsl dL_law_482 ?_
  refine l_aload_n C dL_law_485 rfl 2 rfl ?_
  refine l_aload_n C dL_law_486 rfl 0 rfl ?_
  refine l_iload_n C dL_law_487 rfl 3 rfl ?_
  refine l_iconst (v := 1) C dL_law_488 (by decide) ?_
  refine l_iadd C dL_law_489 ?_
  refine l_sld C hi1 dL_law_490 ?_
  refine l_aload_n C dL_law_491 rfl 0 rfl ?_
  refine l_iload_n C dL_law_492 rfl 3 rfl ?_
  refine l_iconst (v := 2) C dL_law_493 (by decide) ?_
  refine l_iadd C dL_law_494 ?_
  refine l_sld C hi2 dL_law_495 ?_
  refine l_callMi (As := [.int (xs (x3 + 1).toNatClampNeg), .int (xs (x3 + 2).toNatClampNeg)]) (st := [.int r]) C (c_X4_rest l D cy aM T (xs (x3 + 1).toNatClampNeg) (xs (x3 + 2).toNatClampNeg) hM) (cwV 2 C.2.2.2.2.1 gL_law_X4_rest rfl rfl rfl (by decide +kernel) ⟨by decide, by decide⟩) rfl rfl (Nat.le_of_ble_eq_true rfl) hce hsl dL_law_496 ?_
  refine l_icmp_eq (tgt := 903) C dL_law_499 (by decide) (fun _ => ?_) (fun c9 => absurd rfl c9)
  exact hnext S2 T2 hrel
set_option maxHeartbeats 4000000 in
set_option maxRecDepth 100000 in
theorem lw_run (C : LC p s m c D cy aC aM tz b L xs) {Rel : Nat → St → St → Prop} (hs : LS_run Rel) (hm : LSm Rel) {n : Nat} {S T : St} {x3 : Int32} (hn : n < 512) (hR : Rel n S T) (hi1 : ¬ (x3 + 1 < 0 ∨ L ≤ (x3 + 1).toNatClampNeg)) (hi2 : ¬ (x3 + 2 < 0 ∨ L ≤ (x3 + 2).toNatClampNeg)) (hi3 : ¬ (x3 + 3 < 0 ∨ L ≤ (x3 + 3).toNatClampNeg)) (hce : ce ≤ room_1.cells) (hsl : sl ≤ room_1.slots) (hnext : ∀ S2 T2 : St, Rel (n + 1) S2 T2 → LJ p l e s m b below meth c D cy aC aM ce sl Q S2 T2 903 [(0, .ref b), (1, .ref (aC 0)), (2, .ref (aM 0)), (3, .int x3)] []) : LJ p l e s m b below meth c D cy aC aM ce sl Q S T 504 [(0, .ref b), (1, .ref (aC 0)), (2, .ref (aM 0)), (3, .int x3)] [] := by
  refine l_aload_n C dL_law_504 rfl 1 rfl ?_
  refine l_aload_n C dL_law_505 rfl 0 rfl ?_
  refine l_iload_n C dL_law_506 rfl 3 rfl ?_
  refine l_iconst (v := 1) C dL_law_507 (by decide) ?_
  refine l_iadd C dL_law_508 ?_
  refine l_sld C hi1 dL_law_509 ?_
  obtain ⟨r, S2, T2, hC, hM, hrel⟩ := hs n S T (xs (x3 + 1).toNatClampNeg) hn hR 
  refine l_callCi (As := [.int (xs (x3 + 1).toNatClampNeg)]) (st := []) C (c_X3_run l D cy aC S (xs (x3 + 1).toNatClampNeg) hC) (cwV 1 C.2.2.2.2.1 gL_law_X3_run rfl rfl rfl (by decide +kernel) ⟨by decide, by decide⟩) rfl rfl (Nat.le_of_ble_eq_true rfl) hce hsl dL_law_510 ?_
  refine l_aload_n C dL_law_513 rfl 2 rfl ?_
  refine l_aload_n C dL_law_514 rfl 0 rfl ?_
  refine l_iload_n C dL_law_515 rfl 3 rfl ?_
  refine l_iconst (v := 1) C dL_law_516 (by decide) ?_
  refine l_iadd C dL_law_517 ?_
  refine l_sld C hi1 dL_law_518 ?_
  refine l_callMi (As := [.int (xs (x3 + 1).toNatClampNeg)]) (st := [.int r]) C (c_X4_run l D cy aM T (xs (x3 + 1).toNatClampNeg) hM) (cwV 1 C.2.2.2.2.1 gL_law_X4_run rfl rfl rfl (by decide +kernel) ⟨by decide, by decide⟩) rfl rfl (Nat.le_of_ble_eq_true rfl) hce hsl dL_law_519 ?_
  refine l_icmp_eq (tgt := 903) C dL_law_522 (by decide) (fun _ => ?_) (fun c9 => absurd rfl c9)
  exact hnext S2 T2 hrel
set_option maxHeartbeats 4000000 in
set_option maxRecDepth 100000 in
theorem lw_drop (C : LC p s m c D cy aC aM tz b L xs) {Rel : Nat → St → St → Prop} (hs : LS_drop Rel) (hm : LSm Rel) {n : Nat} {S T : St} {x3 : Int32} (hn : n < 512) (hR : Rel n S T) (hi1 : ¬ (x3 + 1 < 0 ∨ L ≤ (x3 + 1).toNatClampNeg)) (hi2 : ¬ (x3 + 2 < 0 ∨ L ≤ (x3 + 2).toNatClampNeg)) (hi3 : ¬ (x3 + 3 < 0 ∨ L ≤ (x3 + 3).toNatClampNeg)) (hce : ce ≤ room_1.cells) (hsl : sl ≤ room_1.slots) (hnext : ∀ S2 T2 : St, Rel (n + 1) S2 T2 → LJ p l e s m b below meth c D cy aC aM ce sl Q S2 T2 903 [(0, .ref b), (1, .ref (aC 0)), (2, .ref (aM 0)), (3, .int x3)] []) : LJ p l e s m b below meth c D cy aC aM ce sl Q S T 527 [(0, .ref b), (1, .ref (aC 0)), (2, .ref (aM 0)), (3, .int x3)] [] := by
  refine l_aload_n C dL_law_527 rfl 1 rfl ?_
  refine l_aload_n C dL_law_528 rfl 0 rfl ?_
  refine l_iload_n C dL_law_529 rfl 3 rfl ?_
  refine l_iconst (v := 1) C dL_law_530 (by decide) ?_
  refine l_iadd C dL_law_531 ?_
  refine l_sld C hi1 dL_law_532 ?_
  obtain ⟨r, S2, T2, hC, hM, hrel⟩ := hs n S T (xs (x3 + 1).toNatClampNeg) hn hR 
  refine l_callCi (As := [.int (xs (x3 + 1).toNatClampNeg)]) (st := []) C (c_X3_drop l D cy aC S (xs (x3 + 1).toNatClampNeg) hC) (cwV 1 C.2.2.2.2.1 gL_law_X3_drop rfl rfl rfl (by decide +kernel) ⟨by decide, by decide⟩) rfl rfl (Nat.le_of_ble_eq_true rfl) hce hsl dL_law_533 ?_
  refine l_aload_n C dL_law_536 rfl 2 rfl ?_
  refine l_aload_n C dL_law_537 rfl 0 rfl ?_
  refine l_iload_n C dL_law_538 rfl 3 rfl ?_
  refine l_iconst (v := 1) C dL_law_539 (by decide) ?_
  refine l_iadd C dL_law_540 ?_
  refine l_sld C hi1 dL_law_541 ?_
  refine l_callMi (As := [.int (xs (x3 + 1).toNatClampNeg)]) (st := [.int r]) C (c_X4_drop l D cy aM T (xs (x3 + 1).toNatClampNeg) hM) (cwV 1 C.2.2.2.2.1 gL_law_X4_drop rfl rfl rfl (by decide +kernel) ⟨by decide, by decide⟩) rfl rfl (Nat.le_of_ble_eq_true rfl) hce hsl dL_law_542 ?_
  refine l_icmp_eq (tgt := 903) C dL_law_545 (by decide) (fun _ => ?_) (fun c9 => absurd rfl c9)
  exact hnext S2 T2 hrel
set_option maxHeartbeats 4000000 in
set_option maxRecDepth 100000 in
theorem lw_may (C : LC p s m c D cy aC aM tz b L xs) {Rel : Nat → St → St → Prop} (hs : LS_may Rel) (hm : LSm Rel) {n : Nat} {S T : St} {x3 : Int32} (hn : n < 512) (hR : Rel n S T) (hi1 : ¬ (x3 + 1 < 0 ∨ L ≤ (x3 + 1).toNatClampNeg)) (hi2 : ¬ (x3 + 2 < 0 ∨ L ≤ (x3 + 2).toNatClampNeg)) (hi3 : ¬ (x3 + 3 < 0 ∨ L ≤ (x3 + 3).toNatClampNeg)) (hce : ce ≤ room_1.cells) (hsl : sl ≤ room_1.slots) (hnext : ∀ S2 T2 : St, Rel (n + 1) S2 T2 → LJ p l e s m b below meth c D cy aC aM ce sl Q S2 T2 903 [(0, .ref b), (1, .ref (aC 0)), (2, .ref (aM 0)), (3, .int x3)] []) : LJ p l e s m b below meth c D cy aC aM ce sl Q S T 550 [(0, .ref b), (1, .ref (aC 0)), (2, .ref (aM 0)), (3, .int x3)] [] := by
  refine l_aload_n C dL_law_550 rfl 1 rfl ?_
  refine l_aload_n C dL_law_551 rfl 0 rfl ?_
  refine l_iload_n C dL_law_552 rfl 3 rfl ?_
  refine l_iconst (v := 1) C dL_law_553 (by decide) ?_
  refine l_iadd C dL_law_554 ?_
  refine l_sld C hi1 dL_law_555 ?_
  refine l_aload_n C dL_law_556 rfl 0 rfl ?_
  refine l_iload_n C dL_law_557 rfl 3 rfl ?_
  refine l_iconst (v := 2) C dL_law_558 (by decide) ?_
  refine l_iadd C dL_law_559 ?_
  refine l_sld C hi2 dL_law_560 ?_
  obtain ⟨r, hC, hM⟩ := hs n S T (xs (x3 + 1).toNatClampNeg) (xs (x3 + 2).toNatClampNeg) hn hR 
  refine l_callCi (As := [.int (xs (x3 + 1).toNatClampNeg), .int (xs (x3 + 2).toNatClampNeg)]) (st := []) C (c_X3_may l D cy aC S (xs (x3 + 1).toNatClampNeg) (xs (x3 + 2).toNatClampNeg) hC) (cwV 2 C.2.2.2.2.1 gL_law_X3_may rfl rfl rfl (by decide +kernel) ⟨by decide, by decide⟩) rfl rfl (Nat.le_of_ble_eq_true rfl) hce hsl dL_law_561 ?_
  refine l_aload_n C dL_law_564 rfl 2 rfl ?_
  refine l_aload_n C dL_law_565 rfl 0 rfl ?_
  refine l_iload_n C dL_law_566 rfl 3 rfl ?_
  refine l_iconst (v := 1) C dL_law_567 (by decide) ?_
  refine l_iadd C dL_law_568 ?_
  refine l_sld C hi1 dL_law_569 ?_
  refine l_aload_n C dL_law_570 rfl 0 rfl ?_
  refine l_iload_n C dL_law_571 rfl 3 rfl ?_
  refine l_iconst (v := 2) C dL_law_572 (by decide) ?_
  refine l_iadd C dL_law_573 ?_
  refine l_sld C hi2 dL_law_574 ?_
  refine l_callMi (As := [.int (xs (x3 + 1).toNatClampNeg), .int (xs (x3 + 2).toNatClampNeg)]) (st := [.int r]) C (c_X4_may l D cy aM T (xs (x3 + 1).toNatClampNeg) (xs (x3 + 2).toNatClampNeg) hM) (cwV 2 C.2.2.2.2.1 gL_law_X4_may rfl rfl rfl (by decide +kernel) ⟨by decide, by decide⟩) rfl rfl (Nat.le_of_ble_eq_true rfl) hce hsl dL_law_575 ?_
  refine l_icmp_eq (tgt := 903) C dL_law_578 (by decide) (fun _ => ?_) (fun c9 => absurd rfl c9)
  exact hnext S T (hm n _ _ hR)
set_option maxHeartbeats 4000000 in
set_option maxRecDepth 100000 in
theorem lw_all (C : LC p s m c D cy aC aM tz b L xs) {Rel : Nat → St → St → Prop} (hs : LS_all Rel) (hm : LSm Rel) {n : Nat} {S T : St} {x3 : Int32} (hn : n < 512) (hR : Rel n S T) (hi1 : ¬ (x3 + 1 < 0 ∨ L ≤ (x3 + 1).toNatClampNeg)) (hi2 : ¬ (x3 + 2 < 0 ∨ L ≤ (x3 + 2).toNatClampNeg)) (hi3 : ¬ (x3 + 3 < 0 ∨ L ≤ (x3 + 3).toNatClampNeg)) (hce : ce ≤ room_1.cells) (hsl : sl ≤ room_1.slots) (hnext : ∀ S2 T2 : St, Rel (n + 1) S2 T2 → LJ p l e s m b below meth c D cy aC aM ce sl Q S2 T2 903 [(0, .ref b), (1, .ref (aC 0)), (2, .ref (aM 0)), (3, .int x3)] []) : LJ p l e s m b below meth c D cy aC aM ce sl Q S T 583 [(0, .ref b), (1, .ref (aC 0)), (2, .ref (aM 0)), (3, .int x3)] [] := by
  refine l_aload_n C dL_law_583 rfl 1 rfl ?_
  obtain ⟨r, S2, T2, hC, hM, hrel⟩ := hs n S T  hn hR 
  refine l_callCi (As := []) (st := []) C (c_X3_all l D cy aC S  hC) (cwV 0 C.2.2.2.2.1 gL_law_X3_all rfl rfl rfl (by decide +kernel) ⟨by decide, by decide⟩) rfl rfl (Nat.le_of_ble_eq_true rfl) hce hsl dL_law_584 ?_
  refine l_aload_n C dL_law_587 rfl 2 rfl ?_
  refine l_callMi (As := []) (st := [.int r]) C (c_X4_all l D cy aM T  hM) (cwV 0 C.2.2.2.2.1 gL_law_X4_all rfl rfl rfl (by decide +kernel) ⟨by decide, by decide⟩) rfl rfl (Nat.le_of_ble_eq_true rfl) hce hsl dL_law_588 ?_
  refine l_icmp_eq (tgt := 903) C dL_law_591 (by decide) (fun _ => ?_) (fun c9 => absurd rfl c9)
  exact hnext S2 T2 hrel
set_option maxHeartbeats 4000000 in
set_option maxRecDepth 100000 in
theorem lw_late (C : LC p s m c D cy aC aM tz b L xs) {Rel : Nat → St → St → Prop} (hs : LS_late Rel) (hm : LSm Rel) {n : Nat} {S T : St} {x3 : Int32} (hn : n < 512) (hR : Rel n S T) (hi1 : ¬ (x3 + 1 < 0 ∨ L ≤ (x3 + 1).toNatClampNeg)) (hi2 : ¬ (x3 + 2 < 0 ∨ L ≤ (x3 + 2).toNatClampNeg)) (hi3 : ¬ (x3 + 3 < 0 ∨ L ≤ (x3 + 3).toNatClampNeg)) (hce : ce ≤ room_1.cells) (hsl : sl ≤ room_1.slots) (hnext : ∀ S2 T2 : St, Rel (n + 1) S2 T2 → LJ p l e s m b below meth c D cy aC aM ce sl Q S2 T2 903 [(0, .ref b), (1, .ref (aC 0)), (2, .ref (aM 0)), (3, .int x3)] []) : LJ p l e s m b below meth c D cy aC aM ce sl Q S T 596 [(0, .ref b), (1, .ref (aC 0)), (2, .ref (aM 0)), (3, .int x3)] [] := by
  refine l_aload_n C dL_law_596 rfl 1 rfl ?_
  refine l_aload_n C dL_law_597 rfl 0 rfl ?_
  refine l_iload_n C dL_law_598 rfl 3 rfl ?_
  refine l_iconst (v := 1) C dL_law_599 (by decide) ?_
  refine l_iadd C dL_law_600 ?_
  refine l_sld C hi1 dL_law_601 ?_
  refine l_aload_n C dL_law_602 rfl 0 rfl ?_
  refine l_iload_n C dL_law_603 rfl 3 rfl ?_
  refine l_iconst (v := 2) C dL_law_604 (by decide) ?_
  refine l_iadd C dL_law_605 ?_
  refine l_sld C hi2 dL_law_606 ?_
  obtain ⟨r, S2, T2, hC, hM, hrel⟩ := hs n S T (xs (x3 + 1).toNatClampNeg) (xs (x3 + 2).toNatClampNeg) hn hR 
  refine l_callCi (As := [.int (xs (x3 + 1).toNatClampNeg), .int (xs (x3 + 2).toNatClampNeg)]) (st := []) C (c_X3_late l D cy aC S (xs (x3 + 1).toNatClampNeg) (xs (x3 + 2).toNatClampNeg) hC) (cwV 2 C.2.2.2.2.1 gL_law_X3_late rfl rfl rfl (by decide +kernel) ⟨by decide, by decide⟩) rfl rfl (Nat.le_of_ble_eq_true rfl) hce hsl dL_law_607 ?_
  refine l_aload_n C dL_law_610 rfl 2 rfl ?_
  refine l_aload_n C dL_law_611 rfl 0 rfl ?_
  refine l_iload_n C dL_law_612 rfl 3 rfl ?_
  refine l_iconst (v := 1) C dL_law_613 (by decide) ?_
  refine l_iadd C dL_law_614 ?_
  refine l_sld C hi1 dL_law_615 ?_
  refine l_aload_n C dL_law_616 rfl 0 rfl ?_
  refine l_iload_n C dL_law_617 rfl 3 rfl ?_
  refine l_iconst (v := 2) C dL_law_618 (by decide) ?_
  refine l_iadd C dL_law_619 ?_
  refine l_sld C hi2 dL_law_620 ?_
  refine l_callMi (As := [.int (xs (x3 + 1).toNatClampNeg), .int (xs (x3 + 2).toNatClampNeg)]) (st := [.int r]) C (c_X4_late l D cy aM T (xs (x3 + 1).toNatClampNeg) (xs (x3 + 2).toNatClampNeg) hM) (cwV 2 C.2.2.2.2.1 gL_law_X4_late rfl rfl rfl (by decide +kernel) ⟨by decide, by decide⟩) rfl rfl (Nat.le_of_ble_eq_true rfl) hce hsl dL_law_621 ?_
  refine l_icmp_eq (tgt := 903) C dL_law_624 (by decide) (fun _ => ?_) (fun c9 => absurd rfl c9)
  exact hnext S2 T2 hrel
set_option maxHeartbeats 4000000 in
set_option maxRecDepth 100000 in
theorem lw_moved (C : LC p s m c D cy aC aM tz b L xs) {Rel : Nat → St → St → Prop} (hs : LS_moved Rel) (hm : LSm Rel) {n : Nat} {S T : St} {x3 : Int32} (hn : n < 512) (hR : Rel n S T) (hi1 : ¬ (x3 + 1 < 0 ∨ L ≤ (x3 + 1).toNatClampNeg)) (hi2 : ¬ (x3 + 2 < 0 ∨ L ≤ (x3 + 2).toNatClampNeg)) (hi3 : ¬ (x3 + 3 < 0 ∨ L ≤ (x3 + 3).toNatClampNeg)) (hce : ce ≤ room_1.cells) (hsl : sl ≤ room_1.slots) (hnext : ∀ S2 T2 : St, Rel (n + 1) S2 T2 → LJ p l e s m b below meth c D cy aC aM ce sl Q S2 T2 903 [(0, .ref b), (1, .ref (aC 0)), (2, .ref (aM 0)), (3, .int x3)] []) : LJ p l e s m b below meth c D cy aC aM ce sl Q S T 629 [(0, .ref b), (1, .ref (aC 0)), (2, .ref (aM 0)), (3, .int x3)] [] := by
  refine l_aload_n C dL_law_629 rfl 1 rfl ?_
  refine l_aload_n C dL_law_630 rfl 0 rfl ?_
  refine l_iload_n C dL_law_631 rfl 3 rfl ?_
  refine l_iconst (v := 1) C dL_law_632 (by decide) ?_
  refine l_iadd C dL_law_633 ?_
  refine l_sld C hi1 dL_law_634 ?_
  obtain ⟨r, hC, hM⟩ := hs n S T (xs (x3 + 1).toNatClampNeg) hn hR 
  refine l_callCi (As := [.int (xs (x3 + 1).toNatClampNeg)]) (st := []) C (c_X3_moved l D cy aC S (xs (x3 + 1).toNatClampNeg) hC) (cwV 1 C.2.2.2.2.1 gL_law_X3_moved rfl rfl rfl (by decide +kernel) ⟨by decide, by decide⟩) rfl rfl (Nat.le_of_ble_eq_true rfl) hce hsl dL_law_635 ?_
  refine l_aload_n C dL_law_638 rfl 2 rfl ?_
  refine l_aload_n C dL_law_639 rfl 0 rfl ?_
  refine l_iload_n C dL_law_640 rfl 3 rfl ?_
  refine l_iconst (v := 1) C dL_law_641 (by decide) ?_
  refine l_iadd C dL_law_642 ?_
  refine l_sld C hi1 dL_law_643 ?_
  refine l_callMi (As := [.int (xs (x3 + 1).toNatClampNeg)]) (st := [.int r]) C (c_X4_moved l D cy aM T (xs (x3 + 1).toNatClampNeg) hM) (cwV 1 C.2.2.2.2.1 gL_law_X4_moved rfl rfl rfl (by decide +kernel) ⟨by decide, by decide⟩) rfl rfl (Nat.le_of_ble_eq_true rfl) hce hsl dL_law_644 ?_
  refine l_icmp_eq (tgt := 903) C dL_law_647 (by decide) (fun _ => ?_) (fun c9 => absurd rfl c9)
  exact hnext S T (hm n _ _ hR)
set_option maxHeartbeats 4000000 in
set_option maxRecDepth 100000 in
theorem lw_start (C : LC p s m c D cy aC aM tz b L xs) {Rel : Nat → St → St → Prop} (hs : LS_start Rel) (hm : LSm Rel) {n : Nat} {S T : St} {x3 : Int32} (hn : n < 512) (hR : Rel n S T) (hi1 : ¬ (x3 + 1 < 0 ∨ L ≤ (x3 + 1).toNatClampNeg)) (hi2 : ¬ (x3 + 2 < 0 ∨ L ≤ (x3 + 2).toNatClampNeg)) (hi3 : ¬ (x3 + 3 < 0 ∨ L ≤ (x3 + 3).toNatClampNeg)) (hce : ce ≤ room_1.cells) (hsl : sl ≤ room_1.slots) (hnext : ∀ S2 T2 : St, Rel (n + 1) S2 T2 → LJ p l e s m b below meth c D cy aC aM ce sl Q S2 T2 903 [(0, .ref b), (1, .ref (aC 0)), (2, .ref (aM 0)), (3, .int x3)] []) : LJ p l e s m b below meth c D cy aC aM ce sl Q S T 652 [(0, .ref b), (1, .ref (aC 0)), (2, .ref (aM 0)), (3, .int x3)] [] := by
  refine l_aload_n C dL_law_652 rfl 1 rfl ?_
  refine l_aload_n C dL_law_653 rfl 0 rfl ?_
  refine l_iload_n C dL_law_654 rfl 3 rfl ?_
  refine l_iconst (v := 1) C dL_law_655 (by decide) ?_
  refine l_iadd C dL_law_656 ?_
  refine l_sld C hi1 dL_law_657 ?_
  obtain ⟨r, hC, hM⟩ := hs n S T (xs (x3 + 1).toNatClampNeg) hn hR 
  refine l_callCi (As := [.int (xs (x3 + 1).toNatClampNeg)]) (st := []) C (c_X3_start l D cy aC S (xs (x3 + 1).toNatClampNeg) hC) (cwV 1 C.2.2.2.2.1 gL_law_X3_start rfl rfl rfl (by decide +kernel) ⟨by decide, by decide⟩) rfl rfl (Nat.le_of_ble_eq_true rfl) hce hsl dL_law_658 ?_
  refine l_aload_n C dL_law_661 rfl 2 rfl ?_
  refine l_aload_n C dL_law_662 rfl 0 rfl ?_
  refine l_iload_n C dL_law_663 rfl 3 rfl ?_
  refine l_iconst (v := 1) C dL_law_664 (by decide) ?_
  refine l_iadd C dL_law_665 ?_
  refine l_sld C hi1 dL_law_666 ?_
  refine l_callMi (As := [.int (xs (x3 + 1).toNatClampNeg)]) (st := [.int r]) C (c_X4_start l D cy aM T (xs (x3 + 1).toNatClampNeg) hM) (cwV 1 C.2.2.2.2.1 gL_law_X4_start rfl rfl rfl (by decide +kernel) ⟨by decide, by decide⟩) rfl rfl (Nat.le_of_ble_eq_true rfl) hce hsl dL_law_667 ?_
  refine l_icmp_eq (tgt := 903) C dL_law_670 (by decide) (fun _ => ?_) (fun c9 => absurd rfl c9)
  exact hnext S T (hm n _ _ hR)
set_option maxHeartbeats 4000000 in
set_option maxRecDepth 100000 in
theorem lw_least (C : LC p s m c D cy aC aM tz b L xs) {Rel : Nat → St → St → Prop} (hs : LS_least Rel) (hm : LSm Rel) {n : Nat} {S T : St} {x3 : Int32} (hn : n < 512) (hR : Rel n S T) (hi1 : ¬ (x3 + 1 < 0 ∨ L ≤ (x3 + 1).toNatClampNeg)) (hi2 : ¬ (x3 + 2 < 0 ∨ L ≤ (x3 + 2).toNatClampNeg)) (hi3 : ¬ (x3 + 3 < 0 ∨ L ≤ (x3 + 3).toNatClampNeg)) (hce : ce ≤ room_1.cells) (hsl : sl ≤ room_1.slots) (hnext : ∀ S2 T2 : St, Rel (n + 1) S2 T2 → LJ p l e s m b below meth c D cy aC aM ce sl Q S2 T2 903 [(0, .ref b), (1, .ref (aC 0)), (2, .ref (aM 0)), (3, .int x3)] []) : LJ p l e s m b below meth c D cy aC aM ce sl Q S T 675 [(0, .ref b), (1, .ref (aC 0)), (2, .ref (aM 0)), (3, .int x3)] [] := by
  refine l_aload_n C dL_law_675 rfl 1 rfl ?_
  refine l_aload_n C dL_law_676 rfl 0 rfl ?_
  refine l_iload_n C dL_law_677 rfl 3 rfl ?_
  refine l_iconst (v := 1) C dL_law_678 (by decide) ?_
  refine l_iadd C dL_law_679 ?_
  refine l_sld C hi1 dL_law_680 ?_
  obtain ⟨r, hC, hM⟩ := hs n S T (xs (x3 + 1).toNatClampNeg) hn hR 
  refine l_callCi (As := [.int (xs (x3 + 1).toNatClampNeg)]) (st := []) C (c_X3_least l D cy aC S (xs (x3 + 1).toNatClampNeg) hC) (cwV 1 C.2.2.2.2.1 gL_law_X3_least rfl rfl rfl (by decide +kernel) ⟨by decide, by decide⟩) rfl rfl (Nat.le_of_ble_eq_true rfl) hce hsl dL_law_681 ?_
  refine l_aload_n C dL_law_684 rfl 2 rfl ?_
  refine l_aload_n C dL_law_685 rfl 0 rfl ?_
  refine l_iload_n C dL_law_686 rfl 3 rfl ?_
  refine l_iconst (v := 1) C dL_law_687 (by decide) ?_
  refine l_iadd C dL_law_688 ?_
  refine l_sld C hi1 dL_law_689 ?_
  refine l_callMi (As := [.int (xs (x3 + 1).toNatClampNeg)]) (st := [.int r]) C (c_X4_least l D cy aM T (xs (x3 + 1).toNatClampNeg) hM) (cwV 1 C.2.2.2.2.1 gL_law_X4_least rfl rfl rfl (by decide +kernel) ⟨by decide, by decide⟩) rfl rfl (Nat.le_of_ble_eq_true rfl) hce hsl dL_law_690 ?_
  refine l_icmp_eq (tgt := 903) C dL_law_693 (by decide) (fun _ => ?_) (fun c9 => absurd rfl c9)
  exact hnext S T (hm n _ _ hR)
set_option maxHeartbeats 4000000 in
set_option maxRecDepth 100000 in
theorem lw_act (C : LC p s m c D cy aC aM tz b L xs) {Rel : Nat → St → St → Prop} (hs : LS_act Rel) (hm : LSm Rel) {n : Nat} {S T : St} {x3 : Int32} (hn : n < 512) (hR : Rel n S T) (hi1 : ¬ (x3 + 1 < 0 ∨ L ≤ (x3 + 1).toNatClampNeg)) (hi2 : ¬ (x3 + 2 < 0 ∨ L ≤ (x3 + 2).toNatClampNeg)) (hi3 : ¬ (x3 + 3 < 0 ∨ L ≤ (x3 + 3).toNatClampNeg)) (hce : ce ≤ room_1.cells) (hsl : sl ≤ room_1.slots) (hnext : ∀ S2 T2 : St, Rel (n + 1) S2 T2 → LJ p l e s m b below meth c D cy aC aM ce sl Q S2 T2 903 [(0, .ref b), (1, .ref (aC 0)), (2, .ref (aM 0)), (3, .int x3)] []) : LJ p l e s m b below meth c D cy aC aM ce sl Q S T 698 [(0, .ref b), (1, .ref (aC 0)), (2, .ref (aM 0)), (3, .int x3)] [] := by
  refine l_aload_n C dL_law_698 rfl 1 rfl ?_
  refine l_aload_n C dL_law_699 rfl 0 rfl ?_
  refine l_iload_n C dL_law_700 rfl 3 rfl ?_
  refine l_iconst (v := 1) C dL_law_701 (by decide) ?_
  refine l_iadd C dL_law_702 ?_
  refine l_sld C hi1 dL_law_703 ?_
  refine l_aload_n C dL_law_704 rfl 0 rfl ?_
  refine l_iload_n C dL_law_705 rfl 3 rfl ?_
  refine l_iconst (v := 2) C dL_law_706 (by decide) ?_
  refine l_iadd C dL_law_707 ?_
  refine l_sld C hi2 dL_law_708 ?_
  refine l_aload_n C dL_law_709 rfl 0 rfl ?_
  refine l_iload_n C dL_law_710 rfl 3 rfl ?_
  refine l_iconst (v := 3) C dL_law_711 (by decide) ?_
  refine l_iadd C dL_law_712 ?_
  refine l_sld C hi3 dL_law_713 ?_
  obtain ⟨r, S2, T2, hC, hM, hrel⟩ := hs n S T (xs (x3 + 1).toNatClampNeg) (xs (x3 + 2).toNatClampNeg) (xs (x3 + 3).toNatClampNeg) hn hR 
  refine l_callCz (As := [.int (xs (x3 + 1).toNatClampNeg), .int (xs (x3 + 2).toNatClampNeg), .int (xs (x3 + 3).toNatClampNeg)]) (st := []) C (c_X3_act l D cy aC tz S (xs (x3 + 1).toNatClampNeg) (xs (x3 + 2).toNatClampNeg) (xs (x3 + 3).toNatClampNeg) hC) (cwV 3 C.2.2.2.2.1 gL_law_X3_act rfl rfl rfl (by decide +kernel) ⟨by decide, by decide⟩) rfl rfl (Nat.le_of_ble_eq_true rfl) hce hsl dL_law_714 ?_
  refine l_aload_n C dL_law_717 rfl 2 rfl ?_
  refine l_aload_n C dL_law_718 rfl 0 rfl ?_
  refine l_iload_n C dL_law_719 rfl 3 rfl ?_
  refine l_iconst (v := 1) C dL_law_720 (by decide) ?_
  refine l_iadd C dL_law_721 ?_
  refine l_sld C hi1 dL_law_722 ?_
  refine l_aload_n C dL_law_723 rfl 0 rfl ?_
  refine l_iload_n C dL_law_724 rfl 3 rfl ?_
  refine l_iconst (v := 2) C dL_law_725 (by decide) ?_
  refine l_iadd C dL_law_726 ?_
  refine l_sld C hi2 dL_law_727 ?_
  refine l_aload_n C dL_law_728 rfl 0 rfl ?_
  refine l_iload_n C dL_law_729 rfl 3 rfl ?_
  refine l_iconst (v := 3) C dL_law_730 (by decide) ?_
  refine l_iadd C dL_law_731 ?_
  refine l_sld C hi3 dL_law_732 ?_
  refine l_callMi (As := [.int (xs (x3 + 1).toNatClampNeg), .int (xs (x3 + 2).toNatClampNeg), .int (xs (x3 + 3).toNatClampNeg)]) (st := [.int r]) C (c_X4_act l D cy aM T (xs (x3 + 1).toNatClampNeg) (xs (x3 + 2).toNatClampNeg) (xs (x3 + 3).toNatClampNeg) hM) (cwV 3 C.2.2.2.2.1 gL_law_X4_act rfl rfl rfl (by decide +kernel) ⟨by decide, by decide⟩) rfl rfl (Nat.le_of_ble_eq_true rfl) hce hsl dL_law_733 ?_
  refine l_icmp_eq (tgt := 903) C dL_law_736 (by decide) (fun _ => ?_) (fun c9 => absurd rfl c9)
  exact hnext S2 T2 hrel
set_option maxHeartbeats 4000000 in
set_option maxRecDepth 100000 in
theorem lw_state (C : LC p s m c D cy aC aM tz b L xs) {Rel : Nat → St → St → Prop} (hs : LS_state Rel) (hm : LSm Rel) {n : Nat} {S T : St} {x3 : Int32} (hn : n < 512) (hR : Rel n S T) (hi1 : ¬ (x3 + 1 < 0 ∨ L ≤ (x3 + 1).toNatClampNeg)) (hi2 : ¬ (x3 + 2 < 0 ∨ L ≤ (x3 + 2).toNatClampNeg)) (hi3 : ¬ (x3 + 3 < 0 ∨ L ≤ (x3 + 3).toNatClampNeg)) (hce : ce ≤ room_1.cells) (hsl : sl ≤ room_1.slots) (hnext : ∀ S2 T2 : St, Rel (n + 1) S2 T2 → LJ p l e s m b below meth c D cy aC aM ce sl Q S2 T2 903 [(0, .ref b), (1, .ref (aC 0)), (2, .ref (aM 0)), (3, .int x3)] []) : LJ p l e s m b below meth c D cy aC aM ce sl Q S T 741 [(0, .ref b), (1, .ref (aC 0)), (2, .ref (aM 0)), (3, .int x3)] [] := by
  refine l_aload_n C dL_law_741 rfl 1 rfl ?_
  refine l_aload_n C dL_law_742 rfl 0 rfl ?_
  refine l_iload_n C dL_law_743 rfl 3 rfl ?_
  refine l_iconst (v := 1) C dL_law_744 (by decide) ?_
  refine l_iadd C dL_law_745 ?_
  refine l_sld C hi1 dL_law_746 ?_
  obtain ⟨r, hC, hM⟩ := hs n S T (xs (x3 + 1).toNatClampNeg) hn hR 
  refine l_callCi (As := [.int (xs (x3 + 1).toNatClampNeg)]) (st := []) C (c_X3_state l D cy aC S (xs (x3 + 1).toNatClampNeg) hC) (cwV 1 C.2.2.2.2.1 gL_law_X3_state rfl rfl rfl (by decide +kernel) ⟨by decide, by decide⟩) rfl rfl (Nat.le_of_ble_eq_true rfl) hce hsl dL_law_747 ?_
  refine l_aload_n C dL_law_750 rfl 2 rfl ?_
  refine l_aload_n C dL_law_751 rfl 0 rfl ?_
  refine l_iload_n C dL_law_752 rfl 3 rfl ?_
  refine l_iconst (v := 1) C dL_law_753 (by decide) ?_
  refine l_iadd C dL_law_754 ?_
  refine l_sld C hi1 dL_law_755 ?_
  refine l_callMi (As := [.int (xs (x3 + 1).toNatClampNeg)]) (st := [.int r]) C (c_X4_state l D cy aM T (xs (x3 + 1).toNatClampNeg) hM) (cwV 1 C.2.2.2.2.1 gL_law_X4_state rfl rfl rfl (by decide +kernel) ⟨by decide, by decide⟩) rfl rfl (Nat.le_of_ble_eq_true rfl) hce hsl dL_law_756 ?_
  refine l_icmp_eq (tgt := 903) C dL_law_759 (by decide) (fun _ => ?_) (fun c9 => absurd rfl c9)
  exact hnext S T (hm n _ _ hR)
set_option maxHeartbeats 4000000 in
set_option maxRecDepth 100000 in
theorem lw_notice (C : LC p s m c D cy aC aM tz b L xs) {Rel : Nat → St → St → Prop} (hs : LS_notice Rel) (hm : LSm Rel) {n : Nat} {S T : St} {x3 : Int32} (hn : n < 512) (hR : Rel n S T) (hi1 : ¬ (x3 + 1 < 0 ∨ L ≤ (x3 + 1).toNatClampNeg)) (hi2 : ¬ (x3 + 2 < 0 ∨ L ≤ (x3 + 2).toNatClampNeg)) (hi3 : ¬ (x3 + 3 < 0 ∨ L ≤ (x3 + 3).toNatClampNeg)) (hce : ce ≤ room_1.cells) (hsl : sl ≤ room_1.slots) (hnext : ∀ S2 T2 : St, Rel (n + 1) S2 T2 → LJ p l e s m b below meth c D cy aC aM ce sl Q S2 T2 903 [(0, .ref b), (1, .ref (aC 0)), (2, .ref (aM 0)), (3, .int x3)] []) : LJ p l e s m b below meth c D cy aC aM ce sl Q S T 764 [(0, .ref b), (1, .ref (aC 0)), (2, .ref (aM 0)), (3, .int x3)] [] := by
  refine l_aload_n C dL_law_764 rfl 1 rfl ?_
  refine l_aload_n C dL_law_765 rfl 0 rfl ?_
  refine l_iload_n C dL_law_766 rfl 3 rfl ?_
  refine l_iconst (v := 1) C dL_law_767 (by decide) ?_
  refine l_iadd C dL_law_768 ?_
  refine l_sld C hi1 dL_law_769 ?_
  refine l_aload_n C dL_law_770 rfl 0 rfl ?_
  refine l_iload_n C dL_law_771 rfl 3 rfl ?_
  refine l_iconst (v := 2) C dL_law_772 (by decide) ?_
  refine l_iadd C dL_law_773 ?_
  refine l_sld C hi2 dL_law_774 ?_
  obtain ⟨r, hC, hM⟩ := hs n S T (xs (x3 + 1).toNatClampNeg) (xs (x3 + 2).toNatClampNeg) hn hR 
  refine l_callCi (As := [.int (xs (x3 + 1).toNatClampNeg), .int (xs (x3 + 2).toNatClampNeg)]) (st := []) C (c_X3_notice l D cy aC S (xs (x3 + 1).toNatClampNeg) (xs (x3 + 2).toNatClampNeg) hC) (cwV 2 C.2.2.2.2.1 gL_law_X3_notice rfl rfl rfl (by decide +kernel) ⟨by decide, by decide⟩) rfl rfl (Nat.le_of_ble_eq_true rfl) hce hsl dL_law_775 ?_
  refine l_aload_n C dL_law_778 rfl 2 rfl ?_
  refine l_aload_n C dL_law_779 rfl 0 rfl ?_
  refine l_iload_n C dL_law_780 rfl 3 rfl ?_
  refine l_iconst (v := 1) C dL_law_781 (by decide) ?_
  refine l_iadd C dL_law_782 ?_
  refine l_sld C hi1 dL_law_783 ?_
  refine l_aload_n C dL_law_784 rfl 0 rfl ?_
  refine l_iload_n C dL_law_785 rfl 3 rfl ?_
  refine l_iconst (v := 2) C dL_law_786 (by decide) ?_
  refine l_iadd C dL_law_787 ?_
  refine l_sld C hi2 dL_law_788 ?_
  refine l_callMi (As := [.int (xs (x3 + 1).toNatClampNeg), .int (xs (x3 + 2).toNatClampNeg)]) (st := [.int r]) C (c_X4_notice l D cy aM T (xs (x3 + 1).toNatClampNeg) (xs (x3 + 2).toNatClampNeg) hM) (cwV 2 C.2.2.2.2.1 gL_law_X4_notice rfl rfl rfl (by decide +kernel) ⟨by decide, by decide⟩) rfl rfl (Nat.le_of_ble_eq_true rfl) hce hsl dL_law_789 ?_
  refine l_icmp_eq (tgt := 903) C dL_law_792 (by decide) (fun _ => ?_) (fun c9 => absurd rfl c9)
  exact hnext S T (hm n _ _ hR)
set_option maxHeartbeats 4000000 in
set_option maxRecDepth 100000 in
theorem lw_rate (C : LC p s m c D cy aC aM tz b L xs) {Rel : Nat → St → St → Prop} (hs : LS_rate Rel) (hm : LSm Rel) {n : Nat} {S T : St} {x3 : Int32} (hn : n < 512) (hR : Rel n S T) (hi1 : ¬ (x3 + 1 < 0 ∨ L ≤ (x3 + 1).toNatClampNeg)) (hi2 : ¬ (x3 + 2 < 0 ∨ L ≤ (x3 + 2).toNatClampNeg)) (hi3 : ¬ (x3 + 3 < 0 ∨ L ≤ (x3 + 3).toNatClampNeg)) (hce : ce ≤ room_1.cells) (hsl : sl ≤ room_1.slots) (hnext : ∀ S2 T2 : St, Rel (n + 1) S2 T2 → LJ p l e s m b below meth c D cy aC aM ce sl Q S2 T2 903 [(0, .ref b), (1, .ref (aC 0)), (2, .ref (aM 0)), (3, .int x3)] []) : LJ p l e s m b below meth c D cy aC aM ce sl Q S T 797 [(0, .ref b), (1, .ref (aC 0)), (2, .ref (aM 0)), (3, .int x3)] [] := by
  refine l_aload_n C dL_law_797 rfl 1 rfl ?_
  refine l_aload_n C dL_law_798 rfl 0 rfl ?_
  refine l_iload_n C dL_law_799 rfl 3 rfl ?_
  refine l_iconst (v := 1) C dL_law_800 (by decide) ?_
  refine l_iadd C dL_law_801 ?_
  refine l_sld C hi1 dL_law_802 ?_
  obtain ⟨r, S2, T2, hC, hM, hrel⟩ := hs n S T (xs (x3 + 1).toNatClampNeg) hn hR 
  refine l_callCi (As := [.int (xs (x3 + 1).toNatClampNeg)]) (st := []) C (c_X3_rate l D cy aC S (xs (x3 + 1).toNatClampNeg) hC) (cwV 1 C.2.2.2.2.1 gL_law_X3_rate rfl rfl rfl (by decide +kernel) ⟨by decide, by decide⟩) rfl rfl (Nat.le_of_ble_eq_true rfl) hce hsl dL_law_803 ?_
  refine l_aload_n C dL_law_806 rfl 2 rfl ?_
  refine l_aload_n C dL_law_807 rfl 0 rfl ?_
  refine l_iload_n C dL_law_808 rfl 3 rfl ?_
  refine l_iconst (v := 1) C dL_law_809 (by decide) ?_
  refine l_iadd C dL_law_810 ?_
  refine l_sld C hi1 dL_law_811 ?_
  refine l_callMi (As := [.int (xs (x3 + 1).toNatClampNeg)]) (st := [.int r]) C (c_X4_rate l D cy aM T (xs (x3 + 1).toNatClampNeg) hM) (cwV 1 C.2.2.2.2.1 gL_law_X4_rate rfl rfl rfl (by decide +kernel) ⟨by decide, by decide⟩) rfl rfl (Nat.le_of_ble_eq_true rfl) hce hsl dL_law_812 ?_
  refine l_icmp_eq (tgt := 903) C dL_law_815 (by decide) (fun _ => ?_) (fun c9 => absurd rfl c9)
  exact hnext S2 T2 hrel
set_option maxHeartbeats 4000000 in
set_option maxRecDepth 100000 in
theorem lw_paid (C : LC p s m c D cy aC aM tz b L xs) {Rel : Nat → St → St → Prop} (hs : LS_paid Rel) (hm : LSm Rel) {n : Nat} {S T : St} {x3 : Int32} (hn : n < 512) (hR : Rel n S T) (hi1 : ¬ (x3 + 1 < 0 ∨ L ≤ (x3 + 1).toNatClampNeg)) (hi2 : ¬ (x3 + 2 < 0 ∨ L ≤ (x3 + 2).toNatClampNeg)) (hi3 : ¬ (x3 + 3 < 0 ∨ L ≤ (x3 + 3).toNatClampNeg)) (hce : ce ≤ room_1.cells) (hsl : sl ≤ room_1.slots) (hnext : ∀ S2 T2 : St, Rel (n + 1) S2 T2 → LJ p l e s m b below meth c D cy aC aM ce sl Q S2 T2 903 [(0, .ref b), (1, .ref (aC 0)), (2, .ref (aM 0)), (3, .int x3)] []) : LJ p l e s m b below meth c D cy aC aM ce sl Q S T 820 [(0, .ref b), (1, .ref (aC 0)), (2, .ref (aM 0)), (3, .int x3)] [] := by
  refine l_aload_n C dL_law_820 rfl 1 rfl ?_
  refine l_aload_n C dL_law_821 rfl 0 rfl ?_
  refine l_iload_n C dL_law_822 rfl 3 rfl ?_
  refine l_iconst (v := 1) C dL_law_823 (by decide) ?_
  refine l_iadd C dL_law_824 ?_
  refine l_sld C hi1 dL_law_825 ?_
  obtain ⟨r, hC, hM⟩ := hs n S T (xs (x3 + 1).toNatClampNeg) hn hR 
  refine l_callCl (As := [.int (xs (x3 + 1).toNatClampNeg)]) (st := []) C (c_X3_paid l D cy aC S (xs (x3 + 1).toNatClampNeg) hC) (cwV 1 C.2.2.2.2.1 gL_law_X3_paid rfl rfl rfl (by decide +kernel) ⟨by decide, by decide⟩) rfl rfl (Nat.le_of_ble_eq_true rfl) hce hsl dL_law_826 ?_
  refine l_aload_n C dL_law_829 rfl 2 rfl ?_
  refine l_aload_n C dL_law_830 rfl 0 rfl ?_
  refine l_iload_n C dL_law_831 rfl 3 rfl ?_
  refine l_iconst (v := 1) C dL_law_832 (by decide) ?_
  refine l_iadd C dL_law_833 ?_
  refine l_sld C hi1 dL_law_834 ?_
  refine l_callMl (As := [.int (xs (x3 + 1).toNatClampNeg)]) (st := [.long r]) C (c_X4_paid l D cy aM T (xs (x3 + 1).toNatClampNeg) hM) (cwV 1 C.2.2.2.2.1 gL_law_X4_paid rfl rfl rfl (by decide +kernel) ⟨by decide, by decide⟩) rfl rfl (Nat.le_of_ble_eq_true rfl) hce hsl dL_law_835 ?_
  refine l_lcmp C dL_law_838 ?_
  refine l_if_eq (tgt := 903) C dL_law_839 (by decide) (fun _ => ?_) (fun c9 => absurd (by simp [lg_cmp]) c9)
  exact hnext S T (hm n _ _ hR)
set_option maxHeartbeats 4000000 in
set_option maxRecDepth 100000 in
theorem lw_open (C : LC p s m c D cy aC aM tz b L xs) {Rel : Nat → St → St → Prop} (hs : LS_open Rel) (hm : LSm Rel) {n : Nat} {S T : St} {x3 : Int32} (hn : n < 512) (hR : Rel n S T) (hi1 : ¬ (x3 + 1 < 0 ∨ L ≤ (x3 + 1).toNatClampNeg)) (hi2 : ¬ (x3 + 2 < 0 ∨ L ≤ (x3 + 2).toNatClampNeg)) (hi3 : ¬ (x3 + 3 < 0 ∨ L ≤ (x3 + 3).toNatClampNeg)) (hce : ce ≤ room_1.cells) (hsl : sl ≤ room_1.slots) (hnext : ∀ S2 T2 : St, Rel (n + 1) S2 T2 → LJ p l e s m b below meth c D cy aC aM ce sl Q S2 T2 903 [(0, .ref b), (1, .ref (aC 0)), (2, .ref (aM 0)), (3, .int x3)] []) : LJ p l e s m b below meth c D cy aC aM ce sl Q S T 844 [(0, .ref b), (1, .ref (aC 0)), (2, .ref (aM 0)), (3, .int x3)] [] := by
  refine l_aload_n C dL_law_844 rfl 1 rfl ?_
  refine l_aload_n C dL_law_845 rfl 0 rfl ?_
  refine l_iload_n C dL_law_846 rfl 3 rfl ?_
  refine l_iconst (v := 1) C dL_law_847 (by decide) ?_
  refine l_iadd C dL_law_848 ?_
  refine l_sld C hi1 dL_law_849 ?_
  obtain ⟨r, hC, hM⟩ := hs n S T (xs (x3 + 1).toNatClampNeg) hn hR 
  refine l_callCi (As := [.int (xs (x3 + 1).toNatClampNeg)]) (st := []) C (c_X3_open l D cy aC S (xs (x3 + 1).toNatClampNeg) hC) (cwV 1 C.2.2.2.2.1 gL_law_X3_open rfl rfl rfl (by decide +kernel) ⟨by decide, by decide⟩) rfl rfl (Nat.le_of_ble_eq_true rfl) hce hsl dL_law_850 ?_
  refine l_aload_n C dL_law_853 rfl 2 rfl ?_
  refine l_aload_n C dL_law_854 rfl 0 rfl ?_
  refine l_iload_n C dL_law_855 rfl 3 rfl ?_
  refine l_iconst (v := 1) C dL_law_856 (by decide) ?_
  refine l_iadd C dL_law_857 ?_
  refine l_sld C hi1 dL_law_858 ?_
  refine l_callMi (As := [.int (xs (x3 + 1).toNatClampNeg)]) (st := [.int r]) C (c_X4_open l D cy aM T (xs (x3 + 1).toNatClampNeg) hM) (cwV 1 C.2.2.2.2.1 gL_law_X4_open rfl rfl rfl (by decide +kernel) ⟨by decide, by decide⟩) rfl rfl (Nat.le_of_ble_eq_true rfl) hce hsl dL_law_859 ?_
  refine l_icmp_eq (tgt := 903) C dL_law_862 (by decide) (fun _ => ?_) (fun c9 => absurd rfl c9)
  exact hnext S T (hm n _ _ hR)
set_option maxHeartbeats 4000000 in
set_option maxRecDepth 100000 in
theorem lw_holds (C : LC p s m c D cy aC aM tz b L xs) {Rel : Nat → St → St → Prop} (hs : LS_holds Rel) (hm : LSm Rel) {n : Nat} {S T : St} {x3 : Int32} (hn : n < 512) (hR : Rel n S T) (hi1 : ¬ (x3 + 1 < 0 ∨ L ≤ (x3 + 1).toNatClampNeg)) (hi2 : ¬ (x3 + 2 < 0 ∨ L ≤ (x3 + 2).toNatClampNeg)) (hi3 : ¬ (x3 + 3 < 0 ∨ L ≤ (x3 + 3).toNatClampNeg)) (hce : ce ≤ room_1.cells) (hsl : sl ≤ room_1.slots) (hnext : ∀ S2 T2 : St, Rel (n + 1) S2 T2 → LJ p l e s m b below meth c D cy aC aM ce sl Q S2 T2 903 [(0, .ref b), (1, .ref (aC 0)), (2, .ref (aM 0)), (3, .int x3)] []) : LJ p l e s m b below meth c D cy aC aM ce sl Q S T 867 [(0, .ref b), (1, .ref (aC 0)), (2, .ref (aM 0)), (3, .int x3)] [] := by
  refine l_aload_n C dL_law_867 rfl 1 rfl ?_
  obtain ⟨r, hC, hM⟩ := hs n S T  hn hR 
  refine l_callCi (As := []) (st := []) C (c_X3_holds l D cy aC S  hC) (cwV 0 C.2.2.2.2.1 gL_law_X3_holds rfl rfl rfl (by decide +kernel) ⟨by decide, by decide⟩) rfl rfl (Nat.le_of_ble_eq_true rfl) hce hsl dL_law_868 ?_
  refine l_aload_n C dL_law_871 rfl 2 rfl ?_
  refine l_callMi (As := []) (st := [.int r]) C (c_X4_holds l D cy aM T  hM) (cwV 0 C.2.2.2.2.1 gL_law_X4_holds rfl rfl rfl (by decide +kernel) ⟨by decide, by decide⟩) rfl rfl (Nat.le_of_ble_eq_true rfl) hce hsl dL_law_872 ?_
  refine l_icmp_eq (tgt := 903) C dL_law_875 (by decide) (fun _ => ?_) (fun c9 => absurd rfl c9)
  exact hnext S T (hm n _ _ hR)
set_option maxHeartbeats 4000000 in
set_option maxRecDepth 100000 in
theorem lw_count (C : LC p s m c D cy aC aM tz b L xs) {Rel : Nat → St → St → Prop} (hs : LS_count Rel) (hm : LSm Rel) {n : Nat} {S T : St} {x3 : Int32} (hn : n < 512) (hR : Rel n S T) (hi1 : ¬ (x3 + 1 < 0 ∨ L ≤ (x3 + 1).toNatClampNeg)) (hi2 : ¬ (x3 + 2 < 0 ∨ L ≤ (x3 + 2).toNatClampNeg)) (hi3 : ¬ (x3 + 3 < 0 ∨ L ≤ (x3 + 3).toNatClampNeg)) (hce : ce ≤ room_1.cells) (hsl : sl ≤ room_1.slots) (hnext : ∀ S2 T2 : St, Rel (n + 1) S2 T2 → LJ p l e s m b below meth c D cy aC aM ce sl Q S2 T2 903 [(0, .ref b), (1, .ref (aC 0)), (2, .ref (aM 0)), (3, .int x3)] []) : LJ p l e s m b below meth c D cy aC aM ce sl Q S T 880 [(0, .ref b), (1, .ref (aC 0)), (2, .ref (aM 0)), (3, .int x3)] [] := by
  refine l_aload_n C dL_law_880 rfl 1 rfl ?_
  refine l_aload_n C dL_law_881 rfl 0 rfl ?_
  refine l_iload_n C dL_law_882 rfl 3 rfl ?_
  refine l_iconst (v := 1) C dL_law_883 (by decide) ?_
  refine l_iadd C dL_law_884 ?_
  refine l_sld C hi1 dL_law_885 ?_
  obtain ⟨r, hC, hM⟩ := hs n S T (xs (x3 + 1).toNatClampNeg) hn hR 
  refine l_callCi (As := [.int (xs (x3 + 1).toNatClampNeg)]) (st := []) C (c_X3_count l D cy aC S (xs (x3 + 1).toNatClampNeg) hC) (cwV 1 C.2.2.2.2.1 gL_law_X3_count rfl rfl rfl (by decide +kernel) ⟨by decide, by decide⟩) rfl rfl (Nat.le_of_ble_eq_true rfl) hce hsl dL_law_886 ?_
  refine l_aload_n C dL_law_889 rfl 2 rfl ?_
  refine l_aload_n C dL_law_890 rfl 0 rfl ?_
  refine l_iload_n C dL_law_891 rfl 3 rfl ?_
  refine l_iconst (v := 1) C dL_law_892 (by decide) ?_
  refine l_iadd C dL_law_893 ?_
  refine l_sld C hi1 dL_law_894 ?_
  refine l_callMi (As := [.int (xs (x3 + 1).toNatClampNeg)]) (st := [.int r]) C (c_X4_count l D cy aM T (xs (x3 + 1).toNatClampNeg) hM) (cwV 1 C.2.2.2.2.1 gL_law_X4_count rfl rfl rfl (by decide +kernel) ⟨by decide, by decide⟩) rfl rfl (Nat.le_of_ble_eq_true rfl) hce hsl dL_law_895 ?_
  refine l_icmp_eq (tgt := 903) C dL_law_898 (by decide) (fun _ => ?_) (fun c9 => absurd rfl c9)
  exact hnext S T (hm n _ _ hR)
end LCC
