/-- the class's static arrays, which nobody writes: where they lie, and what they hold -/
def evB (j : Nat) : Int32 := [1, 2, 2, 4, 4, 7].getD j 0
def evF (j : Nat) : Int32 := [1, 2, 6, 4, 8, 8].getD j 0
def evT (j : Nat) : Int32 := [1, 2, 0, 3, 4, 2].getD j 0
def ZS (tz : Nat → Nat) (A : Nat → Prop) (U : State) (H : Heap) : Prop := va_Z "ClosureHours" "EVENT_BY" "[I" (.ref (tz 1)) A U H ∧ va_T .int (tz 1) 6 (fun j => .int (evB j)) A U H ∧ va_Z "ClosureHours" "EVENT_FROM" "[I" (.ref (tz 2)) A U H ∧ va_T .int (tz 2) 6 (fun j => .int (evF j)) A U H ∧ va_Z "ClosureHours" "EVENT_TO" "[I" (.ref (tz 3)) A U H ∧ va_T .int (tz 3) 6 (fun j => .int (evT j)) A U H
theorem ZS.moved {tz : Nat → Nat} {A : Nat → Prop} {u U : State} {H : Heap} (hvm : u.vm.Alike U.vm) (h : ZS tz A u H) : ZS tz A U H := ⟨h.1.moved hvm, h.2.1.moved hvm, h.2.2.1.moved hvm, h.2.2.2.1.moved hvm, h.2.2.2.2.1.moved hvm, h.2.2.2.2.2.moved hvm⟩
theorem ZS.kept {tz : Nat → Nat} {A : Nat → Prop} {U : State} {H H1 : Heap} (h : ZS tz A U H) (hq : ∀ a : Nat, a < H.size → ¬ A a → H1[a]? = H[a]?) : ZS tz A U H1 := ⟨h.1.kept hq, h.2.1.kept hq, h.2.2.1.kept hq, h.2.2.2.1.kept hq, h.2.2.2.2.1.kept hq, h.2.2.2.2.2.kept hq⟩
theorem ZS.narrow {tz : Nat → Nat} {A B : Nat → Prop} {U : State} {H : Heap} (h : ZS tz A U H) (hAB : ∀ q, B q → A q) : ZS tz B U H := ⟨h.1.narrow hAB, h.2.1.narrow hAB, h.2.2.1.narrow hAB, h.2.2.2.1.narrow hAB, h.2.2.2.2.1.narrow hAB, h.2.2.2.2.2.narrow hAB⟩
def XPz (D : va_G) (wf : St → va_W) (tys : List (ClassId × FieldType)) (tz : Nat → Nat) (av : List Value) (S : St) (sz : Nat) : Array Value → State → Prop := va_Pc av (fun U => U.heap.size = sz ∧ va_P D vwCl (wf S) U.heap ∧ va_K D vwCl tys U ∧ va_D (fun _ => True) (wf S) ∧ XN U ∧ ZS tz (va_A (wf S) sz) U U.heap)
def XMz (l : Launch) (D : va_G) (wf : St → va_W) (tys : List (ClassId × FieldType)) (tz : Nat → Nat) (y : MethodName) (ws : List Cond) (rm : Room) (av : List Value) (S : St) (r : Int32) (S2 : St) : Prop := ∀ sz : Nat, Met l y ws rm (XPz D wf tys tz av S sz) (va_Qi (fun (r1 : Int32) (u : St) => r1 = r ∧ u = S2) (XB D wf (va_A (wf S) sz)) (va_A (wf S) sz)) 0 0 (va_A (wf S) sz)
theorem XPz.blind {D : va_G} {wf : St → va_W} {tys : List (ClassId × FieldType)} {tz : Nat → Nat} {av : List Value} {S : St} {sz : Nat} : FrameBlind (XPz D wf tys tz av S sz) := fun a U g mk q => ⟨q.1, q.2.1, q.2.2.1, va_K.moved (u := U) (U := U.calling g mk a) (Vm.Alike.refl U.vm) q.2.2.2.1, q.2.2.2.2.1, XN.same (s := U) (U := U.calling g mk a) rfl q.2.2.2.2.2.1, ZS.moved (u := U) (U := U.calling g mk a) (Vm.Alike.refl U.vm) q.2.2.2.2.2.2⟩
section XZZ
variable {p : Program} {l : Launch} {e : Env} {R : Room} {s : State} {m : MethodId} {args : Array Value} {below : List Frame} {meth : Method} {c : Code} {D : va_G} {wf : St → va_W} {A : Nat → Prop} {nL : Nat} {Q : State → Prop} {S : St} {pc : Nat} {lv : List (Nat × Value)} {st : List Value} {tys : List (ClassId × FieldType)} {cc : ByteArray} {own : String} {Ts : List Cond} {ret : Option FieldType}
theorem x_gets (C : XC p s m args meth c D A tys cc nL own Ts ret) {Cn n d : String} {v : Value} {index : Nat} (hZ : va_Z Cn n d v A s s.heap) (hlink : Cond.fieldLink own index Cn n d ∈ Ts) (hd : decode cc pc = .ok (.getstatic index, 3)) (k : XJ p l e R s m args below meth c D wf A nL Q S (pc + 3) lv (v :: st)) : XJ p l e R s m args below meth c D wf A nL Q S pc lv st := fun H locs ls hP hD hS hl => va_gets C.1 C.2.1 hZ hS C.2.2.2.1 (C.2.2.2.2.1 _ hlink) (fun _ h => h) hd (k H locs ls hP hD hS hl)
theorem x_ti (C : XC p s m args meth c D A tys cc nL own Ts ret) {t N : Nat} {f : Nat → Value} {i : Int32} {v : Value} (hT : va_T .int t N f A s s.heap) (hi : ¬ (i < 0 ∨ N ≤ i.toNatClampNeg)) (hv : f i.toNatClampNeg = v) (hd : decode cc pc = .ok (.iaload, 1)) (k : XJ p l e R s m args below meth c D wf A nL Q S (pc + 1) lv (v :: st)) : XJ p l e R s m args below meth c D wf A nL Q S pc lv (.int i :: .ref t :: st) := fun H locs ls hP hD hS hl => va_ti C.1 C.2.1 hT hS hi hv hd (k H locs ls hP hD hS hl)
end XZZ
theorem x_ofWz {l : Launch} {D : va_G} {wf : St → va_W} {tys : List (ClassId × FieldType)} {tz : Nat → Nat} {y : MethodName} {ws ws9 : List Cond} {rm : Room} {av : List Value} {S : St} {r : Int32} {S2 : St} {cc : ByteArray} {maxL : Nat} {ret : Option FieldType} {lv : List (Nat × Value)} {own : String} (ho : y.cls = own) (hy : plainName y.cls = true) (hw : ws = Cond.code y cc maxL ret :: ws9) (hlen : (lg_sl av).length ≤ maxL) (hlv : lv_args 0 av = lv)
    (body : ∀ (p : Program) (e : Env) (s : State) (m : MethodId) (args : Array Value) (below : List Frame) (meth : Method) (c : Code) (A : Nat → Prop), XC p s m args meth c D A tys cc maxL own ws ret → ZS tz A s s.heap → XJ p l e rm s m args below meth c D wf A maxL (MQ below (va_Qi (fun (r1 : Int32) (u : St) => r1 = r ∧ u = S2) (XB D wf A) A) args s 0 0 A) S 0 lv []) : XMz l D wf tys tz y ws rm av S r S2 := by
  intro sz
  refine Met.ofW (cc := cc) (maxL := maxL) (ret := ret) hy hw ?_
  intro p e s m args below meth c s₁ B hml hv
  obtain ⟨rfl, rfl, hP, hK, hD0, hN, hZ⟩ := hv
  have hD := hD0.self (sz := s.heap.size)
  have hl := lv_entry av (n := maxL) hlen
  rw [lg_entry_eq]
  rw [hlv] at hl
  exact body p e s m _ below meth c _ ⟨B.exec, B.bytes, hml, ho ▸ findClass_of_methodNamed B.named, atoms_spec (ws := ws) B.pre, hK, B.returns, B.notSynchronized, hN, fun q h => Or.inr h⟩ hZ s.heap [] _ hP hD va_S.rf hl
set_option maxRecDepth 20000 in
theorem iX3_act_X2 : ∀ w ∈ u_ws RX2 TX2 10, w ∈ wsX3_act := by decide +kernel
set_option maxRecDepth 20000 in
theorem iX3_act_X3 : ∀ w ∈ u_ws RX3 TX3 8, w ∈ wsX3_act := by decide +kernel
def f_X3_act_L82  (S : St) (x2 : Int32) (x4 : Nat) : Option (Int32 × St) := if x2 < 0 ∨ 6 ≤ x2.toNatClampNeg then none else some ((xI S 10 x4 0 (evT x2.toNatClampNeg)).1 10 x4 0, (xI S 10 x4 0 (evT x2.toNatClampNeg)))
def f_X3_act (S : St) (a1 : Int32) (a2 : Int32) (a3 : Int32) : Option (Int32 × St) := (f_X3_isWork S a1).bind fun u1 => if u1 = 0 then (some ((-1), S)) else ((f_X3_isWithin  a2 0 5).bind fun u4 => if u4 = 0 then (some ((-1), S)) else ((f_X3_isWithin  a3 0 2).bind fun u7 => if u7 = 0 then (some ((-1), S)) else (if a1 < 0 ∨ 4 ≤ a1.toNatClampNeg then none else if a2 < 0 ∨ 6 ≤ a2.toNatClampNeg then none else (f_X3_hasBit  (Int32.toInt64 (evB a2.toNatClampNeg)) a3).bind fun u12 => if u12 = 0 then (some ((-1), S)) else ((f_X3_hasBit  (Int32.toInt64 (evF a2.toNatClampNeg)) (S.1 10 a1.toNatClampNeg 0)).bind fun u15 => if u15 = 0 then (some ((-1), S)) else (if a2 = 0 then ((f_X2_isPlaced S a1.toNatClampNeg).bind fun u20 => if u20 = 0 then (some ((-1), S)) else (f_X3_act_L82  S a2 a1.toNatClampNeg)) else (f_X3_act_L82  S a2 a1.toNatClampNeg))))))
section DX3_act
variable {p : Program} {l : Launch} {e : Env} {s : State} {m : MethodId} {args : Array Value} {below : List Frame} {meth : Method} {c : Code} {D : va_G} {cy : Nat → ClassId} {ad : Nat → Nat} {A : Nat → Prop}
set_option maxHeartbeats 4000000 in
set_option maxRecDepth 100000 in
theorem t_X3_act_L82 (C : XC p s m args meth c D A (xty cy) cX3_act 5 RX3 wsX3_act (some .int)) {tz : Nat → Nat} (hZ : ZS tz A s s.heap) {r : Int32} {S2 : St}   (S : St) (x2 : Int32) (x4 : Nat) (hx4 : x4 < 4) (hf : f_X3_act_L82  S x2 x4 = some (r, S2)) : XJ p l e ({ frames := 1, cells := 0, slots := 0, locals := 22 } : Room) s m args below meth c D (wC cy ad) A 5 (QXi D (wC cy ad) A below args s r S2) S 82 [(2, .int x2), (4, .ref (ad (15 + x4)))] [] := by
  unfold f_X3_act_L82 at hf
  refine x_aload C dX3_act_82 1 rfl ?_
  refine x_gets C hZ.2.2.2.2.1 (by decide +kernel) dX3_act_84 ?_
  refine x_iload_n C dX3_act_87 rfl 0 rfl ?_
  obtain ⟨g_19, hf⟩ := x_gd hf
  refine x_ti C hZ.2.2.2.2.2 g_19 rfl dX3_act_88 ?_
  refine x_putN (v := .int (evT x2.toNatClampNeg)) (ty := .int) (S2 := (xI S 10 x4 0 (evT x2.toNatClampNeg))) (host := "ClosureHours") C iX3_act_X2 tyX2 tyX2_ok nmX2 rfl (15 + x4) (gC_work cy ad S hx4) 9 (by decide) (by decide +kernel) rfl rfl (by decide +kernel) rfl rfl (Nat.le_of_ble_eq_true rfl) (sC_state cy ad S (evT x2.toNatClampNeg) hx4) dX3_act_89 ?_
  refine x_aload C dX3_act_92 1 rfl ?_
  refine x_getN (v := .int ((xI S 10 x4 0 (evT x2.toNatClampNeg)).1 10 x4 0)) (host := "ClosureHours") C iX3_act_X2 rfl (15 + x4) (gC_work cy ad (xI S 10 x4 0 (evT x2.toNatClampNeg)) hx4) 9 (by decide) (by decide +kernel) rfl rfl dX3_act_94 ?_
  obtain ⟨e9, e8⟩ := x_s2 hf; subst e9; subst e8
  exact x_iret C dX3_act_97
set_option maxHeartbeats 4000000 in
set_option maxRecDepth 100000 in
theorem c_X3_act (l : Launch) (D : va_G) (cy : Nat → ClassId) (ad tz : Nat → Nat) (S : St) (a1 : Int32) (a2 : Int32) (a3 : Int32) {r : Int32} {S2 : St} (hf : f_X3_act S a1 a2 a3 = some (r, S2)) : XMz l D (wC cy ad) (xty cy) tz yX3_act wsX3_act ({ frames := 1, cells := 0, slots := 0, locals := 22 } : Room) [.ref (ad 0), .int a1, .int a2, .int a3] S r S2 := by
  refine x_ofWz (cc := cX3_act) (maxL := 5) (ret := some .int) (own := RX3) rfl (by decide) rfl (Nat.le_of_ble_eq_true rfl) rfl ?_
  intro p e s m args below meth c A C hZ
  unfold f_X3_act at hf
  refine x_aload_n C dX3_act_0 rfl 0 rfl ?_
  refine x_iload_n C dX3_act_1 rfl 1 rfl ?_
  obtain ⟨u1, h2, hf⟩ := x_bd hf
  refine x_callVi (As := [.int a1]) (st := []) C (c_X3_isWork l D cy ad S a1  h2) (cwV 1 C.2.2.2.2.1 gX3_act_X3_isWork rfl rfl rfl (by decide +kernel) ⟨(by decide), (by decide)⟩) 0 (gC_root cy ad S) rfl rfl rfl rfl (Nat.le_of_ble_eq_true rfl) dX3_act_2 ?_
  refine x_if_eq (tgt := 26) C dX3_act_5 (by decide) (fun (c_3 : u1 = 0) => ?_) (fun (c_3 : ¬ (u1 = 0)) => ?_)
  · replace hf := x_ip c_3 hf
    refine x_iconst (v := (-1)) C dX3_act_26 (by decide) ?_
    obtain ⟨e9, e8⟩ := x_s2 hf; subst e9; subst e8
    exact x_iret C dX3_act_27
  · replace hf := x_in c_3 hf
    refine x_iload_n C dX3_act_8 rfl 2 rfl ?_
    refine x_iconst (v := 0) C dX3_act_9 (by decide) ?_
    refine x_iconst (v := 5) C dX3_act_10 (by decide) ?_
    obtain ⟨u4, h5, hf⟩ := x_bd hf
    refine x_callSi (As := [.int a2, .int 0, .int 5]) (st := []) C (c_X3_isWithin l D cy ad (wC cy ad) S a2 0 5  h5) (va_cwS 3 C.2.2.2.2.1 gX3_act_X3_isWithin rfl rfl rfl (by decide +kernel) ⟨(by decide), (by decide)⟩) rfl rfl (Nat.le_of_ble_eq_true rfl) dX3_act_11 ?_
    refine x_if_eq (tgt := 26) C dX3_act_14 (by decide) (fun (c_6 : u4 = 0) => ?_) (fun (c_6 : ¬ (u4 = 0)) => ?_)
    · replace hf := x_ip c_6 hf
      refine x_iconst (v := (-1)) C dX3_act_26 (by decide) ?_
      obtain ⟨e9, e8⟩ := x_s2 hf; subst e9; subst e8
      exact x_iret C dX3_act_27
    · replace hf := x_in c_6 hf
      refine x_iload_n C dX3_act_17 rfl 3 rfl ?_
      refine x_iconst (v := 0) C dX3_act_18 (by decide) ?_
      refine x_iconst (v := 2) C dX3_act_19 (by decide) ?_
      obtain ⟨u7, h8, hf⟩ := x_bd hf
      refine x_callSi (As := [.int a3, .int 0, .int 2]) (st := []) C (c_X3_isWithin l D cy ad (wC cy ad) S a3 0 2  h8) (va_cwS 3 C.2.2.2.2.1 gX3_act_X3_isWithin rfl rfl rfl (by decide +kernel) ⟨(by decide), (by decide)⟩) rfl rfl (Nat.le_of_ble_eq_true rfl) dX3_act_20 ?_
      refine x_if_ne (tgt := 28) C dX3_act_23 (by decide) (fun (c_9 : ¬ (u7 = 0)) => ?_) (fun (c_9 : u7 = 0) => ?_)
      · replace hf := x_in c_9 hf
        refine x_aload_n C dX3_act_28 rfl 0 rfl ?_
        refine x_get (v := .ref (ad 1)) C iX3_act_X3 rfl 0 (gC_root cy ad S) 1 (by decide) (by decide +kernel) rfl rfl dX3_act_29 ?_
        refine x_iload_n C dX3_act_32 rfl 1 rfl ?_
        obtain ⟨g_10, hf⟩ := x_gd hf
        refine x_aald C 1 2 (gC_works cy ad S) rfl rfl g_10 rfl dX3_act_33 ?_
        refine x_astore (lv2 := [(4, .ref (ad (15 + a1.toNatClampNeg))), (0, .ref (ad 0)), (1, .int a1), (2, .int a2), (3, .int a3)]) C dX3_act_34 (by decide) rfl ?_
        refine x_gets C hZ.1 (by decide +kernel) dX3_act_36 ?_
        refine x_iload_n C dX3_act_39 rfl 3 rfl ?_
        obtain ⟨g_11, hf⟩ := x_gd hf
        refine x_ti C hZ.2.1 g_11 rfl dX3_act_40 ?_
        refine x_i2l C dX3_act_41 ?_
        refine x_iload_n C dX3_act_42 rfl 4 rfl ?_
        obtain ⟨u12, h13, hf⟩ := x_bd hf
        refine x_callSi (As := [.long (Int32.toInt64 (evB a2.toNatClampNeg)), .int a3]) (st := []) C (c_X3_hasBit l D cy ad (wC cy ad) S (Int32.toInt64 (evB a2.toNatClampNeg)) a3  h13) (va_cwS 2 C.2.2.2.2.1 gX3_act_X3_hasBit rfl rfl rfl (by decide +kernel) ⟨(by decide), (by decide)⟩) rfl rfl (Nat.le_of_ble_eq_true rfl) dX3_act_43 ?_
        refine x_if_eq (tgt := 66) C dX3_act_46 (by decide) (fun (c_14 : u12 = 0) => ?_) (fun (c_14 : ¬ (u12 = 0)) => ?_)
        · replace hf := x_ip c_14 hf
          refine x_iconst (v := (-1)) C dX3_act_66 (by decide) ?_
          obtain ⟨e9, e8⟩ := x_s2 hf; subst e9; subst e8
          exact x_iret C dX3_act_67
        · replace hf := x_in c_14 hf
          refine x_gets C hZ.2.2.1 (by decide +kernel) dX3_act_49 ?_
          refine x_iload_n C dX3_act_52 rfl 3 rfl ?_
          refine x_ti C hZ.2.2.2.1 g_11 rfl dX3_act_53 ?_
          refine x_i2l C dX3_act_54 ?_
          refine x_aload C dX3_act_55 0 rfl ?_
          refine x_getN (v := .int (S.1 10 a1.toNatClampNeg 0)) (host := "ClosureHours") C iX3_act_X2 rfl (15 + a1.toNatClampNeg) (gC_work cy ad S (x_lt g_10)) 9 (by decide) (by decide +kernel) rfl rfl dX3_act_57 ?_
          obtain ⟨u15, h16, hf⟩ := x_bd hf
          refine x_callSi (As := [.long (Int32.toInt64 (evF a2.toNatClampNeg)), .int (S.1 10 a1.toNatClampNeg 0)]) (st := []) C (c_X3_hasBit l D cy ad (wC cy ad) S (Int32.toInt64 (evF a2.toNatClampNeg)) (S.1 10 a1.toNatClampNeg 0)  h16) (va_cwS 2 C.2.2.2.2.1 gX3_act_X3_hasBit rfl rfl rfl (by decide +kernel) ⟨(by decide), (by decide)⟩) rfl rfl (Nat.le_of_ble_eq_true rfl) dX3_act_60 ?_
          refine x_if_ne (tgt := 68) C dX3_act_63 (by decide) (fun (c_17 : ¬ (u15 = 0)) => ?_) (fun (c_17 : u15 = 0) => ?_)
          · replace hf := x_in c_17 hf
            refine x_iload_n C dX3_act_68 rfl 3 rfl ?_
            refine x_if_ne (tgt := 82) C dX3_act_69 (by decide) (fun (c_18 : ¬ (a2 = 0)) => ?_) (fun (c_18 : a2 = 0) => ?_)
            · replace hf := x_in c_18 hf
              refine x_sub [3, 0] rfl ?_
              exact t_X3_act_L82 C hZ  S a2 a1.toNatClampNeg (x_lt g_10) hf
            · replace hf := x_ip c_18 hf
              refine x_aload C dX3_act_72 0 rfl ?_
              obtain ⟨u20, h21, hf⟩ := x_bd hf
              refine x_callVNi (As := []) (st := []) C (c_X2_isPlaced l D cy ad S a1.toNatClampNeg (x_lt g_10) h21) ⟨va_cnB 0 C.2.2.2.2.1 gX3_act_X2_isPlaced_n153 rfl rfl rfl (C.2.2.2.2.2.2.2.2.1 (.methodLinkNest RX3 153 yX2_isPlaced "ClosureHours") (by decide +kernel)) (C.2.2.2.2.1 (.initialized RX2) (by decide +kernel)) (by decide +kernel) ⟨(by decide), (by decide)⟩, C.2.2.2.2.1 (.instanceMethod yX2_isPlaced) (by decide +kernel), C.2.2.2.2.1 (.selects RX2 yX2_isPlaced yX2_isPlaced) (by decide +kernel)⟩ (15 + a1.toNatClampNeg) (gC_work cy ad S (x_lt g_10)) rfl rfl rfl rfl (Nat.le_of_ble_eq_true rfl) dX3_act_74 ?_
              refine x_if_ne (tgt := 82) C dX3_act_77 (by decide) (fun (c_22 : ¬ (u20 = 0)) => ?_) (fun (c_22 : u20 = 0) => ?_)
              · replace hf := x_in c_22 hf
                refine x_sub [3, 0] rfl ?_
                exact t_X3_act_L82 C hZ  S a2 a1.toNatClampNeg (x_lt g_10) hf
              · replace hf := x_ip c_22 hf
                refine x_iconst (v := (-1)) C dX3_act_80 (by decide) ?_
                obtain ⟨e9, e8⟩ := x_s2 hf; subst e9; subst e8
                exact x_iret C dX3_act_81
          · replace hf := x_ip c_17 hf
            refine x_iconst (v := (-1)) C dX3_act_66 (by decide) ?_
            obtain ⟨e9, e8⟩ := x_s2 hf; subst e9; subst e8
            exact x_iret C dX3_act_67
      · replace hf := x_ip c_9 hf
        refine x_iconst (v := (-1)) C dX3_act_26 (by decide) ?_
        obtain ⟨e9, e8⟩ := x_s2 hf; subst e9; subst e8
        exact x_iret C dX3_act_27
end DX3_act
