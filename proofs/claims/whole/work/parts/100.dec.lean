theorem x_s1 {α : Type} {a r : α} (h : some a = some r) : r = a := (Option.some.inj h).symm
theorem x_s2 {α β : Type} {a r : α} {b s : β} (h : some (a, b) = some (r, s)) : r = a ∧ s = b := ⟨congrArg Prod.fst (Option.some.inj h).symm, congrArg Prod.snd (Option.some.inj h).symm⟩
theorem x_lt {i : Int32} {n : Nat} (h : ¬ (i < 0 ∨ n ≤ i.toNatClampNeg)) : i.toNatClampNeg < n := Nat.not_le.mp fun q => h (Or.inr q)
theorem x_cp4 {n : Int32} (h : ¬ (n < 0 ∨ 4 < n.toNatClampNeg)) : (0 : Int32).toNatClampNeg + n.toNatClampNeg ≤ 4 := by
  have h1 : ¬ 4 < n.toNatClampNeg := fun q => h (Or.inr q)
  have h2 : (0 : Int32).toNatClampNeg = 0 := by decide
  omega
abbrev QXi (D : va_G) (wf : St → va_W) (A : Nat → Prop) (below : List Frame) (args : Array Value) (s : State) (r : Int32) (S2 : St) : State → Prop := MQ below (va_Qi (fun (r1 : Int32) (u : St) => r1 = r ∧ u = S2) (XB D wf A) A) args s 0 0 A
abbrev QXl (D : va_G) (wf : St → va_W) (A : Nat → Prop) (below : List Frame) (args : Array Value) (s : State) (r : Int64) (S2 : St) : State → Prop := MQ below (va_Ql (fun (r1 : Int64) (u : St) => r1 = r ∧ u = S2) (XB D wf A) A) args s 0 0 A
abbrev QXv (D : va_G) (wf : St → va_W) (A : Nat → Prop) (below : List Frame) (args : Array Value) (s : State) (S2 : St) : State → Prop := MQ below (va_Qv (fun (u : St) => u = S2) (XB D wf A) A) args s 0 0 A
def rmP (d : Nat) : Room := { frames := 10 + d, cells := 0, slots := 0, locals := 200 + 27 * d }

def f_X3_isWithin (a1 : Int32) (a2 : Int32) (a3 : Int32) : Option (Int32) := if a1 < a2 then (some 0) else (if a3 < a1 then (some 0) else (some 1))
section DX3_isWithin
variable {p : Program} {l : Launch} {e : Env} {s : State} {m : MethodId} {args : Array Value} {below : List Frame} {meth : Method} {c : Code} {D : va_G} {cy : Nat → ClassId} {ad : Nat → Nat} {A : Nat → Prop}
set_option maxHeartbeats 4000000 in
set_option maxRecDepth 100000 in
theorem c_X3_isWithin (l : Launch) (D : va_G) (cy : Nat → ClassId) (ad : Nat → Nat) (wf : St → va_W) (S : St) (a1 : Int32) (a2 : Int32) (a3 : Int32) {r : Int32}  (hf : f_X3_isWithin  a1 a2 a3 = some r) : XMi l D wf (xty cy) yX3_isWithin wsX3_isWithin ({ frames := 0, cells := 0, slots := 0, locals := 0 } : Room) [.int a1, .int a2, .int a3] S r S := by
  refine x_ofWi (cc := cX3_isWithin) (maxL := 3) (ret := some .boolean) (own := RX3) rfl (by decide) rfl (Nat.le_of_ble_eq_true rfl) rfl ?_
  intro p e s m args below meth c A C _
  unfold f_X3_isWithin at hf
  refine x_iload_n C dX3_isWithin_0 rfl 0 rfl ?_
  refine x_iload_n C dX3_isWithin_1 rfl 1 rfl ?_
  refine x_icmp_lt (tgt := 14) C dX3_isWithin_2 (by decide) (fun (c_1 : a1 < a2) => ?_) (fun (c_1 : ¬ (a1 < a2)) => ?_)
  · replace hf := x_ip c_1 hf
    refine x_iconst (v := 0) C dX3_isWithin_14 (by decide) ?_
    have e9 := x_s1 hf; subst e9
    exact x_zret C rfl dX3_isWithin_15
  · replace hf := x_in c_1 hf
    refine x_iload_n C dX3_isWithin_5 rfl 0 rfl ?_
    refine x_iload_n C dX3_isWithin_6 rfl 2 rfl ?_
    refine x_icmp_gt (tgt := 14) C dX3_isWithin_7 (by decide) (fun (c_2 : a3 < a1) => ?_) (fun (c_2 : ¬ (a3 < a1)) => ?_)
    · replace hf := x_ip c_2 hf
      refine x_iconst (v := 0) C dX3_isWithin_14 (by decide) ?_
      have e9 := x_s1 hf; subst e9
      exact x_zret C rfl dX3_isWithin_15
    · replace hf := x_in c_2 hf
      refine x_iconst (v := 1) C dX3_isWithin_10 (by decide) ?_
      refine x_goto (tgt := 15) C dX3_isWithin_11 (by decide) ?_
      have e9 := x_s1 hf; subst e9
      exact x_zret C rfl dX3_isWithin_15
end DX3_isWithin
set_option maxRecDepth 20000 in
theorem iX3_work_X2 : ∀ w ∈ u_ws RX2 TX2 10, w ∈ wsX3_work := by decide +kernel
set_option maxRecDepth 20000 in
theorem iX3_work_X3 : ∀ w ∈ u_ws RX3 TX3 8, w ∈ wsX3_work := by decide +kernel
def f_X3_work_L24  (S : St) (x1 : Int32) (x2 : Int32) (y0 : Int32) : Option (Int32 × St) := if (4 : Int32) ≤ (S.1 1 0 0) then (some ((-1), S)) else (if y0 = 0 then (some ((-1), S)) else (if (S.1 1 0 0) < 0 ∨ 4 ≤ (S.1 1 0 0).toNatClampNeg then none else some (((xI (xI (xI S 4 ((S.1 1 0 0).toNatClampNeg) 0 x1) 5 ((S.1 1 0 0).toNatClampNeg) 0 x2) 1 0 0 ((S.1 1 0 0) + 1)).1 1 0 0) - 1, (xI (xI (xI S 4 ((S.1 1 0 0).toNatClampNeg) 0 x1) 5 ((S.1 1 0 0).toNatClampNeg) 0 x2) 1 0 0 ((S.1 1 0 0) + 1)))))
def f_X3_work_L23  (S : St) (x1 : Int32) (x2 : Int32) : Option (Int32 × St) := f_X3_work_L24  S x1 x2 0
def f_X3_work (S : St) (a1 : Int32) (a2 : Int32) : Option (Int32 × St) := (f_X3_isWithin  a1 1 12).bind fun u1 => if u1 = 0 then (f_X3_work_L23  S a1 a2) else ((f_X3_isWithin  a2 0 3).bind fun u7 => if u7 = 0 then (f_X3_work_L23  S a1 a2) else (f_X3_work_L24  S a1 a2 1))
section DX3_work
variable {p : Program} {l : Launch} {e : Env} {s : State} {m : MethodId} {args : Array Value} {below : List Frame} {meth : Method} {c : Code} {D : va_G} {cy : Nat → ClassId} {ad : Nat → Nat} {A : Nat → Prop}
set_option maxHeartbeats 4000000 in
set_option maxRecDepth 100000 in
theorem t_X3_work_L24 (C : XC p s m args meth c D A (xty cy) cX3_work 4 RX3 wsX3_work (some .int)) {r : Int32} {S2 : St}   (S : St) (x1 : Int32) (x2 : Int32) (y0 : Int32)  (hf : f_X3_work_L24  S x1 x2 y0 = some (r, S2)) : XJ p l e ({ frames := 1, cells := 0, slots := 0, locals := 22 } : Room) s m args below meth c D (wC cy ad) A 4 (QXi D (wC cy ad) A below args s r S2) S 24 [(0, .ref (ad 0)), (1, .int x1), (2, .int x2)] [.int y0] := by
  unfold f_X3_work_L24 at hf
  refine x_istore_n (lv2 := [(3, .int y0), (0, .ref (ad 0)), (1, .int x1), (2, .int x2)]) C dX3_work_24 rfl (by decide) rfl ?_
  refine x_aload_n C dX3_work_25 rfl 1 rfl ?_
  refine x_get (v := .int (S.1 1 0 0)) C iX3_work_X3 rfl 0 (gC_root cy ad S) 5 (by decide) (by decide +kernel) rfl rfl dX3_work_26 ?_
  refine x_iconst (v := 4) C dX3_work_29 (by decide) ?_
  refine x_icmp_ge (tgt := 37) C dX3_work_30 (by decide) (fun (c_4 : (4 : Int32) ≤ (S.1 1 0 0)) => ?_) (fun (c_4 : ¬ ((4 : Int32) ≤ (S.1 1 0 0))) => ?_)
  · replace hf := x_ip c_4 hf
    refine x_iconst (v := (-1)) C dX3_work_37 (by decide) ?_
    obtain ⟨e9, e8⟩ := x_s2 hf; subst e9; subst e8
    exact x_iret C dX3_work_38
  · replace hf := x_in c_4 hf
    refine x_iload_n C dX3_work_33 rfl 0 rfl ?_
    refine x_if_ne (tgt := 39) C dX3_work_34 (by decide) (fun (c_5 : ¬ (y0 = 0)) => ?_) (fun (c_5 : y0 = 0) => ?_)
    · replace hf := x_in c_5 hf
      refine x_aload_n C dX3_work_39 rfl 1 rfl ?_
      refine x_get (v := .ref (ad 1)) C iX3_work_X3 rfl 0 (gC_root cy ad S) 1 (by decide) (by decide +kernel) rfl rfl dX3_work_40 ?_
      refine x_aload_n C dX3_work_43 rfl 1 rfl ?_
      refine x_get (v := .int (S.1 1 0 0)) C iX3_work_X3 rfl 0 (gC_root cy ad S) 5 (by decide) (by decide +kernel) rfl rfl dX3_work_44 ?_
      obtain ⟨g_6, hf⟩ := x_gd hf
      refine x_aald C 1 2 (gC_works cy ad S) rfl rfl g_6 rfl dX3_work_47 ?_
      refine x_iload_n C dX3_work_48 rfl 2 rfl ?_
      refine x_putN (v := .int x1) (ty := .int) (S2 := (xI S 4 ((S.1 1 0 0).toNatClampNeg) 0 x1)) (host := "ClosureHours") C iX3_work_X2 tyX2 tyX2_ok nmX2 rfl (15 + ((S.1 1 0 0).toNatClampNeg)) (gC_work cy ad S (x_lt g_6)) 1 (by decide) (by decide +kernel) rfl rfl (by decide +kernel) rfl rfl (Nat.le_of_ble_eq_true rfl) (sC_len cy ad S x1 (x_lt g_6)) dX3_work_49 ?_
      refine x_aload_n C dX3_work_52 rfl 1 rfl ?_
      refine x_get (v := .ref (ad 1)) C iX3_work_X3 rfl 0 (gC_root cy ad (xI S 4 ((S.1 1 0 0).toNatClampNeg) 0 x1)) 1 (by decide) (by decide +kernel) rfl rfl dX3_work_53 ?_
      refine x_aload_n C dX3_work_56 rfl 1 rfl ?_
      refine x_get (v := .int (S.1 1 0 0)) C iX3_work_X3 rfl 0 (gC_root cy ad (xI S 4 ((S.1 1 0 0).toNatClampNeg) 0 x1)) 5 (by decide) (by decide +kernel) rfl rfl dX3_work_57 ?_
      refine x_aald C 1 2 (gC_works cy ad (xI S 4 ((S.1 1 0 0).toNatClampNeg) 0 x1)) rfl rfl g_6 rfl dX3_work_60 ?_
      refine x_iload_n C dX3_work_61 rfl 3 rfl ?_
      refine x_putN (v := .int x2) (ty := .int) (S2 := (xI (xI S 4 ((S.1 1 0 0).toNatClampNeg) 0 x1) 5 ((S.1 1 0 0).toNatClampNeg) 0 x2)) (host := "ClosureHours") C iX3_work_X2 tyX2 tyX2_ok nmX2 rfl (15 + ((S.1 1 0 0).toNatClampNeg)) (gC_work cy ad (xI S 4 ((S.1 1 0 0).toNatClampNeg) 0 x1) (x_lt g_6)) 2 (by decide) (by decide +kernel) rfl rfl (by decide +kernel) rfl rfl (Nat.le_of_ble_eq_true rfl) (sC_su cy ad (xI S 4 ((S.1 1 0 0).toNatClampNeg) 0 x1) x2 (x_lt g_6)) dX3_work_62 ?_
      refine x_aload_n C dX3_work_65 rfl 1 rfl ?_
      refine x_dup C dX3_work_66 rfl ?_
      refine x_get (v := .int (S.1 1 0 0)) C iX3_work_X3 rfl 0 (gC_root cy ad (xI (xI S 4 ((S.1 1 0 0).toNatClampNeg) 0 x1) 5 ((S.1 1 0 0).toNatClampNeg) 0 x2)) 5 (by decide) (by decide +kernel) rfl rfl dX3_work_67 ?_
      refine x_iconst (v := 1) C dX3_work_70 (by decide) ?_
      refine x_iadd C dX3_work_71 ?_
      refine x_put (v := .int ((S.1 1 0 0) + 1)) (ty := .int) (S2 := (xI (xI (xI S 4 ((S.1 1 0 0).toNatClampNeg) 0 x1) 5 ((S.1 1 0 0).toNatClampNeg) 0 x2) 1 0 0 ((S.1 1 0 0) + 1))) C iX3_work_X3 tyX3 tyX3_ok nmX3 rfl 0 (gC_root cy ad (xI (xI S 4 ((S.1 1 0 0).toNatClampNeg) 0 x1) 5 ((S.1 1 0 0).toNatClampNeg) 0 x2)) 5 (by decide) (by decide +kernel) rfl rfl (by decide +kernel) rfl rfl (Nat.le_of_ble_eq_true rfl) (sC_made cy ad (xI (xI S 4 ((S.1 1 0 0).toNatClampNeg) 0 x1) 5 ((S.1 1 0 0).toNatClampNeg) 0 x2) ((S.1 1 0 0) + 1)) dX3_work_72 ?_
      refine x_aload_n C dX3_work_75 rfl 1 rfl ?_
      refine x_get (v := .int ((xI (xI (xI S 4 ((S.1 1 0 0).toNatClampNeg) 0 x1) 5 ((S.1 1 0 0).toNatClampNeg) 0 x2) 1 0 0 ((S.1 1 0 0) + 1)).1 1 0 0)) C iX3_work_X3 rfl 0 (gC_root cy ad (xI (xI (xI S 4 ((S.1 1 0 0).toNatClampNeg) 0 x1) 5 ((S.1 1 0 0).toNatClampNeg) 0 x2) 1 0 0 ((S.1 1 0 0) + 1))) 5 (by decide) (by decide +kernel) rfl rfl dX3_work_76 ?_
      refine x_iconst (v := 1) C dX3_work_79 (by decide) ?_
      refine x_isub C dX3_work_80 ?_
      obtain ⟨e9, e8⟩ := x_s2 hf; subst e9; subst e8
      exact x_iret C dX3_work_81
    · replace hf := x_ip c_5 hf
      refine x_iconst (v := (-1)) C dX3_work_37 (by decide) ?_
      obtain ⟨e9, e8⟩ := x_s2 hf; subst e9; subst e8
      exact x_iret C dX3_work_38
set_option maxHeartbeats 4000000 in
set_option maxRecDepth 100000 in
theorem t_X3_work_L23 (C : XC p s m args meth c D A (xty cy) cX3_work 4 RX3 wsX3_work (some .int)) {r : Int32} {S2 : St}   (S : St) (x1 : Int32) (x2 : Int32)  (hf : f_X3_work_L23  S x1 x2 = some (r, S2)) : XJ p l e ({ frames := 1, cells := 0, slots := 0, locals := 22 } : Room) s m args below meth c D (wC cy ad) A 4 (QXi D (wC cy ad) A below args s r S2) S 23 [(0, .ref (ad 0)), (1, .int x1), (2, .int x2)] [] := by
  unfold f_X3_work_L23 at hf
  refine x_iconst (v := 0) C dX3_work_23 (by decide) ?_
  exact t_X3_work_L24 C  S x1 x2 0  hf
set_option maxHeartbeats 4000000 in
set_option maxRecDepth 100000 in
theorem c_X3_work (l : Launch) (D : va_G) (cy : Nat → ClassId) (ad : Nat → Nat) (S : St) (a1 : Int32) (a2 : Int32) {r : Int32} {S2 : St}  (hf : f_X3_work S a1 a2 = some (r, S2)) : XMi l D (wC cy ad) (xty cy) yX3_work wsX3_work ({ frames := 1, cells := 0, slots := 0, locals := 22 } : Room) [.ref (ad 0), .int a1, .int a2] S r S2 := by
  refine x_ofWi (cc := cX3_work) (maxL := 4) (ret := some .int) (own := RX3) rfl (by decide) rfl (Nat.le_of_ble_eq_true rfl) rfl ?_
  intro p e s m args below meth c A C _
  unfold f_X3_work at hf
  refine x_iload_n C dX3_work_0 rfl 1 rfl ?_
  refine x_iconst (v := 1) C dX3_work_1 (by decide) ?_
  refine x_bipush (v := 12) C dX3_work_2 (by decide) ?_
  obtain ⟨u1, h2, hf⟩ := x_bd hf
  refine x_callSi (As := [.int a1, .int 1, .int 12]) (st := []) C (c_X3_isWithin l D cy ad (wC cy ad) S a1 1 12  h2) (va_cwS 3 C.2.2.2.2.1 gX3_work_X3_isWithin rfl rfl rfl (by decide +kernel) ⟨(by decide), (by decide)⟩) rfl rfl (Nat.le_of_ble_eq_true rfl) dX3_work_4 ?_
  refine x_if_eq (tgt := 23) C dX3_work_7 (by decide) (fun (c_3 : u1 = 0) => ?_) (fun (c_3 : ¬ (u1 = 0)) => ?_)
  · replace hf := x_ip c_3 hf
    exact t_X3_work_L23 C  S a1 a2  hf
  · replace hf := x_in c_3 hf
    refine x_iload_n C dX3_work_10 rfl 2 rfl ?_
    refine x_iconst (v := 0) C dX3_work_11 (by decide) ?_
    refine x_iconst (v := 3) C dX3_work_12 (by decide) ?_
    obtain ⟨u7, h8, hf⟩ := x_bd hf
    refine x_callSi (As := [.int a2, .int 0, .int 3]) (st := []) C (c_X3_isWithin l D cy ad (wC cy ad) S a2 0 3  h8) (va_cwS 3 C.2.2.2.2.1 gX3_work_X3_isWithin rfl rfl rfl (by decide +kernel) ⟨(by decide), (by decide)⟩) rfl rfl (Nat.le_of_ble_eq_true rfl) dX3_work_13 ?_
    refine x_if_eq (tgt := 23) C dX3_work_16 (by decide) (fun (c_9 : u7 = 0) => ?_) (fun (c_9 : ¬ (u7 = 0)) => ?_)
    · replace hf := x_ip c_9 hf
      exact t_X3_work_L23 C  S a1 a2  hf
    · replace hf := x_in c_9 hf
      refine x_iconst (v := 1) C dX3_work_19 (by decide) ?_
      refine x_goto (tgt := 24) C dX3_work_20 (by decide) ?_
      exact t_X3_work_L24 C  S a1 a2 1  hf
end DX3_work
set_option maxRecDepth 20000 in
theorem iX3_isWork_X3 : ∀ w ∈ u_ws RX3 TX3 8, w ∈ wsX3_isWork := by decide +kernel
def f_X3_isWork (S : St) (a1 : Int32) : Option (Int32) := if a1 < 0 then (some 0) else (if (S.1 1 0 0) ≤ a1 then (some 0) else (some 1))
section DX3_isWork
variable {p : Program} {l : Launch} {e : Env} {s : State} {m : MethodId} {args : Array Value} {below : List Frame} {meth : Method} {c : Code} {D : va_G} {cy : Nat → ClassId} {ad : Nat → Nat} {A : Nat → Prop}
set_option maxHeartbeats 4000000 in
set_option maxRecDepth 100000 in
theorem c_X3_isWork (l : Launch) (D : va_G) (cy : Nat → ClassId) (ad : Nat → Nat) (S : St) (a1 : Int32) {r : Int32}  (hf : f_X3_isWork S a1 = some r) : XMi l D (wC cy ad) (xty cy) yX3_isWork wsX3_isWork ({ frames := 0, cells := 0, slots := 0, locals := 0 } : Room) [.ref (ad 0), .int a1] S r S := by
  refine x_ofWi (cc := cX3_isWork) (maxL := 2) (ret := some .boolean) (own := RX3) rfl (by decide) rfl (Nat.le_of_ble_eq_true rfl) rfl ?_
  intro p e s m args below meth c A C _
  unfold f_X3_isWork at hf
  refine x_iload_n C dX3_isWork_0 rfl 1 rfl ?_
  refine x_if_lt (tgt := 16) C dX3_isWork_1 (by decide) (fun (c_1 : a1 < 0) => ?_) (fun (c_1 : ¬ (a1 < 0)) => ?_)
  · replace hf := x_ip c_1 hf
    refine x_iconst (v := 0) C dX3_isWork_16 (by decide) ?_
    have e9 := x_s1 hf; subst e9
    exact x_zret C rfl dX3_isWork_17
  · replace hf := x_in c_1 hf
    refine x_iload_n C dX3_isWork_4 rfl 1 rfl ?_
    refine x_aload_n C dX3_isWork_5 rfl 0 rfl ?_
    refine x_get (v := .int (S.1 1 0 0)) C iX3_isWork_X3 rfl 0 (gC_root cy ad S) 5 (by decide) (by decide +kernel) rfl rfl dX3_isWork_6 ?_
    refine x_icmp_ge (tgt := 16) C dX3_isWork_9 (by decide) (fun (c_2 : (S.1 1 0 0) ≤ a1) => ?_) (fun (c_2 : ¬ ((S.1 1 0 0) ≤ a1)) => ?_)
    · replace hf := x_ip c_2 hf
      refine x_iconst (v := 0) C dX3_isWork_16 (by decide) ?_
      have e9 := x_s1 hf; subst e9
      exact x_zret C rfl dX3_isWork_17
    · replace hf := x_in c_2 hf
      refine x_iconst (v := 1) C dX3_isWork_12 (by decide) ?_
      refine x_goto (tgt := 17) C dX3_isWork_13 (by decide) ?_
      have e9 := x_s1 hf; subst e9
      exact x_zret C rfl dX3_isWork_17
end DX3_isWork
def f_X3_withBit (a1 : Int64) (a2 : Int32) (a3 : Int32) : Option (Int64) := if a3 = 0 then (some (a1 &&& (((1 : Int64) <<< (Int32.toInt64 a2 &&& 63)) ^^^ (-1)))) else (some (a1 ||| ((1 : Int64) <<< (Int32.toInt64 a2 &&& 63))))
section DX3_withBit
variable {p : Program} {l : Launch} {e : Env} {s : State} {m : MethodId} {args : Array Value} {below : List Frame} {meth : Method} {c : Code} {D : va_G} {cy : Nat → ClassId} {ad : Nat → Nat} {A : Nat → Prop}
set_option maxHeartbeats 4000000 in
set_option maxRecDepth 100000 in
theorem c_X3_withBit (l : Launch) (D : va_G) (cy : Nat → ClassId) (ad : Nat → Nat) (wf : St → va_W) (S : St) (a1 : Int64) (a2 : Int32) (a3 : Int32) {r : Int64}  (hf : f_X3_withBit  a1 a2 a3 = some r) : XMl l D wf (xty cy) yX3_withBit wsX3_withBit ({ frames := 0, cells := 0, slots := 0, locals := 0 } : Room) [.long a1, .int a2, .int a3] S r S := by
  refine x_ofWl (cc := cX3_withBit) (maxL := 4) (ret := some .long) (own := RX3) rfl (by decide) rfl (Nat.le_of_ble_eq_true rfl) rfl ?_
  intro p e s m args below meth c A C _
  unfold f_X3_withBit at hf
  refine x_iload_n C dX3_withBit_0 rfl 2 rfl ?_
  refine x_if_eq (tgt := 12) C dX3_withBit_1 (by decide) (fun (c_1 : a3 = 0) => ?_) (fun (c_1 : ¬ (a3 = 0)) => ?_)
  · replace hf := x_ip c_1 hf
    refine x_lload_n C dX3_withBit_12 rfl 0 rfl ?_
    refine x_lconst (v := 1) C dX3_withBit_13 (by decide) ?_
    refine x_iload_n C dX3_withBit_14 rfl 1 rfl ?_
    refine x_lshl C dX3_withBit_15 ?_
    refine x_ldc2 (v := (-1)) C (by decide +kernel) dX3_withBit_16 ?_
    refine x_lxor C dX3_withBit_19 ?_
    refine x_land C dX3_withBit_20 ?_
    have e9 := x_s1 hf; subst e9
    exact x_lret C dX3_withBit_21
  · replace hf := x_in c_1 hf
    refine x_lload_n C dX3_withBit_4 rfl 0 rfl ?_
    refine x_lconst (v := 1) C dX3_withBit_5 (by decide) ?_
    refine x_iload_n C dX3_withBit_6 rfl 1 rfl ?_
    refine x_lshl C dX3_withBit_7 ?_
    refine x_lor C dX3_withBit_8 ?_
    refine x_goto (tgt := 21) C dX3_withBit_9 (by decide) ?_
    have e9 := x_s1 hf; subst e9
    exact x_lret C dX3_withBit_21
end DX3_withBit
set_option maxRecDepth 20000 in
theorem iX3_near_X2 : ∀ w ∈ u_ws RX2 TX2 10, w ∈ wsX3_near := by decide +kernel
set_option maxRecDepth 20000 in
theorem iX3_near_X3 : ∀ w ∈ u_ws RX3 TX3 8, w ∈ wsX3_near := by decide +kernel
def f_X3_near (S : St) (a1 : Int32) (a2 : Int32) (a3 : Int32) : Option (Int32 × St) := (f_X3_isWork S a1).bind fun u1 => if u1 = 0 then (some (0, S)) else ((f_X3_isWork S a2).bind fun u4 => if u4 = 0 then (some (0, S)) else (if a1 = a2 then (some (0, S)) else (if a1 < 0 ∨ 4 ≤ a1.toNatClampNeg then none else (f_X3_withBit  (Int32.toInt64 (S.1 7 a1.toNatClampNeg 0)) a2 a3).bind fun u9 => if a2 < 0 ∨ 4 ≤ a2.toNatClampNeg then none else (f_X3_withBit  (Int32.toInt64 ((xI S 7 a1.toNatClampNeg 0 (Int64.toInt32 u9)).1 7 a2.toNatClampNeg 0)) a1 a3).bind fun u12 => some (1, (xI (xI S 7 a1.toNatClampNeg 0 (Int64.toInt32 u9)) 7 a2.toNatClampNeg 0 (Int64.toInt32 u12))))))
section DX3_near
variable {p : Program} {l : Launch} {e : Env} {s : State} {m : MethodId} {args : Array Value} {below : List Frame} {meth : Method} {c : Code} {D : va_G} {cy : Nat → ClassId} {ad : Nat → Nat} {A : Nat → Prop}
set_option maxHeartbeats 4000000 in
set_option maxRecDepth 100000 in
theorem c_X3_near (l : Launch) (D : va_G) (cy : Nat → ClassId) (ad : Nat → Nat) (S : St) (a1 : Int32) (a2 : Int32) (a3 : Int32) {r : Int32} {S2 : St}  (hf : f_X3_near S a1 a2 a3 = some (r, S2)) : XMi l D (wC cy ad) (xty cy) yX3_near wsX3_near ({ frames := 1, cells := 0, slots := 0, locals := 23 } : Room) [.ref (ad 0), .int a1, .int a2, .int a3] S r S2 := by
  refine x_ofWi (cc := cX3_near) (maxL := 4) (ret := some .boolean) (own := RX3) rfl (by decide) rfl (Nat.le_of_ble_eq_true rfl) rfl ?_
  intro p e s m args below meth c A C _
  unfold f_X3_near at hf
  refine x_aload_n C dX3_near_0 rfl 0 rfl ?_
  refine x_iload_n C dX3_near_1 rfl 1 rfl ?_
  obtain ⟨u1, h2, hf⟩ := x_bd hf
  refine x_callVi (As := [.int a1]) (st := []) C (c_X3_isWork l D cy ad S a1  h2) (cwV 1 C.2.2.2.2.1 gX3_near_X3_isWork rfl rfl rfl (by decide +kernel) ⟨(by decide), (by decide)⟩) 0 (gC_root cy ad S) rfl rfl rfl rfl (Nat.le_of_ble_eq_true rfl) dX3_near_2 ?_
  refine x_if_eq (tgt := 21) C dX3_near_5 (by decide) (fun (c_3 : u1 = 0) => ?_) (fun (c_3 : ¬ (u1 = 0)) => ?_)
  · replace hf := x_ip c_3 hf
    refine x_iconst (v := 0) C dX3_near_21 (by decide) ?_
    obtain ⟨e9, e8⟩ := x_s2 hf; subst e9; subst e8
    exact x_zret C rfl dX3_near_22
  · replace hf := x_in c_3 hf
    refine x_aload_n C dX3_near_8 rfl 0 rfl ?_
    refine x_iload_n C dX3_near_9 rfl 2 rfl ?_
    obtain ⟨u4, h5, hf⟩ := x_bd hf
    refine x_callVi (As := [.int a2]) (st := []) C (c_X3_isWork l D cy ad S a2  h5) (cwV 1 C.2.2.2.2.1 gX3_near_X3_isWork rfl rfl rfl (by decide +kernel) ⟨(by decide), (by decide)⟩) 0 (gC_root cy ad S) rfl rfl rfl rfl (Nat.le_of_ble_eq_true rfl) dX3_near_10 ?_
    refine x_if_eq (tgt := 21) C dX3_near_13 (by decide) (fun (c_6 : u4 = 0) => ?_) (fun (c_6 : ¬ (u4 = 0)) => ?_)
    · replace hf := x_ip c_6 hf
      refine x_iconst (v := 0) C dX3_near_21 (by decide) ?_
      obtain ⟨e9, e8⟩ := x_s2 hf; subst e9; subst e8
      exact x_zret C rfl dX3_near_22
    · replace hf := x_in c_6 hf
      refine x_iload_n C dX3_near_16 rfl 1 rfl ?_
      refine x_iload_n C dX3_near_17 rfl 2 rfl ?_
      refine x_icmp_ne (tgt := 23) C dX3_near_18 (by decide) (fun (c_7 : ¬ (a1 = a2)) => ?_) (fun (c_7 : a1 = a2) => ?_)
      · replace hf := x_in c_7 hf
        refine x_aload_n C dX3_near_23 rfl 0 rfl ?_
        refine x_get (v := .ref (ad 1)) C iX3_near_X3 rfl 0 (gC_root cy ad S) 1 (by decide) (by decide +kernel) rfl rfl dX3_near_24 ?_
        refine x_iload_n C dX3_near_27 rfl 1 rfl ?_
        obtain ⟨g_8, hf⟩ := x_gd hf
        refine x_aald C 1 2 (gC_works cy ad S) rfl rfl g_8 rfl dX3_near_28 ?_
        refine x_aload_n C dX3_near_29 rfl 0 rfl ?_
        refine x_get (v := .ref (ad 1)) C iX3_near_X3 rfl 0 (gC_root cy ad S) 1 (by decide) (by decide +kernel) rfl rfl dX3_near_30 ?_
        refine x_iload_n C dX3_near_33 rfl 1 rfl ?_
        refine x_aald C 1 2 (gC_works cy ad S) rfl rfl g_8 rfl dX3_near_34 ?_
        refine x_getN (v := .int (S.1 7 a1.toNatClampNeg 0)) (host := "ClosureHours") C iX3_near_X2 rfl (15 + a1.toNatClampNeg) (gC_work cy ad S (x_lt g_8)) 6 (by decide) (by decide +kernel) rfl rfl dX3_near_35 ?_
        refine x_i2l C dX3_near_38 ?_
        refine x_iload_n C dX3_near_39 rfl 2 rfl ?_
        refine x_iload_n C dX3_near_40 rfl 3 rfl ?_
        obtain ⟨u9, h10, hf⟩ := x_bd hf
        refine x_callSl (As := [.long (Int32.toInt64 (S.1 7 a1.toNatClampNeg 0)), .int a2, .int a3]) (st := [.ref (ad (15 + a1.toNatClampNeg))]) C (c_X3_withBit l D cy ad (wC cy ad) S (Int32.toInt64 (S.1 7 a1.toNatClampNeg 0)) a2 a3  h10) (va_cwS 3 C.2.2.2.2.1 gX3_near_X3_withBit rfl rfl rfl (by decide +kernel) ⟨(by decide), (by decide)⟩) rfl rfl (Nat.le_of_ble_eq_true rfl) dX3_near_41 ?_
        refine x_l2i C dX3_near_44 ?_
        refine x_putN (v := .int (Int64.toInt32 u9)) (ty := .int) (S2 := (xI S 7 a1.toNatClampNeg 0 (Int64.toInt32 u9))) (host := "ClosureHours") C iX3_near_X2 tyX2 tyX2_ok nmX2 rfl (15 + a1.toNatClampNeg) (gC_work cy ad S (x_lt g_8)) 6 (by decide) (by decide +kernel) rfl rfl (by decide +kernel) rfl rfl (Nat.le_of_ble_eq_true rfl) (sC_nearb cy ad S (Int64.toInt32 u9) (x_lt g_8)) dX3_near_45 ?_
        refine x_aload_n C dX3_near_48 rfl 0 rfl ?_
        refine x_get (v := .ref (ad 1)) C iX3_near_X3 rfl 0 (gC_root cy ad (xI S 7 a1.toNatClampNeg 0 (Int64.toInt32 u9))) 1 (by decide) (by decide +kernel) rfl rfl dX3_near_49 ?_
        refine x_iload_n C dX3_near_52 rfl 2 rfl ?_
        obtain ⟨g_11, hf⟩ := x_gd hf
        refine x_aald C 1 2 (gC_works cy ad (xI S 7 a1.toNatClampNeg 0 (Int64.toInt32 u9))) rfl rfl g_11 rfl dX3_near_53 ?_
        refine x_aload_n C dX3_near_54 rfl 0 rfl ?_
        refine x_get (v := .ref (ad 1)) C iX3_near_X3 rfl 0 (gC_root cy ad (xI S 7 a1.toNatClampNeg 0 (Int64.toInt32 u9))) 1 (by decide) (by decide +kernel) rfl rfl dX3_near_55 ?_
        refine x_iload_n C dX3_near_58 rfl 2 rfl ?_
        refine x_aald C 1 2 (gC_works cy ad (xI S 7 a1.toNatClampNeg 0 (Int64.toInt32 u9))) rfl rfl g_11 rfl dX3_near_59 ?_
        refine x_getN (v := .int ((xI S 7 a1.toNatClampNeg 0 (Int64.toInt32 u9)).1 7 a2.toNatClampNeg 0)) (host := "ClosureHours") C iX3_near_X2 rfl (15 + a2.toNatClampNeg) (gC_work cy ad (xI S 7 a1.toNatClampNeg 0 (Int64.toInt32 u9)) (x_lt g_11)) 6 (by decide) (by decide +kernel) rfl rfl dX3_near_60 ?_
        refine x_i2l C dX3_near_63 ?_
        refine x_iload_n C dX3_near_64 rfl 1 rfl ?_
        refine x_iload_n C dX3_near_65 rfl 3 rfl ?_
        obtain ⟨u12, h13, hf⟩ := x_bd hf
        refine x_callSl (As := [.long (Int32.toInt64 ((xI S 7 a1.toNatClampNeg 0 (Int64.toInt32 u9)).1 7 a2.toNatClampNeg 0)), .int a1, .int a3]) (st := [.ref (ad (15 + a2.toNatClampNeg))]) C (c_X3_withBit l D cy ad (wC cy ad) (xI S 7 a1.toNatClampNeg 0 (Int64.toInt32 u9)) (Int32.toInt64 ((xI S 7 a1.toNatClampNeg 0 (Int64.toInt32 u9)).1 7 a2.toNatClampNeg 0)) a1 a3  h13) (va_cwS 3 C.2.2.2.2.1 gX3_near_X3_withBit rfl rfl rfl (by decide +kernel) ⟨(by decide), (by decide)⟩) rfl rfl (Nat.le_of_ble_eq_true rfl) dX3_near_66 ?_
        refine x_l2i C dX3_near_69 ?_
        refine x_putN (v := .int (Int64.toInt32 u12)) (ty := .int) (S2 := (xI (xI S 7 a1.toNatClampNeg 0 (Int64.toInt32 u9)) 7 a2.toNatClampNeg 0 (Int64.toInt32 u12))) (host := "ClosureHours") C iX3_near_X2 tyX2 tyX2_ok nmX2 rfl (15 + a2.toNatClampNeg) (gC_work cy ad (xI S 7 a1.toNatClampNeg 0 (Int64.toInt32 u9)) (x_lt g_11)) 6 (by decide) (by decide +kernel) rfl rfl (by decide +kernel) rfl rfl (Nat.le_of_ble_eq_true rfl) (sC_nearb cy ad (xI S 7 a1.toNatClampNeg 0 (Int64.toInt32 u9)) (Int64.toInt32 u12) (x_lt g_11)) dX3_near_70 ?_
        refine x_iconst (v := 1) C dX3_near_73 (by decide) ?_
        obtain ⟨e9, e8⟩ := x_s2 hf; subst e9; subst e8
        exact x_zret C rfl dX3_near_74
      · replace hf := x_ip c_7 hf
        refine x_iconst (v := 0) C dX3_near_21 (by decide) ?_
        obtain ⟨e9, e8⟩ := x_s2 hf; subst e9; subst e8
        exact x_zret C rfl dX3_near_22
end DX3_near
set_option maxRecDepth 20000 in
theorem iX3_isHour_X3 : ∀ w ∈ u_ws RX3 TX3 8, w ∈ wsX3_isHour := by decide +kernel
def f_X3_isHour (S : St) (a1 : Int32) : Option (Int32) := if a1 < 0 then (some 0) else (if (S.1 0 0 0) ≤ a1 then (some 0) else (some 1))
section DX3_isHour
variable {p : Program} {l : Launch} {e : Env} {s : State} {m : MethodId} {args : Array Value} {below : List Frame} {meth : Method} {c : Code} {D : va_G} {cy : Nat → ClassId} {ad : Nat → Nat} {A : Nat → Prop}
set_option maxHeartbeats 4000000 in
set_option maxRecDepth 100000 in
theorem c_X3_isHour (l : Launch) (D : va_G) (cy : Nat → ClassId) (ad : Nat → Nat) (S : St) (a1 : Int32) {r : Int32}  (hf : f_X3_isHour S a1 = some r) : XMi l D (wC cy ad) (xty cy) yX3_isHour wsX3_isHour ({ frames := 0, cells := 0, slots := 0, locals := 0 } : Room) [.ref (ad 0), .int a1] S r S := by
  refine x_ofWi (cc := cX3_isHour) (maxL := 2) (ret := some .boolean) (own := RX3) rfl (by decide) rfl (Nat.le_of_ble_eq_true rfl) rfl ?_
  intro p e s m args below meth c A C _
  unfold f_X3_isHour at hf
  refine x_iload_n C dX3_isHour_0 rfl 1 rfl ?_
  refine x_if_lt (tgt := 16) C dX3_isHour_1 (by decide) (fun (c_1 : a1 < 0) => ?_) (fun (c_1 : ¬ (a1 < 0)) => ?_)
  · replace hf := x_ip c_1 hf
    refine x_iconst (v := 0) C dX3_isHour_16 (by decide) ?_
    have e9 := x_s1 hf; subst e9
    exact x_zret C rfl dX3_isHour_17
  · replace hf := x_in c_1 hf
    refine x_iload_n C dX3_isHour_4 rfl 1 rfl ?_
    refine x_aload_n C dX3_isHour_5 rfl 0 rfl ?_
    refine x_get (v := .int (S.1 0 0 0)) C iX3_isHour_X3 rfl 0 (gC_root cy ad S) 0 (by decide) (by decide +kernel) rfl rfl dX3_isHour_6 ?_
    refine x_icmp_ge (tgt := 16) C dX3_isHour_9 (by decide) (fun (c_2 : (S.1 0 0 0) ≤ a1) => ?_) (fun (c_2 : ¬ ((S.1 0 0 0) ≤ a1)) => ?_)
    · replace hf := x_ip c_2 hf
      refine x_iconst (v := 0) C dX3_isHour_16 (by decide) ?_
      have e9 := x_s1 hf; subst e9
      exact x_zret C rfl dX3_isHour_17
    · replace hf := x_in c_2 hf
      refine x_iconst (v := 1) C dX3_isHour_12 (by decide) ?_
      refine x_goto (tgt := 17) C dX3_isHour_13 (by decide) ?_
      have e9 := x_s1 hf; subst e9
      exact x_zret C rfl dX3_isHour_17
end DX3_isHour
set_option maxRecDepth 20000 in
theorem iX3_delay_X2 : ∀ w ∈ u_ws RX2 TX2 10, w ∈ wsX3_delay := by decide +kernel
set_option maxRecDepth 20000 in
theorem iX3_delay_X3 : ∀ w ∈ u_ws RX3 TX3 8, w ∈ wsX3_delay := by decide +kernel
def f_X3_delay (S : St) (a1 : Int32) (a2 : Int32) (a3 : Int32) : Option (Int32 × St) := (f_X3_isWork S a1).bind fun u1 => if u1 = 0 then (some (0, S)) else ((f_X3_isHour S a2).bind fun u4 => if u4 = 0 then (some (0, S)) else ((f_X3_isWithin  a3 0 100000).bind fun u7 => if u7 = 0 then (some (0, S)) else (if a1 < 0 ∨ 4 ≤ a1.toNatClampNeg then none else if a2 < 0 ∨ 36 ≤ a2.toNatClampNeg then none else some (1, (xI S 11 a1.toNatClampNeg a2.toNatClampNeg a3)))))
section DX3_delay
variable {p : Program} {l : Launch} {e : Env} {s : State} {m : MethodId} {args : Array Value} {below : List Frame} {meth : Method} {c : Code} {D : va_G} {cy : Nat → ClassId} {ad : Nat → Nat} {A : Nat → Prop}
set_option maxHeartbeats 4000000 in
set_option maxRecDepth 100000 in
theorem c_X3_delay (l : Launch) (D : va_G) (cy : Nat → ClassId) (ad : Nat → Nat) (S : St) (a1 : Int32) (a2 : Int32) (a3 : Int32) {r : Int32} {S2 : St}  (hf : f_X3_delay S a1 a2 a3 = some (r, S2)) : XMi l D (wC cy ad) (xty cy) yX3_delay wsX3_delay ({ frames := 1, cells := 0, slots := 0, locals := 22 } : Room) [.ref (ad 0), .int a1, .int a2, .int a3] S r S2 := by
  refine x_ofWi (cc := cX3_delay) (maxL := 4) (ret := some .boolean) (own := RX3) rfl (by decide) rfl (Nat.le_of_ble_eq_true rfl) rfl ?_
  intro p e s m args below meth c A C _
  unfold f_X3_delay at hf
  refine x_aload_n C dX3_delay_0 rfl 0 rfl ?_
  refine x_iload_n C dX3_delay_1 rfl 1 rfl ?_
  obtain ⟨u1, h2, hf⟩ := x_bd hf
  refine x_callVi (As := [.int a1]) (st := []) C (c_X3_isWork l D cy ad S a1  h2) (cwV 1 C.2.2.2.2.1 gX3_delay_X3_isWork rfl rfl rfl (by decide +kernel) ⟨(by decide), (by decide)⟩) 0 (gC_root cy ad S) rfl rfl rfl rfl (Nat.le_of_ble_eq_true rfl) dX3_delay_2 ?_
  refine x_if_eq (tgt := 26) C dX3_delay_5 (by decide) (fun (c_3 : u1 = 0) => ?_) (fun (c_3 : ¬ (u1 = 0)) => ?_)
  · replace hf := x_ip c_3 hf
    refine x_iconst (v := 0) C dX3_delay_26 (by decide) ?_
    obtain ⟨e9, e8⟩ := x_s2 hf; subst e9; subst e8
    exact x_zret C rfl dX3_delay_27
  · replace hf := x_in c_3 hf
    refine x_aload_n C dX3_delay_8 rfl 0 rfl ?_
    refine x_iload_n C dX3_delay_9 rfl 2 rfl ?_
    obtain ⟨u4, h5, hf⟩ := x_bd hf
    refine x_callVi (As := [.int a2]) (st := []) C (c_X3_isHour l D cy ad S a2  h5) (cwV 1 C.2.2.2.2.1 gX3_delay_X3_isHour rfl rfl rfl (by decide +kernel) ⟨(by decide), (by decide)⟩) 0 (gC_root cy ad S) rfl rfl rfl rfl (Nat.le_of_ble_eq_true rfl) dX3_delay_10 ?_
    refine x_if_eq (tgt := 26) C dX3_delay_13 (by decide) (fun (c_6 : u4 = 0) => ?_) (fun (c_6 : ¬ (u4 = 0)) => ?_)
    · replace hf := x_ip c_6 hf
      refine x_iconst (v := 0) C dX3_delay_26 (by decide) ?_
      obtain ⟨e9, e8⟩ := x_s2 hf; subst e9; subst e8
      exact x_zret C rfl dX3_delay_27
    · replace hf := x_in c_6 hf
      refine x_iload_n C dX3_delay_16 rfl 3 rfl ?_
      refine x_iconst (v := 0) C dX3_delay_17 (by decide) ?_
      refine x_ldc (v := 100000) C (by decide +kernel) dX3_delay_18 ?_
      obtain ⟨u7, h8, hf⟩ := x_bd hf
      refine x_callSi (As := [.int a3, .int 0, .int 100000]) (st := []) C (c_X3_isWithin l D cy ad (wC cy ad) S a3 0 100000  h8) (va_cwS 3 C.2.2.2.2.1 gX3_delay_X3_isWithin rfl rfl rfl (by decide +kernel) ⟨(by decide), (by decide)⟩) rfl rfl (Nat.le_of_ble_eq_true rfl) dX3_delay_20 ?_
      refine x_if_ne (tgt := 28) C dX3_delay_23 (by decide) (fun (c_9 : ¬ (u7 = 0)) => ?_) (fun (c_9 : u7 = 0) => ?_)
      · replace hf := x_in c_9 hf
        refine x_aload_n C dX3_delay_28 rfl 0 rfl ?_
        refine x_get (v := .ref (ad 1)) C iX3_delay_X3 rfl 0 (gC_root cy ad S) 1 (by decide) (by decide +kernel) rfl rfl dX3_delay_29 ?_
        refine x_iload_n C dX3_delay_32 rfl 1 rfl ?_
        obtain ⟨g_10, hf⟩ := x_gd hf
        refine x_aald C 1 2 (gC_works cy ad S) rfl rfl g_10 rfl dX3_delay_33 ?_
        refine x_getN (v := .ref (ad (19 + a1.toNatClampNeg))) (host := "ClosureHours") C iX3_delay_X2 rfl (15 + a1.toNatClampNeg) (gC_work cy ad S (x_lt g_10)) 0 (by decide) (by decide +kernel) rfl rfl dX3_delay_34 ?_
        refine x_iload_n C dX3_delay_37 rfl 2 rfl ?_
        refine x_iload_n C dX3_delay_38 rfl 3 rfl ?_
        obtain ⟨g_11, hf⟩ := x_gd hf
        refine x_iast (S2 := (xI S 11 a1.toNatClampNeg a2.toNatClampNeg a3)) C (19 + a1.toNatClampNeg) 0 (gC_dly cy ad S (x_lt g_10)) rfl g_11 (sC_dly cy ad S a2.toNatClampNeg a3 (x_lt g_10)) dX3_delay_39 ?_
        refine x_iconst (v := 1) C dX3_delay_40 (by decide) ?_
        obtain ⟨e9, e8⟩ := x_s2 hf; subst e9; subst e8
        exact x_zret C rfl dX3_delay_41
      · replace hf := x_ip c_9 hf
        refine x_iconst (v := 0) C dX3_delay_26 (by decide) ?_
        obtain ⟨e9, e8⟩ := x_s2 hf; subst e9; subst e8
        exact x_zret C rfl dX3_delay_27
end DX3_delay
set_option maxRecDepth 20000 in
theorem iX3_night_X2 : ∀ w ∈ u_ws RX2 TX2 10, w ∈ wsX3_night := by decide +kernel
set_option maxRecDepth 20000 in
theorem iX3_night_X3 : ∀ w ∈ u_ws RX3 TX3 8, w ∈ wsX3_night := by decide +kernel
def f_X3_night (S : St) (a1 : Int32) (a2 : Int32) : Option (Int32 × St) := (f_X3_isWork S a1).bind fun u1 => if u1 = 0 then (some (0, S)) else (if a1 < 0 ∨ 4 ≤ a1.toNatClampNeg then none else if ¬ (a2 = 0 ∨ a2 = 1) then none else some (1, (xI S 6 a1.toNatClampNeg 0 a2)))
section DX3_night
variable {p : Program} {l : Launch} {e : Env} {s : State} {m : MethodId} {args : Array Value} {below : List Frame} {meth : Method} {c : Code} {D : va_G} {cy : Nat → ClassId} {ad : Nat → Nat} {A : Nat → Prop}
set_option maxHeartbeats 4000000 in
set_option maxRecDepth 100000 in
theorem c_X3_night (l : Launch) (D : va_G) (cy : Nat → ClassId) (ad : Nat → Nat) (S : St) (a1 : Int32) (a2 : Int32) {r : Int32} {S2 : St}  (hf : f_X3_night S a1 a2 = some (r, S2)) : XMi l D (wC cy ad) (xty cy) yX3_night wsX3_night ({ frames := 1, cells := 0, slots := 0, locals := 21 } : Room) [.ref (ad 0), .int a1, .int a2] S r S2 := by
  refine x_ofWi (cc := cX3_night) (maxL := 3) (ret := some .boolean) (own := RX3) rfl (by decide) rfl (Nat.le_of_ble_eq_true rfl) rfl ?_
  intro p e s m args below meth c A C _
  unfold f_X3_night at hf
  refine x_aload_n C dX3_night_0 rfl 0 rfl ?_
  refine x_iload_n C dX3_night_1 rfl 1 rfl ?_
  obtain ⟨u1, h2, hf⟩ := x_bd hf
  refine x_callVi (As := [.int a1]) (st := []) C (c_X3_isWork l D cy ad S a1  h2) (cwV 1 C.2.2.2.2.1 gX3_night_X3_isWork rfl rfl rfl (by decide +kernel) ⟨(by decide), (by decide)⟩) 0 (gC_root cy ad S) rfl rfl rfl rfl (Nat.le_of_ble_eq_true rfl) dX3_night_2 ?_
  refine x_if_ne (tgt := 10) C dX3_night_5 (by decide) (fun (c_3 : ¬ (u1 = 0)) => ?_) (fun (c_3 : u1 = 0) => ?_)
  · replace hf := x_in c_3 hf
    refine x_aload_n C dX3_night_10 rfl 0 rfl ?_
    refine x_get (v := .ref (ad 1)) C iX3_night_X3 rfl 0 (gC_root cy ad S) 1 (by decide) (by decide +kernel) rfl rfl dX3_night_11 ?_
    refine x_iload_n C dX3_night_14 rfl 1 rfl ?_
    obtain ⟨g_4, hf⟩ := x_gd hf
    refine x_aald C 1 2 (gC_works cy ad S) rfl rfl g_4 rfl dX3_night_15 ?_
    refine x_iload_n C dX3_night_16 rfl 2 rfl ?_
    obtain ⟨g_5, hf⟩ := x_gd hf
    refine x_putN (v := .int a2) (ty := .boolean) (S2 := (xI S 6 a1.toNatClampNeg 0 a2)) (host := "ClosureHours") C iX3_night_X2 tyX2 tyX2_ok nmX2 rfl (15 + a1.toNatClampNeg) (gC_work cy ad S (x_lt g_4)) 3 (by decide) (by decide +kernel) rfl rfl (by decide +kernel) (x_bz g_5) (x_bf g_5) (Nat.le_of_ble_eq_true rfl) (sC_night cy ad S a2 (x_lt g_4)) dX3_night_17 ?_
    refine x_iconst (v := 1) C dX3_night_20 (by decide) ?_
    obtain ⟨e9, e8⟩ := x_s2 hf; subst e9; subst e8
    exact x_zret C rfl dX3_night_21
  · replace hf := x_ip c_3 hf
    refine x_iconst (v := 0) C dX3_night_8 (by decide) ?_
    obtain ⟨e9, e8⟩ := x_s2 hf; subst e9; subst e8
    exact x_zret C rfl dX3_night_9
end DX3_night
set_option maxRecDepth 20000 in
theorem iX3_event_X2 : ∀ w ∈ u_ws RX2 TX2 10, w ∈ wsX3_event := by decide +kernel
set_option maxRecDepth 20000 in
theorem iX3_event_X3 : ∀ w ∈ u_ws RX3 TX3 8, w ∈ wsX3_event := by decide +kernel
def f_X3_event (S : St) (a1 : Int32) (a2 : Int32) (a3 : Int32) : Option (Int32 × St) := (f_X3_isWork S a1).bind fun u1 => if u1 = 0 then (some (0, S)) else ((f_X3_isHour S a2).bind fun u4 => if u4 = 0 then (some (0, S)) else (if a1 < 0 ∨ 4 ≤ a1.toNatClampNeg then none else (f_X3_withBit  (S.2 0 a1.toNatClampNeg 0) a2 a3).bind fun u8 => some (1, (xJ S 0 a1.toNatClampNeg 0 u8))))
section DX3_event
variable {p : Program} {l : Launch} {e : Env} {s : State} {m : MethodId} {args : Array Value} {below : List Frame} {meth : Method} {c : Code} {D : va_G} {cy : Nat → ClassId} {ad : Nat → Nat} {A : Nat → Prop}
set_option maxHeartbeats 4000000 in
set_option maxRecDepth 100000 in
theorem c_X3_event (l : Launch) (D : va_G) (cy : Nat → ClassId) (ad : Nat → Nat) (S : St) (a1 : Int32) (a2 : Int32) (a3 : Int32) {r : Int32} {S2 : St}  (hf : f_X3_event S a1 a2 a3 = some (r, S2)) : XMi l D (wC cy ad) (xty cy) yX3_event wsX3_event ({ frames := 1, cells := 0, slots := 0, locals := 23 } : Room) [.ref (ad 0), .int a1, .int a2, .int a3] S r S2 := by
  refine x_ofWi (cc := cX3_event) (maxL := 4) (ret := some .boolean) (own := RX3) rfl (by decide) rfl (Nat.le_of_ble_eq_true rfl) rfl ?_
  intro p e s m args below meth c A C _
  unfold f_X3_event at hf
  refine x_aload_n C dX3_event_0 rfl 0 rfl ?_
  refine x_iload_n C dX3_event_1 rfl 1 rfl ?_
  obtain ⟨u1, h2, hf⟩ := x_bd hf
  refine x_callVi (As := [.int a1]) (st := []) C (c_X3_isWork l D cy ad S a1  h2) (cwV 1 C.2.2.2.2.1 gX3_event_X3_isWork rfl rfl rfl (by decide +kernel) ⟨(by decide), (by decide)⟩) 0 (gC_root cy ad S) rfl rfl rfl rfl (Nat.le_of_ble_eq_true rfl) dX3_event_2 ?_
  refine x_if_eq (tgt := 16) C dX3_event_5 (by decide) (fun (c_3 : u1 = 0) => ?_) (fun (c_3 : ¬ (u1 = 0)) => ?_)
  · replace hf := x_ip c_3 hf
    refine x_iconst (v := 0) C dX3_event_16 (by decide) ?_
    obtain ⟨e9, e8⟩ := x_s2 hf; subst e9; subst e8
    exact x_zret C rfl dX3_event_17
  · replace hf := x_in c_3 hf
    refine x_aload_n C dX3_event_8 rfl 0 rfl ?_
    refine x_iload_n C dX3_event_9 rfl 2 rfl ?_
    obtain ⟨u4, h5, hf⟩ := x_bd hf
    refine x_callVi (As := [.int a2]) (st := []) C (c_X3_isHour l D cy ad S a2  h5) (cwV 1 C.2.2.2.2.1 gX3_event_X3_isHour rfl rfl rfl (by decide +kernel) ⟨(by decide), (by decide)⟩) 0 (gC_root cy ad S) rfl rfl rfl rfl (Nat.le_of_ble_eq_true rfl) dX3_event_10 ?_
    refine x_if_ne (tgt := 18) C dX3_event_13 (by decide) (fun (c_6 : ¬ (u4 = 0)) => ?_) (fun (c_6 : u4 = 0) => ?_)
    · replace hf := x_in c_6 hf
      refine x_aload_n C dX3_event_18 rfl 0 rfl ?_
      refine x_get (v := .ref (ad 1)) C iX3_event_X3 rfl 0 (gC_root cy ad S) 1 (by decide) (by decide +kernel) rfl rfl dX3_event_19 ?_
      refine x_iload_n C dX3_event_22 rfl 1 rfl ?_
      obtain ⟨g_7, hf⟩ := x_gd hf
      refine x_aald C 1 2 (gC_works cy ad S) rfl rfl g_7 rfl dX3_event_23 ?_
      refine x_aload_n C dX3_event_24 rfl 0 rfl ?_
      refine x_get (v := .ref (ad 1)) C iX3_event_X3 rfl 0 (gC_root cy ad S) 1 (by decide) (by decide +kernel) rfl rfl dX3_event_25 ?_
      refine x_iload_n C dX3_event_28 rfl 1 rfl ?_
      refine x_aald C 1 2 (gC_works cy ad S) rfl rfl g_7 rfl dX3_event_29 ?_
      refine x_getN (v := .long (S.2 0 a1.toNatClampNeg 0)) (host := "ClosureHours") C iX3_event_X2 rfl (15 + a1.toNatClampNeg) (gC_work cy ad S (x_lt g_7)) 4 (by decide) (by decide +kernel) rfl rfl dX3_event_30 ?_
      refine x_iload_n C dX3_event_33 rfl 2 rfl ?_
      refine x_iload_n C dX3_event_34 rfl 3 rfl ?_
      obtain ⟨u8, h9, hf⟩ := x_bd hf
      refine x_callSl (As := [.long (S.2 0 a1.toNatClampNeg 0), .int a2, .int a3]) (st := [.ref (ad (15 + a1.toNatClampNeg))]) C (c_X3_withBit l D cy ad (wC cy ad) S (S.2 0 a1.toNatClampNeg 0) a2 a3  h9) (va_cwS 3 C.2.2.2.2.1 gX3_event_X3_withBit rfl rfl rfl (by decide +kernel) ⟨(by decide), (by decide)⟩) rfl rfl (Nat.le_of_ble_eq_true rfl) dX3_event_35 ?_
      refine x_putN (v := .long u8) (ty := .long) (S2 := (xJ S 0 a1.toNatClampNeg 0 u8)) (host := "ClosureHours") C iX3_event_X2 tyX2 tyX2_ok nmX2 rfl (15 + a1.toNatClampNeg) (gC_work cy ad S (x_lt g_7)) 4 (by decide) (by decide +kernel) rfl rfl (by decide +kernel) rfl rfl (Nat.le_of_ble_eq_true rfl) (sC_evb cy ad S u8 (x_lt g_7)) dX3_event_38 ?_
      refine x_iconst (v := 1) C dX3_event_41 (by decide) ?_
      obtain ⟨e9, e8⟩ := x_s2 hf; subst e9; subst e8
      exact x_zret C rfl dX3_event_42
    · replace hf := x_ip c_6 hf
      refine x_iconst (v := 0) C dX3_event_16 (by decide) ?_
      obtain ⟨e9, e8⟩ := x_s2 hf; subst e9; subst e8
      exact x_zret C rfl dX3_event_17
end DX3_event
def f_X3_bitsFrom (a1 : Int32) (a2 : Int32) : Option (Int64) := some ((((1 : Int64) <<< (Int32.toInt64 a2 &&& 63)) - 1) <<< (Int32.toInt64 a1 &&& 63))
section DX3_bitsFrom
variable {p : Program} {l : Launch} {e : Env} {s : State} {m : MethodId} {args : Array Value} {below : List Frame} {meth : Method} {c : Code} {D : va_G} {cy : Nat → ClassId} {ad : Nat → Nat} {A : Nat → Prop}
set_option maxHeartbeats 4000000 in
set_option maxRecDepth 100000 in
theorem c_X3_bitsFrom (l : Launch) (D : va_G) (cy : Nat → ClassId) (ad : Nat → Nat) (wf : St → va_W) (S : St) (a1 : Int32) (a2 : Int32) {r : Int64}  (hf : f_X3_bitsFrom  a1 a2 = some r) : XMl l D wf (xty cy) yX3_bitsFrom wsX3_bitsFrom ({ frames := 0, cells := 0, slots := 0, locals := 0 } : Room) [.int a1, .int a2] S r S := by
  refine x_ofWl (cc := cX3_bitsFrom) (maxL := 2) (ret := some .long) (own := RX3) rfl (by decide) rfl (Nat.le_of_ble_eq_true rfl) rfl ?_
  intro p e s m args below meth c A C _
  unfold f_X3_bitsFrom at hf
  refine x_lconst (v := 1) C dX3_bitsFrom_0 (by decide) ?_
  refine x_iload_n C dX3_bitsFrom_1 rfl 1 rfl ?_
  refine x_lshl C dX3_bitsFrom_2 ?_
  refine x_lconst (v := 1) C dX3_bitsFrom_3 (by decide) ?_
  refine x_lsub C dX3_bitsFrom_4 ?_
  refine x_iload_n C dX3_bitsFrom_5 rfl 0 rfl ?_
  refine x_lshl C dX3_bitsFrom_6 ?_
  have e9 := x_s1 hf; subst e9
  exact x_lret C dX3_bitsFrom_7
end DX3_bitsFrom
set_option maxRecDepth 20000 in
theorem iX3_noise_X2 : ∀ w ∈ u_ws RX2 TX2 10, w ∈ wsX3_noise := by decide +kernel
set_option maxRecDepth 20000 in
theorem iX3_noise_X3 : ∀ w ∈ u_ws RX3 TX3 8, w ∈ wsX3_noise := by decide +kernel
def f_X3_noise (S : St) (a1 : Int32) (a2 : Int32) (a3 : Int32) : Option (Int32 × St) := (f_X3_isWork S a1).bind fun u1 => if u1 = 0 then (some (0, S)) else ((f_X3_isHour S a2).bind fun u4 => if u4 = 0 then (some (0, S)) else ((f_X3_isHour S a3).bind fun u7 => if u7 = 0 then (some (0, S)) else (if a1 < 0 ∨ 4 ≤ a1.toNatClampNeg then none else if a2 ≤ a3 then ((f_X3_bitsFrom  a2 ((a3 - a2) + 1)).bind fun u12 => some (1, (xJ S 1 a1.toNatClampNeg 0 u12))) else (some (1, (xJ S 1 a1.toNatClampNeg 0 0))))))
section DX3_noise
variable {p : Program} {l : Launch} {e : Env} {s : State} {m : MethodId} {args : Array Value} {below : List Frame} {meth : Method} {c : Code} {D : va_G} {cy : Nat → ClassId} {ad : Nat → Nat} {A : Nat → Prop}
set_option maxHeartbeats 4000000 in
set_option maxRecDepth 100000 in
theorem c_X3_noise (l : Launch) (D : va_G) (cy : Nat → ClassId) (ad : Nat → Nat) (S : St) (a1 : Int32) (a2 : Int32) (a3 : Int32) {r : Int32} {S2 : St}  (hf : f_X3_noise S a1 a2 a3 = some (r, S2)) : XMi l D (wC cy ad) (xty cy) yX3_noise wsX3_noise ({ frames := 1, cells := 0, slots := 0, locals := 21 } : Room) [.ref (ad 0), .int a1, .int a2, .int a3] S r S2 := by
  refine x_ofWi (cc := cX3_noise) (maxL := 4) (ret := some .boolean) (own := RX3) rfl (by decide) rfl (Nat.le_of_ble_eq_true rfl) rfl ?_
  intro p e s m args below meth c A C _
  unfold f_X3_noise at hf
  refine x_aload_n C dX3_noise_0 rfl 0 rfl ?_
  refine x_iload_n C dX3_noise_1 rfl 1 rfl ?_
  obtain ⟨u1, h2, hf⟩ := x_bd hf
  refine x_callVi (As := [.int a1]) (st := []) C (c_X3_isWork l D cy ad S a1  h2) (cwV 1 C.2.2.2.2.1 gX3_noise_X3_isWork rfl rfl rfl (by decide +kernel) ⟨(by decide), (by decide)⟩) 0 (gC_root cy ad S) rfl rfl rfl rfl (Nat.le_of_ble_eq_true rfl) dX3_noise_2 ?_
  refine x_if_eq (tgt := 24) C dX3_noise_5 (by decide) (fun (c_3 : u1 = 0) => ?_) (fun (c_3 : ¬ (u1 = 0)) => ?_)
  · replace hf := x_ip c_3 hf
    refine x_iconst (v := 0) C dX3_noise_24 (by decide) ?_
    obtain ⟨e9, e8⟩ := x_s2 hf; subst e9; subst e8
    exact x_zret C rfl dX3_noise_25
  · replace hf := x_in c_3 hf
    refine x_aload_n C dX3_noise_8 rfl 0 rfl ?_
    refine x_iload_n C dX3_noise_9 rfl 2 rfl ?_
    obtain ⟨u4, h5, hf⟩ := x_bd hf
    refine x_callVi (As := [.int a2]) (st := []) C (c_X3_isHour l D cy ad S a2  h5) (cwV 1 C.2.2.2.2.1 gX3_noise_X3_isHour rfl rfl rfl (by decide +kernel) ⟨(by decide), (by decide)⟩) 0 (gC_root cy ad S) rfl rfl rfl rfl (Nat.le_of_ble_eq_true rfl) dX3_noise_10 ?_
    refine x_if_eq (tgt := 24) C dX3_noise_13 (by decide) (fun (c_6 : u4 = 0) => ?_) (fun (c_6 : ¬ (u4 = 0)) => ?_)
    · replace hf := x_ip c_6 hf
      refine x_iconst (v := 0) C dX3_noise_24 (by decide) ?_
      obtain ⟨e9, e8⟩ := x_s2 hf; subst e9; subst e8
      exact x_zret C rfl dX3_noise_25
    · replace hf := x_in c_6 hf
      refine x_aload_n C dX3_noise_16 rfl 0 rfl ?_
      refine x_iload_n C dX3_noise_17 rfl 3 rfl ?_
      obtain ⟨u7, h8, hf⟩ := x_bd hf
      refine x_callVi (As := [.int a3]) (st := []) C (c_X3_isHour l D cy ad S a3  h8) (cwV 1 C.2.2.2.2.1 gX3_noise_X3_isHour rfl rfl rfl (by decide +kernel) ⟨(by decide), (by decide)⟩) 0 (gC_root cy ad S) rfl rfl rfl rfl (Nat.le_of_ble_eq_true rfl) dX3_noise_18 ?_
      refine x_if_ne (tgt := 26) C dX3_noise_21 (by decide) (fun (c_9 : ¬ (u7 = 0)) => ?_) (fun (c_9 : u7 = 0) => ?_)
      · replace hf := x_in c_9 hf
        refine x_aload_n C dX3_noise_26 rfl 0 rfl ?_
        refine x_get (v := .ref (ad 1)) C iX3_noise_X3 rfl 0 (gC_root cy ad S) 1 (by decide) (by decide +kernel) rfl rfl dX3_noise_27 ?_
        refine x_iload_n C dX3_noise_30 rfl 1 rfl ?_
        obtain ⟨g_10, hf⟩ := x_gd hf
        refine x_aald C 1 2 (gC_works cy ad S) rfl rfl g_10 rfl dX3_noise_31 ?_
        refine x_iload_n C dX3_noise_32 rfl 2 rfl ?_
        refine x_iload_n C dX3_noise_33 rfl 3 rfl ?_
        refine x_icmp_le (tgt := 41) C dX3_noise_34 (by decide) (fun (c_11 : a2 ≤ a3) => ?_) (fun (c_11 : ¬ (a2 ≤ a3)) => ?_)
        · replace hf := x_ip c_11 hf
          refine x_iload_n C dX3_noise_41 rfl 2 rfl ?_
          refine x_iload_n C dX3_noise_42 rfl 3 rfl ?_
          refine x_iload_n C dX3_noise_43 rfl 2 rfl ?_
          refine x_isub C dX3_noise_44 ?_
          refine x_iconst (v := 1) C dX3_noise_45 (by decide) ?_
          refine x_iadd C dX3_noise_46 ?_
          obtain ⟨u12, h13, hf⟩ := x_bd hf
          refine x_callSl (As := [.int a2, .int ((a3 - a2) + 1)]) (st := [.ref (ad (15 + a1.toNatClampNeg))]) C (c_X3_bitsFrom l D cy ad (wC cy ad) S a2 ((a3 - a2) + 1)  h13) (va_cwS 2 C.2.2.2.2.1 gX3_noise_X3_bitsFrom rfl rfl rfl (by decide +kernel) ⟨(by decide), (by decide)⟩) rfl rfl (Nat.le_of_ble_eq_true rfl) dX3_noise_47 ?_
          refine x_putN (v := .long u12) (ty := .long) (S2 := (xJ S 1 a1.toNatClampNeg 0 u12)) (host := "ClosureHours") C iX3_noise_X2 tyX2 tyX2_ok nmX2 rfl (15 + a1.toNatClampNeg) (gC_work cy ad S (x_lt g_10)) 5 (by decide) (by decide +kernel) rfl rfl (by decide +kernel) rfl rfl (Nat.le_of_ble_eq_true rfl) (sC_nob cy ad S u12 (x_lt g_10)) dX3_noise_50 ?_
          refine x_iconst (v := 1) C dX3_noise_53 (by decide) ?_
          obtain ⟨e9, e8⟩ := x_s2 hf; subst e9; subst e8
          exact x_zret C rfl dX3_noise_54
        · replace hf := x_in c_11 hf
          refine x_lconst (v := 0) C dX3_noise_37 (by decide) ?_
          refine x_goto (tgt := 50) C dX3_noise_38 (by decide) ?_
          refine x_putN (v := .long 0) (ty := .long) (S2 := (xJ S 1 a1.toNatClampNeg 0 0)) (host := "ClosureHours") C iX3_noise_X2 tyX2 tyX2_ok nmX2 rfl (15 + a1.toNatClampNeg) (gC_work cy ad S (x_lt g_10)) 5 (by decide) (by decide +kernel) rfl rfl (by decide +kernel) rfl rfl (Nat.le_of_ble_eq_true rfl) (sC_nob cy ad S 0 (x_lt g_10)) dX3_noise_50 ?_
          refine x_iconst (v := 1) C dX3_noise_53 (by decide) ?_
          obtain ⟨e9, e8⟩ := x_s2 hf; subst e9; subst e8
          exact x_zret C rfl dX3_noise_54
      · replace hf := x_ip c_9 hf
        refine x_iconst (v := 0) C dX3_noise_24 (by decide) ?_
        obtain ⟨e9, e8⟩ := x_s2 hf; subst e9; subst e8
        exact x_zret C rfl dX3_noise_25
end DX3_noise
def f_X3_isCrew (a1 : Int32) : Option (Int32) := if a1 < 0 then (some 0) else (if (4 : Int32) ≤ a1 then (some 0) else (some 1))
section DX3_isCrew
variable {p : Program} {l : Launch} {e : Env} {s : State} {m : MethodId} {args : Array Value} {below : List Frame} {meth : Method} {c : Code} {D : va_G} {cy : Nat → ClassId} {ad : Nat → Nat} {A : Nat → Prop}
set_option maxHeartbeats 4000000 in
set_option maxRecDepth 100000 in
theorem c_X3_isCrew (l : Launch) (D : va_G) (cy : Nat → ClassId) (ad : Nat → Nat) (wf : St → va_W) (S : St) (a1 : Int32) {r : Int32}  (hf : f_X3_isCrew  a1 = some r) : XMi l D wf (xty cy) yX3_isCrew wsX3_isCrew ({ frames := 0, cells := 0, slots := 0, locals := 0 } : Room) [.int a1] S r S := by
  refine x_ofWi (cc := cX3_isCrew) (maxL := 1) (ret := some .boolean) (own := RX3) rfl (by decide) rfl (Nat.le_of_ble_eq_true rfl) rfl ?_
  intro p e s m args below meth c A C _
  unfold f_X3_isCrew at hf
  refine x_iload_n C dX3_isCrew_0 rfl 0 rfl ?_
  refine x_if_lt (tgt := 13) C dX3_isCrew_1 (by decide) (fun (c_1 : a1 < 0) => ?_) (fun (c_1 : ¬ (a1 < 0)) => ?_)
  · replace hf := x_ip c_1 hf
    refine x_iconst (v := 0) C dX3_isCrew_13 (by decide) ?_
    have e9 := x_s1 hf; subst e9
    exact x_zret C rfl dX3_isCrew_14
  · replace hf := x_in c_1 hf
    refine x_iload_n C dX3_isCrew_4 rfl 0 rfl ?_
    refine x_iconst (v := 4) C dX3_isCrew_5 (by decide) ?_
    refine x_icmp_ge (tgt := 13) C dX3_isCrew_6 (by decide) (fun (c_2 : (4 : Int32) ≤ a1) => ?_) (fun (c_2 : ¬ ((4 : Int32) ≤ a1)) => ?_)
    · replace hf := x_ip c_2 hf
      refine x_iconst (v := 0) C dX3_isCrew_13 (by decide) ?_
      have e9 := x_s1 hf; subst e9
      exact x_zret C rfl dX3_isCrew_14
    · replace hf := x_in c_2 hf
      refine x_iconst (v := 1) C dX3_isCrew_9 (by decide) ?_
      refine x_goto (tgt := 14) C dX3_isCrew_10 (by decide) ?_
      have e9 := x_s1 hf; subst e9
      exact x_zret C rfl dX3_isCrew_14
end DX3_isCrew
set_option maxRecDepth 20000 in
theorem iX3_crew_X2 : ∀ w ∈ u_ws RX2 TX2 10, w ∈ wsX3_crew := by decide +kernel
set_option maxRecDepth 20000 in
theorem iX3_crew_X3 : ∀ w ∈ u_ws RX3 TX3 8, w ∈ wsX3_crew := by decide +kernel
def f_X3_crew (S : St) (a1 : Int32) (a2 : Int32) : Option (Int32 × St) := (f_X3_isWork S a1).bind fun u1 => if u1 = 0 then (some (0, S)) else ((f_X3_isCrew  a2).bind fun u4 => if u4 = 0 then (some (0, S)) else (if a1 < 0 ∨ 4 ≤ a1.toNatClampNeg then none else some (1, (xI S 8 a1.toNatClampNeg 0 a2))))
section DX3_crew
variable {p : Program} {l : Launch} {e : Env} {s : State} {m : MethodId} {args : Array Value} {below : List Frame} {meth : Method} {c : Code} {D : va_G} {cy : Nat → ClassId} {ad : Nat → Nat} {A : Nat → Prop}
set_option maxHeartbeats 4000000 in
set_option maxRecDepth 100000 in
theorem c_X3_crew (l : Launch) (D : va_G) (cy : Nat → ClassId) (ad : Nat → Nat) (S : St) (a1 : Int32) (a2 : Int32) {r : Int32} {S2 : St}  (hf : f_X3_crew S a1 a2 = some (r, S2)) : XMi l D (wC cy ad) (xty cy) yX3_crew wsX3_crew ({ frames := 1, cells := 0, slots := 0, locals := 21 } : Room) [.ref (ad 0), .int a1, .int a2] S r S2 := by
  refine x_ofWi (cc := cX3_crew) (maxL := 3) (ret := some .boolean) (own := RX3) rfl (by decide) rfl (Nat.le_of_ble_eq_true rfl) rfl ?_
  intro p e s m args below meth c A C _
  unfold f_X3_crew at hf
  refine x_aload_n C dX3_crew_0 rfl 0 rfl ?_
  refine x_iload_n C dX3_crew_1 rfl 1 rfl ?_
  obtain ⟨u1, h2, hf⟩ := x_bd hf
  refine x_callVi (As := [.int a1]) (st := []) C (c_X3_isWork l D cy ad S a1  h2) (cwV 1 C.2.2.2.2.1 gX3_crew_X3_isWork rfl rfl rfl (by decide +kernel) ⟨(by decide), (by decide)⟩) 0 (gC_root cy ad S) rfl rfl rfl rfl (Nat.le_of_ble_eq_true rfl) dX3_crew_2 ?_
  refine x_if_eq (tgt := 15) C dX3_crew_5 (by decide) (fun (c_3 : u1 = 0) => ?_) (fun (c_3 : ¬ (u1 = 0)) => ?_)
  · replace hf := x_ip c_3 hf
    refine x_iconst (v := 0) C dX3_crew_15 (by decide) ?_
    obtain ⟨e9, e8⟩ := x_s2 hf; subst e9; subst e8
    exact x_zret C rfl dX3_crew_16
  · replace hf := x_in c_3 hf
    refine x_iload_n C dX3_crew_8 rfl 2 rfl ?_
    obtain ⟨u4, h5, hf⟩ := x_bd hf
    refine x_callSi (As := [.int a2]) (st := []) C (c_X3_isCrew l D cy ad (wC cy ad) S a2  h5) (va_cwS 1 C.2.2.2.2.1 gX3_crew_X3_isCrew rfl rfl rfl (by decide +kernel) ⟨(by decide), (by decide)⟩) rfl rfl (Nat.le_of_ble_eq_true rfl) dX3_crew_9 ?_
    refine x_if_ne (tgt := 17) C dX3_crew_12 (by decide) (fun (c_6 : ¬ (u4 = 0)) => ?_) (fun (c_6 : u4 = 0) => ?_)
    · replace hf := x_in c_6 hf
      refine x_aload_n C dX3_crew_17 rfl 0 rfl ?_
      refine x_get (v := .ref (ad 1)) C iX3_crew_X3 rfl 0 (gC_root cy ad S) 1 (by decide) (by decide +kernel) rfl rfl dX3_crew_18 ?_
      refine x_iload_n C dX3_crew_21 rfl 1 rfl ?_
      obtain ⟨g_7, hf⟩ := x_gd hf
      refine x_aald C 1 2 (gC_works cy ad S) rfl rfl g_7 rfl dX3_crew_22 ?_
      refine x_iload_n C dX3_crew_23 rfl 2 rfl ?_
      refine x_putN (v := .int a2) (ty := .int) (S2 := (xI S 8 a1.toNatClampNeg 0 a2)) (host := "ClosureHours") C iX3_crew_X2 tyX2 tyX2_ok nmX2 rfl (15 + a1.toNatClampNeg) (gC_work cy ad S (x_lt g_7)) 7 (by decide) (by decide +kernel) rfl rfl (by decide +kernel) rfl rfl (Nat.le_of_ble_eq_true rfl) (sC_crew cy ad S a2 (x_lt g_7)) dX3_crew_24 ?_
      refine x_iconst (v := 1) C dX3_crew_27 (by decide) ?_
      obtain ⟨e9, e8⟩ := x_s2 hf; subst e9; subst e8
      exact x_zret C rfl dX3_crew_28
    · replace hf := x_ip c_6 hf
      refine x_iconst (v := 0) C dX3_crew_15 (by decide) ?_
      obtain ⟨e9, e8⟩ := x_s2 hf; subst e9; subst e8
      exact x_zret C rfl dX3_crew_16
end DX3_crew
set_option maxRecDepth 20000 in
theorem iX3_rest_X3 : ∀ w ∈ u_ws RX3 TX3 8, w ∈ wsX3_rest := by decide +kernel
def f_X3_rest (S : St) (a1 : Int32) (a2 : Int32) : Option (Int32 × St) := (f_X3_isCrew  a1).bind fun u1 => if u1 = 0 then (some (0, S)) else ((f_X3_isWithin  a2 0 36).bind fun u4 => if u4 = 0 then (some (0, S)) else (if a1 < 0 ∨ 4 ≤ a1.toNatClampNeg then none else some (1, (xI S 12 0 a1.toNatClampNeg a2))))
section DX3_rest
variable {p : Program} {l : Launch} {e : Env} {s : State} {m : MethodId} {args : Array Value} {below : List Frame} {meth : Method} {c : Code} {D : va_G} {cy : Nat → ClassId} {ad : Nat → Nat} {A : Nat → Prop}
set_option maxHeartbeats 4000000 in
set_option maxRecDepth 100000 in
theorem c_X3_rest (l : Launch) (D : va_G) (cy : Nat → ClassId) (ad : Nat → Nat) (S : St) (a1 : Int32) (a2 : Int32) {r : Int32} {S2 : St}  (hf : f_X3_rest S a1 a2 = some (r, S2)) : XMi l D (wC cy ad) (xty cy) yX3_rest wsX3_rest ({ frames := 1, cells := 0, slots := 0, locals := 22 } : Room) [.ref (ad 0), .int a1, .int a2] S r S2 := by
  refine x_ofWi (cc := cX3_rest) (maxL := 3) (ret := some .boolean) (own := RX3) rfl (by decide) rfl (Nat.le_of_ble_eq_true rfl) rfl ?_
  intro p e s m args below meth c A C _
  unfold f_X3_rest at hf
  refine x_iload_n C dX3_rest_0 rfl 1 rfl ?_
  obtain ⟨u1, h2, hf⟩ := x_bd hf
  refine x_callSi (As := [.int a1]) (st := []) C (c_X3_isCrew l D cy ad (wC cy ad) S a1  h2) (va_cwS 1 C.2.2.2.2.1 gX3_rest_X3_isCrew rfl rfl rfl (by decide +kernel) ⟨(by decide), (by decide)⟩) rfl rfl (Nat.le_of_ble_eq_true rfl) dX3_rest_1 ?_
  refine x_if_eq (tgt := 17) C dX3_rest_4 (by decide) (fun (c_3 : u1 = 0) => ?_) (fun (c_3 : ¬ (u1 = 0)) => ?_)
  · replace hf := x_ip c_3 hf
    refine x_iconst (v := 0) C dX3_rest_17 (by decide) ?_
    obtain ⟨e9, e8⟩ := x_s2 hf; subst e9; subst e8
    exact x_zret C rfl dX3_rest_18
  · replace hf := x_in c_3 hf
    refine x_iload_n C dX3_rest_7 rfl 2 rfl ?_
    refine x_iconst (v := 0) C dX3_rest_8 (by decide) ?_
    refine x_bipush (v := 36) C dX3_rest_9 (by decide) ?_
    obtain ⟨u4, h5, hf⟩ := x_bd hf
    refine x_callSi (As := [.int a2, .int 0, .int 36]) (st := []) C (c_X3_isWithin l D cy ad (wC cy ad) S a2 0 36  h5) (va_cwS 3 C.2.2.2.2.1 gX3_rest_X3_isWithin rfl rfl rfl (by decide +kernel) ⟨(by decide), (by decide)⟩) rfl rfl (Nat.le_of_ble_eq_true rfl) dX3_rest_11 ?_
    refine x_if_ne (tgt := 19) C dX3_rest_14 (by decide) (fun (c_6 : ¬ (u4 = 0)) => ?_) (fun (c_6 : u4 = 0) => ?_)
    · replace hf := x_in c_6 hf
      refine x_aload_n C dX3_rest_19 rfl 0 rfl ?_
      refine x_get (v := .ref (ad 2)) C iX3_rest_X3 rfl 0 (gC_root cy ad S) 2 (by decide) (by decide +kernel) rfl rfl dX3_rest_20 ?_
      refine x_iload_n C dX3_rest_23 rfl 1 rfl ?_
      refine x_iload_n C dX3_rest_24 rfl 2 rfl ?_
      obtain ⟨g_7, hf⟩ := x_gd hf
      refine x_iast (S2 := (xI S 12 0 a1.toNatClampNeg a2)) C 2 0 (gC_rests cy ad S) rfl g_7 (sC_rests cy ad S a1.toNatClampNeg a2) dX3_rest_25 ?_
      refine x_iconst (v := 1) C dX3_rest_26 (by decide) ?_
      obtain ⟨e9, e8⟩ := x_s2 hf; subst e9; subst e8
      exact x_zret C rfl dX3_rest_27
    · replace hf := x_ip c_6 hf
      refine x_iconst (v := 0) C dX3_rest_17 (by decide) ?_
      obtain ⟨e9, e8⟩ := x_s2 hf; subst e9; subst e8
      exact x_zret C rfl dX3_rest_18
end DX3_rest
set_option maxRecDepth 20000 in
theorem iX2_isFixed_X2 : ∀ w ∈ u_ws RX2 TX2 10, w ∈ wsX2_isFixed := by decide +kernel
def f_X2_isFixed (S : St) (w : Nat) : Option (Int32) := if (S.1 10 w 0) < 3 then (some 0) else (some 1)
section DX2_isFixed
variable {p : Program} {l : Launch} {e : Env} {s : State} {m : MethodId} {args : Array Value} {below : List Frame} {meth : Method} {c : Code} {D : va_G} {cy : Nat → ClassId} {ad : Nat → Nat} {A : Nat → Prop}
set_option maxHeartbeats 4000000 in
set_option maxRecDepth 100000 in
theorem c_X2_isFixed (l : Launch) (D : va_G) (cy : Nat → ClassId) (ad : Nat → Nat) (S : St) (w : Nat) (hw : w < 4) {r : Int32}  (hf : f_X2_isFixed S w = some r) : XMi l D (wC cy ad) (xty cy) yX2_isFixed wsX2_isFixed ({ frames := 0, cells := 0, slots := 0, locals := 0 } : Room) [.ref (ad (15 + w))] S r S := by
  refine x_ofWi (cc := cX2_isFixed) (maxL := 1) (ret := some .boolean) (own := RX2) rfl (by decide) rfl (Nat.le_of_ble_eq_true rfl) rfl ?_
  intro p e s m args below meth c A C _
  unfold f_X2_isFixed at hf
  refine x_aload_n C dX2_isFixed_0 rfl 0 rfl ?_
  refine x_get (v := .int (S.1 10 w 0)) C iX2_isFixed_X2 rfl (15 + w) (gC_work cy ad S hw) 9 (by decide) (by decide +kernel) rfl rfl dX2_isFixed_1 ?_
  refine x_iconst (v := 3) C dX2_isFixed_4 (by decide) ?_
  refine x_icmp_lt (tgt := 12) C dX2_isFixed_5 (by decide) (fun (c_1 : (S.1 10 w 0) < 3) => ?_) (fun (c_1 : ¬ ((S.1 10 w 0) < 3)) => ?_)
  · replace hf := x_ip c_1 hf
    refine x_iconst (v := 0) C dX2_isFixed_12 (by decide) ?_
    have e9 := x_s1 hf; subst e9
    exact x_zret C rfl dX2_isFixed_13
  · replace hf := x_in c_1 hf
    refine x_iconst (v := 1) C dX2_isFixed_8 (by decide) ?_
    refine x_goto (tgt := 13) C dX2_isFixed_9 (by decide) ?_
    have e9 := x_s1 hf; subst e9
    exact x_zret C rfl dX2_isFixed_13
end DX2_isFixed
set_option maxRecDepth 20000 in
theorem iX2_span_X2 : ∀ w ∈ u_ws RX2 TX2 10, w ∈ wsX2_span := by decide +kernel
def f_X2_span (S : St) (w : Nat) : Option (Int32) := some ((S.1 5 w 0) + (S.1 4 w 0))
section DX2_span
variable {p : Program} {l : Launch} {e : Env} {s : State} {m : MethodId} {args : Array Value} {below : List Frame} {meth : Method} {c : Code} {D : va_G} {cy : Nat → ClassId} {ad : Nat → Nat} {A : Nat → Prop}
set_option maxHeartbeats 4000000 in
set_option maxRecDepth 100000 in
theorem c_X2_span (l : Launch) (D : va_G) (cy : Nat → ClassId) (ad : Nat → Nat) (S : St) (w : Nat) (hw : w < 4) {r : Int32}  (hf : f_X2_span S w = some r) : XMi l D (wC cy ad) (xty cy) yX2_span wsX2_span ({ frames := 0, cells := 0, slots := 0, locals := 0 } : Room) [.ref (ad (15 + w))] S r S := by
  refine x_ofWi (cc := cX2_span) (maxL := 1) (ret := some .int) (own := RX2) rfl (by decide) rfl (Nat.le_of_ble_eq_true rfl) rfl ?_
  intro p e s m args below meth c A C _
  unfold f_X2_span at hf
  refine x_aload_n C dX2_span_0 rfl 0 rfl ?_
  refine x_get (v := .int (S.1 5 w 0)) C iX2_span_X2 rfl (15 + w) (gC_work cy ad S hw) 2 (by decide) (by decide +kernel) rfl rfl dX2_span_1 ?_
  refine x_aload_n C dX2_span_4 rfl 0 rfl ?_
  refine x_get (v := .int (S.1 4 w 0)) C iX2_span_X2 rfl (15 + w) (gC_work cy ad S hw) 1 (by decide) (by decide +kernel) rfl rfl dX2_span_5 ?_
  refine x_iadd C dX2_span_8 ?_
  have e9 := x_s1 hf; subst e9
  exact x_iret C dX2_span_9
end DX2_span
def f_X2_spanFrom (S : St) (w : Nat) (a1 : Int32) : Option (Int64) := (f_X2_span S w).bind fun u1 => (f_X3_bitsFrom  a1 u1).bind fun u3 => some u3
section DX2_spanFrom
variable {p : Program} {l : Launch} {e : Env} {s : State} {m : MethodId} {args : Array Value} {below : List Frame} {meth : Method} {c : Code} {D : va_G} {cy : Nat → ClassId} {ad : Nat → Nat} {A : Nat → Prop}
set_option maxHeartbeats 4000000 in
set_option maxRecDepth 100000 in
theorem c_X2_spanFrom (l : Launch) (D : va_G) (cy : Nat → ClassId) (ad : Nat → Nat) (S : St) (w : Nat) (a1 : Int32) (hw : w < 4) {r : Int64}  (hf : f_X2_spanFrom S w a1 = some r) : XMl l D (wC cy ad) (xty cy) yX2_spanFrom wsX2_spanFrom ({ frames := 1, cells := 0, slots := 0, locals := 21 } : Room) [.ref (ad (15 + w)), .int a1] S r S := by
  refine x_ofWl (cc := cX2_spanFrom) (maxL := 2) (ret := some .long) (own := RX2) rfl (by decide) rfl (Nat.le_of_ble_eq_true rfl) rfl ?_
  intro p e s m args below meth c A C _
  unfold f_X2_spanFrom at hf
  refine x_iload_n C dX2_spanFrom_0 rfl 1 rfl ?_
  refine x_aload_n C dX2_spanFrom_1 rfl 0 rfl ?_
  obtain ⟨u1, h2, hf⟩ := x_bd hf
  refine x_callVi (As := []) (st := [.int a1]) C (c_X2_span l D cy ad S w hw h2) (cwV 0 C.2.2.2.2.1 gX2_spanFrom_X2_span rfl rfl rfl (by decide +kernel) ⟨(by decide), (by decide)⟩) (15 + w) (gC_work cy ad S hw) rfl rfl rfl rfl (Nat.le_of_ble_eq_true rfl) dX2_spanFrom_2 ?_
  obtain ⟨u3, h4, hf⟩ := x_bd hf
  refine x_callSNl (As := [.int a1, .int u1]) (st := []) C (c_X3_bitsFrom l D cy ad (wC cy ad) S a1 u1  h4) ⟨va_cnB 2 C.2.2.2.2.1 gX2_spanFrom_X3_bitsFrom_n35 rfl rfl rfl (C.2.2.2.2.2.2.2.2.1 (.methodLinkNest RX2 35 yX3_bitsFrom "ClosureHours") (by decide +kernel)) (C.2.2.2.2.1 (.initialized RX3) (by decide +kernel)) (by decide +kernel) ⟨(by decide), (by decide)⟩, C.2.2.2.2.1 (.static yX3_bitsFrom) (by decide +kernel), trivial⟩ rfl rfl (Nat.le_of_ble_eq_true rfl) dX2_spanFrom_5 ?_
  have e9 := x_s1 hf; subst e9
  exact x_lret C dX2_spanFrom_8
end DX2_spanFrom
set_option maxRecDepth 20000 in
theorem iX2_firstBrokenAlone_X2 : ∀ w ∈ u_ws RX2 TX2 10, w ∈ wsX2_firstBrokenAlone := by decide +kernel
def f_X2_firstBrokenAlone_L37 (w : Nat) (S : St) (x1 : Int32) (x3 : Int64) : Option (Int32) := if (lg_cmp (x3 &&& (S.2 0 w 0)) 0) = 0 then ((f_X3_bitsFrom  (x1 + (S.1 5 w 0)) (S.1 4 w 0)).bind fun u8 => if (lg_cmp (u8 &&& (S.2 1 w 0)) 0) = 0 then (some 0) else (some 4)) else (some 3)
def f_X2_firstBrokenAlone (S : St) (w : Nat) (a1 : Int32) (a2 : Int32) : Option (Int32) := (f_X2_span S w).bind fun u1 => if (a1 + u1) ≤ a2 then ((f_X2_spanFrom S w a1).bind fun u4 => if (S.1 6 w 0) = 0 then (f_X2_firstBrokenAlone_L37 w S a1 u4) else (if (lg_cmp (u4 &&& (-535822368)) 0) = 0 then (f_X2_firstBrokenAlone_L37 w S a1 u4) else (some 2))) else (some 1)
section DX2_firstBrokenAlone
variable {p : Program} {l : Launch} {e : Env} {s : State} {m : MethodId} {args : Array Value} {below : List Frame} {meth : Method} {c : Code} {D : va_G} {cy : Nat → ClassId} {ad : Nat → Nat} {A : Nat → Prop}
set_option maxHeartbeats 4000000 in
set_option maxRecDepth 100000 in
theorem t_X2_firstBrokenAlone_L37 (C : XC p s m args meth c D A (xty cy) cX2_firstBrokenAlone 5 RX2 wsX2_firstBrokenAlone (some .int)) {w : Nat} (hw : w < 4) {r : Int32}   (S : St) (x1 : Int32) (x3 : Int64)  (hf : f_X2_firstBrokenAlone_L37 w S x1 x3 = some r) : XJ p l e ({ frames := 2, cells := 0, slots := 0, locals := 42 } : Room) s m args below meth c D (wC cy ad) A 5 (QXi D (wC cy ad) A below args s r S) S 37 [(0, .ref (ad (15 + w))), (1, .int x1), (3, .long x3)] [] := by
  unfold f_X2_firstBrokenAlone_L37 at hf
  refine x_lload_n C dX2_firstBrokenAlone_37 rfl 2 rfl ?_
  refine x_aload_n C dX2_firstBrokenAlone_38 rfl 0 rfl ?_
  refine x_get (v := .long (S.2 0 w 0)) C iX2_firstBrokenAlone_X2 rfl (15 + w) (gC_work cy ad S hw) 4 (by decide) (by decide +kernel) rfl rfl dX2_firstBrokenAlone_39 ?_
  refine x_land C dX2_firstBrokenAlone_42 ?_
  refine x_lconst (v := 0) C dX2_firstBrokenAlone_43 (by decide) ?_
  refine x_lcmp C dX2_firstBrokenAlone_44 ?_
  refine x_if_eq (tgt := 50) C dX2_firstBrokenAlone_45 (by decide) (fun (c_7 : (lg_cmp (x3 &&& (S.2 0 w 0)) 0) = 0) => ?_) (fun (c_7 : ¬ ((lg_cmp (x3 &&& (S.2 0 w 0)) 0) = 0)) => ?_)
  · replace hf := x_ip c_7 hf
    refine x_iload_n C dX2_firstBrokenAlone_50 rfl 1 rfl ?_
    refine x_aload_n C dX2_firstBrokenAlone_51 rfl 0 rfl ?_
    refine x_get (v := .int (S.1 5 w 0)) C iX2_firstBrokenAlone_X2 rfl (15 + w) (gC_work cy ad S hw) 2 (by decide) (by decide +kernel) rfl rfl dX2_firstBrokenAlone_52 ?_
    refine x_iadd C dX2_firstBrokenAlone_55 ?_
    refine x_aload_n C dX2_firstBrokenAlone_56 rfl 0 rfl ?_
    refine x_get (v := .int (S.1 4 w 0)) C iX2_firstBrokenAlone_X2 rfl (15 + w) (gC_work cy ad S hw) 1 (by decide) (by decide +kernel) rfl rfl dX2_firstBrokenAlone_57 ?_
    obtain ⟨u8, h9, hf⟩ := x_bd hf
    refine x_callSNl (As := [.int (x1 + (S.1 5 w 0)), .int (S.1 4 w 0)]) (st := []) C (c_X3_bitsFrom l D cy ad (wC cy ad) S (x1 + (S.1 5 w 0)) (S.1 4 w 0)  h9) ⟨va_cnB 2 C.2.2.2.2.1 gX2_firstBrokenAlone_X3_bitsFrom_n35 rfl rfl rfl (C.2.2.2.2.2.2.2.2.1 (.methodLinkNest RX2 35 yX3_bitsFrom "ClosureHours") (by decide +kernel)) (C.2.2.2.2.1 (.initialized RX3) (by decide +kernel)) (by decide +kernel) ⟨(by decide), (by decide)⟩, C.2.2.2.2.1 (.static yX3_bitsFrom) (by decide +kernel), trivial⟩ rfl rfl (Nat.le_of_ble_eq_true rfl) dX2_firstBrokenAlone_60 ?_
    refine x_aload_n C dX2_firstBrokenAlone_63 rfl 0 rfl ?_
    refine x_get (v := .long (S.2 1 w 0)) C iX2_firstBrokenAlone_X2 rfl (15 + w) (gC_work cy ad S hw) 5 (by decide) (by decide +kernel) rfl rfl dX2_firstBrokenAlone_64 ?_
    refine x_land C dX2_firstBrokenAlone_67 ?_
    refine x_lconst (v := 0) C dX2_firstBrokenAlone_68 (by decide) ?_
    refine x_lcmp C dX2_firstBrokenAlone_69 ?_
    refine x_if_eq (tgt := 77) C dX2_firstBrokenAlone_70 (by decide) (fun (c_10 : (lg_cmp (u8 &&& (S.2 1 w 0)) 0) = 0) => ?_) (fun (c_10 : ¬ ((lg_cmp (u8 &&& (S.2 1 w 0)) 0) = 0)) => ?_)
    · replace hf := x_ip c_10 hf
      refine x_iconst (v := 0) C dX2_firstBrokenAlone_77 (by decide) ?_
      have e9 := x_s1 hf; subst e9
      exact x_iret C dX2_firstBrokenAlone_78
    · replace hf := x_in c_10 hf
      refine x_iconst (v := 4) C dX2_firstBrokenAlone_73 (by decide) ?_
      refine x_goto (tgt := 78) C dX2_firstBrokenAlone_74 (by decide) ?_
      have e9 := x_s1 hf; subst e9
      exact x_iret C dX2_firstBrokenAlone_78
  · replace hf := x_in c_7 hf
    refine x_iconst (v := 3) C dX2_firstBrokenAlone_48 (by decide) ?_
    have e9 := x_s1 hf; subst e9
    exact x_iret C dX2_firstBrokenAlone_49
set_option maxHeartbeats 4000000 in
set_option maxRecDepth 100000 in
theorem c_X2_firstBrokenAlone (l : Launch) (D : va_G) (cy : Nat → ClassId) (ad : Nat → Nat) (S : St) (w : Nat) (a1 : Int32) (a2 : Int32) (hw : w < 4) {r : Int32}  (hf : f_X2_firstBrokenAlone S w a1 a2 = some r) : XMi l D (wC cy ad) (xty cy) yX2_firstBrokenAlone wsX2_firstBrokenAlone ({ frames := 2, cells := 0, slots := 0, locals := 42 } : Room) [.ref (ad (15 + w)), .int a1, .int a2] S r S := by
  refine x_ofWi (cc := cX2_firstBrokenAlone) (maxL := 5) (ret := some .int) (own := RX2) rfl (by decide) rfl (Nat.le_of_ble_eq_true rfl) rfl ?_
  intro p e s m args below meth c A C _
  unfold f_X2_firstBrokenAlone at hf
  refine x_iload_n C dX2_firstBrokenAlone_0 rfl 1 rfl ?_
  refine x_aload_n C dX2_firstBrokenAlone_1 rfl 0 rfl ?_
  obtain ⟨u1, h2, hf⟩ := x_bd hf
  refine x_callVi (As := []) (st := [.int a1]) C (c_X2_span l D cy ad S w hw h2) (cwV 0 C.2.2.2.2.1 gX2_firstBrokenAlone_X2_span rfl rfl rfl (by decide +kernel) ⟨(by decide), (by decide)⟩) (15 + w) (gC_work cy ad S hw) rfl rfl rfl rfl (Nat.le_of_ble_eq_true rfl) dX2_firstBrokenAlone_2 ?_
  refine x_iadd C dX2_firstBrokenAlone_5 ?_
  refine x_iload_n C dX2_firstBrokenAlone_6 rfl 2 rfl ?_
  refine x_icmp_le (tgt := 12) C dX2_firstBrokenAlone_7 (by decide) (fun (c_3 : (a1 + u1) ≤ a2) => ?_) (fun (c_3 : ¬ ((a1 + u1) ≤ a2)) => ?_)
  · replace hf := x_ip c_3 hf
    refine x_aload_n C dX2_firstBrokenAlone_12 rfl 0 rfl ?_
    refine x_iload_n C dX2_firstBrokenAlone_13 rfl 1 rfl ?_
    obtain ⟨u4, h5, hf⟩ := x_bd hf
    refine x_callVl (As := [.int a1]) (st := []) C (c_X2_spanFrom l D cy ad S w a1 hw h5) (cwV 1 C.2.2.2.2.1 gX2_firstBrokenAlone_X2_spanFrom rfl rfl rfl (by decide +kernel) ⟨(by decide), (by decide)⟩) (15 + w) (gC_work cy ad S hw) rfl rfl rfl rfl (Nat.le_of_ble_eq_true rfl) dX2_firstBrokenAlone_14 ?_
    refine x_lstore_n (lv2 := [(3, .long u4), (0, .ref (ad (15 + w))), (1, .int a1), (2, .int a2)]) C dX2_firstBrokenAlone_17 rfl (by decide) rfl ?_
    refine x_aload_n C dX2_firstBrokenAlone_18 rfl 1 rfl ?_
    refine x_get (v := .int (S.1 6 w 0)) C iX2_firstBrokenAlone_X2 rfl (15 + w) (gC_work cy ad S hw) 3 (by decide) (by decide +kernel) rfl rfl dX2_firstBrokenAlone_19 ?_
    refine x_if_eq (tgt := 37) C dX2_firstBrokenAlone_22 (by decide) (fun (c_6 : (S.1 6 w 0) = 0) => ?_) (fun (c_6 : ¬ ((S.1 6 w 0) = 0)) => ?_)
    · replace hf := x_ip c_6 hf
      refine x_sub [1, 2, 0] rfl ?_
      exact t_X2_firstBrokenAlone_L37 C hw  S a1 u4  hf
    · replace hf := x_in c_6 hf
      refine x_lload_n C dX2_firstBrokenAlone_25 rfl 0 rfl ?_
      refine x_ldc2 (v := (-535822368)) C (by decide +kernel) dX2_firstBrokenAlone_26 ?_
      refine x_land C dX2_firstBrokenAlone_29 ?_
      refine x_lconst (v := 0) C dX2_firstBrokenAlone_30 (by decide) ?_
      refine x_lcmp C dX2_firstBrokenAlone_31 ?_
      refine x_if_eq (tgt := 37) C dX2_firstBrokenAlone_32 (by decide) (fun (c_11 : (lg_cmp (u4 &&& (-535822368)) 0) = 0) => ?_) (fun (c_11 : ¬ ((lg_cmp (u4 &&& (-535822368)) 0) = 0)) => ?_)
      · replace hf := x_ip c_11 hf
        refine x_sub [1, 2, 0] rfl ?_
        exact t_X2_firstBrokenAlone_L37 C hw  S a1 u4  hf
      · replace hf := x_in c_11 hf
        refine x_iconst (v := 2) C dX2_firstBrokenAlone_35 (by decide) ?_
        have e9 := x_s1 hf; subst e9
        exact x_iret C dX2_firstBrokenAlone_36
  · replace hf := x_in c_3 hf
    refine x_iconst (v := 1) C dX2_firstBrokenAlone_10 (by decide) ?_
    have e9 := x_s1 hf; subst e9
    exact x_iret C dX2_firstBrokenAlone_11
end DX2_firstBrokenAlone
set_option maxRecDepth 20000 in
theorem iX2_isPlaced_X2 : ∀ w ∈ u_ws RX2 TX2 10, w ∈ wsX2_isPlaced := by decide +kernel
def f_X2_isPlaced (S : St) (w : Nat) : Option (Int32) := if (S.1 9 w 0) = (-1) then (some 0) else (some 1)
section DX2_isPlaced
variable {p : Program} {l : Launch} {e : Env} {s : State} {m : MethodId} {args : Array Value} {below : List Frame} {meth : Method} {c : Code} {D : va_G} {cy : Nat → ClassId} {ad : Nat → Nat} {A : Nat → Prop}
set_option maxHeartbeats 4000000 in
set_option maxRecDepth 100000 in
theorem c_X2_isPlaced (l : Launch) (D : va_G) (cy : Nat → ClassId) (ad : Nat → Nat) (S : St) (w : Nat) (hw : w < 4) {r : Int32}  (hf : f_X2_isPlaced S w = some r) : XMi l D (wC cy ad) (xty cy) yX2_isPlaced wsX2_isPlaced ({ frames := 0, cells := 0, slots := 0, locals := 0 } : Room) [.ref (ad (15 + w))] S r S := by
  refine x_ofWi (cc := cX2_isPlaced) (maxL := 1) (ret := some .boolean) (own := RX2) rfl (by decide) rfl (Nat.le_of_ble_eq_true rfl) rfl ?_
  intro p e s m args below meth c A C _
  unfold f_X2_isPlaced at hf
  refine x_aload_n C dX2_isPlaced_0 rfl 0 rfl ?_
  refine x_get (v := .int (S.1 9 w 0)) C iX2_isPlaced_X2 rfl (15 + w) (gC_work cy ad S hw) 8 (by decide) (by decide +kernel) rfl rfl dX2_isPlaced_1 ?_
  refine x_iconst (v := (-1)) C dX2_isPlaced_4 (by decide) ?_
  refine x_icmp_eq (tgt := 12) C dX2_isPlaced_5 (by decide) (fun (c_1 : (S.1 9 w 0) = (-1)) => ?_) (fun (c_1 : ¬ ((S.1 9 w 0) = (-1))) => ?_)
  · replace hf := x_ip c_1 hf
    refine x_iconst (v := 0) C dX2_isPlaced_12 (by decide) ?_
    have e9 := x_s1 hf; subst e9
    exact x_zret C rfl dX2_isPlaced_13
  · replace hf := x_in c_1 hf
    refine x_iconst (v := 1) C dX2_isPlaced_8 (by decide) ?_
    refine x_goto (tgt := 13) C dX2_isPlaced_9 (by decide) ?_
    have e9 := x_s1 hf; subst e9
    exact x_zret C rfl dX2_isPlaced_13
end DX2_isPlaced
def f_X3_hasBit (a1 : Int64) (a2 : Int32) : Option (Int32) := if (lg_cmp ((a1 >>> (Int32.toInt64 a2 &&& 63)) &&& 1) 0) = 0 then (some 0) else (some 1)
section DX3_hasBit
variable {p : Program} {l : Launch} {e : Env} {s : State} {m : MethodId} {args : Array Value} {below : List Frame} {meth : Method} {c : Code} {D : va_G} {cy : Nat → ClassId} {ad : Nat → Nat} {A : Nat → Prop}
set_option maxHeartbeats 4000000 in
set_option maxRecDepth 100000 in
theorem c_X3_hasBit (l : Launch) (D : va_G) (cy : Nat → ClassId) (ad : Nat → Nat) (wf : St → va_W) (S : St) (a1 : Int64) (a2 : Int32) {r : Int32}  (hf : f_X3_hasBit  a1 a2 = some r) : XMi l D wf (xty cy) yX3_hasBit wsX3_hasBit ({ frames := 0, cells := 0, slots := 0, locals := 0 } : Room) [.long a1, .int a2] S r S := by
  refine x_ofWi (cc := cX3_hasBit) (maxL := 3) (ret := some .boolean) (own := RX3) rfl (by decide) rfl (Nat.le_of_ble_eq_true rfl) rfl ?_
  intro p e s m args below meth c A C _
  unfold f_X3_hasBit at hf
  refine x_lload_n C dX3_hasBit_0 rfl 0 rfl ?_
  refine x_iload_n C dX3_hasBit_1 rfl 1 rfl ?_
  refine x_lshr C dX3_hasBit_2 ?_
  refine x_lconst (v := 1) C dX3_hasBit_3 (by decide) ?_
  refine x_land C dX3_hasBit_4 ?_
  refine x_lconst (v := 0) C dX3_hasBit_5 (by decide) ?_
  refine x_lcmp C dX3_hasBit_6 ?_
  refine x_if_eq (tgt := 14) C dX3_hasBit_7 (by decide) (fun (c_1 : (lg_cmp ((a1 >>> (Int32.toInt64 a2 &&& 63)) &&& 1) 0) = 0) => ?_) (fun (c_1 : ¬ ((lg_cmp ((a1 >>> (Int32.toInt64 a2 &&& 63)) &&& 1) 0) = 0)) => ?_)
  · replace hf := x_ip c_1 hf
    refine x_iconst (v := 0) C dX3_hasBit_14 (by decide) ?_
    have e9 := x_s1 hf; subst e9
    exact x_zret C rfl dX3_hasBit_15
  · replace hf := x_in c_1 hf
    refine x_iconst (v := 1) C dX3_hasBit_10 (by decide) ?_
    refine x_goto (tgt := 15) C dX3_hasBit_11 (by decide) ?_
    have e9 := x_s1 hf; subst e9
    exact x_zret C rfl dX3_hasBit_15
end DX3_hasBit
set_option maxRecDepth 20000 in
theorem iX2_isApart_X2 : ∀ w ∈ u_ws RX2 TX2 10, w ∈ wsX2_isApart := by decide +kernel
def f_X2_isApart (S : St) (w : Nat) (a1 : Int32) (v2 : Nat) (a3 : Int32) : Option (Int32) := (f_X2_span S w).bind fun u1 => if ((a1 + u1) + a3) ≤ (S.1 9 v2 0) then (some 1) else ((f_X2_span S v2).bind fun u4 => if a1 < (((S.1 9 v2 0) + u4) + a3) then (some 0) else (some 1))
section DX2_isApart
variable {p : Program} {l : Launch} {e : Env} {s : State} {m : MethodId} {args : Array Value} {below : List Frame} {meth : Method} {c : Code} {D : va_G} {cy : Nat → ClassId} {ad : Nat → Nat} {A : Nat → Prop}
set_option maxHeartbeats 4000000 in
set_option maxRecDepth 100000 in
theorem c_X2_isApart (l : Launch) (D : va_G) (cy : Nat → ClassId) (ad : Nat → Nat) (S : St) (w : Nat) (a1 : Int32) (v2 : Nat) (a3 : Int32) (hw : w < 4) (hv2 : v2 < 4) {r : Int32}  (hf : f_X2_isApart S w a1 v2 a3 = some r) : XMi l D (wC cy ad) (xty cy) yX2_isApart wsX2_isApart ({ frames := 1, cells := 0, slots := 0, locals := 20 } : Room) [.ref (ad (15 + w)), .int a1, .ref (ad (15 + v2)), .int a3] S r S := by
  refine x_ofWi (cc := cX2_isApart) (maxL := 4) (ret := some .boolean) (own := RX2) rfl (by decide) rfl (Nat.le_of_ble_eq_true rfl) rfl ?_
  intro p e s m args below meth c A C _
  unfold f_X2_isApart at hf
  refine x_iload_n C dX2_isApart_0 rfl 1 rfl ?_
  refine x_aload_n C dX2_isApart_1 rfl 0 rfl ?_
  obtain ⟨u1, h2, hf⟩ := x_bd hf
  refine x_callVi (As := []) (st := [.int a1]) C (c_X2_span l D cy ad S w hw h2) (cwV 0 C.2.2.2.2.1 gX2_isApart_X2_span rfl rfl rfl (by decide +kernel) ⟨(by decide), (by decide)⟩) (15 + w) (gC_work cy ad S hw) rfl rfl rfl rfl (Nat.le_of_ble_eq_true rfl) dX2_isApart_2 ?_
  refine x_iadd C dX2_isApart_5 ?_
  refine x_iload_n C dX2_isApart_6 rfl 3 rfl ?_
  refine x_iadd C dX2_isApart_7 ?_
  refine x_aload_n C dX2_isApart_8 rfl 2 rfl ?_
  refine x_get (v := .int (S.1 9 v2 0)) C iX2_isApart_X2 rfl (15 + v2) (gC_work cy ad S hv2) 8 (by decide) (by decide +kernel) rfl rfl dX2_isApart_9 ?_
  refine x_icmp_le (tgt := 30) C dX2_isApart_12 (by decide) (fun (c_3 : ((a1 + u1) + a3) ≤ (S.1 9 v2 0)) => ?_) (fun (c_3 : ¬ (((a1 + u1) + a3) ≤ (S.1 9 v2 0))) => ?_)
  · replace hf := x_ip c_3 hf
    refine x_iconst (v := 1) C dX2_isApart_30 (by decide) ?_
    refine x_goto (tgt := 35) C dX2_isApart_31 (by decide) ?_
    have e9 := x_s1 hf; subst e9
    exact x_zret C rfl dX2_isApart_35
  · replace hf := x_in c_3 hf
    refine x_aload_n C dX2_isApart_15 rfl 2 rfl ?_
    refine x_get (v := .int (S.1 9 v2 0)) C iX2_isApart_X2 rfl (15 + v2) (gC_work cy ad S hv2) 8 (by decide) (by decide +kernel) rfl rfl dX2_isApart_16 ?_
    refine x_aload_n C dX2_isApart_19 rfl 2 rfl ?_
    obtain ⟨u4, h5, hf⟩ := x_bd hf
    refine x_callVi (As := []) (st := [.int (S.1 9 v2 0)]) C (c_X2_span l D cy ad S v2 hv2 h5) (cwV 0 C.2.2.2.2.1 gX2_isApart_X2_span rfl rfl rfl (by decide +kernel) ⟨(by decide), (by decide)⟩) (15 + v2) (gC_work cy ad S hv2) rfl rfl rfl rfl (Nat.le_of_ble_eq_true rfl) dX2_isApart_20 ?_
    refine x_iadd C dX2_isApart_23 ?_
    refine x_iload_n C dX2_isApart_24 rfl 3 rfl ?_
    refine x_iadd C dX2_isApart_25 ?_
    refine x_iload_n C dX2_isApart_26 rfl 1 rfl ?_
    refine x_icmp_gt (tgt := 34) C dX2_isApart_27 (by decide) (fun (c_6 : a1 < (((S.1 9 v2 0) + u4) + a3)) => ?_) (fun (c_6 : ¬ (a1 < (((S.1 9 v2 0) + u4) + a3))) => ?_)
    · replace hf := x_ip c_6 hf
      refine x_iconst (v := 0) C dX2_isApart_34 (by decide) ?_
      have e9 := x_s1 hf; subst e9
      exact x_zret C rfl dX2_isApart_35
    · replace hf := x_in c_6 hf
      refine x_iconst (v := 1) C dX2_isApart_30 (by decide) ?_
      refine x_goto (tgt := 35) C dX2_isApart_31 (by decide) ?_
      have e9 := x_s1 hf; subst e9
      exact x_zret C rfl dX2_isApart_35
end DX2_isApart
set_option maxRecDepth 20000 in
theorem iX3_clashesWithNear_X2 : ∀ w ∈ u_ws RX2 TX2 10, w ∈ wsX3_clashesWithNear := by decide +kernel
set_option maxRecDepth 20000 in
theorem iX3_clashesWithNear_X3 : ∀ w ∈ u_ws RX3 TX3 8, w ∈ wsX3_clashesWithNear := by decide +kernel
def f_X3_clashesWithNear_L2  (k2 : St → Option (Int32)) : Nat → St → Int32 → Int32 → Int32 → Option (Int32)
  | 0 => fun _ _ _ _ => none
  | n + 1 => fun S x1 x2 x3 => if (S.1 1 0 0) ≤ x3 then (k2 S ) else (if x3 = x1 then ((f_X3_clashesWithNear_L2  k2 n) S x1 x2 (x3 + 1)) else (if x3 < 0 ∨ 4 ≤ x3.toNatClampNeg then none else (f_X2_isPlaced S x3.toNatClampNeg).bind fun u4 => if u4 = 0 then ((f_X3_clashesWithNear_L2  k2 n) S x1 x2 (x3 + 1)) else (if x1 < 0 ∨ 4 ≤ x1.toNatClampNeg then none else (f_X3_hasBit  (Int32.toInt64 (S.1 7 x1.toNatClampNeg 0)) x3).bind fun u8 => if u8 = 0 then ((f_X3_clashesWithNear_L2  k2 n) S x1 x2 (x3 + 1)) else ((f_X2_isApart S x1.toNatClampNeg x2 x3.toNatClampNeg 0).bind fun u11 => if u11 = 0 then (some 1) else ((f_X3_clashesWithNear_L2  k2 n) S x1 x2 (x3 + 1))))))
def f_X3_clashesWithNear (S : St) (a1 : Int32) (a2 : Int32) : Option (Int32) := f_X3_clashesWithNear_L2  (fun S_14  => some 0) 1000 S a1 a2 0
section DX3_clashesWithNear
variable {p : Program} {l : Launch} {e : Env} {s : State} {m : MethodId} {args : Array Value} {below : List Frame} {meth : Method} {c : Code} {D : va_G} {cy : Nat → ClassId} {ad : Nat → Nat} {A : Nat → Prop}
set_option maxHeartbeats 4000000 in
set_option maxRecDepth 100000 in
theorem t_X3_clashesWithNear_L2 (C : XC p s m args meth c D A (xty cy) cX3_clashesWithNear 4 RX3 wsX3_clashesWithNear (some .boolean)) {r : Int32}   {k2 : St → Option (Int32)} (hk2 : ∀ (S : St) , k2 S  = some r → XJ p l e ({ frames := 2, cells := 0, slots := 0, locals := 43 } : Room) s m args below meth c D (wC cy ad) A 4 (QXi D (wC cy ad) A below args s r S) S 72 [] []) : ∀ (n : Nat), ∀ (S : St) (x1 : Int32) (x2 : Int32) (x3 : Int32), (f_X3_clashesWithNear_L2  k2 n) S x1 x2 x3 = some r → XJ p l e ({ frames := 2, cells := 0, slots := 0, locals := 43 } : Room) s m args below meth c D (wC cy ad) A 4 (QXi D (wC cy ad) A below args s r S) S 2 [(0, .ref (ad 0)), (1, .int x1), (2, .int x2), (3, .int x3)] [] := by
  intro n
  induction n with
  | zero => intro S x1 x2 x3 hf; cases hf
  | succ n ih =>
    intro S x1 x2 x3 hf
    rw [f_X3_clashesWithNear_L2] at hf
    refine x_iload_n C dX3_clashesWithNear_2 rfl 3 rfl ?_
    refine x_aload_n C dX3_clashesWithNear_3 rfl 0 rfl ?_
    refine x_get (v := .int (S.1 1 0 0)) C iX3_clashesWithNear_X3 rfl 0 (gC_root cy ad S) 5 (by decide) (by decide +kernel) rfl rfl dX3_clashesWithNear_4 ?_
    refine x_icmp_ge (tgt := 72) C dX3_clashesWithNear_7 (by decide) (fun (c_1 : (S.1 1 0 0) ≤ x3) => ?_) (fun (c_1 : ¬ ((S.1 1 0 0) ≤ x3)) => ?_)
    · replace hf := x_ip c_1 hf
      refine x_sub [] rfl ?_
      exact hk2 S   hf
    · replace hf := x_in c_1 hf
      refine x_iload_n C dX3_clashesWithNear_10 rfl 3 rfl ?_
      refine x_iload_n C dX3_clashesWithNear_11 rfl 1 rfl ?_
      refine x_icmp_eq (tgt := 66) C dX3_clashesWithNear_12 (by decide) (fun (c_2 : x3 = x1) => ?_) (fun (c_2 : ¬ (x3 = x1)) => ?_)
      · replace hf := x_ip c_2 hf
        refine x_iinc (v := x3 + 1) (lv2 := [(3, .int (x3 + 1)), (0, .ref (ad 0)), (1, .int x1), (2, .int x2)]) C dX3_clashesWithNear_66 (k0 := 3) rfl rfl (by decide) rfl ?_
        refine x_goto (tgt := 2) C dX3_clashesWithNear_69 (by decide) ?_
        refine x_sub [1, 2, 3, 0] rfl ?_
        exact ih S x1 x2 (x3 + 1)  hf
      · replace hf := x_in c_2 hf
        refine x_aload_n C dX3_clashesWithNear_15 rfl 0 rfl ?_
        refine x_get (v := .ref (ad 1)) C iX3_clashesWithNear_X3 rfl 0 (gC_root cy ad S) 1 (by decide) (by decide +kernel) rfl rfl dX3_clashesWithNear_16 ?_
        refine x_iload_n C dX3_clashesWithNear_19 rfl 3 rfl ?_
        obtain ⟨g_3, hf⟩ := x_gd hf
        refine x_aald C 1 2 (gC_works cy ad S) rfl rfl g_3 rfl dX3_clashesWithNear_20 ?_
        obtain ⟨u4, h5, hf⟩ := x_bd hf
        refine x_callVNi (As := []) (st := []) C (c_X2_isPlaced l D cy ad S x3.toNatClampNeg (x_lt g_3) h5) ⟨va_cnB 0 C.2.2.2.2.1 gX3_clashesWithNear_X2_isPlaced_n153 rfl rfl rfl (C.2.2.2.2.2.2.2.2.1 (.methodLinkNest RX3 153 yX2_isPlaced "ClosureHours") (by decide +kernel)) (C.2.2.2.2.1 (.initialized RX2) (by decide +kernel)) (by decide +kernel) ⟨(by decide), (by decide)⟩, C.2.2.2.2.1 (.instanceMethod yX2_isPlaced) (by decide +kernel), C.2.2.2.2.1 (.selects RX2 yX2_isPlaced yX2_isPlaced) (by decide +kernel)⟩ (15 + x3.toNatClampNeg) (gC_work cy ad S (x_lt g_3)) rfl rfl rfl rfl (Nat.le_of_ble_eq_true rfl) dX3_clashesWithNear_21 ?_
        refine x_if_eq (tgt := 66) C dX3_clashesWithNear_24 (by decide) (fun (c_6 : u4 = 0) => ?_) (fun (c_6 : ¬ (u4 = 0)) => ?_)
        · replace hf := x_ip c_6 hf
          refine x_iinc (v := x3 + 1) (lv2 := [(3, .int (x3 + 1)), (0, .ref (ad 0)), (1, .int x1), (2, .int x2)]) C dX3_clashesWithNear_66 (k0 := 3) rfl rfl (by decide) rfl ?_
          refine x_goto (tgt := 2) C dX3_clashesWithNear_69 (by decide) ?_
          refine x_sub [1, 2, 3, 0] rfl ?_
          exact ih S x1 x2 (x3 + 1)  hf
        · replace hf := x_in c_6 hf
          refine x_aload_n C dX3_clashesWithNear_27 rfl 0 rfl ?_
          refine x_get (v := .ref (ad 1)) C iX3_clashesWithNear_X3 rfl 0 (gC_root cy ad S) 1 (by decide) (by decide +kernel) rfl rfl dX3_clashesWithNear_28 ?_
          refine x_iload_n C dX3_clashesWithNear_31 rfl 1 rfl ?_
          obtain ⟨g_7, hf⟩ := x_gd hf
          refine x_aald C 1 2 (gC_works cy ad S) rfl rfl g_7 rfl dX3_clashesWithNear_32 ?_
          refine x_getN (v := .int (S.1 7 x1.toNatClampNeg 0)) (host := "ClosureHours") C iX3_clashesWithNear_X2 rfl (15 + x1.toNatClampNeg) (gC_work cy ad S (x_lt g_7)) 6 (by decide) (by decide +kernel) rfl rfl dX3_clashesWithNear_33 ?_
          refine x_i2l C dX3_clashesWithNear_36 ?_
          refine x_iload_n C dX3_clashesWithNear_37 rfl 3 rfl ?_
          obtain ⟨u8, h9, hf⟩ := x_bd hf
          refine x_callSi (As := [.long (Int32.toInt64 (S.1 7 x1.toNatClampNeg 0)), .int x3]) (st := []) C (c_X3_hasBit l D cy ad (wC cy ad) S (Int32.toInt64 (S.1 7 x1.toNatClampNeg 0)) x3  h9) (va_cwS 2 C.2.2.2.2.1 gX3_clashesWithNear_X3_hasBit rfl rfl rfl (by decide +kernel) ⟨(by decide), (by decide)⟩) rfl rfl (Nat.le_of_ble_eq_true rfl) dX3_clashesWithNear_38 ?_
          refine x_if_eq (tgt := 66) C dX3_clashesWithNear_41 (by decide) (fun (c_10 : u8 = 0) => ?_) (fun (c_10 : ¬ (u8 = 0)) => ?_)
          · replace hf := x_ip c_10 hf
            refine x_iinc (v := x3 + 1) (lv2 := [(3, .int (x3 + 1)), (0, .ref (ad 0)), (1, .int x1), (2, .int x2)]) C dX3_clashesWithNear_66 (k0 := 3) rfl rfl (by decide) rfl ?_
            refine x_goto (tgt := 2) C dX3_clashesWithNear_69 (by decide) ?_
            refine x_sub [1, 2, 3, 0] rfl ?_
            exact ih S x1 x2 (x3 + 1)  hf
          · replace hf := x_in c_10 hf
            refine x_aload_n C dX3_clashesWithNear_44 rfl 0 rfl ?_
            refine x_get (v := .ref (ad 1)) C iX3_clashesWithNear_X3 rfl 0 (gC_root cy ad S) 1 (by decide) (by decide +kernel) rfl rfl dX3_clashesWithNear_45 ?_
            refine x_iload_n C dX3_clashesWithNear_48 rfl 1 rfl ?_
            refine x_aald C 1 2 (gC_works cy ad S) rfl rfl g_7 rfl dX3_clashesWithNear_49 ?_
            refine x_iload_n C dX3_clashesWithNear_50 rfl 2 rfl ?_
            refine x_aload_n C dX3_clashesWithNear_51 rfl 0 rfl ?_
            refine x_get (v := .ref (ad 1)) C iX3_clashesWithNear_X3 rfl 0 (gC_root cy ad S) 1 (by decide) (by decide +kernel) rfl rfl dX3_clashesWithNear_52 ?_
            refine x_iload_n C dX3_clashesWithNear_55 rfl 3 rfl ?_
            refine x_aald C 1 2 (gC_works cy ad S) rfl rfl g_3 rfl dX3_clashesWithNear_56 ?_
            refine x_iconst (v := 0) C dX3_clashesWithNear_57 (by decide) ?_
            obtain ⟨u11, h12, hf⟩ := x_bd hf
            refine x_callVNi (As := [.int x2, .ref (ad (15 + x3.toNatClampNeg)), .int 0]) (st := []) C (c_X2_isApart l D cy ad S x1.toNatClampNeg x2 x3.toNatClampNeg 0 (x_lt g_7) (x_lt g_3) h12) ⟨va_cnB 3 C.2.2.2.2.1 gX3_clashesWithNear_X2_isApart_n192 rfl rfl rfl (C.2.2.2.2.2.2.2.2.1 (.methodLinkNest RX3 192 yX2_isApart "ClosureHours") (by decide +kernel)) (C.2.2.2.2.1 (.initialized RX2) (by decide +kernel)) (by decide +kernel) ⟨(by decide), (by decide)⟩, C.2.2.2.2.1 (.instanceMethod yX2_isApart) (by decide +kernel), C.2.2.2.2.1 (.selects RX2 yX2_isApart yX2_isApart) (by decide +kernel)⟩ (15 + x1.toNatClampNeg) (gC_work cy ad S (x_lt g_7)) rfl rfl rfl rfl (Nat.le_of_ble_eq_true rfl) dX3_clashesWithNear_58 ?_
            refine x_if_ne (tgt := 66) C dX3_clashesWithNear_61 (by decide) (fun (c_13 : ¬ (u11 = 0)) => ?_) (fun (c_13 : u11 = 0) => ?_)
            · replace hf := x_in c_13 hf
              refine x_iinc (v := x3 + 1) (lv2 := [(3, .int (x3 + 1)), (0, .ref (ad 0)), (1, .int x1), (2, .int x2)]) C dX3_clashesWithNear_66 (k0 := 3) rfl rfl (by decide) rfl ?_
              refine x_goto (tgt := 2) C dX3_clashesWithNear_69 (by decide) ?_
              refine x_sub [1, 2, 3, 0] rfl ?_
              exact ih S x1 x2 (x3 + 1)  hf
            · replace hf := x_ip c_13 hf
              refine x_iconst (v := 1) C dX3_clashesWithNear_64 (by decide) ?_
              have e9 := x_s1 hf; subst e9
              exact x_zret C rfl dX3_clashesWithNear_65
set_option maxHeartbeats 4000000 in
set_option maxRecDepth 100000 in
theorem c_X3_clashesWithNear (l : Launch) (D : va_G) (cy : Nat → ClassId) (ad : Nat → Nat) (S : St) (a1 : Int32) (a2 : Int32) {r : Int32}  (hf : f_X3_clashesWithNear S a1 a2 = some r) : XMi l D (wC cy ad) (xty cy) yX3_clashesWithNear wsX3_clashesWithNear ({ frames := 2, cells := 0, slots := 0, locals := 43 } : Room) [.ref (ad 0), .int a1, .int a2] S r S := by
  refine x_ofWi (cc := cX3_clashesWithNear) (maxL := 4) (ret := some .boolean) (own := RX3) rfl (by decide) rfl (Nat.le_of_ble_eq_true rfl) rfl ?_
  intro p e s m args below meth c A C _
  unfold f_X3_clashesWithNear at hf
  refine x_iconst (v := 0) C dX3_clashesWithNear_0 (by decide) ?_
  refine x_istore_n (lv2 := [(3, .int 0), (0, .ref (ad 0)), (1, .int a1), (2, .int a2)]) C dX3_clashesWithNear_1 rfl (by decide) rfl ?_
  refine x_sub [1, 2, 3, 0] rfl ?_
  refine t_X3_clashesWithNear_L2 C  (fun S_14   hf => ?_) 1000 S a1 a2 0  hf
  refine x_iconst (v := 0) C dX3_clashesWithNear_72 (by decide) ?_
  have e9 := x_s1 hf; subst e9
  exact x_zret C rfl dX3_clashesWithNear_73
end DX3_clashesWithNear
set_option maxRecDepth 20000 in
theorem iX3_clashesWithCrew_X2 : ∀ w ∈ u_ws RX2 TX2 10, w ∈ wsX3_clashesWithCrew := by decide +kernel
set_option maxRecDepth 20000 in
theorem iX3_clashesWithCrew_X3 : ∀ w ∈ u_ws RX3 TX3 8, w ∈ wsX3_clashesWithCrew := by decide +kernel
def f_X3_clashesWithCrew_L13  (k13 : St → Option (Int32)) : Nat → St → Int32 → Int32 → Int32 → Int32 → Option (Int32)
  | 0 => fun _ _ _ _ _ => none
  | n + 1 => fun S x1 x2 x3 x4 => if (S.1 1 0 0) ≤ x4 then (k13 S ) else (if x4 = x1 then ((f_X3_clashesWithCrew_L13  k13 n) S x1 x2 x3 (x4 + 1)) else (if x4 < 0 ∨ 4 ≤ x4.toNatClampNeg then none else (f_X2_isPlaced S x4.toNatClampNeg).bind fun u5 => if u5 = 0 then ((f_X3_clashesWithCrew_L13  k13 n) S x1 x2 x3 (x4 + 1)) else (if (S.1 8 x4.toNatClampNeg 0) = x3 then (if x1 < 0 ∨ 4 ≤ x1.toNatClampNeg then none else if x3 < 0 ∨ 4 ≤ x3.toNatClampNeg then none else (f_X2_isApart S x1.toNatClampNeg x2 x4.toNatClampNeg (S.1 12 0 x3.toNatClampNeg)).bind fun u11 => if u11 = 0 then (some 1) else ((f_X3_clashesWithCrew_L13  k13 n) S x1 x2 x3 (x4 + 1))) else ((f_X3_clashesWithCrew_L13  k13 n) S x1 x2 x3 (x4 + 1)))))
def f_X3_clashesWithCrew (S : St) (a1 : Int32) (a2 : Int32) : Option (Int32) := if a1 < 0 ∨ 4 ≤ a1.toNatClampNeg then none else f_X3_clashesWithCrew_L13  (fun S_14  => some 0) 1000 S a1 a2 (S.1 8 a1.toNatClampNeg 0) 0
section DX3_clashesWithCrew
variable {p : Program} {l : Launch} {e : Env} {s : State} {m : MethodId} {args : Array Value} {below : List Frame} {meth : Method} {c : Code} {D : va_G} {cy : Nat → ClassId} {ad : Nat → Nat} {A : Nat → Prop}
set_option maxHeartbeats 4000000 in
set_option maxRecDepth 100000 in
theorem t_X3_clashesWithCrew_L13 (C : XC p s m args meth c D A (xty cy) cX3_clashesWithCrew 5 RX3 wsX3_clashesWithCrew (some .boolean)) {r : Int32}   {k13 : St → Option (Int32)} (hk13 : ∀ (S : St) , k13 S  = some r → XJ p l e ({ frames := 2, cells := 0, slots := 0, locals := 43 } : Room) s m args below meth c D (wC cy ad) A 5 (QXi D (wC cy ad) A below args s r S) S 89 [] []) : ∀ (n : Nat), ∀ (S : St) (x1 : Int32) (x2 : Int32) (x3 : Int32) (x4 : Int32), (f_X3_clashesWithCrew_L13  k13 n) S x1 x2 x3 x4 = some r → XJ p l e ({ frames := 2, cells := 0, slots := 0, locals := 43 } : Room) s m args below meth c D (wC cy ad) A 5 (QXi D (wC cy ad) A below args s r S) S 13 [(0, .ref (ad 0)), (1, .int x1), (2, .int x2), (3, .int x3), (4, .int x4)] [] := by
  intro n
  induction n with
  | zero => intro S x1 x2 x3 x4 hf; cases hf
  | succ n ih =>
    intro S x1 x2 x3 x4 hf
    rw [f_X3_clashesWithCrew_L13] at hf
    refine x_iload C dX3_clashesWithCrew_13 4 rfl ?_
    refine x_aload_n C dX3_clashesWithCrew_15 rfl 0 rfl ?_
    refine x_get (v := .int (S.1 1 0 0)) C iX3_clashesWithCrew_X3 rfl 0 (gC_root cy ad S) 5 (by decide) (by decide +kernel) rfl rfl dX3_clashesWithCrew_16 ?_
    refine x_icmp_ge (tgt := 89) C dX3_clashesWithCrew_19 (by decide) (fun (c_2 : (S.1 1 0 0) ≤ x4) => ?_) (fun (c_2 : ¬ ((S.1 1 0 0) ≤ x4)) => ?_)
    · replace hf := x_ip c_2 hf
      refine x_sub [] rfl ?_
      exact hk13 S   hf
    · replace hf := x_in c_2 hf
      refine x_iload C dX3_clashesWithCrew_22 4 rfl ?_
      refine x_iload_n C dX3_clashesWithCrew_24 rfl 1 rfl ?_
      refine x_icmp_eq (tgt := 83) C dX3_clashesWithCrew_25 (by decide) (fun (c_3 : x4 = x1) => ?_) (fun (c_3 : ¬ (x4 = x1)) => ?_)
      · replace hf := x_ip c_3 hf
        refine x_iinc (v := x4 + 1) (lv2 := [(4, .int (x4 + 1)), (0, .ref (ad 0)), (1, .int x1), (2, .int x2), (3, .int x3)]) C dX3_clashesWithCrew_83 (k0 := 4) rfl rfl (by decide) rfl ?_
        refine x_goto (tgt := 13) C dX3_clashesWithCrew_86 (by decide) ?_
        refine x_sub [1, 2, 3, 4, 0] rfl ?_
        exact ih S x1 x2 x3 (x4 + 1)  hf
      · replace hf := x_in c_3 hf
        refine x_aload_n C dX3_clashesWithCrew_28 rfl 0 rfl ?_
        refine x_get (v := .ref (ad 1)) C iX3_clashesWithCrew_X3 rfl 0 (gC_root cy ad S) 1 (by decide) (by decide +kernel) rfl rfl dX3_clashesWithCrew_29 ?_
        refine x_iload C dX3_clashesWithCrew_32 4 rfl ?_
        obtain ⟨g_4, hf⟩ := x_gd hf
        refine x_aald C 1 2 (gC_works cy ad S) rfl rfl g_4 rfl dX3_clashesWithCrew_34 ?_
        obtain ⟨u5, h6, hf⟩ := x_bd hf
        refine x_callVNi (As := []) (st := []) C (c_X2_isPlaced l D cy ad S x4.toNatClampNeg (x_lt g_4) h6) ⟨va_cnB 0 C.2.2.2.2.1 gX3_clashesWithCrew_X2_isPlaced_n153 rfl rfl rfl (C.2.2.2.2.2.2.2.2.1 (.methodLinkNest RX3 153 yX2_isPlaced "ClosureHours") (by decide +kernel)) (C.2.2.2.2.1 (.initialized RX2) (by decide +kernel)) (by decide +kernel) ⟨(by decide), (by decide)⟩, C.2.2.2.2.1 (.instanceMethod yX2_isPlaced) (by decide +kernel), C.2.2.2.2.1 (.selects RX2 yX2_isPlaced yX2_isPlaced) (by decide +kernel)⟩ (15 + x4.toNatClampNeg) (gC_work cy ad S (x_lt g_4)) rfl rfl rfl rfl (Nat.le_of_ble_eq_true rfl) dX3_clashesWithCrew_35 ?_
        refine x_if_eq (tgt := 83) C dX3_clashesWithCrew_38 (by decide) (fun (c_7 : u5 = 0) => ?_) (fun (c_7 : ¬ (u5 = 0)) => ?_)
        · replace hf := x_ip c_7 hf
          refine x_iinc (v := x4 + 1) (lv2 := [(4, .int (x4 + 1)), (0, .ref (ad 0)), (1, .int x1), (2, .int x2), (3, .int x3)]) C dX3_clashesWithCrew_83 (k0 := 4) rfl rfl (by decide) rfl ?_
          refine x_goto (tgt := 13) C dX3_clashesWithCrew_86 (by decide) ?_
          refine x_sub [1, 2, 3, 4, 0] rfl ?_
          exact ih S x1 x2 x3 (x4 + 1)  hf
        · replace hf := x_in c_7 hf
          refine x_aload_n C dX3_clashesWithCrew_41 rfl 0 rfl ?_
          refine x_get (v := .ref (ad 1)) C iX3_clashesWithCrew_X3 rfl 0 (gC_root cy ad S) 1 (by decide) (by decide +kernel) rfl rfl dX3_clashesWithCrew_42 ?_
          refine x_iload C dX3_clashesWithCrew_45 4 rfl ?_
          refine x_aald C 1 2 (gC_works cy ad S) rfl rfl g_4 rfl dX3_clashesWithCrew_47 ?_
          refine x_getN (v := .int (S.1 8 x4.toNatClampNeg 0)) (host := "ClosureHours") C iX3_clashesWithCrew_X2 rfl (15 + x4.toNatClampNeg) (gC_work cy ad S (x_lt g_4)) 7 (by decide) (by decide +kernel) rfl rfl dX3_clashesWithCrew_48 ?_
          refine x_iload_n C dX3_clashesWithCrew_51 rfl 3 rfl ?_
          refine x_icmp_ne (tgt := 83) C dX3_clashesWithCrew_52 (by decide) (fun (c_8 : ¬ ((S.1 8 x4.toNatClampNeg 0) = x3)) => ?_) (fun (c_8 : (S.1 8 x4.toNatClampNeg 0) = x3) => ?_)
          · replace hf := x_in c_8 hf
            refine x_iinc (v := x4 + 1) (lv2 := [(4, .int (x4 + 1)), (0, .ref (ad 0)), (1, .int x1), (2, .int x2), (3, .int x3)]) C dX3_clashesWithCrew_83 (k0 := 4) rfl rfl (by decide) rfl ?_
            refine x_goto (tgt := 13) C dX3_clashesWithCrew_86 (by decide) ?_
            refine x_sub [1, 2, 3, 4, 0] rfl ?_
            exact ih S x1 x2 x3 (x4 + 1)  hf
          · replace hf := x_ip c_8 hf
            refine x_aload_n C dX3_clashesWithCrew_55 rfl 0 rfl ?_
            refine x_get (v := .ref (ad 1)) C iX3_clashesWithCrew_X3 rfl 0 (gC_root cy ad S) 1 (by decide) (by decide +kernel) rfl rfl dX3_clashesWithCrew_56 ?_
            refine x_iload_n C dX3_clashesWithCrew_59 rfl 1 rfl ?_
            obtain ⟨g_9, hf⟩ := x_gd hf
            refine x_aald C 1 2 (gC_works cy ad S) rfl rfl g_9 rfl dX3_clashesWithCrew_60 ?_
            refine x_iload_n C dX3_clashesWithCrew_61 rfl 2 rfl ?_
            refine x_aload_n C dX3_clashesWithCrew_62 rfl 0 rfl ?_
            refine x_get (v := .ref (ad 1)) C iX3_clashesWithCrew_X3 rfl 0 (gC_root cy ad S) 1 (by decide) (by decide +kernel) rfl rfl dX3_clashesWithCrew_63 ?_
            refine x_iload C dX3_clashesWithCrew_66 4 rfl ?_
            refine x_aald C 1 2 (gC_works cy ad S) rfl rfl g_4 rfl dX3_clashesWithCrew_68 ?_
            refine x_aload_n C dX3_clashesWithCrew_69 rfl 0 rfl ?_
            refine x_get (v := .ref (ad 2)) C iX3_clashesWithCrew_X3 rfl 0 (gC_root cy ad S) 2 (by decide) (by decide +kernel) rfl rfl dX3_clashesWithCrew_70 ?_
            refine x_iload_n C dX3_clashesWithCrew_73 rfl 3 rfl ?_
            obtain ⟨g_10, hf⟩ := x_gd hf
            refine x_iald (f := S.1 12 0) C 2 0 (gC_rests cy ad S) rfl g_10 dX3_clashesWithCrew_74 ?_
            obtain ⟨u11, h12, hf⟩ := x_bd hf
            refine x_callVNi (As := [.int x2, .ref (ad (15 + x4.toNatClampNeg)), .int (S.1 12 0 x3.toNatClampNeg)]) (st := []) C (c_X2_isApart l D cy ad S x1.toNatClampNeg x2 x4.toNatClampNeg (S.1 12 0 x3.toNatClampNeg) (x_lt g_9) (x_lt g_4) h12) ⟨va_cnB 3 C.2.2.2.2.1 gX3_clashesWithCrew_X2_isApart_n192 rfl rfl rfl (C.2.2.2.2.2.2.2.2.1 (.methodLinkNest RX3 192 yX2_isApart "ClosureHours") (by decide +kernel)) (C.2.2.2.2.1 (.initialized RX2) (by decide +kernel)) (by decide +kernel) ⟨(by decide), (by decide)⟩, C.2.2.2.2.1 (.instanceMethod yX2_isApart) (by decide +kernel), C.2.2.2.2.1 (.selects RX2 yX2_isApart yX2_isApart) (by decide +kernel)⟩ (15 + x1.toNatClampNeg) (gC_work cy ad S (x_lt g_9)) rfl rfl rfl rfl (Nat.le_of_ble_eq_true rfl) dX3_clashesWithCrew_75 ?_
            refine x_if_ne (tgt := 83) C dX3_clashesWithCrew_78 (by decide) (fun (c_13 : ¬ (u11 = 0)) => ?_) (fun (c_13 : u11 = 0) => ?_)
            · replace hf := x_in c_13 hf
              refine x_iinc (v := x4 + 1) (lv2 := [(4, .int (x4 + 1)), (0, .ref (ad 0)), (1, .int x1), (2, .int x2), (3, .int x3)]) C dX3_clashesWithCrew_83 (k0 := 4) rfl rfl (by decide) rfl ?_
              refine x_goto (tgt := 13) C dX3_clashesWithCrew_86 (by decide) ?_
              refine x_sub [1, 2, 3, 4, 0] rfl ?_
              exact ih S x1 x2 x3 (x4 + 1)  hf
            · replace hf := x_ip c_13 hf
              refine x_iconst (v := 1) C dX3_clashesWithCrew_81 (by decide) ?_
              have e9 := x_s1 hf; subst e9
              exact x_zret C rfl dX3_clashesWithCrew_82
set_option maxHeartbeats 4000000 in
set_option maxRecDepth 100000 in
theorem c_X3_clashesWithCrew (l : Launch) (D : va_G) (cy : Nat → ClassId) (ad : Nat → Nat) (S : St) (a1 : Int32) (a2 : Int32) {r : Int32}  (hf : f_X3_clashesWithCrew S a1 a2 = some r) : XMi l D (wC cy ad) (xty cy) yX3_clashesWithCrew wsX3_clashesWithCrew ({ frames := 2, cells := 0, slots := 0, locals := 43 } : Room) [.ref (ad 0), .int a1, .int a2] S r S := by
  refine x_ofWi (cc := cX3_clashesWithCrew) (maxL := 5) (ret := some .boolean) (own := RX3) rfl (by decide) rfl (Nat.le_of_ble_eq_true rfl) rfl ?_
  intro p e s m args below meth c A C _
  unfold f_X3_clashesWithCrew at hf
  refine x_aload_n C dX3_clashesWithCrew_0 rfl 0 rfl ?_
  refine x_get (v := .ref (ad 1)) C iX3_clashesWithCrew_X3 rfl 0 (gC_root cy ad S) 1 (by decide) (by decide +kernel) rfl rfl dX3_clashesWithCrew_1 ?_
  refine x_iload_n C dX3_clashesWithCrew_4 rfl 1 rfl ?_
  obtain ⟨g_1, hf⟩ := x_gd hf
  refine x_aald C 1 2 (gC_works cy ad S) rfl rfl g_1 rfl dX3_clashesWithCrew_5 ?_
  refine x_getN (v := .int (S.1 8 a1.toNatClampNeg 0)) (host := "ClosureHours") C iX3_clashesWithCrew_X2 rfl (15 + a1.toNatClampNeg) (gC_work cy ad S (x_lt g_1)) 7 (by decide) (by decide +kernel) rfl rfl dX3_clashesWithCrew_6 ?_
  refine x_istore_n (lv2 := [(3, .int (S.1 8 a1.toNatClampNeg 0)), (0, .ref (ad 0)), (1, .int a1), (2, .int a2)]) C dX3_clashesWithCrew_9 rfl (by decide) rfl ?_
  refine x_iconst (v := 0) C dX3_clashesWithCrew_10 (by decide) ?_
  refine x_istore (lv2 := [(4, .int 0), (3, .int (S.1 8 a1.toNatClampNeg 0)), (0, .ref (ad 0)), (1, .int a1), (2, .int a2)]) C dX3_clashesWithCrew_11 (by decide) rfl ?_
  refine x_sub [2, 3, 4, 1, 0] rfl ?_
  refine t_X3_clashesWithCrew_L13 C  (fun S_14   hf => ?_) 1000 S a1 a2 (S.1 8 a1.toNatClampNeg 0) 0  hf
  refine x_iconst (v := 0) C dX3_clashesWithCrew_89 (by decide) ?_
  have e9 := x_s1 hf; subst e9
  exact x_zret C rfl dX3_clashesWithCrew_90
end DX3_clashesWithCrew
