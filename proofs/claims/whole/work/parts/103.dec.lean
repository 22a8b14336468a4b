set_option maxRecDepth 20000 in
theorem iX0_isKept_X0 : ∀ w ∈ u_ws RX0 TX0 3, w ∈ wsX0_isKept := by decide +kernel
def f_X0_isKept (S : St) (a1 : Int32) : Option (Int32) := if a1 < 0 then (some 0) else (if (S.1 13 0 0) ≤ a1 then (some 0) else (if (200 : Int32) ≤ a1 then (some 0) else (some 1)))
section DX0_isKept
variable {p : Program} {l : Launch} {e : Env} {s : State} {m : MethodId} {args : Array Value} {below : List Frame} {meth : Method} {c : Code} {D : va_G} {cy : Nat → ClassId} {ad : Nat → Nat} {A : Nat → Prop}
set_option maxHeartbeats 4000000 in
set_option maxRecDepth 100000 in
theorem c_X0_isKept (l : Launch) (D : va_G) (cy : Nat → ClassId) (ad : Nat → Nat) (S : St) (a1 : Int32) {r : Int32}  (hf : f_X0_isKept S a1 = some r) : XMi l D (wC cy ad) (xty cy) yX0_isKept wsX0_isKept ({ frames := 0, cells := 0, slots := 0, locals := 0 } : Room) [.ref (ad 3), .int a1] S r S := by
  refine x_ofWi (cc := cX0_isKept) (maxL := 2) (ret := some .boolean) (own := RX0) rfl (by decide) rfl (Nat.le_of_ble_eq_true rfl) rfl ?_
  intro p e s m args below meth c A C _
  unfold f_X0_isKept at hf
  refine x_iload_n C dX0_isKept_0 rfl 1 rfl ?_
  refine x_if_lt (tgt := 23) C dX0_isKept_1 (by decide) (fun (c_1 : a1 < 0) => ?_) (fun (c_1 : ¬ (a1 < 0)) => ?_)
  · replace hf := x_ip c_1 hf
    refine x_iconst (v := 0) C dX0_isKept_23 (by decide) ?_
    have e9 := x_s1 hf; subst e9
    exact x_zret C rfl dX0_isKept_24
  · replace hf := x_in c_1 hf
    refine x_iload_n C dX0_isKept_4 rfl 1 rfl ?_
    refine x_aload_n C dX0_isKept_5 rfl 0 rfl ?_
    refine x_get (v := .int (S.1 13 0 0)) C iX0_isKept_X0 rfl 3 (gC_nots cy ad S) 2 (by decide) (by decide +kernel) rfl rfl dX0_isKept_6 ?_
    refine x_icmp_ge (tgt := 23) C dX0_isKept_9 (by decide) (fun (c_2 : (S.1 13 0 0) ≤ a1) => ?_) (fun (c_2 : ¬ ((S.1 13 0 0) ≤ a1)) => ?_)
    · replace hf := x_ip c_2 hf
      refine x_iconst (v := 0) C dX0_isKept_23 (by decide) ?_
      have e9 := x_s1 hf; subst e9
      exact x_zret C rfl dX0_isKept_24
    · replace hf := x_in c_2 hf
      refine x_iload_n C dX0_isKept_12 rfl 1 rfl ?_
      refine x_sipush (v := 200) C dX0_isKept_13 (by decide) ?_
      refine x_icmp_ge (tgt := 23) C dX0_isKept_16 (by decide) (fun (c_3 : (200 : Int32) ≤ a1) => ?_) (fun (c_3 : ¬ ((200 : Int32) ≤ a1)) => ?_)
      · replace hf := x_ip c_3 hf
        refine x_iconst (v := 0) C dX0_isKept_23 (by decide) ?_
        have e9 := x_s1 hf; subst e9
        exact x_zret C rfl dX0_isKept_24
      · replace hf := x_in c_3 hf
        refine x_iconst (v := 1) C dX0_isKept_19 (by decide) ?_
        refine x_goto (tgt := 24) C dX0_isKept_20 (by decide) ?_
        have e9 := x_s1 hf; subst e9
        exact x_zret C rfl dX0_isKept_24
end DX0_isKept
set_option maxRecDepth 20000 in
theorem iX3_notice_X0 : ∀ w ∈ u_ws RX0 TX0 3, w ∈ wsX3_notice := by decide +kernel
set_option maxRecDepth 20000 in
theorem iX3_notice_X3 : ∀ w ∈ u_ws RX3 TX3 8, w ∈ wsX3_notice := by decide +kernel
def f_X3_notice (S : St) (a1 : Int32) (a2 : Int32) : Option (Int32) := (f_X0_isKept S a1).bind fun u1 => if u1 = 0 then (some (-1)) else (if a2 = 0 then (if a1 < 0 ∨ 200 ≤ a1.toNatClampNeg then none else some (S.1 14 0 a1.toNatClampNeg)) else if a2 = 1 then (if a1 < 0 ∨ 200 ≤ a1.toNatClampNeg then none else some (S.1 15 0 a1.toNatClampNeg)) else (some (-1)))
section DX3_notice
variable {p : Program} {l : Launch} {e : Env} {s : State} {m : MethodId} {args : Array Value} {below : List Frame} {meth : Method} {c : Code} {D : va_G} {cy : Nat → ClassId} {ad : Nat → Nat} {A : Nat → Prop}
set_option maxHeartbeats 4000000 in
set_option maxRecDepth 100000 in
theorem c_X3_notice (l : Launch) (D : va_G) (cy : Nat → ClassId) (ad : Nat → Nat) (S : St) (a1 : Int32) (a2 : Int32) {r : Int32}  (hf : f_X3_notice S a1 a2 = some r) : XMi l D (wC cy ad) (xty cy) yX3_notice wsX3_notice ({ frames := 1, cells := 0, slots := 0, locals := 21 } : Room) [.ref (ad 0), .int a1, .int a2] S r S := by
  refine x_ofWi (cc := cX3_notice) (maxL := 3) (ret := some .int) (own := RX3) rfl (by decide) rfl (Nat.le_of_ble_eq_true rfl) rfl ?_
  intro p e s m args below meth c A C _
  unfold f_X3_notice at hf
  refine x_aload_n C dX3_notice_0 rfl 0 rfl ?_
  refine x_get (v := .ref (ad 3)) C iX3_notice_X3 rfl 0 (gC_root cy ad S) 3 (by decide) (by decide +kernel) rfl rfl dX3_notice_1 ?_
  refine x_iload_n C dX3_notice_4 rfl 1 rfl ?_
  obtain ⟨u1, h2, hf⟩ := x_bd hf
  refine x_callVNi (As := [.int a1]) (st := []) C (c_X0_isKept l D cy ad S a1  h2) ⟨va_cnB 1 C.2.2.2.2.1 gX3_notice_X0_isKept_n159 rfl rfl rfl (C.2.2.2.2.2.2.2.2.1 (.methodLinkNest RX3 159 yX0_isKept "ClosureHours") (by decide +kernel)) (C.2.2.2.2.1 (.initialized RX0) (by decide +kernel)) (by decide +kernel) ⟨(by decide), (by decide)⟩, C.2.2.2.2.1 (.instanceMethod yX0_isKept) (by decide +kernel), C.2.2.2.2.1 (.selects RX0 yX0_isKept yX0_isKept) (by decide +kernel)⟩ 3 (gC_nots cy ad S) rfl rfl rfl rfl (Nat.le_of_ble_eq_true rfl) dX3_notice_5 ?_
  refine x_if_ne (tgt := 13) C dX3_notice_8 (by decide) (fun (c_3 : ¬ (u1 = 0)) => ?_) (fun (c_3 : u1 = 0) => ?_)
  · replace hf := x_in c_3 hf
    refine x_iload_n C dX3_notice_13 rfl 2 rfl ?_
    by_cases c_4 : a2 = 0
    · replace hf := x_ip c_4 hf
      refine x_look (tgt := 40) (off := 26) C dX3_notice_14 (by decide) (by rw [c_4]; try rfl) (by decide) ?_
      refine x_aload_n C dX3_notice_40 rfl 0 rfl ?_
      refine x_get (v := .ref (ad 3)) C iX3_notice_X3 rfl 0 (gC_root cy ad S) 3 (by decide) (by decide +kernel) rfl rfl dX3_notice_41 ?_
      refine x_getN (v := .ref (ad 5)) (host := "ClosureHours") C iX3_notice_X0 rfl 3 (gC_nots cy ad S) 0 (by decide) (by decide +kernel) rfl rfl dX3_notice_44 ?_
      refine x_iload_n C dX3_notice_47 rfl 1 rfl ?_
      obtain ⟨g_5, hf⟩ := x_gd hf
      refine x_iald (f := S.1 14 0) C 5 0 (gC_nwk cy ad S) rfl g_5 dX3_notice_48 ?_
      have e9 := x_s1 hf; subst e9
      exact x_iret C dX3_notice_49
    replace hf := x_in c_4 hf
    by_cases c_6 : a2 = 1
    · replace hf := x_ip c_6 hf
      refine x_look (tgt := 50) (off := 36) C dX3_notice_14 (by decide) (by rw [c_6]; try rfl) (by decide) ?_
      refine x_aload_n C dX3_notice_50 rfl 0 rfl ?_
      refine x_get (v := .ref (ad 3)) C iX3_notice_X3 rfl 0 (gC_root cy ad S) 3 (by decide) (by decide +kernel) rfl rfl dX3_notice_51 ?_
      refine x_getN (v := .ref (ad 6)) (host := "ClosureHours") C iX3_notice_X0 rfl 3 (gC_nots cy ad S) 1 (by decide) (by decide +kernel) rfl rfl dX3_notice_54 ?_
      refine x_iload_n C dX3_notice_57 rfl 1 rfl ?_
      obtain ⟨g_7, hf⟩ := x_gd hf
      refine x_iald (f := S.1 15 0) C 6 0 (gC_nst cy ad S) rfl g_7 dX3_notice_58 ?_
      have e9 := x_s1 hf; subst e9
      exact x_iret C dX3_notice_59
    replace hf := x_in c_6 hf
    refine x_look (tgt := 60) (off := _) C dX3_notice_14 (by decide) (by show Op.lookupswitch.offset [(0, 26), (1, 36)] 46 (Int32.toInt a2) = 46; rw [lv_osw (a := 0) c_4 rfl, lv_osw (a := 1) c_6 rfl]; try rfl) (by decide) ?_
    refine x_iconst (v := (-1)) C dX3_notice_60 (by decide) ?_
    have e9 := x_s1 hf; subst e9
    exact x_iret C dX3_notice_61
  · replace hf := x_ip c_3 hf
    refine x_iconst (v := (-1)) C dX3_notice_11 (by decide) ?_
    have e9 := x_s1 hf; subst e9
    exact x_iret C dX3_notice_12
end DX3_notice
set_option maxRecDepth 20000 in
theorem iX3_rate_X3 : ∀ w ∈ u_ws RX3 TX3 8, w ∈ wsX3_rate := by decide +kernel
def f_X3_rate (S : St) (a1 : Int32) : Option (Int32 × St) := (f_X3_isWithin  a1 0 1000000).bind fun u1 => if u1 = 0 then (some (0, S)) else (some (1, (xI S 3 0 0 a1)))
section DX3_rate
variable {p : Program} {l : Launch} {e : Env} {s : State} {m : MethodId} {args : Array Value} {below : List Frame} {meth : Method} {c : Code} {D : va_G} {cy : Nat → ClassId} {ad : Nat → Nat} {A : Nat → Prop}
set_option maxHeartbeats 4000000 in
set_option maxRecDepth 100000 in
theorem c_X3_rate (l : Launch) (D : va_G) (cy : Nat → ClassId) (ad : Nat → Nat) (S : St) (a1 : Int32) {r : Int32} {S2 : St}  (hf : f_X3_rate S a1 = some (r, S2)) : XMi l D (wC cy ad) (xty cy) yX3_rate wsX3_rate ({ frames := 1, cells := 0, slots := 0, locals := 22 } : Room) [.ref (ad 0), .int a1] S r S2 := by
  refine x_ofWi (cc := cX3_rate) (maxL := 2) (ret := some .boolean) (own := RX3) rfl (by decide) rfl (Nat.le_of_ble_eq_true rfl) rfl ?_
  intro p e s m args below meth c A C _
  unfold f_X3_rate at hf
  refine x_iload_n C dX3_rate_0 rfl 1 rfl ?_
  refine x_iconst (v := 0) C dX3_rate_1 (by decide) ?_
  refine x_ldc (v := 1000000) C (by decide +kernel) dX3_rate_2 ?_
  obtain ⟨u1, h2, hf⟩ := x_bd hf
  refine x_callSi (As := [.int a1, .int 0, .int 1000000]) (st := []) C (c_X3_isWithin l D cy ad (wC cy ad) S a1 0 1000000  h2) (va_cwS 3 C.2.2.2.2.1 gX3_rate_X3_isWithin rfl rfl rfl (by decide +kernel) ⟨(by decide), (by decide)⟩) rfl rfl (Nat.le_of_ble_eq_true rfl) dX3_rate_4 ?_
  refine x_if_ne (tgt := 12) C dX3_rate_7 (by decide) (fun (c_3 : ¬ (u1 = 0)) => ?_) (fun (c_3 : u1 = 0) => ?_)
  · replace hf := x_in c_3 hf
    refine x_aload_n C dX3_rate_12 rfl 0 rfl ?_
    refine x_iload_n C dX3_rate_13 rfl 1 rfl ?_
    refine x_put (v := .int a1) (ty := .int) (S2 := (xI S 3 0 0 a1)) C iX3_rate_X3 tyX3 tyX3_ok nmX3 rfl 0 (gC_root cy ad S) 7 (by decide) (by decide +kernel) rfl rfl (by decide +kernel) rfl rfl (Nat.le_of_ble_eq_true rfl) (sC_cents cy ad S a1) dX3_rate_14 ?_
    refine x_iconst (v := 1) C dX3_rate_17 (by decide) ?_
    obtain ⟨e9, e8⟩ := x_s2 hf; subst e9; subst e8
    exact x_zret C rfl dX3_rate_18
  · replace hf := x_ip c_3 hf
    refine x_iconst (v := 0) C dX3_rate_10 (by decide) ?_
    obtain ⟨e9, e8⟩ := x_s2 hf; subst e9; subst e8
    exact x_zret C rfl dX3_rate_11
end DX3_rate
set_option maxRecDepth 20000 in
theorem iX3_costOf_X2 : ∀ w ∈ u_ws RX2 TX2 10, w ∈ wsX3_costOf := by decide +kernel
set_option maxRecDepth 20000 in
theorem iX3_costOf_X3 : ∀ w ∈ u_ws RX3 TX3 8, w ∈ wsX3_costOf := by decide +kernel
def f_X3_costOf (S : St) (a1 : Int32) : Option (Int64) := (f_X3_isPlacedWork S a1).bind fun u1 => if u1 = 0 then (some 0) else (if a1 < 0 ∨ 4 ≤ a1.toNatClampNeg then none else (f_X2_delayFrom S a1.toNatClampNeg (S.1 9 a1.toNatClampNeg 0)).bind fun u5 => some (((Int32.toInt64 u5) * (Int32.toInt64 (S.1 3 0 0))) / 60))
section DX3_costOf
variable {p : Program} {l : Launch} {e : Env} {s : State} {m : MethodId} {args : Array Value} {below : List Frame} {meth : Method} {c : Code} {D : va_G} {cy : Nat → ClassId} {ad : Nat → Nat} {A : Nat → Prop}
set_option maxHeartbeats 4000000 in
set_option maxRecDepth 100000 in
theorem c_X3_costOf (l : Launch) (D : va_G) (cy : Nat → ClassId) (ad : Nat → Nat) (S : St) (a1 : Int32) {r : Int64}  (hf : f_X3_costOf S a1 = some r) : XMl l D (wC cy ad) (xty cy) yX3_costOf wsX3_costOf ({ frames := 2, cells := 0, slots := 0, locals := 44 } : Room) [.ref (ad 0), .int a1] S r S := by
  refine x_ofWl (cc := cX3_costOf) (maxL := 4) (ret := some .long) (own := RX3) rfl (by decide) rfl (Nat.le_of_ble_eq_true rfl) rfl ?_
  intro p e s m args below meth c A C _
  unfold f_X3_costOf at hf
  refine x_aload_n C dX3_costOf_0 rfl 0 rfl ?_
  refine x_iload_n C dX3_costOf_1 rfl 1 rfl ?_
  obtain ⟨u1, h2, hf⟩ := x_bd hf
  refine x_callVi (As := [.int a1]) (st := []) C (c_X3_isPlacedWork l D cy ad S a1  h2) (cwV 1 C.2.2.2.2.1 gX3_costOf_X3_isPlacedWork rfl rfl rfl (by decide +kernel) ⟨(by decide), (by decide)⟩) 0 (gC_root cy ad S) rfl rfl rfl rfl (Nat.le_of_ble_eq_true rfl) dX3_costOf_2 ?_
  refine x_if_ne (tgt := 10) C dX3_costOf_5 (by decide) (fun (c_3 : ¬ (u1 = 0)) => ?_) (fun (c_3 : u1 = 0) => ?_)
  · replace hf := x_in c_3 hf
    refine x_aload_n C dX3_costOf_10 rfl 0 rfl ?_
    refine x_get (v := .ref (ad 1)) C iX3_costOf_X3 rfl 0 (gC_root cy ad S) 1 (by decide) (by decide +kernel) rfl rfl dX3_costOf_11 ?_
    refine x_iload_n C dX3_costOf_14 rfl 1 rfl ?_
    obtain ⟨g_4, hf⟩ := x_gd hf
    refine x_aald C 1 2 (gC_works cy ad S) rfl rfl g_4 rfl dX3_costOf_15 ?_
    refine x_aload_n C dX3_costOf_16 rfl 0 rfl ?_
    refine x_get (v := .ref (ad 1)) C iX3_costOf_X3 rfl 0 (gC_root cy ad S) 1 (by decide) (by decide +kernel) rfl rfl dX3_costOf_17 ?_
    refine x_iload_n C dX3_costOf_20 rfl 1 rfl ?_
    refine x_aald C 1 2 (gC_works cy ad S) rfl rfl g_4 rfl dX3_costOf_21 ?_
    refine x_getN (v := .int (S.1 9 a1.toNatClampNeg 0)) (host := "ClosureHours") C iX3_costOf_X2 rfl (15 + a1.toNatClampNeg) (gC_work cy ad S (x_lt g_4)) 8 (by decide) (by decide +kernel) rfl rfl dX3_costOf_22 ?_
    obtain ⟨u5, h6, hf⟩ := x_bd hf
    refine x_callVNi (As := [.int (S.1 9 a1.toNatClampNeg 0)]) (st := []) C (c_X2_delayFrom l D cy ad S a1.toNatClampNeg (S.1 9 a1.toNatClampNeg 0) (x_lt g_4) h6) ⟨va_cnB 1 C.2.2.2.2.1 gX3_costOf_X2_delayFrom_n108 rfl rfl rfl (C.2.2.2.2.2.2.2.2.1 (.methodLinkNest RX3 108 yX2_delayFrom "ClosureHours") (by decide +kernel)) (C.2.2.2.2.1 (.initialized RX2) (by decide +kernel)) (by decide +kernel) ⟨(by decide), (by decide)⟩, C.2.2.2.2.1 (.instanceMethod yX2_delayFrom) (by decide +kernel), C.2.2.2.2.1 (.selects RX2 yX2_delayFrom yX2_delayFrom) (by decide +kernel)⟩ (15 + a1.toNatClampNeg) (gC_work cy ad S (x_lt g_4)) rfl rfl rfl rfl (Nat.le_of_ble_eq_true rfl) dX3_costOf_25 ?_
    refine x_i2l C dX3_costOf_28 ?_
    refine x_lstore_n (lv2 := [(2, .long (Int32.toInt64 u5)), (0, .ref (ad 0)), (1, .int a1)]) C dX3_costOf_29 rfl (by decide) rfl ?_
    refine x_lload_n C dX3_costOf_30 rfl 0 rfl ?_
    refine x_aload_n C dX3_costOf_31 rfl 1 rfl ?_
    refine x_get (v := .int (S.1 3 0 0)) C iX3_costOf_X3 rfl 0 (gC_root cy ad S) 7 (by decide) (by decide +kernel) rfl rfl dX3_costOf_32 ?_
    refine x_i2l C dX3_costOf_35 ?_
    refine x_lmul C dX3_costOf_36 ?_
    refine x_ldc2 (v := 60) C (by decide +kernel) dX3_costOf_37 ?_
    refine x_ldiv C dX3_costOf_40 (by decide) ?_
    have e9 := x_s1 hf; subst e9
    exact x_lret C dX3_costOf_41
  · replace hf := x_ip c_3 hf
    refine x_lconst (v := 0) C dX3_costOf_8 (by decide) ?_
    have e9 := x_s1 hf; subst e9
    exact x_lret C dX3_costOf_9
end DX3_costOf
set_option maxRecDepth 20000 in
theorem iX3_paid_X3 : ∀ w ∈ u_ws RX3 TX3 8, w ∈ wsX3_paid := by decide +kernel
def f_X3_paid_L16  (k16 : St → Int64 → Option (Int64)) : Nat → St → Int64 → Int32 → Option (Int64)
  | 0 => fun _ _ _ => none
  | n + 1 => fun S x2 x4 => if (S.1 1 0 0) ≤ x4 then (k16 S x2) else ((f_X3_costOf S x4).bind fun u3 => (f_X3_paid_L16  k16 n) S (x2 + u3) (x4 + 1))
def f_X3_paid (S : St) (a1 : Int32) : Option (Int64) := if a1 = (-1) then (f_X3_paid_L16  (fun S_5 x2_5 => some x2_5) 1000 S 0 0) else ((f_X3_costOf S a1).bind fun u6 => some u6)
section DX3_paid
variable {p : Program} {l : Launch} {e : Env} {s : State} {m : MethodId} {args : Array Value} {below : List Frame} {meth : Method} {c : Code} {D : va_G} {cy : Nat → ClassId} {ad : Nat → Nat} {A : Nat → Prop}
set_option maxHeartbeats 4000000 in
set_option maxRecDepth 100000 in
theorem t_X3_paid_L16 (C : XC p s m args meth c D A (xty cy) cX3_paid 5 RX3 wsX3_paid (some .long)) {r : Int64}   {k16 : St → Int64 → Option (Int64)} (hk16 : ∀ (S : St) (x2 : Int64), k16 S x2 = some r → XJ p l e ({ frames := 3, cells := 0, slots := 0, locals := 67 } : Room) s m args below meth c D (wC cy ad) A 5 (QXl D (wC cy ad) A below args s r S) S 40 [(2, .long x2)] []) : ∀ (n : Nat), ∀ (S : St) (x2 : Int64) (x4 : Int32), (f_X3_paid_L16  k16 n) S x2 x4 = some r → XJ p l e ({ frames := 3, cells := 0, slots := 0, locals := 67 } : Room) s m args below meth c D (wC cy ad) A 5 (QXl D (wC cy ad) A below args s r S) S 16 [(0, .ref (ad 0)), (2, .long x2), (4, .int x4)] [] := by
  intro n
  induction n with
  | zero => intro S x2 x4 hf; cases hf
  | succ n ih =>
    intro S x2 x4 hf
    rw [f_X3_paid_L16] at hf
    refine x_iload C dX3_paid_16 2 rfl ?_
    refine x_aload_n C dX3_paid_18 rfl 0 rfl ?_
    refine x_get (v := .int (S.1 1 0 0)) C iX3_paid_X3 rfl 0 (gC_root cy ad S) 5 (by decide) (by decide +kernel) rfl rfl dX3_paid_19 ?_
    refine x_icmp_ge (tgt := 40) C dX3_paid_22 (by decide) (fun (c_2 : (S.1 1 0 0) ≤ x4) => ?_) (fun (c_2 : ¬ ((S.1 1 0 0) ≤ x4)) => ?_)
    · replace hf := x_ip c_2 hf
      refine x_sub [1] rfl ?_
      exact hk16 S x2  hf
    · replace hf := x_in c_2 hf
      refine x_lload_n C dX3_paid_25 rfl 1 rfl ?_
      refine x_aload_n C dX3_paid_26 rfl 0 rfl ?_
      refine x_iload C dX3_paid_27 2 rfl ?_
      obtain ⟨u3, h4, hf⟩ := x_bd hf
      refine x_callVl (As := [.int x4]) (st := [.long x2]) C (c_X3_costOf l D cy ad S x4  h4) (cwV 1 C.2.2.2.2.1 gX3_paid_X3_costOf rfl rfl rfl (by decide +kernel) ⟨(by decide), (by decide)⟩) 0 (gC_root cy ad S) rfl rfl rfl rfl (Nat.le_of_ble_eq_true rfl) dX3_paid_29 ?_
      refine x_ladd C dX3_paid_32 ?_
      refine x_lstore_n (lv2 := [(2, .long (x2 + u3)), (0, .ref (ad 0)), (4, .int x4)]) C dX3_paid_33 rfl (by decide) rfl ?_
      refine x_iinc (v := x4 + 1) (lv2 := [(4, .int (x4 + 1)), (2, .long (x2 + u3)), (0, .ref (ad 0))]) C dX3_paid_34 (k0 := 2) rfl rfl (by decide) rfl ?_
      refine x_goto (tgt := 16) C dX3_paid_37 (by decide) ?_
      refine x_sub [2, 1, 0] rfl ?_
      exact ih S (x2 + u3) (x4 + 1)  hf
set_option maxHeartbeats 4000000 in
set_option maxRecDepth 100000 in
theorem c_X3_paid (l : Launch) (D : va_G) (cy : Nat → ClassId) (ad : Nat → Nat) (S : St) (a1 : Int32) {r : Int64}  (hf : f_X3_paid S a1 = some r) : XMl l D (wC cy ad) (xty cy) yX3_paid wsX3_paid ({ frames := 3, cells := 0, slots := 0, locals := 67 } : Room) [.ref (ad 0), .int a1] S r S := by
  refine x_ofWl (cc := cX3_paid) (maxL := 5) (ret := some .long) (own := RX3) rfl (by decide) rfl (Nat.le_of_ble_eq_true rfl) rfl ?_
  intro p e s m args below meth c A C _
  unfold f_X3_paid at hf
  refine x_iload_n C dX3_paid_0 rfl 1 rfl ?_
  refine x_iconst (v := (-1)) C dX3_paid_1 (by decide) ?_
  refine x_icmp_eq (tgt := 11) C dX3_paid_2 (by decide) (fun (c_1 : a1 = (-1)) => ?_) (fun (c_1 : ¬ (a1 = (-1))) => ?_)
  · replace hf := x_ip c_1 hf
    refine x_lconst (v := 0) C dX3_paid_11 (by decide) ?_
    refine x_lstore_n (lv2 := [(2, .long 0), (0, .ref (ad 0)), (1, .int a1)]) C dX3_paid_12 rfl (by decide) rfl ?_
    refine x_iconst (v := 0) C dX3_paid_13 (by decide) ?_
    refine x_istore (lv2 := [(4, .int 0), (2, .long 0), (0, .ref (ad 0)), (1, .int a1)]) C dX3_paid_14 (by decide) rfl ?_
    refine x_sub [2, 1, 0] rfl ?_
    refine t_X3_paid_L16 C  (fun S_5 x2_5  hf => ?_) 1000 S 0 0  hf
    refine x_lload_n C dX3_paid_40 rfl 0 rfl ?_
    have e9 := x_s1 hf; subst e9
    exact x_lret C dX3_paid_41
  · replace hf := x_in c_1 hf
    refine x_aload_n C dX3_paid_5 rfl 0 rfl ?_
    refine x_iload_n C dX3_paid_6 rfl 1 rfl ?_
    obtain ⟨u6, h7, hf⟩ := x_bd hf
    refine x_callVl (As := [.int a1]) (st := []) C (c_X3_costOf l D cy ad S a1  h7) (cwV 1 C.2.2.2.2.1 gX3_paid_X3_costOf rfl rfl rfl (by decide +kernel) ⟨(by decide), (by decide)⟩) 0 (gC_root cy ad S) rfl rfl rfl rfl (Nat.le_of_ble_eq_true rfl) dX3_paid_7 ?_
    have e9 := x_s1 hf; subst e9
    exact x_lret C dX3_paid_10
end DX3_paid
set_option maxRecDepth 20000 in
theorem iX3_open_X2 : ∀ w ∈ u_ws RX2 TX2 10, w ∈ wsX3_open := by decide +kernel
set_option maxRecDepth 20000 in
theorem iX3_open_X3 : ∀ w ∈ u_ws RX3 TX3 8, w ∈ wsX3_open := by decide +kernel
def f_X3_open_L14  (k14 : St → Int32 → Option (Int32)) : Nat → St → Int32 → Int32 → Int32 → Option (Int32)
  | 0 => fun _ _ _ _ => none
  | n + 1 => fun S x1 x2 x3 => if (S.1 1 0 0) ≤ x3 then (k14 S x2) else ((f_X3_isPlacedWork S x3).bind fun u5 => if u5 = 0 then ((f_X3_open_L14  k14 n) S x1 x2 (x3 + 1)) else (if x3 < 0 ∨ 4 ≤ x3.toNatClampNeg then none else (f_X2_spanFrom S x3.toNatClampNeg (S.1 9 x3.toNatClampNeg 0)).bind fun u9 => (f_X3_hasBit  u9 x1).bind fun u11 => if u11 = 0 then ((f_X3_open_L14  k14 n) S x1 x2 (x3 + 1)) else ((f_X3_open_L14  k14 n) S x1 (x2 + 1) (x3 + 1))))
def f_X3_open (S : St) (a1 : Int32) : Option (Int32) := (f_X3_isHour S a1).bind fun u1 => if u1 = 0 then (some (-1)) else (f_X3_open_L14  (fun S_14 x2_14 => some x2_14) 1000 S a1 0 0)
section DX3_open
variable {p : Program} {l : Launch} {e : Env} {s : State} {m : MethodId} {args : Array Value} {below : List Frame} {meth : Method} {c : Code} {D : va_G} {cy : Nat → ClassId} {ad : Nat → Nat} {A : Nat → Prop}
set_option maxHeartbeats 4000000 in
set_option maxRecDepth 100000 in
theorem t_X3_open_L14 (C : XC p s m args meth c D A (xty cy) cX3_open 4 RX3 wsX3_open (some .int)) {r : Int32}   {k14 : St → Int32 → Option (Int32)} (hk14 : ∀ (S : St) (x2 : Int32), k14 S x2 = some r → XJ p l e ({ frames := 2, cells := 0, slots := 0, locals := 42 } : Room) s m args below meth c D (wC cy ad) A 4 (QXi D (wC cy ad) A below args s r S) S 64 [(2, .int x2)] []) : ∀ (n : Nat), ∀ (S : St) (x1 : Int32) (x2 : Int32) (x3 : Int32), (f_X3_open_L14  k14 n) S x1 x2 x3 = some r → XJ p l e ({ frames := 2, cells := 0, slots := 0, locals := 42 } : Room) s m args below meth c D (wC cy ad) A 4 (QXi D (wC cy ad) A below args s r S) S 14 [(0, .ref (ad 0)), (1, .int x1), (2, .int x2), (3, .int x3)] [] := by
  intro n
  induction n with
  | zero => intro S x1 x2 x3 hf; cases hf
  | succ n ih =>
    intro S x1 x2 x3 hf
    rw [f_X3_open_L14] at hf
    refine x_iload_n C dX3_open_14 rfl 3 rfl ?_
    refine x_aload_n C dX3_open_15 rfl 0 rfl ?_
    refine x_get (v := .int (S.1 1 0 0)) C iX3_open_X3 rfl 0 (gC_root cy ad S) 5 (by decide) (by decide +kernel) rfl rfl dX3_open_16 ?_
    refine x_icmp_ge (tgt := 64) C dX3_open_19 (by decide) (fun (c_4 : (S.1 1 0 0) ≤ x3) => ?_) (fun (c_4 : ¬ ((S.1 1 0 0) ≤ x3)) => ?_)
    · replace hf := x_ip c_4 hf
      refine x_sub [2] rfl ?_
      exact hk14 S x2  hf
    · replace hf := x_in c_4 hf
      refine x_aload_n C dX3_open_22 rfl 0 rfl ?_
      refine x_iload_n C dX3_open_23 rfl 3 rfl ?_
      obtain ⟨u5, h6, hf⟩ := x_bd hf
      refine x_callVi (As := [.int x3]) (st := []) C (c_X3_isPlacedWork l D cy ad S x3  h6) (cwV 1 C.2.2.2.2.1 gX3_open_X3_isPlacedWork rfl rfl rfl (by decide +kernel) ⟨(by decide), (by decide)⟩) 0 (gC_root cy ad S) rfl rfl rfl rfl (Nat.le_of_ble_eq_true rfl) dX3_open_24 ?_
      refine x_if_eq (tgt := 58) C dX3_open_27 (by decide) (fun (c_7 : u5 = 0) => ?_) (fun (c_7 : ¬ (u5 = 0)) => ?_)
      · replace hf := x_ip c_7 hf
        refine x_iinc (v := x3 + 1) (lv2 := [(3, .int (x3 + 1)), (0, .ref (ad 0)), (1, .int x1), (2, .int x2)]) C dX3_open_58 (k0 := 3) rfl rfl (by decide) rfl ?_
        refine x_goto (tgt := 14) C dX3_open_61 (by decide) ?_
        refine x_sub [1, 2, 3, 0] rfl ?_
        exact ih S x1 x2 (x3 + 1)  hf
      · replace hf := x_in c_7 hf
        refine x_aload_n C dX3_open_30 rfl 0 rfl ?_
        refine x_get (v := .ref (ad 1)) C iX3_open_X3 rfl 0 (gC_root cy ad S) 1 (by decide) (by decide +kernel) rfl rfl dX3_open_31 ?_
        refine x_iload_n C dX3_open_34 rfl 3 rfl ?_
        obtain ⟨g_8, hf⟩ := x_gd hf
        refine x_aald C 1 2 (gC_works cy ad S) rfl rfl g_8 rfl dX3_open_35 ?_
        refine x_aload_n C dX3_open_36 rfl 0 rfl ?_
        refine x_get (v := .ref (ad 1)) C iX3_open_X3 rfl 0 (gC_root cy ad S) 1 (by decide) (by decide +kernel) rfl rfl dX3_open_37 ?_
        refine x_iload_n C dX3_open_40 rfl 3 rfl ?_
        refine x_aald C 1 2 (gC_works cy ad S) rfl rfl g_8 rfl dX3_open_41 ?_
        refine x_getN (v := .int (S.1 9 x3.toNatClampNeg 0)) (host := "ClosureHours") C iX3_open_X2 rfl (15 + x3.toNatClampNeg) (gC_work cy ad S (x_lt g_8)) 8 (by decide) (by decide +kernel) rfl rfl dX3_open_42 ?_
        obtain ⟨u9, h10, hf⟩ := x_bd hf
        refine x_callVNl (As := [.int (S.1 9 x3.toNatClampNeg 0)]) (st := []) C (c_X2_spanFrom l D cy ad S x3.toNatClampNeg (S.1 9 x3.toNatClampNeg 0) (x_lt g_8) h10) ⟨va_cnB 1 C.2.2.2.2.1 gX3_open_X2_spanFrom_n175 rfl rfl rfl (C.2.2.2.2.2.2.2.2.1 (.methodLinkNest RX3 175 yX2_spanFrom "ClosureHours") (by decide +kernel)) (C.2.2.2.2.1 (.initialized RX2) (by decide +kernel)) (by decide +kernel) ⟨(by decide), (by decide)⟩, C.2.2.2.2.1 (.instanceMethod yX2_spanFrom) (by decide +kernel), C.2.2.2.2.1 (.selects RX2 yX2_spanFrom yX2_spanFrom) (by decide +kernel)⟩ (15 + x3.toNatClampNeg) (gC_work cy ad S (x_lt g_8)) rfl rfl rfl rfl (Nat.le_of_ble_eq_true rfl) dX3_open_45 ?_
        refine x_iload_n C dX3_open_48 rfl 1 rfl ?_
        obtain ⟨u11, h12, hf⟩ := x_bd hf
        refine x_callSi (As := [.long u9, .int x1]) (st := []) C (c_X3_hasBit l D cy ad (wC cy ad) S u9 x1  h12) (va_cwS 2 C.2.2.2.2.1 gX3_open_X3_hasBit rfl rfl rfl (by decide +kernel) ⟨(by decide), (by decide)⟩) rfl rfl (Nat.le_of_ble_eq_true rfl) dX3_open_49 ?_
        refine x_if_eq (tgt := 58) C dX3_open_52 (by decide) (fun (c_13 : u11 = 0) => ?_) (fun (c_13 : ¬ (u11 = 0)) => ?_)
        · replace hf := x_ip c_13 hf
          refine x_iinc (v := x3 + 1) (lv2 := [(3, .int (x3 + 1)), (0, .ref (ad 0)), (1, .int x1), (2, .int x2)]) C dX3_open_58 (k0 := 3) rfl rfl (by decide) rfl ?_
          refine x_goto (tgt := 14) C dX3_open_61 (by decide) ?_
          refine x_sub [1, 2, 3, 0] rfl ?_
          exact ih S x1 x2 (x3 + 1)  hf
        · replace hf := x_in c_13 hf
          refine x_iinc (v := x2 + 1) (lv2 := [(2, .int (x2 + 1)), (0, .ref (ad 0)), (1, .int x1), (3, .int x3)]) C dX3_open_55 (k0 := 2) rfl rfl (by decide) rfl ?_
          refine x_iinc (v := x3 + 1) (lv2 := [(3, .int (x3 + 1)), (2, .int (x2 + 1)), (0, .ref (ad 0)), (1, .int x1)]) C dX3_open_58 (k0 := 3) rfl rfl (by decide) rfl ?_
          refine x_goto (tgt := 14) C dX3_open_61 (by decide) ?_
          refine x_sub [2, 3, 1, 0] rfl ?_
          exact ih S x1 (x2 + 1) (x3 + 1)  hf
set_option maxHeartbeats 4000000 in
set_option maxRecDepth 100000 in
theorem c_X3_open (l : Launch) (D : va_G) (cy : Nat → ClassId) (ad : Nat → Nat) (S : St) (a1 : Int32) {r : Int32}  (hf : f_X3_open S a1 = some r) : XMi l D (wC cy ad) (xty cy) yX3_open wsX3_open ({ frames := 2, cells := 0, slots := 0, locals := 42 } : Room) [.ref (ad 0), .int a1] S r S := by
  refine x_ofWi (cc := cX3_open) (maxL := 4) (ret := some .int) (own := RX3) rfl (by decide) rfl (Nat.le_of_ble_eq_true rfl) rfl ?_
  intro p e s m args below meth c A C _
  unfold f_X3_open at hf
  refine x_aload_n C dX3_open_0 rfl 0 rfl ?_
  refine x_iload_n C dX3_open_1 rfl 1 rfl ?_
  obtain ⟨u1, h2, hf⟩ := x_bd hf
  refine x_callVi (As := [.int a1]) (st := []) C (c_X3_isHour l D cy ad S a1  h2) (cwV 1 C.2.2.2.2.1 gX3_open_X3_isHour rfl rfl rfl (by decide +kernel) ⟨(by decide), (by decide)⟩) 0 (gC_root cy ad S) rfl rfl rfl rfl (Nat.le_of_ble_eq_true rfl) dX3_open_2 ?_
  refine x_if_ne (tgt := 10) C dX3_open_5 (by decide) (fun (c_3 : ¬ (u1 = 0)) => ?_) (fun (c_3 : u1 = 0) => ?_)
  · replace hf := x_in c_3 hf
    refine x_iconst (v := 0) C dX3_open_10 (by decide) ?_
    refine x_istore_n (lv2 := [(2, .int 0), (0, .ref (ad 0)), (1, .int a1)]) C dX3_open_11 rfl (by decide) rfl ?_
    refine x_iconst (v := 0) C dX3_open_12 (by decide) ?_
    refine x_istore_n (lv2 := [(3, .int 0), (2, .int 0), (0, .ref (ad 0)), (1, .int a1)]) C dX3_open_13 rfl (by decide) rfl ?_
    refine x_sub [2, 3, 1, 0] rfl ?_
    refine t_X3_open_L14 C  (fun S_14 x2_14  hf => ?_) 1000 S a1 0 0  hf
    refine x_iload_n C dX3_open_64 rfl 0 rfl ?_
    have e9 := x_s1 hf; subst e9
    exact x_iret C dX3_open_65
  · replace hf := x_ip c_3 hf
    refine x_iconst (v := (-1)) C dX3_open_8 (by decide) ?_
    have e9 := x_s1 hf; subst e9
    exact x_iret C dX3_open_9
end DX3_open
set_option maxRecDepth 20000 in
theorem iX3_holds_X2 : ∀ w ∈ u_ws RX2 TX2 10, w ∈ wsX3_holds := by decide +kernel
set_option maxRecDepth 20000 in
theorem iX3_holds_X3 : ∀ w ∈ u_ws RX3 TX3 8, w ∈ wsX3_holds := by decide +kernel
def f_X3_holds_L2  (k2 : St → Option (Int32)) : Nat → St → Int32 → Option (Int32)
  | 0 => fun _ _ => none
  | n + 1 => fun S x1 => if (S.1 1 0 0) ≤ x1 then (k2 S ) else ((f_X3_isPlacedWork S x1).bind fun u2 => if u2 = 0 then ((f_X3_holds_L2  k2 n) S (x1 + 1)) else (if x1 < 0 ∨ 4 ≤ x1.toNatClampNeg then none else (f_X3_firstBrokenRule S x1 (S.1 9 x1.toNatClampNeg 0)).bind fun u6 => if u6 = 0 then ((f_X3_holds_L2  k2 n) S (x1 + 1)) else (some 0)))
def f_X3_holds (S : St)  : Option (Int32) := f_X3_holds_L2  (fun S_9  => some 1) 1000 S 0
section DX3_holds
variable {p : Program} {l : Launch} {e : Env} {s : State} {m : MethodId} {args : Array Value} {below : List Frame} {meth : Method} {c : Code} {D : va_G} {cy : Nat → ClassId} {ad : Nat → Nat} {A : Nat → Prop}
set_option maxHeartbeats 4000000 in
set_option maxRecDepth 100000 in
theorem t_X3_holds_L2 (C : XC p s m args meth c D A (xty cy) cX3_holds 2 RX3 wsX3_holds (some .boolean)) {r : Int32}   {k2 : St → Option (Int32)} (hk2 : ∀ (S : St) , k2 S  = some r → XJ p l e ({ frames := 4, cells := 0, slots := 0, locals := 90 } : Room) s m args below meth c D (wC cy ad) A 2 (QXi D (wC cy ad) A below args s r S) S 43 [] []) : ∀ (n : Nat), ∀ (S : St) (x1 : Int32), (f_X3_holds_L2  k2 n) S x1 = some r → XJ p l e ({ frames := 4, cells := 0, slots := 0, locals := 90 } : Room) s m args below meth c D (wC cy ad) A 2 (QXi D (wC cy ad) A below args s r S) S 2 [(0, .ref (ad 0)), (1, .int x1)] [] := by
  intro n
  induction n with
  | zero => intro S x1 hf; cases hf
  | succ n ih =>
    intro S x1 hf
    rw [f_X3_holds_L2] at hf
    refine x_iload_n C dX3_holds_2 rfl 1 rfl ?_
    refine x_aload_n C dX3_holds_3 rfl 0 rfl ?_
    refine x_get (v := .int (S.1 1 0 0)) C iX3_holds_X3 rfl 0 (gC_root cy ad S) 5 (by decide) (by decide +kernel) rfl rfl dX3_holds_4 ?_
    refine x_icmp_ge (tgt := 43) C dX3_holds_7 (by decide) (fun (c_1 : (S.1 1 0 0) ≤ x1) => ?_) (fun (c_1 : ¬ ((S.1 1 0 0) ≤ x1)) => ?_)
    · replace hf := x_ip c_1 hf
      refine x_sub [] rfl ?_
      exact hk2 S   hf
    · replace hf := x_in c_1 hf
      refine x_aload_n C dX3_holds_10 rfl 0 rfl ?_
      refine x_iload_n C dX3_holds_11 rfl 1 rfl ?_
      obtain ⟨u2, h3, hf⟩ := x_bd hf
      refine x_callVi (As := [.int x1]) (st := []) C (c_X3_isPlacedWork l D cy ad S x1  h3) (cwV 1 C.2.2.2.2.1 gX3_holds_X3_isPlacedWork rfl rfl rfl (by decide +kernel) ⟨(by decide), (by decide)⟩) 0 (gC_root cy ad S) rfl rfl rfl rfl (Nat.le_of_ble_eq_true rfl) dX3_holds_12 ?_
      refine x_if_eq (tgt := 37) C dX3_holds_15 (by decide) (fun (c_4 : u2 = 0) => ?_) (fun (c_4 : ¬ (u2 = 0)) => ?_)
      · replace hf := x_ip c_4 hf
        refine x_iinc (v := x1 + 1) (lv2 := [(1, .int (x1 + 1)), (0, .ref (ad 0))]) C dX3_holds_37 (k0 := 1) rfl rfl (by decide) rfl ?_
        refine x_goto (tgt := 2) C dX3_holds_40 (by decide) ?_
        refine x_sub [1, 0] rfl ?_
        exact ih S (x1 + 1)  hf
      · replace hf := x_in c_4 hf
        refine x_aload_n C dX3_holds_18 rfl 0 rfl ?_
        refine x_iload_n C dX3_holds_19 rfl 1 rfl ?_
        refine x_aload_n C dX3_holds_20 rfl 0 rfl ?_
        refine x_get (v := .ref (ad 1)) C iX3_holds_X3 rfl 0 (gC_root cy ad S) 1 (by decide) (by decide +kernel) rfl rfl dX3_holds_21 ?_
        refine x_iload_n C dX3_holds_24 rfl 1 rfl ?_
        obtain ⟨g_5, hf⟩ := x_gd hf
        refine x_aald C 1 2 (gC_works cy ad S) rfl rfl g_5 rfl dX3_holds_25 ?_
        refine x_getN (v := .int (S.1 9 x1.toNatClampNeg 0)) (host := "ClosureHours") C iX3_holds_X2 rfl (15 + x1.toNatClampNeg) (gC_work cy ad S (x_lt g_5)) 8 (by decide) (by decide +kernel) rfl rfl dX3_holds_26 ?_
        obtain ⟨u6, h7, hf⟩ := x_bd hf
        refine x_callVi (As := [.int x1, .int (S.1 9 x1.toNatClampNeg 0)]) (st := []) C (c_X3_firstBrokenRule l D cy ad S x1 (S.1 9 x1.toNatClampNeg 0)  h7) (cwV 2 C.2.2.2.2.1 gX3_holds_X3_firstBrokenRule rfl rfl rfl (by decide +kernel) ⟨(by decide), (by decide)⟩) 0 (gC_root cy ad S) rfl rfl rfl rfl (Nat.le_of_ble_eq_true rfl) dX3_holds_29 ?_
        refine x_if_eq (tgt := 37) C dX3_holds_32 (by decide) (fun (c_8 : u6 = 0) => ?_) (fun (c_8 : ¬ (u6 = 0)) => ?_)
        · replace hf := x_ip c_8 hf
          refine x_iinc (v := x1 + 1) (lv2 := [(1, .int (x1 + 1)), (0, .ref (ad 0))]) C dX3_holds_37 (k0 := 1) rfl rfl (by decide) rfl ?_
          refine x_goto (tgt := 2) C dX3_holds_40 (by decide) ?_
          refine x_sub [1, 0] rfl ?_
          exact ih S (x1 + 1)  hf
        · replace hf := x_in c_8 hf
          refine x_iconst (v := 0) C dX3_holds_35 (by decide) ?_
          have e9 := x_s1 hf; subst e9
          exact x_zret C rfl dX3_holds_36
set_option maxHeartbeats 4000000 in
set_option maxRecDepth 100000 in
theorem c_X3_holds (l : Launch) (D : va_G) (cy : Nat → ClassId) (ad : Nat → Nat) (S : St)  {r : Int32}  (hf : f_X3_holds S  = some r) : XMi l D (wC cy ad) (xty cy) yX3_holds wsX3_holds ({ frames := 4, cells := 0, slots := 0, locals := 90 } : Room) [.ref (ad 0)] S r S := by
  refine x_ofWi (cc := cX3_holds) (maxL := 2) (ret := some .boolean) (own := RX3) rfl (by decide) rfl (Nat.le_of_ble_eq_true rfl) rfl ?_
  intro p e s m args below meth c A C _
  unfold f_X3_holds at hf
  refine x_iconst (v := 0) C dX3_holds_0 (by decide) ?_
  refine x_istore_n (lv2 := [(1, .int 0), (0, .ref (ad 0))]) C dX3_holds_1 rfl (by decide) rfl ?_
  refine x_sub [1, 0] rfl ?_
  refine t_X3_holds_L2 C  (fun S_9   hf => ?_) 1000 S 0  hf
  refine x_iconst (v := 1) C dX3_holds_43 (by decide) ?_
  have e9 := x_s1 hf; subst e9
  exact x_zret C rfl dX3_holds_44
end DX3_holds
set_option maxRecDepth 20000 in
theorem iX3_count_X0 : ∀ w ∈ u_ws RX0 TX0 3, w ∈ wsX3_count := by decide +kernel
set_option maxRecDepth 20000 in
theorem iX3_count_X3 : ∀ w ∈ u_ws RX3 TX3 8, w ∈ wsX3_count := by decide +kernel
def f_X3_count (S : St) (a1 : Int32) : Option (Int32) := if a1 = 0 then (some (S.1 0 0 0)) else if a1 = 1 then (some (S.1 1 0 0)) else if a1 = 2 then ((f_X3_placedWorks S ).bind fun u4 => some u4) else if a1 = 3 then (some (S.1 13 0 0)) else (some (-1))
section DX3_count
variable {p : Program} {l : Launch} {e : Env} {s : State} {m : MethodId} {args : Array Value} {below : List Frame} {meth : Method} {c : Code} {D : va_G} {cy : Nat → ClassId} {ad : Nat → Nat} {A : Nat → Prop}
set_option maxHeartbeats 4000000 in
set_option maxRecDepth 100000 in
theorem c_X3_count (l : Launch) (D : va_G) (cy : Nat → ClassId) (ad : Nat → Nat) (S : St) (a1 : Int32) {r : Int32}  (hf : f_X3_count S a1 = some r) : XMi l D (wC cy ad) (xty cy) yX3_count wsX3_count ({ frames := 2, cells := 0, slots := 0, locals := 42 } : Room) [.ref (ad 0), .int a1] S r S := by
  refine x_ofWi (cc := cX3_count) (maxL := 2) (ret := some .int) (own := RX3) rfl (by decide) rfl (Nat.le_of_ble_eq_true rfl) rfl ?_
  intro p e s m args below meth c A C _
  unfold f_X3_count at hf
  refine x_iload_n C dX3_count_0 rfl 1 rfl ?_
  by_cases c_1 : a1 = 0
  · replace hf := x_ip c_1 hf
    refine x_tabIn (tgt := 32) C dX3_count_1 (by rw [c_1]; decide) (by rw [c_1]; decide) (by rw [c_1]; rfl) (by decide) ?_
    refine x_aload_n C dX3_count_32 rfl 0 rfl ?_
    refine x_get (v := .int (S.1 0 0 0)) C iX3_count_X3 rfl 0 (gC_root cy ad S) 0 (by decide) (by decide +kernel) rfl rfl dX3_count_33 ?_
    have e9 := x_s1 hf; subst e9
    exact x_iret C dX3_count_36
  replace hf := x_in c_1 hf
  by_cases c_2 : a1 = 1
  · replace hf := x_ip c_2 hf
    refine x_tabIn (tgt := 37) C dX3_count_1 (by rw [c_2]; decide) (by rw [c_2]; decide) (by rw [c_2]; rfl) (by decide) ?_
    refine x_aload_n C dX3_count_37 rfl 0 rfl ?_
    refine x_get (v := .int (S.1 1 0 0)) C iX3_count_X3 rfl 0 (gC_root cy ad S) 5 (by decide) (by decide +kernel) rfl rfl dX3_count_38 ?_
    have e9 := x_s1 hf; subst e9
    exact x_iret C dX3_count_41
  replace hf := x_in c_2 hf
  by_cases c_3 : a1 = 2
  · replace hf := x_ip c_3 hf
    refine x_tabIn (tgt := 42) C dX3_count_1 (by rw [c_3]; decide) (by rw [c_3]; decide) (by rw [c_3]; rfl) (by decide) ?_
    refine x_aload_n C dX3_count_42 rfl 0 rfl ?_
    obtain ⟨u4, h5, hf⟩ := x_bd hf
    refine x_callVi (As := []) (st := []) C (c_X3_placedWorks l D cy ad S   h5) (cwV 0 C.2.2.2.2.1 gX3_count_X3_placedWorks rfl rfl rfl (by decide +kernel) ⟨(by decide), (by decide)⟩) 0 (gC_root cy ad S) rfl rfl rfl rfl (Nat.le_of_ble_eq_true rfl) dX3_count_43 ?_
    have e9 := x_s1 hf; subst e9
    exact x_iret C dX3_count_46
  replace hf := x_in c_3 hf
  by_cases c_6 : a1 = 3
  · replace hf := x_ip c_6 hf
    refine x_tabIn (tgt := 47) C dX3_count_1 (by rw [c_6]; decide) (by rw [c_6]; decide) (by rw [c_6]; rfl) (by decide) ?_
    refine x_aload_n C dX3_count_47 rfl 0 rfl ?_
    refine x_get (v := .ref (ad 3)) C iX3_count_X3 rfl 0 (gC_root cy ad S) 3 (by decide) (by decide +kernel) rfl rfl dX3_count_48 ?_
    refine x_getN (v := .int (S.1 13 0 0)) (host := "ClosureHours") C iX3_count_X0 rfl 3 (gC_nots cy ad S) 2 (by decide) (by decide +kernel) rfl rfl dX3_count_51 ?_
    have e9 := x_s1 hf; subst e9
    exact x_iret C dX3_count_54
  replace hf := x_in c_6 hf
  refine x_tabOut (tgt := 55) C dX3_count_1 (by have q0 := lv_neT (a := 0) c_1 rfl; have q1 := lv_neT (a := 1) c_2 rfl; have q2 := lv_neT (a := 2) c_3 rfl; have q3 := lv_neT (a := 3) c_6 rfl; omega) (by decide) ?_
  refine x_iconst (v := (-1)) C dX3_count_55 (by decide) ?_
  have e9 := x_s1 hf; subst e9
  exact x_iret C dX3_count_56
end DX3_count
def f_X4_isIn (a1 : Int32) (a2 : Int32) (a3 : Int32) : Option (Int32) := if a1 < a2 then (some 0) else (if a3 < a1 then (some 0) else (some 1))
section DX4_isIn
variable {p : Program} {l : Launch} {e : Env} {s : State} {m : MethodId} {args : Array Value} {below : List Frame} {meth : Method} {c : Code} {D : va_G} {cy : Nat → ClassId} {ad : Nat → Nat} {A : Nat → Prop}
set_option maxHeartbeats 4000000 in
set_option maxRecDepth 100000 in
theorem c_X4_isIn (l : Launch) (D : va_G) (cy : Nat → ClassId) (ad : Nat → Nat) (wf : St → va_W) (S : St) (a1 : Int32) (a2 : Int32) (a3 : Int32) {r : Int32}  (hf : f_X4_isIn  a1 a2 a3 = some r) : XMi l D wf (xty cy) yX4_isIn wsX4_isIn ({ frames := 0, cells := 0, slots := 0, locals := 0 } : Room) [.int a1, .int a2, .int a3] S r S := by
  refine x_ofWi (cc := cX4_isIn) (maxL := 3) (ret := some .boolean) (own := RX4) rfl (by decide) rfl (Nat.le_of_ble_eq_true rfl) rfl ?_
  intro p e s m args below meth c A C _
  unfold f_X4_isIn at hf
  refine x_iload_n C dX4_isIn_0 rfl 0 rfl ?_
  refine x_iload_n C dX4_isIn_1 rfl 1 rfl ?_
  refine x_icmp_lt (tgt := 14) C dX4_isIn_2 (by decide) (fun (c_1 : a1 < a2) => ?_) (fun (c_1 : ¬ (a1 < a2)) => ?_)
  · replace hf := x_ip c_1 hf
    refine x_iconst (v := 0) C dX4_isIn_14 (by decide) ?_
    have e9 := x_s1 hf; subst e9
    exact x_zret C rfl dX4_isIn_15
  · replace hf := x_in c_1 hf
    refine x_iload_n C dX4_isIn_5 rfl 0 rfl ?_
    refine x_iload_n C dX4_isIn_6 rfl 2 rfl ?_
    refine x_icmp_gt (tgt := 14) C dX4_isIn_7 (by decide) (fun (c_2 : a3 < a1) => ?_) (fun (c_2 : ¬ (a3 < a1)) => ?_)
    · replace hf := x_ip c_2 hf
      refine x_iconst (v := 0) C dX4_isIn_14 (by decide) ?_
      have e9 := x_s1 hf; subst e9
      exact x_zret C rfl dX4_isIn_15
    · replace hf := x_in c_2 hf
      refine x_iconst (v := 1) C dX4_isIn_10 (by decide) ?_
      refine x_goto (tgt := 15) C dX4_isIn_11 (by decide) ?_
      have e9 := x_s1 hf; subst e9
      exact x_zret C rfl dX4_isIn_15
end DX4_isIn
set_option maxRecDepth 20000 in
theorem iX4_isWork_X4 : ∀ w ∈ u_ws RX4 TX4 25, w ∈ wsX4_isWork := by decide +kernel
def f_X4_isWork (S : St) (a1 : Int32) : Option (Int32) := if a1 < 0 then (some 0) else (if (S.1 1 0 0) ≤ a1 then (some 0) else (some 1))
section DX4_isWork
variable {p : Program} {l : Launch} {e : Env} {s : State} {m : MethodId} {args : Array Value} {below : List Frame} {meth : Method} {c : Code} {D : va_G} {cy : Nat → ClassId} {ad : Nat → Nat} {A : Nat → Prop}
set_option maxHeartbeats 4000000 in
set_option maxRecDepth 100000 in
theorem c_X4_isWork (l : Launch) (D : va_G) (cy : Nat → ClassId) (ad : Nat → Nat) (S : St) (a1 : Int32) {r : Int32}  (hf : f_X4_isWork S a1 = some r) : XMi l D (wM cy ad) (xty cy) yX4_isWork wsX4_isWork ({ frames := 0, cells := 0, slots := 0, locals := 0 } : Room) [.ref (ad 0), .int a1] S r S := by
  refine x_ofWi (cc := cX4_isWork) (maxL := 2) (ret := some .boolean) (own := RX4) rfl (by decide) rfl (Nat.le_of_ble_eq_true rfl) rfl ?_
  intro p e s m args below meth c A C _
  unfold f_X4_isWork at hf
  refine x_iload_n C dX4_isWork_0 rfl 1 rfl ?_
  refine x_if_lt (tgt := 16) C dX4_isWork_1 (by decide) (fun (c_1 : a1 < 0) => ?_) (fun (c_1 : ¬ (a1 < 0)) => ?_)
  · replace hf := x_ip c_1 hf
    refine x_iconst (v := 0) C dX4_isWork_16 (by decide) ?_
    have e9 := x_s1 hf; subst e9
    exact x_zret C rfl dX4_isWork_17
  · replace hf := x_in c_1 hf
    refine x_iload_n C dX4_isWork_4 rfl 1 rfl ?_
    refine x_aload_n C dX4_isWork_5 rfl 0 rfl ?_
    refine x_get (v := .int (S.1 1 0 0)) C iX4_isWork_X4 rfl 0 (gM_root cy ad S) 1 (by decide) (by decide +kernel) rfl rfl dX4_isWork_6 ?_
    refine x_icmp_ge (tgt := 16) C dX4_isWork_9 (by decide) (fun (c_2 : (S.1 1 0 0) ≤ a1) => ?_) (fun (c_2 : ¬ ((S.1 1 0 0) ≤ a1)) => ?_)
    · replace hf := x_ip c_2 hf
      refine x_iconst (v := 0) C dX4_isWork_16 (by decide) ?_
      have e9 := x_s1 hf; subst e9
      exact x_zret C rfl dX4_isWork_17
    · replace hf := x_in c_2 hf
      refine x_iconst (v := 1) C dX4_isWork_12 (by decide) ?_
      refine x_goto (tgt := 17) C dX4_isWork_13 (by decide) ?_
      have e9 := x_s1 hf; subst e9
      exact x_zret C rfl dX4_isWork_17
end DX4_isWork
set_option maxRecDepth 20000 in
theorem iX4_isHour_X4 : ∀ w ∈ u_ws RX4 TX4 25, w ∈ wsX4_isHour := by decide +kernel
def f_X4_isHour (S : St) (a1 : Int32) : Option (Int32) := if a1 < 0 then (some 0) else (if (S.1 0 0 0) ≤ a1 then (some 0) else (some 1))
section DX4_isHour
variable {p : Program} {l : Launch} {e : Env} {s : State} {m : MethodId} {args : Array Value} {below : List Frame} {meth : Method} {c : Code} {D : va_G} {cy : Nat → ClassId} {ad : Nat → Nat} {A : Nat → Prop}
set_option maxHeartbeats 4000000 in
set_option maxRecDepth 100000 in
theorem c_X4_isHour (l : Launch) (D : va_G) (cy : Nat → ClassId) (ad : Nat → Nat) (S : St) (a1 : Int32) {r : Int32}  (hf : f_X4_isHour S a1 = some r) : XMi l D (wM cy ad) (xty cy) yX4_isHour wsX4_isHour ({ frames := 0, cells := 0, slots := 0, locals := 0 } : Room) [.ref (ad 0), .int a1] S r S := by
  refine x_ofWi (cc := cX4_isHour) (maxL := 2) (ret := some .boolean) (own := RX4) rfl (by decide) rfl (Nat.le_of_ble_eq_true rfl) rfl ?_
  intro p e s m args below meth c A C _
  unfold f_X4_isHour at hf
  refine x_iload_n C dX4_isHour_0 rfl 1 rfl ?_
  refine x_if_lt (tgt := 16) C dX4_isHour_1 (by decide) (fun (c_1 : a1 < 0) => ?_) (fun (c_1 : ¬ (a1 < 0)) => ?_)
  · replace hf := x_ip c_1 hf
    refine x_iconst (v := 0) C dX4_isHour_16 (by decide) ?_
    have e9 := x_s1 hf; subst e9
    exact x_zret C rfl dX4_isHour_17
  · replace hf := x_in c_1 hf
    refine x_iload_n C dX4_isHour_4 rfl 1 rfl ?_
    refine x_aload_n C dX4_isHour_5 rfl 0 rfl ?_
    refine x_get (v := .int (S.1 0 0 0)) C iX4_isHour_X4 rfl 0 (gM_root cy ad S) 0 (by decide) (by decide +kernel) rfl rfl dX4_isHour_6 ?_
    refine x_icmp_ge (tgt := 16) C dX4_isHour_9 (by decide) (fun (c_2 : (S.1 0 0 0) ≤ a1) => ?_) (fun (c_2 : ¬ ((S.1 0 0 0) ≤ a1)) => ?_)
    · replace hf := x_ip c_2 hf
      refine x_iconst (v := 0) C dX4_isHour_16 (by decide) ?_
      have e9 := x_s1 hf; subst e9
      exact x_zret C rfl dX4_isHour_17
    · replace hf := x_in c_2 hf
      refine x_iconst (v := 1) C dX4_isHour_12 (by decide) ?_
      refine x_goto (tgt := 17) C dX4_isHour_13 (by decide) ?_
      have e9 := x_s1 hf; subst e9
      exact x_zret C rfl dX4_isHour_17
end DX4_isHour
set_option maxRecDepth 20000 in
theorem iX4_isFixed_X4 : ∀ w ∈ u_ws RX4 TX4 25, w ∈ wsX4_isFixed := by decide +kernel
def f_X4_isFixed (S : St) (a1 : Int32) : Option (Int32) := if a1 < 0 ∨ 4 ≤ a1.toNatClampNeg then none else if (S.1 12 0 a1.toNatClampNeg) = 3 then (some 1) else (if (S.1 12 0 a1.toNatClampNeg) = 4 then (some 1) else (some 0))
section DX4_isFixed
variable {p : Program} {l : Launch} {e : Env} {s : State} {m : MethodId} {args : Array Value} {below : List Frame} {meth : Method} {c : Code} {D : va_G} {cy : Nat → ClassId} {ad : Nat → Nat} {A : Nat → Prop}
set_option maxHeartbeats 4000000 in
set_option maxRecDepth 100000 in
theorem c_X4_isFixed (l : Launch) (D : va_G) (cy : Nat → ClassId) (ad : Nat → Nat) (S : St) (a1 : Int32) {r : Int32}  (hf : f_X4_isFixed S a1 = some r) : XMi l D (wM cy ad) (xty cy) yX4_isFixed wsX4_isFixed ({ frames := 0, cells := 0, slots := 0, locals := 0 } : Room) [.ref (ad 0), .int a1] S r S := by
  refine x_ofWi (cc := cX4_isFixed) (maxL := 2) (ret := some .boolean) (own := RX4) rfl (by decide) rfl (Nat.le_of_ble_eq_true rfl) rfl ?_
  intro p e s m args below meth c A C _
  unfold f_X4_isFixed at hf
  refine x_aload_n C dX4_isFixed_0 rfl 0 rfl ?_
  refine x_get (v := .ref (ad 11)) C iX4_isFixed_X4 rfl 0 (gM_root cy ad S) 12 (by decide) (by decide +kernel) rfl rfl dX4_isFixed_1 ?_
  refine x_iload_n C dX4_isFixed_4 rfl 1 rfl ?_
  obtain ⟨g_1, hf⟩ := x_gd hf
  refine x_iald (f := S.1 12 0) C 11 0 (gM_states cy ad S) rfl g_1 dX4_isFixed_5 ?_
  refine x_iconst (v := 3) C dX4_isFixed_6 (by decide) ?_
  refine x_icmp_eq (tgt := 20) C dX4_isFixed_7 (by decide) (fun (c_2 : (S.1 12 0 a1.toNatClampNeg) = 3) => ?_) (fun (c_2 : ¬ ((S.1 12 0 a1.toNatClampNeg) = 3)) => ?_)
  · replace hf := x_ip c_2 hf
    refine x_iconst (v := 1) C dX4_isFixed_20 (by decide) ?_
    refine x_goto (tgt := 25) C dX4_isFixed_21 (by decide) ?_
    have e9 := x_s1 hf; subst e9
    exact x_zret C rfl dX4_isFixed_25
  · replace hf := x_in c_2 hf
    refine x_aload_n C dX4_isFixed_10 rfl 0 rfl ?_
    refine x_get (v := .ref (ad 11)) C iX4_isFixed_X4 rfl 0 (gM_root cy ad S) 12 (by decide) (by decide +kernel) rfl rfl dX4_isFixed_11 ?_
    refine x_iload_n C dX4_isFixed_14 rfl 1 rfl ?_
    refine x_iald (f := S.1 12 0) C 11 0 (gM_states cy ad S) rfl g_1 dX4_isFixed_15 ?_
    refine x_iconst (v := 4) C dX4_isFixed_16 (by decide) ?_
    refine x_icmp_ne (tgt := 24) C dX4_isFixed_17 (by decide) (fun (c_3 : ¬ ((S.1 12 0 a1.toNatClampNeg) = 4)) => ?_) (fun (c_3 : (S.1 12 0 a1.toNatClampNeg) = 4) => ?_)
    · replace hf := x_in c_3 hf
      refine x_iconst (v := 0) C dX4_isFixed_24 (by decide) ?_
      have e9 := x_s1 hf; subst e9
      exact x_zret C rfl dX4_isFixed_25
    · replace hf := x_ip c_3 hf
      refine x_iconst (v := 1) C dX4_isFixed_20 (by decide) ?_
      refine x_goto (tgt := 25) C dX4_isFixed_21 (by decide) ?_
      have e9 := x_s1 hf; subst e9
      exact x_zret C rfl dX4_isFixed_25
end DX4_isFixed
set_option maxRecDepth 20000 in
theorem iX4_work_X4 : ∀ w ∈ u_ws RX4 TX4 25, w ∈ wsX4_work := by decide +kernel
def f_X4_work (S : St) (a1 : Int32) (a2 : Int32) : Option (Int32 × St) := if (S.1 1 0 0) = 4 then (some ((-1), S)) else ((f_X4_isIn  a1 1 12).bind fun u2 => if u2 = 0 then (some ((-1), S)) else ((f_X4_isIn  a2 0 3).bind fun u5 => if u5 = 0 then (some ((-1), S)) else (if (S.1 1 0 0) < 0 ∨ 4 ≤ (S.1 1 0 0).toNatClampNeg then none else some (((xI (xI (xI (xI (xI (xI (xI S 2 0 ((S.1 1 0 0).toNatClampNeg) a1) 3 0 ((S.1 1 0 0).toNatClampNeg) a2) 8 0 ((S.1 1 0 0).toNatClampNeg) 1) 9 0 ((S.1 1 0 0).toNatClampNeg) 0) 10 0 ((S.1 1 0 0).toNatClampNeg) (S.1 1 0 0)) 13 0 ((S.1 1 0 0).toNatClampNeg) (-1)) 1 0 0 ((S.1 1 0 0) + 1)).1 1 0 0) - 1, (xI (xI (xI (xI (xI (xI (xI S 2 0 ((S.1 1 0 0).toNatClampNeg) a1) 3 0 ((S.1 1 0 0).toNatClampNeg) a2) 8 0 ((S.1 1 0 0).toNatClampNeg) 1) 9 0 ((S.1 1 0 0).toNatClampNeg) 0) 10 0 ((S.1 1 0 0).toNatClampNeg) (S.1 1 0 0)) 13 0 ((S.1 1 0 0).toNatClampNeg) (-1)) 1 0 0 ((S.1 1 0 0) + 1))))))
section DX4_work
variable {p : Program} {l : Launch} {e : Env} {s : State} {m : MethodId} {args : Array Value} {below : List Frame} {meth : Method} {c : Code} {D : va_G} {cy : Nat → ClassId} {ad : Nat → Nat} {A : Nat → Prop}
set_option maxHeartbeats 4000000 in
set_option maxRecDepth 100000 in
theorem c_X4_work (l : Launch) (D : va_G) (cy : Nat → ClassId) (ad : Nat → Nat) (S : St) (a1 : Int32) (a2 : Int32) {r : Int32} {S2 : St}  (hf : f_X4_work S a1 a2 = some (r, S2)) : XMi l D (wM cy ad) (xty cy) yX4_work wsX4_work ({ frames := 1, cells := 0, slots := 0, locals := 22 } : Room) [.ref (ad 0), .int a1, .int a2] S r S2 := by
  refine x_ofWi (cc := cX4_work) (maxL := 3) (ret := some .int) (own := RX4) rfl (by decide) rfl (Nat.le_of_ble_eq_true rfl) rfl ?_
  intro p e s m args below meth c A C _
  unfold f_X4_work at hf
  refine x_aload_n C dX4_work_0 rfl 0 rfl ?_
  refine x_get (v := .int (S.1 1 0 0)) C iX4_work_X4 rfl 0 (gM_root cy ad S) 1 (by decide) (by decide +kernel) rfl rfl dX4_work_1 ?_
  refine x_iconst (v := 4) C dX4_work_4 (by decide) ?_
  refine x_icmp_eq (tgt := 27) C dX4_work_5 (by decide) (fun (c_1 : (S.1 1 0 0) = 4) => ?_) (fun (c_1 : ¬ ((S.1 1 0 0) = 4)) => ?_)
  · replace hf := x_ip c_1 hf
    refine x_iconst (v := (-1)) C dX4_work_27 (by decide) ?_
    obtain ⟨e9, e8⟩ := x_s2 hf; subst e9; subst e8
    exact x_iret C dX4_work_28
  · replace hf := x_in c_1 hf
    refine x_iload_n C dX4_work_8 rfl 1 rfl ?_
    refine x_iconst (v := 1) C dX4_work_9 (by decide) ?_
    refine x_bipush (v := 12) C dX4_work_10 (by decide) ?_
    obtain ⟨u2, h3, hf⟩ := x_bd hf
    refine x_callSi (As := [.int a1, .int 1, .int 12]) (st := []) C (c_X4_isIn l D cy ad (wM cy ad) S a1 1 12  h3) (va_cwS 3 C.2.2.2.2.1 gX4_work_X4_isIn rfl rfl rfl (by decide +kernel) ⟨(by decide), (by decide)⟩) rfl rfl (Nat.le_of_ble_eq_true rfl) dX4_work_12 ?_
    refine x_if_eq (tgt := 27) C dX4_work_15 (by decide) (fun (c_4 : u2 = 0) => ?_) (fun (c_4 : ¬ (u2 = 0)) => ?_)
    · replace hf := x_ip c_4 hf
      refine x_iconst (v := (-1)) C dX4_work_27 (by decide) ?_
      obtain ⟨e9, e8⟩ := x_s2 hf; subst e9; subst e8
      exact x_iret C dX4_work_28
    · replace hf := x_in c_4 hf
      refine x_iload_n C dX4_work_18 rfl 2 rfl ?_
      refine x_iconst (v := 0) C dX4_work_19 (by decide) ?_
      refine x_iconst (v := 3) C dX4_work_20 (by decide) ?_
      obtain ⟨u5, h6, hf⟩ := x_bd hf
      refine x_callSi (As := [.int a2, .int 0, .int 3]) (st := []) C (c_X4_isIn l D cy ad (wM cy ad) S a2 0 3  h6) (va_cwS 3 C.2.2.2.2.1 gX4_work_X4_isIn rfl rfl rfl (by decide +kernel) ⟨(by decide), (by decide)⟩) rfl rfl (Nat.le_of_ble_eq_true rfl) dX4_work_21 ?_
      refine x_if_ne (tgt := 29) C dX4_work_24 (by decide) (fun (c_7 : ¬ (u5 = 0)) => ?_) (fun (c_7 : u5 = 0) => ?_)
      · replace hf := x_in c_7 hf
        refine x_aload_n C dX4_work_29 rfl 0 rfl ?_
        refine x_get (v := .ref (ad 1)) C iX4_work_X4 rfl 0 (gM_root cy ad S) 2 (by decide) (by decide +kernel) rfl rfl dX4_work_30 ?_
        refine x_aload_n C dX4_work_33 rfl 0 rfl ?_
        refine x_get (v := .int (S.1 1 0 0)) C iX4_work_X4 rfl 0 (gM_root cy ad S) 1 (by decide) (by decide +kernel) rfl rfl dX4_work_34 ?_
        refine x_iload_n C dX4_work_37 rfl 1 rfl ?_
        obtain ⟨g_8, hf⟩ := x_gd hf
        refine x_iast (S2 := (xI S 2 0 ((S.1 1 0 0).toNatClampNeg) a1)) C 1 0 (gM_lengths cy ad S) rfl g_8 (sM_lengths cy ad S ((S.1 1 0 0).toNatClampNeg) a1) dX4_work_38 ?_
        refine x_aload_n C dX4_work_39 rfl 0 rfl ?_
        refine x_get (v := .ref (ad 2)) C iX4_work_X4 rfl 0 (gM_root cy ad (xI S 2 0 ((S.1 1 0 0).toNatClampNeg) a1)) 3 (by decide) (by decide +kernel) rfl rfl dX4_work_40 ?_
        refine x_aload_n C dX4_work_43 rfl 0 rfl ?_
        refine x_get (v := .int (S.1 1 0 0)) C iX4_work_X4 rfl 0 (gM_root cy ad (xI S 2 0 ((S.1 1 0 0).toNatClampNeg) a1)) 1 (by decide) (by decide +kernel) rfl rfl dX4_work_44 ?_
        refine x_iload_n C dX4_work_47 rfl 2 rfl ?_
        refine x_iast (S2 := (xI (xI S 2 0 ((S.1 1 0 0).toNatClampNeg) a1) 3 0 ((S.1 1 0 0).toNatClampNeg) a2)) C 2 0 (gM_setUps cy ad (xI S 2 0 ((S.1 1 0 0).toNatClampNeg) a1)) rfl g_8 (sM_setUps cy ad (xI S 2 0 ((S.1 1 0 0).toNatClampNeg) a1) ((S.1 1 0 0).toNatClampNeg) a2) dX4_work_48 ?_
        refine x_aload_n C dX4_work_49 rfl 0 rfl ?_
        refine x_get (v := .ref (ad 7)) C iX4_work_X4 rfl 0 (gM_root cy ad (xI (xI S 2 0 ((S.1 1 0 0).toNatClampNeg) a1) 3 0 ((S.1 1 0 0).toNatClampNeg) a2)) 8 (by decide) (by decide +kernel) rfl rfl dX4_work_50 ?_
        refine x_aload_n C dX4_work_53 rfl 0 rfl ?_
        refine x_get (v := .int (S.1 1 0 0)) C iX4_work_X4 rfl 0 (gM_root cy ad (xI (xI S 2 0 ((S.1 1 0 0).toNatClampNeg) a1) 3 0 ((S.1 1 0 0).toNatClampNeg) a2)) 1 (by decide) (by decide +kernel) rfl rfl dX4_work_54 ?_
        refine x_iconst (v := 1) C dX4_work_57 (by decide) ?_
        refine x_iast (S2 := (xI (xI (xI S 2 0 ((S.1 1 0 0).toNatClampNeg) a1) 3 0 ((S.1 1 0 0).toNatClampNeg) a2) 8 0 ((S.1 1 0 0).toNatClampNeg) 1)) C 7 0 (gM_noiseFrom cy ad (xI (xI S 2 0 ((S.1 1 0 0).toNatClampNeg) a1) 3 0 ((S.1 1 0 0).toNatClampNeg) a2)) rfl g_8 (sM_noiseFrom cy ad (xI (xI S 2 0 ((S.1 1 0 0).toNatClampNeg) a1) 3 0 ((S.1 1 0 0).toNatClampNeg) a2) ((S.1 1 0 0).toNatClampNeg) 1) dX4_work_58 ?_
        refine x_aload_n C dX4_work_59 rfl 0 rfl ?_
        refine x_get (v := .ref (ad 8)) C iX4_work_X4 rfl 0 (gM_root cy ad (xI (xI (xI S 2 0 ((S.1 1 0 0).toNatClampNeg) a1) 3 0 ((S.1 1 0 0).toNatClampNeg) a2) 8 0 ((S.1 1 0 0).toNatClampNeg) 1)) 9 (by decide) (by decide +kernel) rfl rfl dX4_work_60 ?_
        refine x_aload_n C dX4_work_63 rfl 0 rfl ?_
        refine x_get (v := .int (S.1 1 0 0)) C iX4_work_X4 rfl 0 (gM_root cy ad (xI (xI (xI S 2 0 ((S.1 1 0 0).toNatClampNeg) a1) 3 0 ((S.1 1 0 0).toNatClampNeg) a2) 8 0 ((S.1 1 0 0).toNatClampNeg) 1)) 1 (by decide) (by decide +kernel) rfl rfl dX4_work_64 ?_
        refine x_iconst (v := 0) C dX4_work_67 (by decide) ?_
        refine x_iast (S2 := (xI (xI (xI (xI S 2 0 ((S.1 1 0 0).toNatClampNeg) a1) 3 0 ((S.1 1 0 0).toNatClampNeg) a2) 8 0 ((S.1 1 0 0).toNatClampNeg) 1) 9 0 ((S.1 1 0 0).toNatClampNeg) 0)) C 8 0 (gM_noiseTo cy ad (xI (xI (xI S 2 0 ((S.1 1 0 0).toNatClampNeg) a1) 3 0 ((S.1 1 0 0).toNatClampNeg) a2) 8 0 ((S.1 1 0 0).toNatClampNeg) 1)) rfl g_8 (sM_noiseTo cy ad (xI (xI (xI S 2 0 ((S.1 1 0 0).toNatClampNeg) a1) 3 0 ((S.1 1 0 0).toNatClampNeg) a2) 8 0 ((S.1 1 0 0).toNatClampNeg) 1) ((S.1 1 0 0).toNatClampNeg) 0) dX4_work_68 ?_
        refine x_aload_n C dX4_work_69 rfl 0 rfl ?_
        refine x_get (v := .ref (ad 9)) C iX4_work_X4 rfl 0 (gM_root cy ad (xI (xI (xI (xI S 2 0 ((S.1 1 0 0).toNatClampNeg) a1) 3 0 ((S.1 1 0 0).toNatClampNeg) a2) 8 0 ((S.1 1 0 0).toNatClampNeg) 1) 9 0 ((S.1 1 0 0).toNatClampNeg) 0)) 10 (by decide) (by decide +kernel) rfl rfl dX4_work_70 ?_
        refine x_aload_n C dX4_work_73 rfl 0 rfl ?_
        refine x_get (v := .int (S.1 1 0 0)) C iX4_work_X4 rfl 0 (gM_root cy ad (xI (xI (xI (xI S 2 0 ((S.1 1 0 0).toNatClampNeg) a1) 3 0 ((S.1 1 0 0).toNatClampNeg) a2) 8 0 ((S.1 1 0 0).toNatClampNeg) 1) 9 0 ((S.1 1 0 0).toNatClampNeg) 0)) 1 (by decide) (by decide +kernel) rfl rfl dX4_work_74 ?_
        refine x_aload_n C dX4_work_77 rfl 0 rfl ?_
        refine x_get (v := .int (S.1 1 0 0)) C iX4_work_X4 rfl 0 (gM_root cy ad (xI (xI (xI (xI S 2 0 ((S.1 1 0 0).toNatClampNeg) a1) 3 0 ((S.1 1 0 0).toNatClampNeg) a2) 8 0 ((S.1 1 0 0).toNatClampNeg) 1) 9 0 ((S.1 1 0 0).toNatClampNeg) 0)) 1 (by decide) (by decide +kernel) rfl rfl dX4_work_78 ?_
        refine x_iast (S2 := (xI (xI (xI (xI (xI S 2 0 ((S.1 1 0 0).toNatClampNeg) a1) 3 0 ((S.1 1 0 0).toNatClampNeg) a2) 8 0 ((S.1 1 0 0).toNatClampNeg) 1) 9 0 ((S.1 1 0 0).toNatClampNeg) 0) 10 0 ((S.1 1 0 0).toNatClampNeg) (S.1 1 0 0))) C 9 0 (gM_crews cy ad (xI (xI (xI (xI S 2 0 ((S.1 1 0 0).toNatClampNeg) a1) 3 0 ((S.1 1 0 0).toNatClampNeg) a2) 8 0 ((S.1 1 0 0).toNatClampNeg) 1) 9 0 ((S.1 1 0 0).toNatClampNeg) 0)) rfl g_8 (sM_crews cy ad (xI (xI (xI (xI S 2 0 ((S.1 1 0 0).toNatClampNeg) a1) 3 0 ((S.1 1 0 0).toNatClampNeg) a2) 8 0 ((S.1 1 0 0).toNatClampNeg) 1) 9 0 ((S.1 1 0 0).toNatClampNeg) 0) ((S.1 1 0 0).toNatClampNeg) (S.1 1 0 0)) dX4_work_81 ?_
        refine x_aload_n C dX4_work_82 rfl 0 rfl ?_
        refine x_get (v := .ref (ad 12)) C iX4_work_X4 rfl 0 (gM_root cy ad (xI (xI (xI (xI (xI S 2 0 ((S.1 1 0 0).toNatClampNeg) a1) 3 0 ((S.1 1 0 0).toNatClampNeg) a2) 8 0 ((S.1 1 0 0).toNatClampNeg) 1) 9 0 ((S.1 1 0 0).toNatClampNeg) 0) 10 0 ((S.1 1 0 0).toNatClampNeg) (S.1 1 0 0))) 13 (by decide) (by decide +kernel) rfl rfl dX4_work_83 ?_
        refine x_aload_n C dX4_work_86 rfl 0 rfl ?_
        refine x_get (v := .int (S.1 1 0 0)) C iX4_work_X4 rfl 0 (gM_root cy ad (xI (xI (xI (xI (xI S 2 0 ((S.1 1 0 0).toNatClampNeg) a1) 3 0 ((S.1 1 0 0).toNatClampNeg) a2) 8 0 ((S.1 1 0 0).toNatClampNeg) 1) 9 0 ((S.1 1 0 0).toNatClampNeg) 0) 10 0 ((S.1 1 0 0).toNatClampNeg) (S.1 1 0 0))) 1 (by decide) (by decide +kernel) rfl rfl dX4_work_87 ?_
        refine x_iconst (v := (-1)) C dX4_work_90 (by decide) ?_
        refine x_iast (S2 := (xI (xI (xI (xI (xI (xI S 2 0 ((S.1 1 0 0).toNatClampNeg) a1) 3 0 ((S.1 1 0 0).toNatClampNeg) a2) 8 0 ((S.1 1 0 0).toNatClampNeg) 1) 9 0 ((S.1 1 0 0).toNatClampNeg) 0) 10 0 ((S.1 1 0 0).toNatClampNeg) (S.1 1 0 0)) 13 0 ((S.1 1 0 0).toNatClampNeg) (-1))) C 12 0 (gM_starts cy ad (xI (xI (xI (xI (xI S 2 0 ((S.1 1 0 0).toNatClampNeg) a1) 3 0 ((S.1 1 0 0).toNatClampNeg) a2) 8 0 ((S.1 1 0 0).toNatClampNeg) 1) 9 0 ((S.1 1 0 0).toNatClampNeg) 0) 10 0 ((S.1 1 0 0).toNatClampNeg) (S.1 1 0 0))) rfl g_8 (sM_starts cy ad (xI (xI (xI (xI (xI S 2 0 ((S.1 1 0 0).toNatClampNeg) a1) 3 0 ((S.1 1 0 0).toNatClampNeg) a2) 8 0 ((S.1 1 0 0).toNatClampNeg) 1) 9 0 ((S.1 1 0 0).toNatClampNeg) 0) 10 0 ((S.1 1 0 0).toNatClampNeg) (S.1 1 0 0)) ((S.1 1 0 0).toNatClampNeg) (-1)) dX4_work_91 ?_
        refine x_aload_n C dX4_work_92 rfl 0 rfl ?_
        refine x_dup C dX4_work_93 rfl ?_
        refine x_get (v := .int (S.1 1 0 0)) C iX4_work_X4 rfl 0 (gM_root cy ad (xI (xI (xI (xI (xI (xI S 2 0 ((S.1 1 0 0).toNatClampNeg) a1) 3 0 ((S.1 1 0 0).toNatClampNeg) a2) 8 0 ((S.1 1 0 0).toNatClampNeg) 1) 9 0 ((S.1 1 0 0).toNatClampNeg) 0) 10 0 ((S.1 1 0 0).toNatClampNeg) (S.1 1 0 0)) 13 0 ((S.1 1 0 0).toNatClampNeg) (-1))) 1 (by decide) (by decide +kernel) rfl rfl dX4_work_94 ?_
        refine x_iconst (v := 1) C dX4_work_97 (by decide) ?_
        refine x_iadd C dX4_work_98 ?_
        refine x_put (v := .int ((S.1 1 0 0) + 1)) (ty := .int) (S2 := (xI (xI (xI (xI (xI (xI (xI S 2 0 ((S.1 1 0 0).toNatClampNeg) a1) 3 0 ((S.1 1 0 0).toNatClampNeg) a2) 8 0 ((S.1 1 0 0).toNatClampNeg) 1) 9 0 ((S.1 1 0 0).toNatClampNeg) 0) 10 0 ((S.1 1 0 0).toNatClampNeg) (S.1 1 0 0)) 13 0 ((S.1 1 0 0).toNatClampNeg) (-1)) 1 0 0 ((S.1 1 0 0) + 1))) C iX4_work_X4 tyX4 tyX4_ok nmX4 rfl 0 (gM_root cy ad (xI (xI (xI (xI (xI (xI S 2 0 ((S.1 1 0 0).toNatClampNeg) a1) 3 0 ((S.1 1 0 0).toNatClampNeg) a2) 8 0 ((S.1 1 0 0).toNatClampNeg) 1) 9 0 ((S.1 1 0 0).toNatClampNeg) 0) 10 0 ((S.1 1 0 0).toNatClampNeg) (S.1 1 0 0)) 13 0 ((S.1 1 0 0).toNatClampNeg) (-1))) 1 (by decide) (by decide +kernel) rfl rfl (by decide +kernel) rfl rfl (Nat.le_of_ble_eq_true rfl) (sM_f_works cy ad (xI (xI (xI (xI (xI (xI S 2 0 ((S.1 1 0 0).toNatClampNeg) a1) 3 0 ((S.1 1 0 0).toNatClampNeg) a2) 8 0 ((S.1 1 0 0).toNatClampNeg) 1) 9 0 ((S.1 1 0 0).toNatClampNeg) 0) 10 0 ((S.1 1 0 0).toNatClampNeg) (S.1 1 0 0)) 13 0 ((S.1 1 0 0).toNatClampNeg) (-1)) ((S.1 1 0 0) + 1)) dX4_work_99 ?_
        refine x_aload_n C dX4_work_102 rfl 0 rfl ?_
        refine x_get (v := .int ((xI (xI (xI (xI (xI (xI (xI S 2 0 ((S.1 1 0 0).toNatClampNeg) a1) 3 0 ((S.1 1 0 0).toNatClampNeg) a2) 8 0 ((S.1 1 0 0).toNatClampNeg) 1) 9 0 ((S.1 1 0 0).toNatClampNeg) 0) 10 0 ((S.1 1 0 0).toNatClampNeg) (S.1 1 0 0)) 13 0 ((S.1 1 0 0).toNatClampNeg) (-1)) 1 0 0 ((S.1 1 0 0) + 1)).1 1 0 0)) C iX4_work_X4 rfl 0 (gM_root cy ad (xI (xI (xI (xI (xI (xI (xI S 2 0 ((S.1 1 0 0).toNatClampNeg) a1) 3 0 ((S.1 1 0 0).toNatClampNeg) a2) 8 0 ((S.1 1 0 0).toNatClampNeg) 1) 9 0 ((S.1 1 0 0).toNatClampNeg) 0) 10 0 ((S.1 1 0 0).toNatClampNeg) (S.1 1 0 0)) 13 0 ((S.1 1 0 0).toNatClampNeg) (-1)) 1 0 0 ((S.1 1 0 0) + 1))) 1 (by decide) (by decide +kernel) rfl rfl dX4_work_103 ?_
        refine x_iconst (v := 1) C dX4_work_106 (by decide) ?_
        refine x_isub C dX4_work_107 ?_
        obtain ⟨e9, e8⟩ := x_s2 hf; subst e9; subst e8
        exact x_iret C dX4_work_108
      · replace hf := x_ip c_7 hf
        refine x_iconst (v := (-1)) C dX4_work_27 (by decide) ?_
        obtain ⟨e9, e8⟩ := x_s2 hf; subst e9; subst e8
        exact x_iret C dX4_work_28
end DX4_work
set_option maxRecDepth 20000 in
theorem iX4_near_X4 : ∀ w ∈ u_ws RX4 TX4 25, w ∈ wsX4_near := by decide +kernel
def f_X4_near (S : St) (a1 : Int32) (a2 : Int32) (a3 : Int32) : Option (Int32 × St) := (f_X4_isWork S a1).bind fun u1 => if u1 = 0 then (some (0, S)) else ((f_X4_isWork S a2).bind fun u4 => if u4 = 0 then (some (0, S)) else (if a1 = a2 then (some (0, S)) else (if ((4 * a1) + a2) < 0 ∨ 16 ≤ ((4 * a1) + a2).toNatClampNeg then none else if ((4 * a2) + a1) < 0 ∨ 16 ≤ ((4 * a2) + a1).toNatClampNeg then none else some (1, (xI (xI S 4 0 (((4 * a1) + a2).toNatClampNeg) (vp_nar .boolean a3)) 4 0 (((4 * a2) + a1).toNatClampNeg) (vp_nar .boolean a3))))))
section DX4_near
variable {p : Program} {l : Launch} {e : Env} {s : State} {m : MethodId} {args : Array Value} {below : List Frame} {meth : Method} {c : Code} {D : va_G} {cy : Nat → ClassId} {ad : Nat → Nat} {A : Nat → Prop}
set_option maxHeartbeats 4000000 in
set_option maxRecDepth 100000 in
theorem c_X4_near (l : Launch) (D : va_G) (cy : Nat → ClassId) (ad : Nat → Nat) (S : St) (a1 : Int32) (a2 : Int32) (a3 : Int32) {r : Int32} {S2 : St}  (hf : f_X4_near S a1 a2 a3 = some (r, S2)) : XMi l D (wM cy ad) (xty cy) yX4_near wsX4_near ({ frames := 1, cells := 0, slots := 0, locals := 21 } : Room) [.ref (ad 0), .int a1, .int a2, .int a3] S r S2 := by
  refine x_ofWi (cc := cX4_near) (maxL := 4) (ret := some .boolean) (own := RX4) rfl (by decide) rfl (Nat.le_of_ble_eq_true rfl) rfl ?_
  intro p e s m args below meth c A C _
  unfold f_X4_near at hf
  refine x_aload_n C dX4_near_0 rfl 0 rfl ?_
  refine x_iload_n C dX4_near_1 rfl 1 rfl ?_
  obtain ⟨u1, h2, hf⟩ := x_bd hf
  refine x_callVi (As := [.int a1]) (st := []) C (c_X4_isWork l D cy ad S a1  h2) (cwV 1 C.2.2.2.2.1 gX4_near_X4_isWork rfl rfl rfl (by decide +kernel) ⟨(by decide), (by decide)⟩) 0 (gM_root cy ad S) rfl rfl rfl rfl (Nat.le_of_ble_eq_true rfl) dX4_near_2 ?_
  refine x_if_eq (tgt := 21) C dX4_near_5 (by decide) (fun (c_3 : u1 = 0) => ?_) (fun (c_3 : ¬ (u1 = 0)) => ?_)
  · replace hf := x_ip c_3 hf
    refine x_iconst (v := 0) C dX4_near_21 (by decide) ?_
    obtain ⟨e9, e8⟩ := x_s2 hf; subst e9; subst e8
    exact x_zret C rfl dX4_near_22
  · replace hf := x_in c_3 hf
    refine x_aload_n C dX4_near_8 rfl 0 rfl ?_
    refine x_iload_n C dX4_near_9 rfl 2 rfl ?_
    obtain ⟨u4, h5, hf⟩ := x_bd hf
    refine x_callVi (As := [.int a2]) (st := []) C (c_X4_isWork l D cy ad S a2  h5) (cwV 1 C.2.2.2.2.1 gX4_near_X4_isWork rfl rfl rfl (by decide +kernel) ⟨(by decide), (by decide)⟩) 0 (gM_root cy ad S) rfl rfl rfl rfl (Nat.le_of_ble_eq_true rfl) dX4_near_10 ?_
    refine x_if_eq (tgt := 21) C dX4_near_13 (by decide) (fun (c_6 : u4 = 0) => ?_) (fun (c_6 : ¬ (u4 = 0)) => ?_)
    · replace hf := x_ip c_6 hf
      refine x_iconst (v := 0) C dX4_near_21 (by decide) ?_
      obtain ⟨e9, e8⟩ := x_s2 hf; subst e9; subst e8
      exact x_zret C rfl dX4_near_22
    · replace hf := x_in c_6 hf
      refine x_iload_n C dX4_near_16 rfl 1 rfl ?_
      refine x_iload_n C dX4_near_17 rfl 2 rfl ?_
      refine x_icmp_ne (tgt := 23) C dX4_near_18 (by decide) (fun (c_7 : ¬ (a1 = a2)) => ?_) (fun (c_7 : a1 = a2) => ?_)
      · replace hf := x_in c_7 hf
        refine x_aload_n C dX4_near_23 rfl 0 rfl ?_
        refine x_get (v := .ref (ad 3)) C iX4_near_X4 rfl 0 (gM_root cy ad S) 4 (by decide) (by decide +kernel) rfl rfl dX4_near_24 ?_
        refine x_iconst (v := 4) C dX4_near_27 (by decide) ?_
        refine x_iload_n C dX4_near_28 rfl 1 rfl ?_
        refine x_imul C dX4_near_29 ?_
        refine x_iload_n C dX4_near_30 rfl 2 rfl ?_
        refine x_iadd C dX4_near_31 ?_
        refine x_iload_n C dX4_near_32 rfl 3 rfl ?_
        obtain ⟨g_8, hf⟩ := x_gd hf
        refine x_zast (S2 := (xI S 4 0 (((4 * a1) + a2).toNatClampNeg) (vp_nar .boolean a3))) C 3 5 (gM_nears cy ad S) rfl g_8 (sM_nears cy ad S (((4 * a1) + a2).toNatClampNeg) (vp_nar .boolean a3)) dX4_near_33 ?_
        refine x_aload_n C dX4_near_34 rfl 0 rfl ?_
        refine x_get (v := .ref (ad 3)) C iX4_near_X4 rfl 0 (gM_root cy ad (xI S 4 0 (((4 * a1) + a2).toNatClampNeg) (vp_nar .boolean a3))) 4 (by decide) (by decide +kernel) rfl rfl dX4_near_35 ?_
        refine x_iconst (v := 4) C dX4_near_38 (by decide) ?_
        refine x_iload_n C dX4_near_39 rfl 2 rfl ?_
        refine x_imul C dX4_near_40 ?_
        refine x_iload_n C dX4_near_41 rfl 1 rfl ?_
        refine x_iadd C dX4_near_42 ?_
        refine x_iload_n C dX4_near_43 rfl 3 rfl ?_
        obtain ⟨g_9, hf⟩ := x_gd hf
        refine x_zast (S2 := (xI (xI S 4 0 (((4 * a1) + a2).toNatClampNeg) (vp_nar .boolean a3)) 4 0 (((4 * a2) + a1).toNatClampNeg) (vp_nar .boolean a3))) C 3 5 (gM_nears cy ad (xI S 4 0 (((4 * a1) + a2).toNatClampNeg) (vp_nar .boolean a3))) rfl g_9 (sM_nears cy ad (xI S 4 0 (((4 * a1) + a2).toNatClampNeg) (vp_nar .boolean a3)) (((4 * a2) + a1).toNatClampNeg) (vp_nar .boolean a3)) dX4_near_44 ?_
        refine x_iconst (v := 1) C dX4_near_45 (by decide) ?_
        obtain ⟨e9, e8⟩ := x_s2 hf; subst e9; subst e8
        exact x_zret C rfl dX4_near_46
      · replace hf := x_ip c_7 hf
        refine x_iconst (v := 0) C dX4_near_21 (by decide) ?_
        obtain ⟨e9, e8⟩ := x_s2 hf; subst e9; subst e8
        exact x_zret C rfl dX4_near_22
end DX4_near
set_option maxRecDepth 20000 in
theorem iX4_delay_X4 : ∀ w ∈ u_ws RX4 TX4 25, w ∈ wsX4_delay := by decide +kernel
def f_X4_delay (S : St) (a1 : Int32) (a2 : Int32) (a3 : Int32) : Option (Int32 × St) := (f_X4_isWork S a1).bind fun u1 => if u1 = 0 then (some (0, S)) else ((f_X4_isHour S a2).bind fun u4 => if u4 = 0 then (some (0, S)) else ((f_X4_isIn  a3 0 100000).bind fun u7 => if u7 = 0 then (some (0, S)) else (if ((36 * a1) + a2) < 0 ∨ 144 ≤ ((36 * a1) + a2).toNatClampNeg then none else some (1, (xI S 5 0 (((36 * a1) + a2).toNatClampNeg) a3)))))
section DX4_delay
variable {p : Program} {l : Launch} {e : Env} {s : State} {m : MethodId} {args : Array Value} {below : List Frame} {meth : Method} {c : Code} {D : va_G} {cy : Nat → ClassId} {ad : Nat → Nat} {A : Nat → Prop}
set_option maxHeartbeats 4000000 in
set_option maxRecDepth 100000 in
theorem c_X4_delay (l : Launch) (D : va_G) (cy : Nat → ClassId) (ad : Nat → Nat) (S : St) (a1 : Int32) (a2 : Int32) (a3 : Int32) {r : Int32} {S2 : St}  (hf : f_X4_delay S a1 a2 a3 = some (r, S2)) : XMi l D (wM cy ad) (xty cy) yX4_delay wsX4_delay ({ frames := 1, cells := 0, slots := 0, locals := 22 } : Room) [.ref (ad 0), .int a1, .int a2, .int a3] S r S2 := by
  refine x_ofWi (cc := cX4_delay) (maxL := 4) (ret := some .boolean) (own := RX4) rfl (by decide) rfl (Nat.le_of_ble_eq_true rfl) rfl ?_
  intro p e s m args below meth c A C _
  unfold f_X4_delay at hf
  refine x_aload_n C dX4_delay_0 rfl 0 rfl ?_
  refine x_iload_n C dX4_delay_1 rfl 1 rfl ?_
  obtain ⟨u1, h2, hf⟩ := x_bd hf
  refine x_callVi (As := [.int a1]) (st := []) C (c_X4_isWork l D cy ad S a1  h2) (cwV 1 C.2.2.2.2.1 gX4_delay_X4_isWork rfl rfl rfl (by decide +kernel) ⟨(by decide), (by decide)⟩) 0 (gM_root cy ad S) rfl rfl rfl rfl (Nat.le_of_ble_eq_true rfl) dX4_delay_2 ?_
  refine x_if_eq (tgt := 26) C dX4_delay_5 (by decide) (fun (c_3 : u1 = 0) => ?_) (fun (c_3 : ¬ (u1 = 0)) => ?_)
  · replace hf := x_ip c_3 hf
    refine x_iconst (v := 0) C dX4_delay_26 (by decide) ?_
    obtain ⟨e9, e8⟩ := x_s2 hf; subst e9; subst e8
    exact x_zret C rfl dX4_delay_27
  · replace hf := x_in c_3 hf
    refine x_aload_n C dX4_delay_8 rfl 0 rfl ?_
    refine x_iload_n C dX4_delay_9 rfl 2 rfl ?_
    obtain ⟨u4, h5, hf⟩ := x_bd hf
    refine x_callVi (As := [.int a2]) (st := []) C (c_X4_isHour l D cy ad S a2  h5) (cwV 1 C.2.2.2.2.1 gX4_delay_X4_isHour rfl rfl rfl (by decide +kernel) ⟨(by decide), (by decide)⟩) 0 (gM_root cy ad S) rfl rfl rfl rfl (Nat.le_of_ble_eq_true rfl) dX4_delay_10 ?_
    refine x_if_eq (tgt := 26) C dX4_delay_13 (by decide) (fun (c_6 : u4 = 0) => ?_) (fun (c_6 : ¬ (u4 = 0)) => ?_)
    · replace hf := x_ip c_6 hf
      refine x_iconst (v := 0) C dX4_delay_26 (by decide) ?_
      obtain ⟨e9, e8⟩ := x_s2 hf; subst e9; subst e8
      exact x_zret C rfl dX4_delay_27
    · replace hf := x_in c_6 hf
      refine x_iload_n C dX4_delay_16 rfl 3 rfl ?_
      refine x_iconst (v := 0) C dX4_delay_17 (by decide) ?_
      refine x_ldc (v := 100000) C (by decide +kernel) dX4_delay_18 ?_
      obtain ⟨u7, h8, hf⟩ := x_bd hf
      refine x_callSi (As := [.int a3, .int 0, .int 100000]) (st := []) C (c_X4_isIn l D cy ad (wM cy ad) S a3 0 100000  h8) (va_cwS 3 C.2.2.2.2.1 gX4_delay_X4_isIn rfl rfl rfl (by decide +kernel) ⟨(by decide), (by decide)⟩) rfl rfl (Nat.le_of_ble_eq_true rfl) dX4_delay_20 ?_
      refine x_if_ne (tgt := 28) C dX4_delay_23 (by decide) (fun (c_9 : ¬ (u7 = 0)) => ?_) (fun (c_9 : u7 = 0) => ?_)
      · replace hf := x_in c_9 hf
        refine x_aload_n C dX4_delay_28 rfl 0 rfl ?_
        refine x_get (v := .ref (ad 4)) C iX4_delay_X4 rfl 0 (gM_root cy ad S) 5 (by decide) (by decide +kernel) rfl rfl dX4_delay_29 ?_
        refine x_bipush (v := 36) C dX4_delay_32 (by decide) ?_
        refine x_iload_n C dX4_delay_34 rfl 1 rfl ?_
        refine x_imul C dX4_delay_35 ?_
        refine x_iload_n C dX4_delay_36 rfl 2 rfl ?_
        refine x_iadd C dX4_delay_37 ?_
        refine x_iload_n C dX4_delay_38 rfl 3 rfl ?_
        obtain ⟨g_10, hf⟩ := x_gd hf
        refine x_iast (S2 := (xI S 5 0 (((36 * a1) + a2).toNatClampNeg) a3)) C 4 0 (gM_delays cy ad S) rfl g_10 (sM_delays cy ad S (((36 * a1) + a2).toNatClampNeg) a3) dX4_delay_39 ?_
        refine x_iconst (v := 1) C dX4_delay_40 (by decide) ?_
        obtain ⟨e9, e8⟩ := x_s2 hf; subst e9; subst e8
        exact x_zret C rfl dX4_delay_41
      · replace hf := x_ip c_9 hf
        refine x_iconst (v := 0) C dX4_delay_26 (by decide) ?_
        obtain ⟨e9, e8⟩ := x_s2 hf; subst e9; subst e8
        exact x_zret C rfl dX4_delay_27
end DX4_delay
set_option maxRecDepth 20000 in
theorem iX4_night_X4 : ∀ w ∈ u_ws RX4 TX4 25, w ∈ wsX4_night := by decide +kernel
def f_X4_night (S : St) (a1 : Int32) (a2 : Int32) : Option (Int32 × St) := (f_X4_isWork S a1).bind fun u1 => if u1 = 0 then (some (0, S)) else (if a1 < 0 ∨ 4 ≤ a1.toNatClampNeg then none else some (1, (xI S 6 0 a1.toNatClampNeg (vp_nar .boolean a2))))
section DX4_night
variable {p : Program} {l : Launch} {e : Env} {s : State} {m : MethodId} {args : Array Value} {below : List Frame} {meth : Method} {c : Code} {D : va_G} {cy : Nat → ClassId} {ad : Nat → Nat} {A : Nat → Prop}
set_option maxHeartbeats 4000000 in
set_option maxRecDepth 100000 in
theorem c_X4_night (l : Launch) (D : va_G) (cy : Nat → ClassId) (ad : Nat → Nat) (S : St) (a1 : Int32) (a2 : Int32) {r : Int32} {S2 : St}  (hf : f_X4_night S a1 a2 = some (r, S2)) : XMi l D (wM cy ad) (xty cy) yX4_night wsX4_night ({ frames := 1, cells := 0, slots := 0, locals := 21 } : Room) [.ref (ad 0), .int a1, .int a2] S r S2 := by
  refine x_ofWi (cc := cX4_night) (maxL := 3) (ret := some .boolean) (own := RX4) rfl (by decide) rfl (Nat.le_of_ble_eq_true rfl) rfl ?_
  intro p e s m args below meth c A C _
  unfold f_X4_night at hf
  refine x_aload_n C dX4_night_0 rfl 0 rfl ?_
  refine x_iload_n C dX4_night_1 rfl 1 rfl ?_
  obtain ⟨u1, h2, hf⟩ := x_bd hf
  refine x_callVi (As := [.int a1]) (st := []) C (c_X4_isWork l D cy ad S a1  h2) (cwV 1 C.2.2.2.2.1 gX4_night_X4_isWork rfl rfl rfl (by decide +kernel) ⟨(by decide), (by decide)⟩) 0 (gM_root cy ad S) rfl rfl rfl rfl (Nat.le_of_ble_eq_true rfl) dX4_night_2 ?_
  refine x_if_ne (tgt := 10) C dX4_night_5 (by decide) (fun (c_3 : ¬ (u1 = 0)) => ?_) (fun (c_3 : u1 = 0) => ?_)
  · replace hf := x_in c_3 hf
    refine x_aload_n C dX4_night_10 rfl 0 rfl ?_
    refine x_get (v := .ref (ad 5)) C iX4_night_X4 rfl 0 (gM_root cy ad S) 6 (by decide) (by decide +kernel) rfl rfl dX4_night_11 ?_
    refine x_iload_n C dX4_night_14 rfl 1 rfl ?_
    refine x_iload_n C dX4_night_15 rfl 2 rfl ?_
    obtain ⟨g_4, hf⟩ := x_gd hf
    refine x_zast (S2 := (xI S 6 0 a1.toNatClampNeg (vp_nar .boolean a2))) C 5 5 (gM_nights cy ad S) rfl g_4 (sM_nights cy ad S a1.toNatClampNeg (vp_nar .boolean a2)) dX4_night_16 ?_
    refine x_iconst (v := 1) C dX4_night_17 (by decide) ?_
    obtain ⟨e9, e8⟩ := x_s2 hf; subst e9; subst e8
    exact x_zret C rfl dX4_night_18
  · replace hf := x_ip c_3 hf
    refine x_iconst (v := 0) C dX4_night_8 (by decide) ?_
    obtain ⟨e9, e8⟩ := x_s2 hf; subst e9; subst e8
    exact x_zret C rfl dX4_night_9
end DX4_night
set_option maxRecDepth 20000 in
theorem iX4_event_X4 : ∀ w ∈ u_ws RX4 TX4 25, w ∈ wsX4_event := by decide +kernel
def f_X4_event (S : St) (a1 : Int32) (a2 : Int32) (a3 : Int32) : Option (Int32 × St) := (f_X4_isWork S a1).bind fun u1 => if u1 = 0 then (some (0, S)) else ((f_X4_isHour S a2).bind fun u4 => if u4 = 0 then (some (0, S)) else (if ((36 * a1) + a2) < 0 ∨ 144 ≤ ((36 * a1) + a2).toNatClampNeg then none else some (1, (xI S 7 0 (((36 * a1) + a2).toNatClampNeg) (vp_nar .boolean a3)))))
section DX4_event
variable {p : Program} {l : Launch} {e : Env} {s : State} {m : MethodId} {args : Array Value} {below : List Frame} {meth : Method} {c : Code} {D : va_G} {cy : Nat → ClassId} {ad : Nat → Nat} {A : Nat → Prop}
set_option maxHeartbeats 4000000 in
set_option maxRecDepth 100000 in
theorem c_X4_event (l : Launch) (D : va_G) (cy : Nat → ClassId) (ad : Nat → Nat) (S : St) (a1 : Int32) (a2 : Int32) (a3 : Int32) {r : Int32} {S2 : St}  (hf : f_X4_event S a1 a2 a3 = some (r, S2)) : XMi l D (wM cy ad) (xty cy) yX4_event wsX4_event ({ frames := 1, cells := 0, slots := 0, locals := 21 } : Room) [.ref (ad 0), .int a1, .int a2, .int a3] S r S2 := by
  refine x_ofWi (cc := cX4_event) (maxL := 4) (ret := some .boolean) (own := RX4) rfl (by decide) rfl (Nat.le_of_ble_eq_true rfl) rfl ?_
  intro p e s m args below meth c A C _
  unfold f_X4_event at hf
  refine x_aload_n C dX4_event_0 rfl 0 rfl ?_
  refine x_iload_n C dX4_event_1 rfl 1 rfl ?_
  obtain ⟨u1, h2, hf⟩ := x_bd hf
  refine x_callVi (As := [.int a1]) (st := []) C (c_X4_isWork l D cy ad S a1  h2) (cwV 1 C.2.2.2.2.1 gX4_event_X4_isWork rfl rfl rfl (by decide +kernel) ⟨(by decide), (by decide)⟩) 0 (gM_root cy ad S) rfl rfl rfl rfl (Nat.le_of_ble_eq_true rfl) dX4_event_2 ?_
  refine x_if_eq (tgt := 16) C dX4_event_5 (by decide) (fun (c_3 : u1 = 0) => ?_) (fun (c_3 : ¬ (u1 = 0)) => ?_)
  · replace hf := x_ip c_3 hf
    refine x_iconst (v := 0) C dX4_event_16 (by decide) ?_
    obtain ⟨e9, e8⟩ := x_s2 hf; subst e9; subst e8
    exact x_zret C rfl dX4_event_17
  · replace hf := x_in c_3 hf
    refine x_aload_n C dX4_event_8 rfl 0 rfl ?_
    refine x_iload_n C dX4_event_9 rfl 2 rfl ?_
    obtain ⟨u4, h5, hf⟩ := x_bd hf
    refine x_callVi (As := [.int a2]) (st := []) C (c_X4_isHour l D cy ad S a2  h5) (cwV 1 C.2.2.2.2.1 gX4_event_X4_isHour rfl rfl rfl (by decide +kernel) ⟨(by decide), (by decide)⟩) 0 (gM_root cy ad S) rfl rfl rfl rfl (Nat.le_of_ble_eq_true rfl) dX4_event_10 ?_
    refine x_if_ne (tgt := 18) C dX4_event_13 (by decide) (fun (c_6 : ¬ (u4 = 0)) => ?_) (fun (c_6 : u4 = 0) => ?_)
    · replace hf := x_in c_6 hf
      refine x_aload_n C dX4_event_18 rfl 0 rfl ?_
      refine x_get (v := .ref (ad 6)) C iX4_event_X4 rfl 0 (gM_root cy ad S) 7 (by decide) (by decide +kernel) rfl rfl dX4_event_19 ?_
      refine x_bipush (v := 36) C dX4_event_22 (by decide) ?_
      refine x_iload_n C dX4_event_24 rfl 1 rfl ?_
      refine x_imul C dX4_event_25 ?_
      refine x_iload_n C dX4_event_26 rfl 2 rfl ?_
      refine x_iadd C dX4_event_27 ?_
      refine x_iload_n C dX4_event_28 rfl 3 rfl ?_
      obtain ⟨g_7, hf⟩ := x_gd hf
      refine x_zast (S2 := (xI S 7 0 (((36 * a1) + a2).toNatClampNeg) (vp_nar .boolean a3))) C 6 5 (gM_events cy ad S) rfl g_7 (sM_events cy ad S (((36 * a1) + a2).toNatClampNeg) (vp_nar .boolean a3)) dX4_event_29 ?_
      refine x_iconst (v := 1) C dX4_event_30 (by decide) ?_
      obtain ⟨e9, e8⟩ := x_s2 hf; subst e9; subst e8
      exact x_zret C rfl dX4_event_31
    · replace hf := x_ip c_6 hf
      refine x_iconst (v := 0) C dX4_event_16 (by decide) ?_
      obtain ⟨e9, e8⟩ := x_s2 hf; subst e9; subst e8
      exact x_zret C rfl dX4_event_17
end DX4_event
set_option maxRecDepth 20000 in
theorem iX4_noise_X4 : ∀ w ∈ u_ws RX4 TX4 25, w ∈ wsX4_noise := by decide +kernel
def f_X4_noise (S : St) (a1 : Int32) (a2 : Int32) (a3 : Int32) : Option (Int32 × St) := (f_X4_isWork S a1).bind fun u1 => if u1 = 0 then (some (0, S)) else ((f_X4_isHour S a2).bind fun u4 => if u4 = 0 then (some (0, S)) else ((f_X4_isHour S a3).bind fun u7 => if u7 = 0 then (some (0, S)) else (if a1 < 0 ∨ 4 ≤ a1.toNatClampNeg then none else some (1, (xI (xI S 8 0 a1.toNatClampNeg a2) 9 0 a1.toNatClampNeg a3)))))
section DX4_noise
variable {p : Program} {l : Launch} {e : Env} {s : State} {m : MethodId} {args : Array Value} {below : List Frame} {meth : Method} {c : Code} {D : va_G} {cy : Nat → ClassId} {ad : Nat → Nat} {A : Nat → Prop}
set_option maxHeartbeats 4000000 in
set_option maxRecDepth 100000 in
theorem c_X4_noise (l : Launch) (D : va_G) (cy : Nat → ClassId) (ad : Nat → Nat) (S : St) (a1 : Int32) (a2 : Int32) (a3 : Int32) {r : Int32} {S2 : St}  (hf : f_X4_noise S a1 a2 a3 = some (r, S2)) : XMi l D (wM cy ad) (xty cy) yX4_noise wsX4_noise ({ frames := 1, cells := 0, slots := 0, locals := 21 } : Room) [.ref (ad 0), .int a1, .int a2, .int a3] S r S2 := by
  refine x_ofWi (cc := cX4_noise) (maxL := 4) (ret := some .boolean) (own := RX4) rfl (by decide) rfl (Nat.le_of_ble_eq_true rfl) rfl ?_
  intro p e s m args below meth c A C _
  unfold f_X4_noise at hf
  refine x_aload_n C dX4_noise_0 rfl 0 rfl ?_
  refine x_iload_n C dX4_noise_1 rfl 1 rfl ?_
  obtain ⟨u1, h2, hf⟩ := x_bd hf
  refine x_callVi (As := [.int a1]) (st := []) C (c_X4_isWork l D cy ad S a1  h2) (cwV 1 C.2.2.2.2.1 gX4_noise_X4_isWork rfl rfl rfl (by decide +kernel) ⟨(by decide), (by decide)⟩) 0 (gM_root cy ad S) rfl rfl rfl rfl (Nat.le_of_ble_eq_true rfl) dX4_noise_2 ?_
  refine x_if_eq (tgt := 24) C dX4_noise_5 (by decide) (fun (c_3 : u1 = 0) => ?_) (fun (c_3 : ¬ (u1 = 0)) => ?_)
  · replace hf := x_ip c_3 hf
    refine x_iconst (v := 0) C dX4_noise_24 (by decide) ?_
    obtain ⟨e9, e8⟩ := x_s2 hf; subst e9; subst e8
    exact x_zret C rfl dX4_noise_25
  · replace hf := x_in c_3 hf
    refine x_aload_n C dX4_noise_8 rfl 0 rfl ?_
    refine x_iload_n C dX4_noise_9 rfl 2 rfl ?_
    obtain ⟨u4, h5, hf⟩ := x_bd hf
    refine x_callVi (As := [.int a2]) (st := []) C (c_X4_isHour l D cy ad S a2  h5) (cwV 1 C.2.2.2.2.1 gX4_noise_X4_isHour rfl rfl rfl (by decide +kernel) ⟨(by decide), (by decide)⟩) 0 (gM_root cy ad S) rfl rfl rfl rfl (Nat.le_of_ble_eq_true rfl) dX4_noise_10 ?_
    refine x_if_eq (tgt := 24) C dX4_noise_13 (by decide) (fun (c_6 : u4 = 0) => ?_) (fun (c_6 : ¬ (u4 = 0)) => ?_)
    · replace hf := x_ip c_6 hf
      refine x_iconst (v := 0) C dX4_noise_24 (by decide) ?_
      obtain ⟨e9, e8⟩ := x_s2 hf; subst e9; subst e8
      exact x_zret C rfl dX4_noise_25
    · replace hf := x_in c_6 hf
      refine x_aload_n C dX4_noise_16 rfl 0 rfl ?_
      refine x_iload_n C dX4_noise_17 rfl 3 rfl ?_
      obtain ⟨u7, h8, hf⟩ := x_bd hf
      refine x_callVi (As := [.int a3]) (st := []) C (c_X4_isHour l D cy ad S a3  h8) (cwV 1 C.2.2.2.2.1 gX4_noise_X4_isHour rfl rfl rfl (by decide +kernel) ⟨(by decide), (by decide)⟩) 0 (gM_root cy ad S) rfl rfl rfl rfl (Nat.le_of_ble_eq_true rfl) dX4_noise_18 ?_
      refine x_if_ne (tgt := 26) C dX4_noise_21 (by decide) (fun (c_9 : ¬ (u7 = 0)) => ?_) (fun (c_9 : u7 = 0) => ?_)
      · replace hf := x_in c_9 hf
        refine x_aload_n C dX4_noise_26 rfl 0 rfl ?_
        refine x_get (v := .ref (ad 7)) C iX4_noise_X4 rfl 0 (gM_root cy ad S) 8 (by decide) (by decide +kernel) rfl rfl dX4_noise_27 ?_
        refine x_iload_n C dX4_noise_30 rfl 1 rfl ?_
        refine x_iload_n C dX4_noise_31 rfl 2 rfl ?_
        obtain ⟨g_10, hf⟩ := x_gd hf
        refine x_iast (S2 := (xI S 8 0 a1.toNatClampNeg a2)) C 7 0 (gM_noiseFrom cy ad S) rfl g_10 (sM_noiseFrom cy ad S a1.toNatClampNeg a2) dX4_noise_32 ?_
        refine x_aload_n C dX4_noise_33 rfl 0 rfl ?_
        refine x_get (v := .ref (ad 8)) C iX4_noise_X4 rfl 0 (gM_root cy ad (xI S 8 0 a1.toNatClampNeg a2)) 9 (by decide) (by decide +kernel) rfl rfl dX4_noise_34 ?_
        refine x_iload_n C dX4_noise_37 rfl 1 rfl ?_
        refine x_iload_n C dX4_noise_38 rfl 3 rfl ?_
        refine x_iast (S2 := (xI (xI S 8 0 a1.toNatClampNeg a2) 9 0 a1.toNatClampNeg a3)) C 8 0 (gM_noiseTo cy ad (xI S 8 0 a1.toNatClampNeg a2)) rfl g_10 (sM_noiseTo cy ad (xI S 8 0 a1.toNatClampNeg a2) a1.toNatClampNeg a3) dX4_noise_39 ?_
        refine x_iconst (v := 1) C dX4_noise_40 (by decide) ?_
        obtain ⟨e9, e8⟩ := x_s2 hf; subst e9; subst e8
        exact x_zret C rfl dX4_noise_41
      · replace hf := x_ip c_9 hf
        refine x_iconst (v := 0) C dX4_noise_24 (by decide) ?_
        obtain ⟨e9, e8⟩ := x_s2 hf; subst e9; subst e8
        exact x_zret C rfl dX4_noise_25
end DX4_noise
set_option maxRecDepth 20000 in
theorem iX4_crew_X4 : ∀ w ∈ u_ws RX4 TX4 25, w ∈ wsX4_crew := by decide +kernel
def f_X4_crew (S : St) (a1 : Int32) (a2 : Int32) : Option (Int32 × St) := (f_X4_isWork S a1).bind fun u1 => if u1 = 0 then (some (0, S)) else ((f_X4_isIn  a2 0 3).bind fun u4 => if u4 = 0 then (some (0, S)) else (if a1 < 0 ∨ 4 ≤ a1.toNatClampNeg then none else some (1, (xI S 10 0 a1.toNatClampNeg a2))))
section DX4_crew
variable {p : Program} {l : Launch} {e : Env} {s : State} {m : MethodId} {args : Array Value} {below : List Frame} {meth : Method} {c : Code} {D : va_G} {cy : Nat → ClassId} {ad : Nat → Nat} {A : Nat → Prop}
set_option maxHeartbeats 4000000 in
set_option maxRecDepth 100000 in
theorem c_X4_crew (l : Launch) (D : va_G) (cy : Nat → ClassId) (ad : Nat → Nat) (S : St) (a1 : Int32) (a2 : Int32) {r : Int32} {S2 : St}  (hf : f_X4_crew S a1 a2 = some (r, S2)) : XMi l D (wM cy ad) (xty cy) yX4_crew wsX4_crew ({ frames := 1, cells := 0, slots := 0, locals := 22 } : Room) [.ref (ad 0), .int a1, .int a2] S r S2 := by
  refine x_ofWi (cc := cX4_crew) (maxL := 3) (ret := some .boolean) (own := RX4) rfl (by decide) rfl (Nat.le_of_ble_eq_true rfl) rfl ?_
  intro p e s m args below meth c A C _
  unfold f_X4_crew at hf
  refine x_aload_n C dX4_crew_0 rfl 0 rfl ?_
  refine x_iload_n C dX4_crew_1 rfl 1 rfl ?_
  obtain ⟨u1, h2, hf⟩ := x_bd hf
  refine x_callVi (As := [.int a1]) (st := []) C (c_X4_isWork l D cy ad S a1  h2) (cwV 1 C.2.2.2.2.1 gX4_crew_X4_isWork rfl rfl rfl (by decide +kernel) ⟨(by decide), (by decide)⟩) 0 (gM_root cy ad S) rfl rfl rfl rfl (Nat.le_of_ble_eq_true rfl) dX4_crew_2 ?_
  refine x_if_eq (tgt := 17) C dX4_crew_5 (by decide) (fun (c_3 : u1 = 0) => ?_) (fun (c_3 : ¬ (u1 = 0)) => ?_)
  · replace hf := x_ip c_3 hf
    refine x_iconst (v := 0) C dX4_crew_17 (by decide) ?_
    obtain ⟨e9, e8⟩ := x_s2 hf; subst e9; subst e8
    exact x_zret C rfl dX4_crew_18
  · replace hf := x_in c_3 hf
    refine x_iload_n C dX4_crew_8 rfl 2 rfl ?_
    refine x_iconst (v := 0) C dX4_crew_9 (by decide) ?_
    refine x_iconst (v := 3) C dX4_crew_10 (by decide) ?_
    obtain ⟨u4, h5, hf⟩ := x_bd hf
    refine x_callSi (As := [.int a2, .int 0, .int 3]) (st := []) C (c_X4_isIn l D cy ad (wM cy ad) S a2 0 3  h5) (va_cwS 3 C.2.2.2.2.1 gX4_crew_X4_isIn rfl rfl rfl (by decide +kernel) ⟨(by decide), (by decide)⟩) rfl rfl (Nat.le_of_ble_eq_true rfl) dX4_crew_11 ?_
    refine x_if_ne (tgt := 19) C dX4_crew_14 (by decide) (fun (c_6 : ¬ (u4 = 0)) => ?_) (fun (c_6 : u4 = 0) => ?_)
    · replace hf := x_in c_6 hf
      refine x_aload_n C dX4_crew_19 rfl 0 rfl ?_
      refine x_get (v := .ref (ad 9)) C iX4_crew_X4 rfl 0 (gM_root cy ad S) 10 (by decide) (by decide +kernel) rfl rfl dX4_crew_20 ?_
      refine x_iload_n C dX4_crew_23 rfl 1 rfl ?_
      refine x_iload_n C dX4_crew_24 rfl 2 rfl ?_
      obtain ⟨g_7, hf⟩ := x_gd hf
      refine x_iast (S2 := (xI S 10 0 a1.toNatClampNeg a2)) C 9 0 (gM_crews cy ad S) rfl g_7 (sM_crews cy ad S a1.toNatClampNeg a2) dX4_crew_25 ?_
      refine x_iconst (v := 1) C dX4_crew_26 (by decide) ?_
      obtain ⟨e9, e8⟩ := x_s2 hf; subst e9; subst e8
      exact x_zret C rfl dX4_crew_27
    · replace hf := x_ip c_6 hf
      refine x_iconst (v := 0) C dX4_crew_17 (by decide) ?_
      obtain ⟨e9, e8⟩ := x_s2 hf; subst e9; subst e8
      exact x_zret C rfl dX4_crew_18
end DX4_crew
set_option maxRecDepth 20000 in
theorem iX4_rest_X4 : ∀ w ∈ u_ws RX4 TX4 25, w ∈ wsX4_rest := by decide +kernel
def f_X4_rest (S : St) (a1 : Int32) (a2 : Int32) : Option (Int32 × St) := (f_X4_isIn  a1 0 3).bind fun u1 => if u1 = 0 then (some (0, S)) else ((f_X4_isIn  a2 0 36).bind fun u4 => if u4 = 0 then (some (0, S)) else (if a1 < 0 ∨ 4 ≤ a1.toNatClampNeg then none else some (1, (xI S 11 0 a1.toNatClampNeg a2))))
section DX4_rest
variable {p : Program} {l : Launch} {e : Env} {s : State} {m : MethodId} {args : Array Value} {below : List Frame} {meth : Method} {c : Code} {D : va_G} {cy : Nat → ClassId} {ad : Nat → Nat} {A : Nat → Prop}
set_option maxHeartbeats 4000000 in
set_option maxRecDepth 100000 in
theorem c_X4_rest (l : Launch) (D : va_G) (cy : Nat → ClassId) (ad : Nat → Nat) (S : St) (a1 : Int32) (a2 : Int32) {r : Int32} {S2 : St}  (hf : f_X4_rest S a1 a2 = some (r, S2)) : XMi l D (wM cy ad) (xty cy) yX4_rest wsX4_rest ({ frames := 1, cells := 0, slots := 0, locals := 22 } : Room) [.ref (ad 0), .int a1, .int a2] S r S2 := by
  refine x_ofWi (cc := cX4_rest) (maxL := 3) (ret := some .boolean) (own := RX4) rfl (by decide) rfl (Nat.le_of_ble_eq_true rfl) rfl ?_
  intro p e s m args below meth c A C _
  unfold f_X4_rest at hf
  refine x_iload_n C dX4_rest_0 rfl 1 rfl ?_
  refine x_iconst (v := 0) C dX4_rest_1 (by decide) ?_
  refine x_iconst (v := 3) C dX4_rest_2 (by decide) ?_
  obtain ⟨u1, h2, hf⟩ := x_bd hf
  refine x_callSi (As := [.int a1, .int 0, .int 3]) (st := []) C (c_X4_isIn l D cy ad (wM cy ad) S a1 0 3  h2) (va_cwS 3 C.2.2.2.2.1 gX4_rest_X4_isIn rfl rfl rfl (by decide +kernel) ⟨(by decide), (by decide)⟩) rfl rfl (Nat.le_of_ble_eq_true rfl) dX4_rest_3 ?_
  refine x_if_eq (tgt := 19) C dX4_rest_6 (by decide) (fun (c_3 : u1 = 0) => ?_) (fun (c_3 : ¬ (u1 = 0)) => ?_)
  · replace hf := x_ip c_3 hf
    refine x_iconst (v := 0) C dX4_rest_19 (by decide) ?_
    obtain ⟨e9, e8⟩ := x_s2 hf; subst e9; subst e8
    exact x_zret C rfl dX4_rest_20
  · replace hf := x_in c_3 hf
    refine x_iload_n C dX4_rest_9 rfl 2 rfl ?_
    refine x_iconst (v := 0) C dX4_rest_10 (by decide) ?_
    refine x_bipush (v := 36) C dX4_rest_11 (by decide) ?_
    obtain ⟨u4, h5, hf⟩ := x_bd hf
    refine x_callSi (As := [.int a2, .int 0, .int 36]) (st := []) C (c_X4_isIn l D cy ad (wM cy ad) S a2 0 36  h5) (va_cwS 3 C.2.2.2.2.1 gX4_rest_X4_isIn rfl rfl rfl (by decide +kernel) ⟨(by decide), (by decide)⟩) rfl rfl (Nat.le_of_ble_eq_true rfl) dX4_rest_13 ?_
    refine x_if_ne (tgt := 21) C dX4_rest_16 (by decide) (fun (c_6 : ¬ (u4 = 0)) => ?_) (fun (c_6 : u4 = 0) => ?_)
    · replace hf := x_in c_6 hf
      refine x_aload_n C dX4_rest_21 rfl 0 rfl ?_
      refine x_get (v := .ref (ad 10)) C iX4_rest_X4 rfl 0 (gM_root cy ad S) 11 (by decide) (by decide +kernel) rfl rfl dX4_rest_22 ?_
      refine x_iload_n C dX4_rest_25 rfl 1 rfl ?_
      refine x_iload_n C dX4_rest_26 rfl 2 rfl ?_
      obtain ⟨g_7, hf⟩ := x_gd hf
      refine x_iast (S2 := (xI S 11 0 a1.toNatClampNeg a2)) C 10 0 (gM_rests cy ad S) rfl g_7 (sM_rests cy ad S a1.toNatClampNeg a2) dX4_rest_27 ?_
      refine x_iconst (v := 1) C dX4_rest_28 (by decide) ?_
      obtain ⟨e9, e8⟩ := x_s2 hf; subst e9; subst e8
      exact x_zret C rfl dX4_rest_29
    · replace hf := x_ip c_6 hf
      refine x_iconst (v := 0) C dX4_rest_19 (by decide) ?_
      obtain ⟨e9, e8⟩ := x_s2 hf; subst e9; subst e8
      exact x_zret C rfl dX4_rest_20
end DX4_rest
set_option maxRecDepth 20000 in
theorem iX4_rate_X4 : ∀ w ∈ u_ws RX4 TX4 25, w ∈ wsX4_rate := by decide +kernel
def f_X4_rate (S : St) (a1 : Int32) : Option (Int32 × St) := (f_X4_isIn  a1 0 1000000).bind fun u1 => if u1 = 0 then (some (0, S)) else (some (1, (xJ S 0 0 0 (Int32.toInt64 a1))))
section DX4_rate
variable {p : Program} {l : Launch} {e : Env} {s : State} {m : MethodId} {args : Array Value} {below : List Frame} {meth : Method} {c : Code} {D : va_G} {cy : Nat → ClassId} {ad : Nat → Nat} {A : Nat → Prop}
set_option maxHeartbeats 4000000 in
set_option maxRecDepth 100000 in
theorem c_X4_rate (l : Launch) (D : va_G) (cy : Nat → ClassId) (ad : Nat → Nat) (S : St) (a1 : Int32) {r : Int32} {S2 : St}  (hf : f_X4_rate S a1 = some (r, S2)) : XMi l D (wM cy ad) (xty cy) yX4_rate wsX4_rate ({ frames := 1, cells := 0, slots := 0, locals := 22 } : Room) [.ref (ad 0), .int a1] S r S2 := by
  refine x_ofWi (cc := cX4_rate) (maxL := 2) (ret := some .boolean) (own := RX4) rfl (by decide) rfl (Nat.le_of_ble_eq_true rfl) rfl ?_
  intro p e s m args below meth c A C _
  unfold f_X4_rate at hf
  refine x_iload_n C dX4_rate_0 rfl 1 rfl ?_
  refine x_iconst (v := 0) C dX4_rate_1 (by decide) ?_
  refine x_ldc (v := 1000000) C (by decide +kernel) dX4_rate_2 ?_
  obtain ⟨u1, h2, hf⟩ := x_bd hf
  refine x_callSi (As := [.int a1, .int 0, .int 1000000]) (st := []) C (c_X4_isIn l D cy ad (wM cy ad) S a1 0 1000000  h2) (va_cwS 3 C.2.2.2.2.1 gX4_rate_X4_isIn rfl rfl rfl (by decide +kernel) ⟨(by decide), (by decide)⟩) rfl rfl (Nat.le_of_ble_eq_true rfl) dX4_rate_4 ?_
  refine x_if_ne (tgt := 12) C dX4_rate_7 (by decide) (fun (c_3 : ¬ (u1 = 0)) => ?_) (fun (c_3 : u1 = 0) => ?_)
  · replace hf := x_in c_3 hf
    refine x_aload_n C dX4_rate_12 rfl 0 rfl ?_
    refine x_iload_n C dX4_rate_13 rfl 1 rfl ?_
    refine x_i2l C dX4_rate_14 ?_
    refine x_put (v := .long (Int32.toInt64 a1)) (ty := .long) (S2 := (xJ S 0 0 0 (Int32.toInt64 a1))) C iX4_rate_X4 tyX4 tyX4_ok nmX4 rfl 0 (gM_root cy ad S) 24 (by decide) (by decide +kernel) rfl rfl (by decide +kernel) rfl rfl (Nat.le_of_ble_eq_true rfl) (sM_f_cents cy ad S (Int32.toInt64 a1)) dX4_rate_15 ?_
    refine x_iconst (v := 1) C dX4_rate_18 (by decide) ?_
    obtain ⟨e9, e8⟩ := x_s2 hf; subst e9; subst e8
    exact x_zret C rfl dX4_rate_19
  · replace hf := x_ip c_3 hf
    refine x_iconst (v := 0) C dX4_rate_10 (by decide) ?_
    obtain ⟨e9, e8⟩ := x_s2 hf; subst e9; subst e8
    exact x_zret C rfl dX4_rate_11
end DX4_rate
