set_option maxRecDepth 20000 in
theorem iX1_lightestLeft_X1 : ∀ w ∈ u_ws RX1 TX1 10, w ∈ wsX1_lightestLeft := by decide +kernel
def f_X1_lightestLeft_L5  (k5 : St → Int64 → Option (Int64)) : Nat → St → Int32 → Int64 → Int32 → Option (Int64)
  | 0 => fun _ _ _ _ => none
  | n + 1 => fun S x1 x3 x5 => if (S.1 22 0 0) ≤ x5 then (k5 S x3) else (if x1 < 0 ∨ 4 ≤ x1.toNatClampNeg then none else if x5 < 0 ∨ 4 ≤ x5.toNatClampNeg then none else if (lg_cmp (S.2 3 x1.toNatClampNeg x5.toNatClampNeg) 0) = 0 then (some 4611686018427387904) else ((f_X1_lightest S x5 (S.2 3 x1.toNatClampNeg x5.toNatClampNeg)).bind fun u5 => (f_X1_lightestLeft_L5  k5 n) S x1 (x3 + u5) (x5 + 1)))
def f_X1_lightestLeft (S : St) (a1 : Int32) (a2 : Int32) : Option (Int64) := f_X1_lightestLeft_L5  (fun S_7 x3_7 => some x3_7) 1000 S a1 0 a2
section DX1_lightestLeft
variable {p : Program} {l : Launch} {e : Env} {s : State} {m : MethodId} {args : Array Value} {below : List Frame} {meth : Method} {c : Code} {D : va_G} {cy : Nat → ClassId} {ad : Nat → Nat} {A : Nat → Prop}
set_option maxHeartbeats 4000000 in
set_option maxRecDepth 100000 in
theorem t_X1_lightestLeft_L5 (C : XC p s m args meth c D A (xty cy) cX1_lightestLeft 6 RX1 wsX1_lightestLeft (some .long)) {r : Int64}   {k5 : St → Int64 → Option (Int64)} (hk5 : ∀ (S : St) (x3 : Int64), k5 S x3 = some r → XJ p l e ({ frames := 2, cells := 0, slots := 0, locals := 46 } : Room) s m args below meth c D (wC cy ad) A 6 (QXl D (wC cy ad) A below args s r S) S 56 [(3, .long x3)] []) : ∀ (n : Nat), ∀ (S : St) (x1 : Int32) (x3 : Int64) (x5 : Int32), (f_X1_lightestLeft_L5  k5 n) S x1 x3 x5 = some r → XJ p l e ({ frames := 2, cells := 0, slots := 0, locals := 46 } : Room) s m args below meth c D (wC cy ad) A 6 (QXl D (wC cy ad) A below args s r S) S 5 [(0, .ref (ad 4)), (1, .int x1), (3, .long x3), (5, .int x5)] [] := by
  intro n
  induction n with
  | zero => intro S x1 x3 x5 hf; cases hf
  | succ n ih =>
    intro S x1 x3 x5 hf
    rw [f_X1_lightestLeft_L5] at hf
    refine x_iload C dX1_lightestLeft_5 3 rfl ?_
    refine x_aload_n C dX1_lightestLeft_7 rfl 0 rfl ?_
    refine x_get (v := .int (S.1 22 0 0)) C iX1_lightestLeft_X1 rfl 4 (gC_srch cy ad S) 9 (by decide) (by decide +kernel) rfl rfl dX1_lightestLeft_8 ?_
    refine x_icmp_ge (tgt := 56) C dX1_lightestLeft_11 (by decide) (fun (c_1 : (S.1 22 0 0) ≤ x5) => ?_) (fun (c_1 : ¬ ((S.1 22 0 0) ≤ x5)) => ?_)
    · replace hf := x_ip c_1 hf
      refine x_sub [2] rfl ?_
      exact hk5 S x3  hf
    · replace hf := x_in c_1 hf
      refine x_aload_n C dX1_lightestLeft_14 rfl 0 rfl ?_
      refine x_get (v := .ref (ad 14)) C iX1_lightestLeft_X1 rfl 4 (gC_srch cy ad S) 5 (by decide) (by decide +kernel) rfl rfl dX1_lightestLeft_15 ?_
      refine x_iload_n C dX1_lightestLeft_18 rfl 1 rfl ?_
      obtain ⟨g_2, hf⟩ := x_gd hf
      refine x_aald C 14 4 (gC_leftO cy ad S) rfl rfl g_2 rfl dX1_lightestLeft_19 ?_
      refine x_iload C dX1_lightestLeft_20 3 rfl ?_
      obtain ⟨g_3, hf⟩ := x_gd hf
      refine x_lald (f := S.2 3 x1.toNatClampNeg) C (35 + x1.toNatClampNeg) 1 (gC_left cy ad S (x_lt g_2)) rfl g_3 dX1_lightestLeft_22 ?_
      refine x_lconst (v := 0) C dX1_lightestLeft_23 (by decide) ?_
      refine x_lcmp C dX1_lightestLeft_24 ?_
      refine x_if_ne (tgt := 32) C dX1_lightestLeft_25 (by decide) (fun (c_4 : ¬ ((lg_cmp (S.2 3 x1.toNatClampNeg x5.toNatClampNeg) 0) = 0)) => ?_) (fun (c_4 : (lg_cmp (S.2 3 x1.toNatClampNeg x5.toNatClampNeg) 0) = 0) => ?_)
      · replace hf := x_in c_4 hf
        refine x_lload_n C dX1_lightestLeft_32 rfl 2 rfl ?_
        refine x_aload_n C dX1_lightestLeft_33 rfl 0 rfl ?_
        refine x_iload C dX1_lightestLeft_34 3 rfl ?_
        refine x_aload_n C dX1_lightestLeft_36 rfl 0 rfl ?_
        refine x_get (v := .ref (ad 14)) C iX1_lightestLeft_X1 rfl 4 (gC_srch cy ad S) 5 (by decide) (by decide +kernel) rfl rfl dX1_lightestLeft_37 ?_
        refine x_iload_n C dX1_lightestLeft_40 rfl 1 rfl ?_
        refine x_aald C 14 4 (gC_leftO cy ad S) rfl rfl g_2 rfl dX1_lightestLeft_41 ?_
        refine x_iload C dX1_lightestLeft_42 3 rfl ?_
        refine x_lald (f := S.2 3 x1.toNatClampNeg) C (35 + x1.toNatClampNeg) 1 (gC_left cy ad S (x_lt g_2)) rfl g_3 dX1_lightestLeft_44 ?_
        obtain ⟨u5, h6, hf⟩ := x_bd hf
        refine x_callVl (As := [.int x5, .long (S.2 3 x1.toNatClampNeg x5.toNatClampNeg)]) (st := [.long x3]) C (c_X1_lightest l D cy ad S x5 (S.2 3 x1.toNatClampNeg x5.toNatClampNeg)  h6) (cwV 2 C.2.2.2.2.1 gX1_lightestLeft_X1_lightest rfl rfl rfl (by decide +kernel) ⟨(by decide), (by decide)⟩) 4 (gC_srch cy ad S) rfl rfl rfl rfl (Nat.le_of_ble_eq_true rfl) dX1_lightestLeft_45 ?_
        refine x_ladd C dX1_lightestLeft_48 ?_
        refine x_lstore_n (lv2 := [(3, .long (x3 + u5)), (0, .ref (ad 4)), (1, .int x1), (5, .int x5)]) C dX1_lightestLeft_49 rfl (by decide) rfl ?_
        refine x_iinc (v := x5 + 1) (lv2 := [(5, .int (x5 + 1)), (3, .long (x3 + u5)), (0, .ref (ad 4)), (1, .int x1)]) C dX1_lightestLeft_50 (k0 := 3) rfl rfl (by decide) rfl ?_
        refine x_goto (tgt := 5) C dX1_lightestLeft_53 (by decide) ?_
        refine x_sub [2, 3, 1, 0] rfl ?_
        exact ih S x1 (x3 + u5) (x5 + 1)  hf
      · replace hf := x_ip c_4 hf
        refine x_ldc2 (v := 4611686018427387904) C (by decide +kernel) dX1_lightestLeft_28 ?_
        have e9 := x_s1 hf; subst e9
        exact x_lret C dX1_lightestLeft_31
set_option maxHeartbeats 4000000 in
set_option maxRecDepth 100000 in
theorem c_X1_lightestLeft (l : Launch) (D : va_G) (cy : Nat → ClassId) (ad : Nat → Nat) (S : St) (a1 : Int32) (a2 : Int32) {r : Int64}  (hf : f_X1_lightestLeft S a1 a2 = some r) : XMl l D (wC cy ad) (xty cy) yX1_lightestLeft wsX1_lightestLeft ({ frames := 2, cells := 0, slots := 0, locals := 46 } : Room) [.ref (ad 4), .int a1, .int a2] S r S := by
  refine x_ofWl (cc := cX1_lightestLeft) (maxL := 6) (ret := some .long) (own := RX1) rfl (by decide) rfl (Nat.le_of_ble_eq_true rfl) rfl ?_
  intro p e s m args below meth c A C _
  unfold f_X1_lightestLeft at hf
  refine x_lconst (v := 0) C dX1_lightestLeft_0 (by decide) ?_
  refine x_lstore_n (lv2 := [(3, .long 0), (0, .ref (ad 4)), (1, .int a1), (2, .int a2)]) C dX1_lightestLeft_1 rfl (by decide) rfl ?_
  refine x_iload_n C dX1_lightestLeft_2 rfl 3 rfl ?_
  refine x_istore (lv2 := [(5, .int a2), (3, .long 0), (0, .ref (ad 4)), (1, .int a1), (2, .int a2)]) C dX1_lightestLeft_3 (by decide) rfl ?_
  refine x_sub [2, 3, 1, 0] rfl ?_
  refine t_X1_lightestLeft_L5 C  (fun S_7 x3_7  hf => ?_) 1000 S a1 0 a2  hf
  refine x_lload_n C dX1_lightestLeft_56 rfl 0 rfl ?_
  have e9 := x_s1 hf; subst e9
  exact x_lret C dX1_lightestLeft_57
end DX1_lightestLeft
set_option maxRecDepth 20000 in
theorem iX1_narrow_X1 : ∀ w ∈ u_ws RX1 TX1 10, w ∈ wsX1_narrow := by decide +kernel
def f_X1_narrow_L84 (r4 : St → Int32 → Int32 → Int32 → Option (St)) (k4 : St → Option (St)) (S : St) (x1 : Int32) (x2 : Int32) (x3 : Int32) (x5 : Int64) : Option (St) := if (x1 + 1) < 0 ∨ 4 ≤ (x1 + 1).toNatClampNeg then none else if x1 < 0 ∨ 4 ≤ x1.toNatClampNeg then none else if x3 < 0 ∨ 4 ≤ x3.toNatClampNeg then none else r4 (xJ S 3 ((x1 + 1).toNatClampNeg) x3.toNatClampNeg ((S.2 3 x1.toNatClampNeg x3.toNatClampNeg) &&& (x5 ^^^ (-1)))) x1 x2 (x3 + 1)
def f_X1_narrow_L4  (k4 : St → Option (St)) : Nat → St → Int32 → Int32 → Int32 → Option (St)
  | 0 => fun _ _ _ _ => none
  | n + 1 => fun S x1 x2 x3 => if (S.1 22 0 0) ≤ x3 then (k4 S ) else (if x1 < 0 ∨ 4 ≤ x1.toNatClampNeg then none else if x3 < 0 ∨ 4 ≤ x3.toNatClampNeg then none else if (S.1 17 x1.toNatClampNeg x3.toNatClampNeg) = (-1) then (f_X1_narrow_L84 (f_X1_narrow_L4  k4 n) k4 S x1 x2 x3 0) else ((f_X3_bitsFrom  (if (0 : Int32) < (((x2 - (S.1 16 0 x3.toNatClampNeg)) - (S.1 17 x1.toNatClampNeg x3.toNatClampNeg)) + 1) then (((x2 - (S.1 16 0 x3.toNatClampNeg)) - (S.1 17 x1.toNatClampNeg x3.toNatClampNeg)) + 1) else 0) (((if (((x2 + (S.1 16 0 x1.toNatClampNeg)) + (S.1 17 x1.toNatClampNeg x3.toNatClampNeg)) - 1) < 35 then (((x2 + (S.1 16 0 x1.toNatClampNeg)) + (S.1 17 x1.toNatClampNeg x3.toNatClampNeg)) - 1) else 35) - (if (0 : Int32) < (((x2 - (S.1 16 0 x3.toNatClampNeg)) - (S.1 17 x1.toNatClampNeg x3.toNatClampNeg)) + 1) then (((x2 - (S.1 16 0 x3.toNatClampNeg)) - (S.1 17 x1.toNatClampNeg x3.toNatClampNeg)) + 1) else 0)) + 1)).bind fun u8 => f_X1_narrow_L84 (f_X1_narrow_L4  k4 n) k4 S x1 x2 x3 u8))
def f_X1_narrow (S : St) (a1 : Int32) (a2 : Int32) : Option (St) := f_X1_narrow_L4  (fun S_10  => some S_10) 1000 S a1 a2 (a1 + 1)
section DX1_narrow
variable {p : Program} {l : Launch} {e : Env} {s : State} {m : MethodId} {args : Array Value} {below : List Frame} {meth : Method} {c : Code} {D : va_G} {cy : Nat → ClassId} {ad : Nat → Nat} {A : Nat → Prop}
set_option maxHeartbeats 4000000 in
set_option maxRecDepth 100000 in
theorem t_X1_narrow_L84 (C : XC p s m args meth c D A (xty cy) cX1_narrow 9 RX1 wsX1_narrow (none)) {S2 : St} {r4 : St → Int32 → Int32 → Int32 → Option (St)} {k4 : St → Option (St)} (hr4 : ∀ (S : St) (x1 : Int32) (x2 : Int32) (x3 : Int32), r4 S x1 x2 x3 = some S2 → XJ p l e ({ frames := 1, cells := 0, slots := 0, locals := 21 } : Room) s m args below meth c D (wC cy ad) A 9 (QXv D (wC cy ad) A below args s S2) S 4 [(0, .ref (ad 4)), (1, .int x1), (2, .int x2), (3, .int x3)] []) (hk4 : ∀ (S : St) , k4 S  = some S2 → XJ p l e ({ frames := 1, cells := 0, slots := 0, locals := 21 } : Room) s m args below meth c D (wC cy ad) A 9 (QXv D (wC cy ad) A below args s S2) S 115 [] []) (S : St) (x1 : Int32) (x2 : Int32) (x3 : Int32) (x5 : Int64)  (hf : f_X1_narrow_L84 r4 k4 S x1 x2 x3 x5 = some S2) : XJ p l e ({ frames := 1, cells := 0, slots := 0, locals := 21 } : Room) s m args below meth c D (wC cy ad) A 9 (QXv D (wC cy ad) A below args s S2) S 84 [(0, .ref (ad 4)), (1, .int x1), (2, .int x2), (3, .int x3), (5, .long x5)] [] := by
  unfold f_X1_narrow_L84 at hf
  refine x_aload_n C dX1_narrow_84 rfl 0 rfl ?_
  refine x_get (v := .ref (ad 14)) C iX1_narrow_X1 rfl 4 (gC_srch cy ad S) 5 (by decide) (by decide +kernel) rfl rfl dX1_narrow_85 ?_
  refine x_iload_n C dX1_narrow_88 rfl 1 rfl ?_
  refine x_iconst (v := 1) C dX1_narrow_89 (by decide) ?_
  refine x_iadd C dX1_narrow_90 ?_
  obtain ⟨g_5, hf⟩ := x_gd hf
  refine x_aald C 14 4 (gC_leftO cy ad S) rfl rfl g_5 rfl dX1_narrow_91 ?_
  refine x_iload_n C dX1_narrow_92 rfl 3 rfl ?_
  refine x_aload_n C dX1_narrow_93 rfl 0 rfl ?_
  refine x_get (v := .ref (ad 14)) C iX1_narrow_X1 rfl 4 (gC_srch cy ad S) 5 (by decide) (by decide +kernel) rfl rfl dX1_narrow_94 ?_
  refine x_iload_n C dX1_narrow_97 rfl 1 rfl ?_
  obtain ⟨g_6, hf⟩ := x_gd hf
  refine x_aald C 14 4 (gC_leftO cy ad S) rfl rfl g_6 rfl dX1_narrow_98 ?_
  refine x_iload_n C dX1_narrow_99 rfl 3 rfl ?_
  obtain ⟨g_7, hf⟩ := x_gd hf
  refine x_lald (f := S.2 3 x1.toNatClampNeg) C (35 + x1.toNatClampNeg) 1 (gC_left cy ad S (x_lt g_6)) rfl g_7 dX1_narrow_100 ?_
  refine x_lload C dX1_narrow_101 4 rfl ?_
  refine x_ldc2 (v := (-1)) C (by decide +kernel) dX1_narrow_103 ?_
  refine x_lxor C dX1_narrow_106 ?_
  refine x_land C dX1_narrow_107 ?_
  refine x_last (S2 := (xJ S 3 ((x1 + 1).toNatClampNeg) x3.toNatClampNeg ((S.2 3 x1.toNatClampNeg x3.toNatClampNeg) &&& (x5 ^^^ (-1))))) C (35 + ((x1 + 1).toNatClampNeg)) 1 (gC_left cy ad S (x_lt g_5)) rfl g_7 (sC_left cy ad S x3.toNatClampNeg ((S.2 3 x1.toNatClampNeg x3.toNatClampNeg) &&& (x5 ^^^ (-1))) (x_lt g_5)) dX1_narrow_108 ?_
  refine x_iinc (v := x3 + 1) (lv2 := [(3, .int (x3 + 1)), (0, .ref (ad 4)), (1, .int x1), (2, .int x2), (5, .long x5)]) C dX1_narrow_109 (k0 := 3) rfl rfl (by decide) rfl ?_
  refine x_goto (tgt := 4) C dX1_narrow_112 (by decide) ?_
  refine x_sub [1, 2, 3, 0] rfl ?_
  exact hr4 (xJ S 3 ((x1 + 1).toNatClampNeg) x3.toNatClampNeg ((S.2 3 x1.toNatClampNeg x3.toNatClampNeg) &&& (x5 ^^^ (-1)))) x1 x2 (x3 + 1)  hf
set_option maxHeartbeats 4000000 in
set_option maxRecDepth 100000 in
theorem t_X1_narrow_L4 (C : XC p s m args meth c D A (xty cy) cX1_narrow 9 RX1 wsX1_narrow (none)) {S2 : St}   {k4 : St → Option (St)} (hk4 : ∀ (S : St) , k4 S  = some S2 → XJ p l e ({ frames := 1, cells := 0, slots := 0, locals := 21 } : Room) s m args below meth c D (wC cy ad) A 9 (QXv D (wC cy ad) A below args s S2) S 115 [] []) : ∀ (n : Nat), ∀ (S : St) (x1 : Int32) (x2 : Int32) (x3 : Int32), (f_X1_narrow_L4  k4 n) S x1 x2 x3 = some S2 → XJ p l e ({ frames := 1, cells := 0, slots := 0, locals := 21 } : Room) s m args below meth c D (wC cy ad) A 9 (QXv D (wC cy ad) A below args s S2) S 4 [(0, .ref (ad 4)), (1, .int x1), (2, .int x2), (3, .int x3)] [] := by
  intro n
  induction n with
  | zero => intro S x1 x2 x3 hf; cases hf
  | succ n ih =>
    intro S x1 x2 x3 hf
    rw [f_X1_narrow_L4] at hf
    refine x_iload_n C dX1_narrow_4 rfl 3 rfl ?_
    refine x_aload_n C dX1_narrow_5 rfl 0 rfl ?_
    refine x_get (v := .int (S.1 22 0 0)) C iX1_narrow_X1 rfl 4 (gC_srch cy ad S) 9 (by decide) (by decide +kernel) rfl rfl dX1_narrow_6 ?_
    refine x_icmp_ge (tgt := 115) C dX1_narrow_9 (by decide) (fun (c_1 : (S.1 22 0 0) ≤ x3) => ?_) (fun (c_1 : ¬ ((S.1 22 0 0) ≤ x3)) => ?_)
    · replace hf := x_ip c_1 hf
      refine x_sub [] rfl ?_
      exact hk4 S   hf
    · replace hf := x_in c_1 hf
      refine x_aload_n C dX1_narrow_12 rfl 0 rfl ?_
      refine x_get (v := .ref (ad 11)) C iX1_narrow_X1 rfl 4 (gC_srch cy ad S) 1 (by decide) (by decide +kernel) rfl rfl dX1_narrow_13 ?_
      refine x_iload_n C dX1_narrow_16 rfl 1 rfl ?_
      obtain ⟨g_2, hf⟩ := x_gd hf
      refine x_aald C 11 3 (gC_gapsO cy ad S) rfl rfl g_2 rfl dX1_narrow_17 ?_
      refine x_iload_n C dX1_narrow_18 rfl 3 rfl ?_
      obtain ⟨g_3, hf⟩ := x_gd hf
      refine x_iald (f := S.1 17 x1.toNatClampNeg) C (23 + x1.toNatClampNeg) 0 (gC_gaps cy ad S (x_lt g_2)) rfl g_3 dX1_narrow_19 ?_
      refine x_istore (lv2 := [(4, .int (S.1 17 x1.toNatClampNeg x3.toNatClampNeg)), (0, .ref (ad 4)), (1, .int x1), (2, .int x2), (3, .int x3)]) C dX1_narrow_20 (by decide) rfl ?_
      refine x_lconst (v := 0) C dX1_narrow_22 (by decide) ?_
      refine x_lstore (lv2 := [(5, .long 0), (4, .int (S.1 17 x1.toNatClampNeg x3.toNatClampNeg)), (0, .ref (ad 4)), (1, .int x1), (2, .int x2), (3, .int x3)]) C dX1_narrow_23 (by decide) rfl ?_
      refine x_iload C dX1_narrow_25 1 rfl ?_
      refine x_iconst (v := (-1)) C dX1_narrow_27 (by decide) ?_
      refine x_icmp_eq (tgt := 84) C dX1_narrow_28 (by decide) (fun (c_4 : (S.1 17 x1.toNatClampNeg x3.toNatClampNeg) = (-1)) => ?_) (fun (c_4 : ¬ ((S.1 17 x1.toNatClampNeg x3.toNatClampNeg) = (-1))) => ?_)
      · replace hf := x_ip c_4 hf
        refine x_sub [2, 3, 4, 5, 0] rfl ?_
        exact t_X1_narrow_L84 C ih hk4 S x1 x2 x3 0  hf
      · replace hf := x_in c_4 hf
        refine x_iconst (v := 0) C dX1_narrow_31 (by decide) ?_
        refine x_iload_n C dX1_narrow_32 rfl 4 rfl ?_
        refine x_aload_n C dX1_narrow_33 rfl 2 rfl ?_
        refine x_get (v := .ref (ad 7)) C iX1_narrow_X1 rfl 4 (gC_srch cy ad S) 0 (by decide) (by decide +kernel) rfl rfl dX1_narrow_34 ?_
        refine x_iload_n C dX1_narrow_37 rfl 5 rfl ?_
        refine x_iald (f := S.1 16 0) C 7 0 (gC_spans cy ad S) rfl g_3 dX1_narrow_38 ?_
        refine x_isub C dX1_narrow_39 ?_
        refine x_iload C dX1_narrow_40 1 rfl ?_
        refine x_isub C dX1_narrow_42 ?_
        refine x_iconst (v := 1) C dX1_narrow_43 (by decide) ?_
        refine x_iadd C dX1_narrow_44 ?_
        refine x_mmax C (by decide +kernel) (by decide +kernel) (by decide +kernel) (by decide +kernel) (Nat.le_of_ble_eq_true rfl) (Nat.le_of_ble_eq_true rfl) dX1_narrow_45 ?_
        refine x_istore (lv2 := [(7, .int (if (0 : Int32) < (((x2 - (S.1 16 0 x3.toNatClampNeg)) - (S.1 17 x1.toNatClampNeg x3.toNatClampNeg)) + 1) then (((x2 - (S.1 16 0 x3.toNatClampNeg)) - (S.1 17 x1.toNatClampNeg x3.toNatClampNeg)) + 1) else 0)), (5, .long 0), (4, .int (S.1 17 x1.toNatClampNeg x3.toNatClampNeg)), (0, .ref (ad 4)), (1, .int x1), (2, .int x2), (3, .int x3)]) C dX1_narrow_48 (by decide) rfl ?_
        refine x_bipush (v := 35) C dX1_narrow_50 (by decide) ?_
        refine x_iload_n C dX1_narrow_52 rfl 5 rfl ?_
        refine x_aload_n C dX1_narrow_53 rfl 3 rfl ?_
        refine x_get (v := .ref (ad 7)) C iX1_narrow_X1 rfl 4 (gC_srch cy ad S) 0 (by decide) (by decide +kernel) rfl rfl dX1_narrow_54 ?_
        refine x_iload_n C dX1_narrow_57 rfl 4 rfl ?_
        refine x_iald (f := S.1 16 0) C 7 0 (gC_spans cy ad S) rfl g_2 dX1_narrow_58 ?_
        refine x_iadd C dX1_narrow_59 ?_
        refine x_iload C dX1_narrow_60 2 rfl ?_
        refine x_iadd C dX1_narrow_62 ?_
        refine x_iconst (v := 1) C dX1_narrow_63 (by decide) ?_
        refine x_isub C dX1_narrow_64 ?_
        refine x_mmin C (by decide +kernel) (by decide +kernel) (by decide +kernel) (by decide +kernel) (Nat.le_of_ble_eq_true rfl) (Nat.le_of_ble_eq_true rfl) dX1_narrow_65 ?_
        refine x_istore (lv2 := [(8, .int (if (((x2 + (S.1 16 0 x1.toNatClampNeg)) + (S.1 17 x1.toNatClampNeg x3.toNatClampNeg)) - 1) < 35 then (((x2 + (S.1 16 0 x1.toNatClampNeg)) + (S.1 17 x1.toNatClampNeg x3.toNatClampNeg)) - 1) else 35)), (7, .int (if (0 : Int32) < (((x2 - (S.1 16 0 x3.toNatClampNeg)) - (S.1 17 x1.toNatClampNeg x3.toNatClampNeg)) + 1) then (((x2 - (S.1 16 0 x3.toNatClampNeg)) - (S.1 17 x1.toNatClampNeg x3.toNatClampNeg)) + 1) else 0)), (5, .long 0), (4, .int (S.1 17 x1.toNatClampNeg x3.toNatClampNeg)), (0, .ref (ad 4)), (1, .int x1), (2, .int x2), (3, .int x3)]) C dX1_narrow_68 (by decide) rfl ?_
        refine x_iload C dX1_narrow_70 1 rfl ?_
        refine x_iload C dX1_narrow_72 0 rfl ?_
        refine x_iload C dX1_narrow_74 1 rfl ?_
        refine x_isub C dX1_narrow_76 ?_
        refine x_iconst (v := 1) C dX1_narrow_77 (by decide) ?_
        refine x_iadd C dX1_narrow_78 ?_
        obtain ⟨u8, h9, hf⟩ := x_bd hf
        refine x_callSNl (As := [.int (if (0 : Int32) < (((x2 - (S.1 16 0 x3.toNatClampNeg)) - (S.1 17 x1.toNatClampNeg x3.toNatClampNeg)) + 1) then (((x2 - (S.1 16 0 x3.toNatClampNeg)) - (S.1 17 x1.toNatClampNeg x3.toNatClampNeg)) + 1) else 0), .int (((if (((x2 + (S.1 16 0 x1.toNatClampNeg)) + (S.1 17 x1.toNatClampNeg x3.toNatClampNeg)) - 1) < 35 then (((x2 + (S.1 16 0 x1.toNatClampNeg)) + (S.1 17 x1.toNatClampNeg x3.toNatClampNeg)) - 1) else 35) - (if (0 : Int32) < (((x2 - (S.1 16 0 x3.toNatClampNeg)) - (S.1 17 x1.toNatClampNeg x3.toNatClampNeg)) + 1) then (((x2 - (S.1 16 0 x3.toNatClampNeg)) - (S.1 17 x1.toNatClampNeg x3.toNatClampNeg)) + 1) else 0)) + 1)]) (st := []) C (c_X3_bitsFrom l D cy ad (wC cy ad) S (if (0 : Int32) < (((x2 - (S.1 16 0 x3.toNatClampNeg)) - (S.1 17 x1.toNatClampNeg x3.toNatClampNeg)) + 1) then (((x2 - (S.1 16 0 x3.toNatClampNeg)) - (S.1 17 x1.toNatClampNeg x3.toNatClampNeg)) + 1) else 0) (((if (((x2 + (S.1 16 0 x1.toNatClampNeg)) + (S.1 17 x1.toNatClampNeg x3.toNatClampNeg)) - 1) < 35 then (((x2 + (S.1 16 0 x1.toNatClampNeg)) + (S.1 17 x1.toNatClampNeg x3.toNatClampNeg)) - 1) else 35) - (if (0 : Int32) < (((x2 - (S.1 16 0 x3.toNatClampNeg)) - (S.1 17 x1.toNatClampNeg x3.toNatClampNeg)) + 1) then (((x2 - (S.1 16 0 x3.toNatClampNeg)) - (S.1 17 x1.toNatClampNeg x3.toNatClampNeg)) + 1) else 0)) + 1)  h9) ⟨va_cnB 2 C.2.2.2.2.1 gX1_narrow_X3_bitsFrom_n96 rfl rfl rfl (C.2.2.2.2.2.2.2.2.1 (.methodLinkNest RX1 96 yX3_bitsFrom "ClosureHours") (by decide +kernel)) (C.2.2.2.2.1 (.initialized RX3) (by decide +kernel)) (by decide +kernel) ⟨(by decide), (by decide)⟩, C.2.2.2.2.1 (.static yX3_bitsFrom) (by decide +kernel), trivial⟩ rfl rfl (Nat.le_of_ble_eq_true rfl) dX1_narrow_79 ?_
        refine x_lstore (lv2 := [(5, .long u8), (8, .int (if (((x2 + (S.1 16 0 x1.toNatClampNeg)) + (S.1 17 x1.toNatClampNeg x3.toNatClampNeg)) - 1) < 35 then (((x2 + (S.1 16 0 x1.toNatClampNeg)) + (S.1 17 x1.toNatClampNeg x3.toNatClampNeg)) - 1) else 35)), (7, .int (if (0 : Int32) < (((x2 - (S.1 16 0 x3.toNatClampNeg)) - (S.1 17 x1.toNatClampNeg x3.toNatClampNeg)) + 1) then (((x2 - (S.1 16 0 x3.toNatClampNeg)) - (S.1 17 x1.toNatClampNeg x3.toNatClampNeg)) + 1) else 0)), (4, .int (S.1 17 x1.toNatClampNeg x3.toNatClampNeg)), (0, .ref (ad 4)), (1, .int x1), (2, .int x2), (3, .int x3)]) C dX1_narrow_82 (by decide) rfl ?_
        refine x_sub [4, 5, 6, 7, 0] rfl ?_
        exact t_X1_narrow_L84 C ih hk4 S x1 x2 x3 u8  hf
set_option maxHeartbeats 4000000 in
set_option maxRecDepth 100000 in
theorem c_X1_narrow (l : Launch) (D : va_G) (cy : Nat → ClassId) (ad : Nat → Nat) (S : St) (a1 : Int32) (a2 : Int32) {S2 : St}  (hf : f_X1_narrow S a1 a2 = some S2) : XMv l D (wC cy ad) (xty cy) yX1_narrow wsX1_narrow ({ frames := 1, cells := 0, slots := 0, locals := 21 } : Room) [.ref (ad 4), .int a1, .int a2] S S2 := by
  refine x_ofWv (cc := cX1_narrow) (maxL := 9) (ret := none) (own := RX1) rfl (by decide) rfl (Nat.le_of_ble_eq_true rfl) rfl ?_
  intro p e s m args below meth c A C _
  unfold f_X1_narrow at hf
  refine x_iload_n C dX1_narrow_0 rfl 1 rfl ?_
  refine x_iconst (v := 1) C dX1_narrow_1 (by decide) ?_
  refine x_iadd C dX1_narrow_2 ?_
  refine x_istore_n (lv2 := [(3, .int (a1 + 1)), (0, .ref (ad 4)), (1, .int a1), (2, .int a2)]) C dX1_narrow_3 rfl (by decide) rfl ?_
  refine x_sub [1, 2, 3, 0] rfl ?_
  refine t_X1_narrow_L4 C  (fun S_10   hf => ?_) 1000 S a1 a2 (a1 + 1)  hf
  have e9 := x_s1 hf; subst e9
  exact x_vret C dX1_narrow_115
end DX1_narrow
set_option maxRecDepth 20000 in
theorem iX1_place_X1 : ∀ w ∈ u_ws RX1 TX1 10, w ∈ wsX1_place := by decide +kernel
def f_X1_place_L34 (rc : St → Int32 → Int64 → Option St) (k34 : St → Option (St)) : Nat → St → Int32 → Int64 → Int32 → Option (St)
  | 0 => fun _ _ _ _ => none
  | n + 1 => fun S x1 x2 x4 => if x1 < 0 ∨ 4 ≤ x1.toNatClampNeg then none else if (S.1 19 0 x1.toNatClampNeg) ≤ x4 then (k34 S ) else (if x4 < 0 ∨ 36 ≤ x4.toNatClampNeg then none else (f_X3_hasBit  (S.2 3 x1.toNatClampNeg x1.toNatClampNeg) (S.1 18 x1.toNatClampNeg x4.toNatClampNeg)).bind fun u5 => if u5 = 0 then ((f_X1_place_L34 rc k34 n) S x1 x2 (x4 + 1)) else (if (S.1 18 x1.toNatClampNeg x4.toNatClampNeg) < 0 ∨ 36 ≤ (S.1 18 x1.toNatClampNeg x4.toNatClampNeg).toNatClampNeg then none else (f_X1_lightestLeft S x1 (x1 + 1)).bind fun u9 => if (lg_cmp ((x2 + (S.2 2 x1.toNatClampNeg (S.1 18 x1.toNatClampNeg x4.toNatClampNeg).toNatClampNeg)) + u9) (S.2 4 0 0)) < 0 then ((f_X1_narrow (xI S 20 0 x1.toNatClampNeg (S.1 18 x1.toNatClampNeg x4.toNatClampNeg)) x1 (S.1 18 x1.toNatClampNeg x4.toNatClampNeg)).bind fun u12 => (f_X1_lightestLeft u12 (x1 + 1) (x1 + 1)).bind fun u14 => if (0 : Int32) ≤ (lg_cmp ((x2 + (S.2 2 x1.toNatClampNeg (S.1 18 x1.toNatClampNeg x4.toNatClampNeg).toNatClampNeg)) + u14) (u12.2 4 0 0)) then ((f_X1_place_L34 rc k34 n) u12 x1 x2 (x4 + 1)) else ((rc u12 (x1 + 1) (x2 + (S.2 2 x1.toNatClampNeg (S.1 18 x1.toNatClampNeg x4.toNatClampNeg).toNatClampNeg))).bind fun u17 => (f_X1_place_L34 rc k34 n) u17 x1 x2 (x4 + 1))) else (some S)))
def f_X1_place_B (rc : St → Int32 → Int64 → Option St) (S : St) (a1 : Int32) (a2 : Int64) : Option (St) := if a1 < (S.1 22 0 0) then (f_X1_place_L34 rc (fun S_19  => some S_19) 1000 S a1 a2 0) else (if (S.1 22 0 0) < 0 ∨ 4 < (S.1 22 0 0).toNatClampNeg then none else some (xR (xJ S 4 0 0 a2) 21 0 (va_cpy (S.1 20 0) (S.1 21 0) (0 : Int32).toNatClampNeg (0 : Int32).toNatClampNeg (S.1 22 0 0).toNatClampNeg)))
def f_X1_place : Nat → St → Int32 → Int64 → Option St
  | 0 => fun _ _ _ => none
  | d + 1 => fun S a1 a2 => f_X1_place_B (f_X1_place d) S a1 a2
section DX1_place
variable {p : Program} {l : Launch} {e : Env} {s : State} {m : MethodId} {args : Array Value} {below : List Frame} {meth : Method} {c : Code} {D : va_G} {cy : Nat → ClassId} {ad : Nat → Nat} {A : Nat → Prop} {d : Nat}
set_option maxHeartbeats 4000000 in
set_option maxRecDepth 100000 in
theorem t_X1_place_L34 (C : XC p s m args meth c D A (xty cy) cX1_place 8 RX1 wsX1_place (none)) {rc : St → Int32 → Int64 → Option St} (hrc : ∀ (S : St) (a1 : Int32) (a2 : Int64) (S2 : St), rc S a1 a2 = some S2 → XMv l D (wC cy ad) (xty cy) yX1_place wsX1_place (rmP d) [.ref (ad 4), .int a1, .long a2] S S2) {S2 : St}   {k34 : St → Option (St)} (hk34 : ∀ (S : St) , k34 S  = some S2 → XJ p l e (rmP (d + 1)) s m args below meth c D (wC cy ad) A 8 (QXv D (wC cy ad) A below args s S2) S 156 [] []) : ∀ (n : Nat), ∀ (S : St) (x1 : Int32) (x2 : Int64) (x4 : Int32), (f_X1_place_L34 rc k34 n) S x1 x2 x4 = some S2 → XJ p l e (rmP (d + 1)) s m args below meth c D (wC cy ad) A 8 (QXv D (wC cy ad) A below args s S2) S 34 [(0, .ref (ad 4)), (1, .int x1), (2, .long x2), (4, .int x4)] [] := by
  intro n
  induction n with
  | zero => intro S x1 x2 x4 hf; cases hf
  | succ n ih =>
    intro S x1 x2 x4 hf
    rw [f_X1_place_L34] at hf
    refine x_iload C dX1_place_34 3 rfl ?_
    refine x_aload_n C dX1_place_36 rfl 0 rfl ?_
    refine x_get (v := .ref (ad 8)) C iX1_place_X1 rfl 4 (gC_srch cy ad S) 4 (by decide) (by decide +kernel) rfl rfl dX1_place_37 ?_
    refine x_iload_n C dX1_place_40 rfl 1 rfl ?_
    obtain ⟨g_2, hf⟩ := x_gd hf
    refine x_iald (f := S.1 19 0) C 8 0 (gC_offd cy ad S) rfl g_2 dX1_place_41 ?_
    refine x_icmp_ge (tgt := 156) C dX1_place_42 (by decide) (fun (c_3 : (S.1 19 0 x1.toNatClampNeg) ≤ x4) => ?_) (fun (c_3 : ¬ ((S.1 19 0 x1.toNatClampNeg) ≤ x4)) => ?_)
    · replace hf := x_ip c_3 hf
      refine x_sub [] rfl ?_
      exact hk34 S   hf
    · replace hf := x_in c_3 hf
      refine x_aload_n C dX1_place_45 rfl 0 rfl ?_
      refine x_get (v := .ref (ad 13)) C iX1_place_X1 rfl 4 (gC_srch cy ad S) 3 (by decide) (by decide +kernel) rfl rfl dX1_place_46 ?_
      refine x_iload_n C dX1_place_49 rfl 1 rfl ?_
      refine x_aald C 13 3 (gC_ordO cy ad S) rfl rfl g_2 rfl dX1_place_50 ?_
      refine x_iload C dX1_place_51 3 rfl ?_
      obtain ⟨g_4, hf⟩ := x_gd hf
      refine x_iald (f := S.1 18 x1.toNatClampNeg) C (31 + x1.toNatClampNeg) 0 (gC_ord cy ad S (x_lt g_2)) rfl g_4 dX1_place_53 ?_
      refine x_istore (lv2 := [(5, .int (S.1 18 x1.toNatClampNeg x4.toNatClampNeg)), (0, .ref (ad 4)), (1, .int x1), (2, .long x2), (4, .int x4)]) C dX1_place_54 (by decide) rfl ?_
      refine x_aload_n C dX1_place_56 rfl 1 rfl ?_
      refine x_get (v := .ref (ad 14)) C iX1_place_X1 rfl 4 (gC_srch cy ad S) 5 (by decide) (by decide +kernel) rfl rfl dX1_place_57 ?_
      refine x_iload_n C dX1_place_60 rfl 2 rfl ?_
      refine x_aald C 14 4 (gC_leftO cy ad S) rfl rfl g_2 rfl dX1_place_61 ?_
      refine x_iload_n C dX1_place_62 rfl 2 rfl ?_
      refine x_lald (f := S.2 3 x1.toNatClampNeg) C (35 + x1.toNatClampNeg) 1 (gC_left cy ad S (x_lt g_2)) rfl g_2 dX1_place_63 ?_
      refine x_iload C dX1_place_64 0 rfl ?_
      obtain ⟨u5, h6, hf⟩ := x_bd hf
      refine x_callSNi (As := [.long (S.2 3 x1.toNatClampNeg x1.toNatClampNeg), .int (S.1 18 x1.toNatClampNeg x4.toNatClampNeg)]) (st := []) C (c_X3_hasBit l D cy ad (wC cy ad) S (S.2 3 x1.toNatClampNeg x1.toNatClampNeg) (S.1 18 x1.toNatClampNeg x4.toNatClampNeg)  h6) ⟨va_cnB 2 C.2.2.2.2.1 gX1_place_X3_hasBit_n72 rfl rfl rfl (C.2.2.2.2.2.2.2.2.1 (.methodLinkNest RX1 72 yX3_hasBit "ClosureHours") (by decide +kernel)) (C.2.2.2.2.1 (.initialized RX3) (by decide +kernel)) (by decide +kernel) ⟨(by show 0 + 1 ≤ 10 + (d + 1); omega), (by show 8 + (3 + 11) + 0 ≤ 200 + 27 * (d + 1); omega)⟩, C.2.2.2.2.1 (.static yX3_hasBit) (by decide +kernel), trivial⟩ rfl rfl (Nat.le_of_ble_eq_true rfl) dX1_place_66 ?_
      refine x_if_eq (tgt := 150) C dX1_place_69 (by decide) (fun (c_7 : u5 = 0) => ?_) (fun (c_7 : ¬ (u5 = 0)) => ?_)
      · replace hf := x_ip c_7 hf
        refine x_iinc (v := x4 + 1) (lv2 := [(4, .int (x4 + 1)), (5, .int (S.1 18 x1.toNatClampNeg x4.toNatClampNeg)), (0, .ref (ad 4)), (1, .int x1), (2, .long x2)]) C dX1_place_150 (k0 := 4) rfl rfl (by decide) rfl ?_
        refine x_goto (tgt := 34) C dX1_place_153 (by decide) ?_
        refine x_sub [2, 3, 4, 0] rfl ?_
        exact ih S x1 x2 (x4 + 1)  hf
      · replace hf := x_in c_7 hf
        refine x_lload_n C dX1_place_72 rfl 3 rfl ?_
        refine x_aload_n C dX1_place_73 rfl 1 rfl ?_
        refine x_get (v := .ref (ad 12)) C iX1_place_X1 rfl 4 (gC_srch cy ad S) 2 (by decide) (by decide +kernel) rfl rfl dX1_place_74 ?_
        refine x_iload_n C dX1_place_77 rfl 2 rfl ?_
        refine x_aald C 12 4 (gC_weisO cy ad S) rfl rfl g_2 rfl dX1_place_78 ?_
        refine x_iload C dX1_place_79 0 rfl ?_
        obtain ⟨g_8, hf⟩ := x_gd hf
        refine x_lald (f := S.2 2 x1.toNatClampNeg) C (27 + x1.toNatClampNeg) 1 (gC_weis cy ad S (x_lt g_2)) rfl g_8 dX1_place_81 ?_
        refine x_ladd C dX1_place_82 ?_
        refine x_lstore (lv2 := [(6, .long (x2 + (S.2 2 x1.toNatClampNeg (S.1 18 x1.toNatClampNeg x4.toNatClampNeg).toNatClampNeg))), (5, .int (S.1 18 x1.toNatClampNeg x4.toNatClampNeg)), (0, .ref (ad 4)), (1, .int x1), (2, .long x2), (4, .int x4)]) C dX1_place_83 (by decide) rfl ?_
        refine x_lload C dX1_place_85 0 rfl ?_
        refine x_aload_n C dX1_place_87 rfl 2 rfl ?_
        refine x_iload_n C dX1_place_88 rfl 3 rfl ?_
        refine x_iload_n C dX1_place_89 rfl 3 rfl ?_
        refine x_iconst (v := 1) C dX1_place_90 (by decide) ?_
        refine x_iadd C dX1_place_91 ?_
        obtain ⟨u9, h10, hf⟩ := x_bd hf
        refine x_callVl (As := [.int x1, .int (x1 + 1)]) (st := [.long (x2 + (S.2 2 x1.toNatClampNeg (S.1 18 x1.toNatClampNeg x4.toNatClampNeg).toNatClampNeg))]) C (c_X1_lightestLeft l D cy ad S x1 (x1 + 1)  h10) (cwV 2 C.2.2.2.2.1 gX1_place_X1_lightestLeft rfl rfl rfl (by decide +kernel) ⟨(by show 2 + 1 ≤ 10 + (d + 1); omega), (by show 8 + (6 + 11) + 46 ≤ 200 + 27 * (d + 1); omega)⟩) 4 (gC_srch cy ad S) rfl rfl rfl rfl (Nat.le_of_ble_eq_true rfl) dX1_place_92 ?_
        refine x_ladd C dX1_place_95 ?_
        refine x_aload_n C dX1_place_96 rfl 2 rfl ?_
        refine x_get (v := .long (S.2 4 0 0)) C iX1_place_X1 rfl 4 (gC_srch cy ad S) 8 (by decide) (by decide +kernel) rfl rfl dX1_place_97 ?_
        refine x_lcmp C dX1_place_100 ?_
        refine x_if_lt (tgt := 105) C dX1_place_101 (by decide) (fun (c_11 : (lg_cmp ((x2 + (S.2 2 x1.toNatClampNeg (S.1 18 x1.toNatClampNeg x4.toNatClampNeg).toNatClampNeg)) + u9) (S.2 4 0 0)) < 0) => ?_) (fun (c_11 : ¬ ((lg_cmp ((x2 + (S.2 2 x1.toNatClampNeg (S.1 18 x1.toNatClampNeg x4.toNatClampNeg).toNatClampNeg)) + u9) (S.2 4 0 0)) < 0)) => ?_)
        · replace hf := x_ip c_11 hf
          refine x_aload_n C dX1_place_105 rfl 2 rfl ?_
          refine x_get (v := .ref (ad 9)) C iX1_place_X1 rfl 4 (gC_srch cy ad S) 6 (by decide) (by decide +kernel) rfl rfl dX1_place_106 ?_
          refine x_iload_n C dX1_place_109 rfl 3 rfl ?_
          refine x_iload C dX1_place_110 1 rfl ?_
          refine x_iast (S2 := (xI S 20 0 x1.toNatClampNeg (S.1 18 x1.toNatClampNeg x4.toNatClampNeg))) C 9 0 (gC_trial cy ad S) rfl g_2 (sC_trial cy ad S x1.toNatClampNeg (S.1 18 x1.toNatClampNeg x4.toNatClampNeg)) dX1_place_112 ?_
          refine x_aload_n C dX1_place_113 rfl 2 rfl ?_
          refine x_iload_n C dX1_place_114 rfl 3 rfl ?_
          refine x_iload C dX1_place_115 1 rfl ?_
          obtain ⟨u12, h13, hf⟩ := x_bd hf
          refine x_callVv (As := [.int x1, .int (S.1 18 x1.toNatClampNeg x4.toNatClampNeg)]) (st := []) C (c_X1_narrow l D cy ad (xI S 20 0 x1.toNatClampNeg (S.1 18 x1.toNatClampNeg x4.toNatClampNeg)) x1 (S.1 18 x1.toNatClampNeg x4.toNatClampNeg)  h13) (cwV 2 C.2.2.2.2.1 gX1_place_X1_narrow rfl rfl rfl (by decide +kernel) ⟨(by show 1 + 1 ≤ 10 + (d + 1); omega), (by show 8 + (9 + 11) + 21 ≤ 200 + 27 * (d + 1); omega)⟩) 4 (gC_srch cy ad (xI S 20 0 x1.toNatClampNeg (S.1 18 x1.toNatClampNeg x4.toNatClampNeg))) rfl rfl rfl rfl (Nat.le_of_ble_eq_true rfl) dX1_place_117 ?_
          refine x_lload C dX1_place_120 0 rfl ?_
          refine x_aload_n C dX1_place_122 rfl 2 rfl ?_
          refine x_iload_n C dX1_place_123 rfl 3 rfl ?_
          refine x_iconst (v := 1) C dX1_place_124 (by decide) ?_
          refine x_iadd C dX1_place_125 ?_
          refine x_iload_n C dX1_place_126 rfl 3 rfl ?_
          refine x_iconst (v := 1) C dX1_place_127 (by decide) ?_
          refine x_iadd C dX1_place_128 ?_
          obtain ⟨u14, h15, hf⟩ := x_bd hf
          refine x_callVl (As := [.int (x1 + 1), .int (x1 + 1)]) (st := [.long (x2 + (S.2 2 x1.toNatClampNeg (S.1 18 x1.toNatClampNeg x4.toNatClampNeg).toNatClampNeg))]) C (c_X1_lightestLeft l D cy ad u12 (x1 + 1) (x1 + 1)  h15) (cwV 2 C.2.2.2.2.1 gX1_place_X1_lightestLeft rfl rfl rfl (by decide +kernel) ⟨(by show 2 + 1 ≤ 10 + (d + 1); omega), (by show 8 + (6 + 11) + 46 ≤ 200 + 27 * (d + 1); omega)⟩) 4 (gC_srch cy ad u12) rfl rfl rfl rfl (Nat.le_of_ble_eq_true rfl) dX1_place_129 ?_
          refine x_ladd C dX1_place_132 ?_
          refine x_aload_n C dX1_place_133 rfl 2 rfl ?_
          refine x_get (v := .long (u12.2 4 0 0)) C iX1_place_X1 rfl 4 (gC_srch cy ad u12) 8 (by decide) (by decide +kernel) rfl rfl dX1_place_134 ?_
          refine x_lcmp C dX1_place_137 ?_
          refine x_if_ge (tgt := 150) C dX1_place_138 (by decide) (fun (c_16 : (0 : Int32) ≤ (lg_cmp ((x2 + (S.2 2 x1.toNatClampNeg (S.1 18 x1.toNatClampNeg x4.toNatClampNeg).toNatClampNeg)) + u14) (u12.2 4 0 0))) => ?_) (fun (c_16 : ¬ ((0 : Int32) ≤ (lg_cmp ((x2 + (S.2 2 x1.toNatClampNeg (S.1 18 x1.toNatClampNeg x4.toNatClampNeg).toNatClampNeg)) + u14) (u12.2 4 0 0)))) => ?_)
          · replace hf := x_ip c_16 hf
            refine x_iinc (v := x4 + 1) (lv2 := [(4, .int (x4 + 1)), (6, .long (x2 + (S.2 2 x1.toNatClampNeg (S.1 18 x1.toNatClampNeg x4.toNatClampNeg).toNatClampNeg))), (5, .int (S.1 18 x1.toNatClampNeg x4.toNatClampNeg)), (0, .ref (ad 4)), (1, .int x1), (2, .long x2)]) C dX1_place_150 (k0 := 5) rfl rfl (by decide) rfl ?_
            refine x_goto (tgt := 34) C dX1_place_153 (by decide) ?_
            refine x_sub [3, 4, 5, 0] rfl ?_
            exact ih u12 x1 x2 (x4 + 1)  hf
          · replace hf := x_in c_16 hf
            refine x_aload_n C dX1_place_141 rfl 2 rfl ?_
            refine x_iload_n C dX1_place_142 rfl 3 rfl ?_
            refine x_iconst (v := 1) C dX1_place_143 (by decide) ?_
            refine x_iadd C dX1_place_144 ?_
            refine x_lload C dX1_place_145 0 rfl ?_
            obtain ⟨u17, h18, hf⟩ := x_bd hf
            refine x_callVv (As := [.int (x1 + 1), .long (x2 + (S.2 2 x1.toNatClampNeg (S.1 18 x1.toNatClampNeg x4.toNatClampNeg).toNatClampNeg))]) (st := []) C (hrc u12 (x1 + 1) (x2 + (S.2 2 x1.toNatClampNeg (S.1 18 x1.toNatClampNeg x4.toNatClampNeg).toNatClampNeg)) _ h18) (cwV 2 C.2.2.2.2.1 gX1_place_X1_place rfl rfl rfl (by decide +kernel) ⟨(by show 10 + d + 1 ≤ 10 + (d + 1); omega), (by show 8 + (8 + 11) + (200 + 27 * d) ≤ 200 + 27 * (d + 1); omega)⟩) 4 (gC_srch cy ad u12) rfl rfl rfl rfl (Nat.le_of_ble_eq_true rfl) dX1_place_147 ?_
            refine x_iinc (v := x4 + 1) (lv2 := [(4, .int (x4 + 1)), (6, .long (x2 + (S.2 2 x1.toNatClampNeg (S.1 18 x1.toNatClampNeg x4.toNatClampNeg).toNatClampNeg))), (5, .int (S.1 18 x1.toNatClampNeg x4.toNatClampNeg)), (0, .ref (ad 4)), (1, .int x1), (2, .long x2)]) C dX1_place_150 (k0 := 5) rfl rfl (by decide) rfl ?_
            refine x_goto (tgt := 34) C dX1_place_153 (by decide) ?_
            refine x_sub [3, 4, 5, 0] rfl ?_
            exact ih u17 x1 x2 (x4 + 1)  hf
        · replace hf := x_in c_11 hf
          have e9 := x_s1 hf; subst e9
          exact x_vret C dX1_place_104
set_option maxHeartbeats 4000000 in
set_option maxRecDepth 100000 in
theorem c_X1_place : ∀ (d : Nat) (l : Launch) (D : va_G) (cy : Nat → ClassId) (ad : Nat → Nat) (S : St) (a1 : Int32) (a2 : Int64) {S2 : St} (hf : f_X1_place d S a1 a2 = some S2), XMv l D (wC cy ad) (xty cy) yX1_place wsX1_place (rmP d) [.ref (ad 4), .int a1, .long a2] S S2 := by
  intro d
  induction d with
  | zero => intro l D cy ad S a1 a2 S2 hf; cases hf
  | succ d ih =>
  intro l D cy ad S a1 a2 S2 hf
  have hrc : ∀ (S : St) (a1 : Int32) (a2 : Int64) (S2 : St), f_X1_place d S a1 a2 = some S2 → XMv l D (wC cy ad) (xty cy) yX1_place wsX1_place (rmP d) [.ref (ad 4), .int a1, .long a2] S S2 := fun S a1 a2 S2 h => ih l D cy ad S a1 a2 h
  refine x_ofWv (cc := cX1_place) (maxL := 8) (ret := none) (own := RX1) rfl (by decide) rfl (Nat.le_of_ble_eq_true rfl) rfl ?_
  intro p e s m args below meth c A C _
  replace hf : f_X1_place_B (f_X1_place d) S a1 a2 = some S2 := hf
  unfold f_X1_place_B at hf
  refine x_iload_n C dX1_place_0 rfl 1 rfl ?_
  refine x_aload_n C dX1_place_1 rfl 0 rfl ?_
  refine x_get (v := .int (S.1 22 0 0)) C iX1_place_X1 rfl 4 (gC_srch cy ad S) 9 (by decide) (by decide +kernel) rfl rfl dX1_place_2 ?_
  refine x_icmp_lt (tgt := 31) C dX1_place_5 (by decide) (fun (c_1 : a1 < (S.1 22 0 0)) => ?_) (fun (c_1 : ¬ (a1 < (S.1 22 0 0))) => ?_)
  · replace hf := x_ip c_1 hf
    refine x_iconst (v := 0) C dX1_place_31 (by decide) ?_
    refine x_istore (lv2 := [(4, .int 0), (0, .ref (ad 4)), (1, .int a1), (2, .long a2)]) C dX1_place_32 (by decide) rfl ?_
    refine x_sub [1, 2, 3, 0] rfl ?_
    refine t_X1_place_L34 C hrc  (fun S_19   hf => ?_) 1000 S a1 a2 0  hf
    have e9 := x_s1 hf; subst e9
    exact x_vret C dX1_place_156
  · replace hf := x_in c_1 hf
    refine x_aload_n C dX1_place_8 rfl 0 rfl ?_
    refine x_lload_n C dX1_place_9 rfl 2 rfl ?_
    refine x_put (v := .long a2) (ty := .long) (S2 := (xJ S 4 0 0 a2)) C iX1_place_X1 tyX1 tyX1_ok nmX1 rfl 4 (gC_srch cy ad S) 8 (by decide) (by decide +kernel) rfl rfl (by decide +kernel) rfl rfl (Nat.le_of_ble_eq_true rfl) (sC_bestW cy ad S a2) dX1_place_10 ?_
    refine x_aload_n C dX1_place_13 rfl 0 rfl ?_
    refine x_get (v := .ref (ad 9)) C iX1_place_X1 rfl 4 (gC_srch cy ad (xJ S 4 0 0 a2)) 6 (by decide) (by decide +kernel) rfl rfl dX1_place_14 ?_
    refine x_iconst (v := 0) C dX1_place_17 (by decide) ?_
    refine x_aload_n C dX1_place_18 rfl 0 rfl ?_
    refine x_get (v := .ref (ad 10)) C iX1_place_X1 rfl 4 (gC_srch cy ad (xJ S 4 0 0 a2)) 7 (by decide) (by decide +kernel) rfl rfl dX1_place_19 ?_
    refine x_iconst (v := 0) C dX1_place_22 (by decide) ?_
    refine x_aload_n C dX1_place_23 rfl 0 rfl ?_
    refine x_get (v := .int (S.1 22 0 0)) C iX1_place_X1 rfl 4 (gC_srch cy ad (xJ S 4 0 0 a2)) 9 (by decide) (by decide +kernel) rfl rfl dX1_place_24 ?_
    obtain ⟨g_20, hf⟩ := x_gd hf
    refine x_copyi (S2 := (xR (xJ S 4 0 0 a2) 21 0 (va_cpy (S.1 20 0) (S.1 21 0) (0 : Int32).toNatClampNeg (0 : Int32).toNatClampNeg (S.1 22 0 0).toNatClampNeg))) C (by decide +kernel) (by decide +kernel) (by decide +kernel) (by decide +kernel) 9 10 0 0 (gC_trial cy ad (xJ S 4 0 0 a2)) (gC_best cy ad (xJ S 4 0 0 a2)) rfl rfl (by decide) (by decide) (fun q => g_20 (Or.inl q)) (x_cp4 g_20) (x_cp4 g_20) (by show 1 ≤ 10 + (d + 1); omega) (by show _ ≤ 200 + 27 * (d + 1); exact Nat.le_trans (by decide) (Nat.le_add_right 200 _)) (sC_bestR cy ad (xJ S 4 0 0 a2) _) dX1_place_27 ?_
    have e9 := x_s1 hf; subst e9
    exact x_vret C dX1_place_30
end DX1_place
set_option maxRecDepth 20000 in
theorem iX1_solve_X1 : ∀ w ∈ u_ws RX1 TX1 10, w ∈ wsX1_solve := by decide +kernel
def f_X1_solve (S : St)  : Option (Int32 × St) := (f_X1_place 5 S 0 0).bind fun u1 => if (lg_cmp (u1.2 4 0 0) 4611686018427387904) = 0 then (some (0, u1)) else (some (1, u1))
section DX1_solve
variable {p : Program} {l : Launch} {e : Env} {s : State} {m : MethodId} {args : Array Value} {below : List Frame} {meth : Method} {c : Code} {D : va_G} {cy : Nat → ClassId} {ad : Nat → Nat} {A : Nat → Prop}
set_option maxHeartbeats 4000000 in
set_option maxRecDepth 100000 in
theorem c_X1_solve (l : Launch) (D : va_G) (cy : Nat → ClassId) (ad : Nat → Nat) (S : St)  {r : Int32} {S2 : St}  (hf : f_X1_solve S  = some (r, S2)) : XMi l D (wC cy ad) (xty cy) yX1_solve wsX1_solve ({ frames := 16, cells := 0, slots := 0, locals := 362 } : Room) [.ref (ad 4)] S r S2 := by
  refine x_ofWi (cc := cX1_solve) (maxL := 1) (ret := some .boolean) (own := RX1) rfl (by decide) rfl (Nat.le_of_ble_eq_true rfl) rfl ?_
  intro p e s m args below meth c A C _
  unfold f_X1_solve at hf
  refine x_aload_n C dX1_solve_0 rfl 0 rfl ?_
  refine x_iconst (v := 0) C dX1_solve_1 (by decide) ?_
  refine x_lconst (v := 0) C dX1_solve_2 (by decide) ?_
  obtain ⟨u1, h2, hf⟩ := x_bd hf
  refine x_callVv (As := [.int 0, .long 0]) (st := []) C (c_X1_place 5 l D cy ad S 0 0 h2) (cwV 2 C.2.2.2.2.1 gX1_solve_X1_place rfl rfl rfl (by decide +kernel) ⟨(by decide), (by decide)⟩) 4 (gC_srch cy ad S) rfl rfl rfl rfl (Nat.le_of_ble_eq_true rfl) dX1_solve_3 ?_
  refine x_aload_n C dX1_solve_6 rfl 0 rfl ?_
  refine x_get (v := .long (u1.2 4 0 0)) C iX1_solve_X1 rfl 4 (gC_srch cy ad u1) 8 (by decide) (by decide +kernel) rfl rfl dX1_solve_7 ?_
  refine x_ldc2 (v := 4611686018427387904) C (by decide +kernel) dX1_solve_10 ?_
  refine x_lcmp C dX1_solve_13 ?_
  refine x_if_eq (tgt := 21) C dX1_solve_14 (by decide) (fun (c_3 : (lg_cmp (u1.2 4 0 0) 4611686018427387904) = 0) => ?_) (fun (c_3 : ¬ ((lg_cmp (u1.2 4 0 0) 4611686018427387904) = 0)) => ?_)
  · replace hf := x_ip c_3 hf
    refine x_iconst (v := 0) C dX1_solve_21 (by decide) ?_
    obtain ⟨e9, e8⟩ := x_s2 hf; subst e9; subst e8
    exact x_zret C rfl dX1_solve_22
  · replace hf := x_in c_3 hf
    refine x_iconst (v := 1) C dX1_solve_17 (by decide) ?_
    refine x_goto (tgt := 22) C dX1_solve_18 (by decide) ?_
    obtain ⟨e9, e8⟩ := x_s2 hf; subst e9; subst e8
    exact x_zret C rfl dX1_solve_22
end DX1_solve
set_option maxRecDepth 20000 in
theorem iX3_findPlan_X3 : ∀ w ∈ u_ws RX3 TX3 8, w ∈ wsX3_findPlan := by decide +kernel
def f_X3_findPlan_L41 (r13 : St → Int32 → Int32 → Int32 → Option (Int32 × St)) (k13 : St → Option (Int32 × St)) (k41 : St → Int32 → Int32 → Int32 → Option (Int32 × St)) : Nat → St → Int32 → Int32 → Int32 → Int32 → Option (Int32 × St)
  | 0 => fun _ _ _ _ _ => none
  | n + 1 => fun S x1 x2 x3 x4 => if x3 ≤ x4 then (k41 S x1 x2 x3) else ((f_X3_gapBetween S x4 x3).bind fun u10 => (f_X1_setGap S x4 x3 u10).bind fun u12 => (f_X3_findPlan_L41 r13 k13 k41 n) u12 x1 x2 x3 (x4 + 1))
def f_X3_findPlan_L82 (r13 : St → Int32 → Int32 → Int32 → Option (Int32 × St)) (k13 : St → Option (Int32 × St)) (S : St) (x1 : Int32) (x2 : Int32) (x3 : Int32) (y0 : Int32) (y1 : Int32) : Option (Int32 × St) := if x1 = (-1) then ((f_X3_offerStarts S y1 y0 0).bind fun u17 => r13 u17 x1 x2 (x3 + 1)) else (if x3 = x1 then ((f_X3_offerStarts S y1 y0 0).bind fun u20 => r13 u20 x1 x2 (x3 + 1)) else ((f_X3_offerStarts S y1 y0 1).bind fun u22 => r13 u22 x1 x2 (x3 + 1)))
def f_X3_findPlan_L13  (k13 : St → Option (Int32 × St)) : Nat → St → Int32 → Int32 → Int32 → Option (Int32 × St)
  | 0 => fun _ _ _ _ => none
  | n + 1 => fun S x1 x2 x3 => if (S.1 1 0 0) ≤ x3 then (k13 S ) else (if x3 < 0 ∨ 4 ≤ x3.toNatClampNeg then none else (f_X2_span S x3.toNatClampNeg).bind fun u5 => (f_X1_setSpan S x3 u5).bind fun u7 => f_X3_findPlan_L41 (f_X3_findPlan_L13  k13 n) k13 (fun S_14 x1_14 x2_14 x3_14 => if x3_14 = x1_14 then (f_X3_findPlan_L82 (f_X3_findPlan_L13  k13 n) k13 S_14 x1_14 x2_14 x3_14 x2_14 x3_14) else (f_X3_findPlan_L82 (f_X3_findPlan_L13  k13 n) k13 S_14 x1_14 x2_14 x3_14 0 x3_14)) 1000 u7 x1 x2 x3 0)
def f_X3_findPlan (S : St) (a1 : Int32) (a2 : Int32) : Option (Int32 × St) := (f_X1_begin S (S.1 1 0 0)).bind fun u1 => f_X3_findPlan_L13  (fun S_24  => (f_X1_solve S_24 ).bind fun u25 => if ¬ (u25.1 = 0 ∨ u25.1 = 1) then none else some (u25.1, u25.2)) 1000 u1 a1 a2 0
section DX3_findPlan
variable {p : Program} {l : Launch} {e : Env} {s : State} {m : MethodId} {args : Array Value} {below : List Frame} {meth : Method} {c : Code} {D : va_G} {cy : Nat → ClassId} {ad : Nat → Nat} {A : Nat → Prop}
set_option maxHeartbeats 4000000 in
set_option maxRecDepth 100000 in
theorem t_X3_findPlan_L41 (C : XC p s m args meth c D A (xty cy) cX3_findPlan 5 RX3 wsX3_findPlan (some .boolean)) {r : Int32} {S2 : St} {r13 : St → Int32 → Int32 → Int32 → Option (Int32 × St)} {k13 : St → Option (Int32 × St)} (hr13 : ∀ (S : St) (x1 : Int32) (x2 : Int32) (x3 : Int32), r13 S x1 x2 x3 = some (r, S2) → XJ p l e ({ frames := 17, cells := 0, slots := 0, locals := 382 } : Room) s m args below meth c D (wC cy ad) A 5 (QXi D (wC cy ad) A below args s r S2) S 13 [(0, .ref (ad 0)), (1, .int x1), (2, .int x2), (3, .int x3)] []) (hk13 : ∀ (S : St) , k13 S  = some (r, S2) → XJ p l e ({ frames := 17, cells := 0, slots := 0, locals := 382 } : Room) s m args below meth c D (wC cy ad) A 5 (QXi D (wC cy ad) A below args s r S2) S 106 [(0, .ref (ad 0))] []) {k41 : St → Int32 → Int32 → Int32 → Option (Int32 × St)} (hk41 : ∀ (S : St) (x1 : Int32) (x2 : Int32) (x3 : Int32), k41 S x1 x2 x3 = some (r, S2) → XJ p l e ({ frames := 17, cells := 0, slots := 0, locals := 382 } : Room) s m args below meth c D (wC cy ad) A 5 (QXi D (wC cy ad) A below args s r S2) S 70 [(0, .ref (ad 0)), (1, .int x1), (2, .int x2), (3, .int x3)] []) : ∀ (n : Nat), ∀ (S : St) (x1 : Int32) (x2 : Int32) (x3 : Int32) (x4 : Int32), (f_X3_findPlan_L41 r13 k13 k41 n) S x1 x2 x3 x4 = some (r, S2) → XJ p l e ({ frames := 17, cells := 0, slots := 0, locals := 382 } : Room) s m args below meth c D (wC cy ad) A 5 (QXi D (wC cy ad) A below args s r S2) S 41 [(0, .ref (ad 0)), (1, .int x1), (2, .int x2), (3, .int x3), (4, .int x4)] [] := by
  intro n
  induction n with
  | zero => intro S x1 x2 x3 x4 hf; cases hf
  | succ n ih =>
    intro S x1 x2 x3 x4 hf
    rw [f_X3_findPlan_L41] at hf
    refine x_iload C dX3_findPlan_41 4 rfl ?_
    refine x_iload_n C dX3_findPlan_43 rfl 3 rfl ?_
    refine x_icmp_ge (tgt := 70) C dX3_findPlan_44 (by decide) (fun (c_9 : x3 ≤ x4) => ?_) (fun (c_9 : ¬ (x3 ≤ x4)) => ?_)
    · replace hf := x_ip c_9 hf
      refine x_sub [0, 1, 2, 3] rfl ?_
      exact hk41 S x1 x2 x3  hf
    · replace hf := x_in c_9 hf
      refine x_aload_n C dX3_findPlan_47 rfl 0 rfl ?_
      refine x_get (v := .ref (ad 4)) C iX3_findPlan_X3 rfl 0 (gC_root cy ad S) 4 (by decide) (by decide +kernel) rfl rfl dX3_findPlan_48 ?_
      refine x_iload C dX3_findPlan_51 4 rfl ?_
      refine x_iload_n C dX3_findPlan_53 rfl 3 rfl ?_
      refine x_aload_n C dX3_findPlan_54 rfl 0 rfl ?_
      refine x_iload C dX3_findPlan_55 4 rfl ?_
      refine x_iload_n C dX3_findPlan_57 rfl 3 rfl ?_
      obtain ⟨u10, h11, hf⟩ := x_bd hf
      refine x_callVi (As := [.int x4, .int x3]) (st := [.int x3, .int x4, .ref (ad 4)]) C (c_X3_gapBetween l D cy ad S x4 x3  h11) (cwV 2 C.2.2.2.2.1 gX3_findPlan_X3_gapBetween rfl rfl rfl (by decide +kernel) ⟨(by decide), (by decide)⟩) 0 (gC_root cy ad S) rfl rfl rfl rfl (Nat.le_of_ble_eq_true rfl) dX3_findPlan_58 ?_
      obtain ⟨u12, h13, hf⟩ := x_bd hf
      refine x_callVNv (As := [.int x4, .int x3, .int u10]) (st := []) C (c_X1_setGap l D cy ad S x4 x3 u10  h13) ⟨va_cnB 3 C.2.2.2.2.1 gX3_findPlan_X1_setGap_n208 rfl rfl rfl (C.2.2.2.2.2.2.2.2.1 (.methodLinkNest RX3 208 yX1_setGap "ClosureHours") (by decide +kernel)) (C.2.2.2.2.1 (.initialized RX1) (by decide +kernel)) (by decide +kernel) ⟨(by decide), (by decide)⟩, C.2.2.2.2.1 (.instanceMethod yX1_setGap) (by decide +kernel), C.2.2.2.2.1 (.selects RX1 yX1_setGap yX1_setGap) (by decide +kernel)⟩ 4 (gC_srch cy ad S) rfl rfl rfl rfl (Nat.le_of_ble_eq_true rfl) dX3_findPlan_61 ?_
      refine x_iinc (v := x4 + 1) (lv2 := [(4, .int (x4 + 1)), (0, .ref (ad 0)), (1, .int x1), (2, .int x2), (3, .int x3)]) C dX3_findPlan_64 (k0 := 4) rfl rfl (by decide) rfl ?_
      refine x_goto (tgt := 41) C dX3_findPlan_67 (by decide) ?_
      refine x_sub [1, 2, 3, 4, 0] rfl ?_
      exact ih u12 x1 x2 x3 (x4 + 1)  hf
set_option maxHeartbeats 4000000 in
set_option maxRecDepth 100000 in
theorem t_X3_findPlan_L82 (C : XC p s m args meth c D A (xty cy) cX3_findPlan 5 RX3 wsX3_findPlan (some .boolean)) {r : Int32} {S2 : St} {r13 : St → Int32 → Int32 → Int32 → Option (Int32 × St)} {k13 : St → Option (Int32 × St)} (hr13 : ∀ (S : St) (x1 : Int32) (x2 : Int32) (x3 : Int32), r13 S x1 x2 x3 = some (r, S2) → XJ p l e ({ frames := 17, cells := 0, slots := 0, locals := 382 } : Room) s m args below meth c D (wC cy ad) A 5 (QXi D (wC cy ad) A below args s r S2) S 13 [(0, .ref (ad 0)), (1, .int x1), (2, .int x2), (3, .int x3)] []) (hk13 : ∀ (S : St) , k13 S  = some (r, S2) → XJ p l e ({ frames := 17, cells := 0, slots := 0, locals := 382 } : Room) s m args below meth c D (wC cy ad) A 5 (QXi D (wC cy ad) A below args s r S2) S 106 [(0, .ref (ad 0))] []) (S : St) (x1 : Int32) (x2 : Int32) (x3 : Int32) (y0 : Int32) (y1 : Int32)  (hf : f_X3_findPlan_L82 r13 k13 S x1 x2 x3 y0 y1 = some (r, S2)) : XJ p l e ({ frames := 17, cells := 0, slots := 0, locals := 382 } : Room) s m args below meth c D (wC cy ad) A 5 (QXi D (wC cy ad) A below args s r S2) S 82 [(0, .ref (ad 0)), (1, .int x1), (2, .int x2), (3, .int x3)] [.int y0, .int y1, .ref (ad 0)] := by
  unfold f_X3_findPlan_L82 at hf
  refine x_iload_n C dX3_findPlan_82 rfl 1 rfl ?_
  refine x_iconst (v := (-1)) C dX3_findPlan_83 (by decide) ?_
  refine x_icmp_eq (tgt := 96) C dX3_findPlan_84 (by decide) (fun (c_16 : x1 = (-1)) => ?_) (fun (c_16 : ¬ (x1 = (-1))) => ?_)
  · replace hf := x_ip c_16 hf
    refine x_iconst (v := 0) C dX3_findPlan_96 (by decide) ?_
    obtain ⟨u17, h18, hf⟩ := x_bd hf
    refine x_callVv (As := [.int y1, .int y0, .int 0]) (st := []) C (c_X3_offerStarts l D cy ad S y1 y0 0  h18) (cwV 3 C.2.2.2.2.1 gX3_findPlan_X3_offerStarts rfl rfl rfl (by decide +kernel) ⟨(by decide), (by decide)⟩) 0 (gC_root cy ad S) rfl rfl rfl rfl (Nat.le_of_ble_eq_true rfl) dX3_findPlan_97 ?_
    refine x_iinc (v := x3 + 1) (lv2 := [(3, .int (x3 + 1)), (0, .ref (ad 0)), (1, .int x1), (2, .int x2)]) C dX3_findPlan_100 (k0 := 3) rfl rfl (by decide) rfl ?_
    refine x_goto (tgt := 13) C dX3_findPlan_103 (by decide) ?_
    refine x_sub [1, 2, 3, 0] rfl ?_
    exact hr13 u17 x1 x2 (x3 + 1)  hf
  · replace hf := x_in c_16 hf
    refine x_iload_n C dX3_findPlan_87 rfl 3 rfl ?_
    refine x_iload_n C dX3_findPlan_88 rfl 1 rfl ?_
    refine x_icmp_eq (tgt := 96) C dX3_findPlan_89 (by decide) (fun (c_19 : x3 = x1) => ?_) (fun (c_19 : ¬ (x3 = x1)) => ?_)
    · replace hf := x_ip c_19 hf
      refine x_iconst (v := 0) C dX3_findPlan_96 (by decide) ?_
      obtain ⟨u20, h21, hf⟩ := x_bd hf
      refine x_callVv (As := [.int y1, .int y0, .int 0]) (st := []) C (c_X3_offerStarts l D cy ad S y1 y0 0  h21) (cwV 3 C.2.2.2.2.1 gX3_findPlan_X3_offerStarts rfl rfl rfl (by decide +kernel) ⟨(by decide), (by decide)⟩) 0 (gC_root cy ad S) rfl rfl rfl rfl (Nat.le_of_ble_eq_true rfl) dX3_findPlan_97 ?_
      refine x_iinc (v := x3 + 1) (lv2 := [(3, .int (x3 + 1)), (0, .ref (ad 0)), (1, .int x1), (2, .int x2)]) C dX3_findPlan_100 (k0 := 3) rfl rfl (by decide) rfl ?_
      refine x_goto (tgt := 13) C dX3_findPlan_103 (by decide) ?_
      refine x_sub [1, 2, 3, 0] rfl ?_
      exact hr13 u20 x1 x2 (x3 + 1)  hf
    · replace hf := x_in c_19 hf
      refine x_iconst (v := 1) C dX3_findPlan_92 (by decide) ?_
      refine x_goto (tgt := 97) C dX3_findPlan_93 (by decide) ?_
      obtain ⟨u22, h23, hf⟩ := x_bd hf
      refine x_callVv (As := [.int y1, .int y0, .int 1]) (st := []) C (c_X3_offerStarts l D cy ad S y1 y0 1  h23) (cwV 3 C.2.2.2.2.1 gX3_findPlan_X3_offerStarts rfl rfl rfl (by decide +kernel) ⟨(by decide), (by decide)⟩) 0 (gC_root cy ad S) rfl rfl rfl rfl (Nat.le_of_ble_eq_true rfl) dX3_findPlan_97 ?_
      refine x_iinc (v := x3 + 1) (lv2 := [(3, .int (x3 + 1)), (0, .ref (ad 0)), (1, .int x1), (2, .int x2)]) C dX3_findPlan_100 (k0 := 3) rfl rfl (by decide) rfl ?_
      refine x_goto (tgt := 13) C dX3_findPlan_103 (by decide) ?_
      refine x_sub [1, 2, 3, 0] rfl ?_
      exact hr13 u22 x1 x2 (x3 + 1)  hf
set_option maxHeartbeats 4000000 in
set_option maxRecDepth 100000 in
theorem t_X3_findPlan_L13 (C : XC p s m args meth c D A (xty cy) cX3_findPlan 5 RX3 wsX3_findPlan (some .boolean)) {r : Int32} {S2 : St}   {k13 : St → Option (Int32 × St)} (hk13 : ∀ (S : St) , k13 S  = some (r, S2) → XJ p l e ({ frames := 17, cells := 0, slots := 0, locals := 382 } : Room) s m args below meth c D (wC cy ad) A 5 (QXi D (wC cy ad) A below args s r S2) S 106 [(0, .ref (ad 0))] []) : ∀ (n : Nat), ∀ (S : St) (x1 : Int32) (x2 : Int32) (x3 : Int32), (f_X3_findPlan_L13  k13 n) S x1 x2 x3 = some (r, S2) → XJ p l e ({ frames := 17, cells := 0, slots := 0, locals := 382 } : Room) s m args below meth c D (wC cy ad) A 5 (QXi D (wC cy ad) A below args s r S2) S 13 [(0, .ref (ad 0)), (1, .int x1), (2, .int x2), (3, .int x3)] [] := by
  intro n
  induction n with
  | zero => intro S x1 x2 x3 hf; cases hf
  | succ n ih =>
    intro S x1 x2 x3 hf
    rw [f_X3_findPlan_L13] at hf
    refine x_iload_n C dX3_findPlan_13 rfl 3 rfl ?_
    refine x_aload_n C dX3_findPlan_14 rfl 0 rfl ?_
    refine x_get (v := .int (S.1 1 0 0)) C iX3_findPlan_X3 rfl 0 (gC_root cy ad S) 5 (by decide) (by decide +kernel) rfl rfl dX3_findPlan_15 ?_
    refine x_icmp_ge (tgt := 106) C dX3_findPlan_18 (by decide) (fun (c_3 : (S.1 1 0 0) ≤ x3) => ?_) (fun (c_3 : ¬ ((S.1 1 0 0) ≤ x3)) => ?_)
    · replace hf := x_ip c_3 hf
      refine x_sub [0] rfl ?_
      exact hk13 S   hf
    · replace hf := x_in c_3 hf
      refine x_aload_n C dX3_findPlan_21 rfl 0 rfl ?_
      refine x_get (v := .ref (ad 4)) C iX3_findPlan_X3 rfl 0 (gC_root cy ad S) 4 (by decide) (by decide +kernel) rfl rfl dX3_findPlan_22 ?_
      refine x_iload_n C dX3_findPlan_25 rfl 3 rfl ?_
      refine x_aload_n C dX3_findPlan_26 rfl 0 rfl ?_
      refine x_get (v := .ref (ad 1)) C iX3_findPlan_X3 rfl 0 (gC_root cy ad S) 1 (by decide) (by decide +kernel) rfl rfl dX3_findPlan_27 ?_
      refine x_iload_n C dX3_findPlan_30 rfl 3 rfl ?_
      obtain ⟨g_4, hf⟩ := x_gd hf
      refine x_aald C 1 2 (gC_works cy ad S) rfl rfl g_4 rfl dX3_findPlan_31 ?_
      obtain ⟨u5, h6, hf⟩ := x_bd hf
      refine x_callVNi (As := []) (st := [.int x3, .ref (ad 4)]) C (c_X2_span l D cy ad S x3.toNatClampNeg (x_lt g_4) h6) ⟨va_cnB 0 C.2.2.2.2.1 gX3_findPlan_X2_span_n199 rfl rfl rfl (C.2.2.2.2.2.2.2.2.1 (.methodLinkNest RX3 199 yX2_span "ClosureHours") (by decide +kernel)) (C.2.2.2.2.1 (.initialized RX2) (by decide +kernel)) (by decide +kernel) ⟨(by decide), (by decide)⟩, C.2.2.2.2.1 (.instanceMethod yX2_span) (by decide +kernel), C.2.2.2.2.1 (.selects RX2 yX2_span yX2_span) (by decide +kernel)⟩ (15 + x3.toNatClampNeg) (gC_work cy ad S (x_lt g_4)) rfl rfl rfl rfl (Nat.le_of_ble_eq_true rfl) dX3_findPlan_32 ?_
      obtain ⟨u7, h8, hf⟩ := x_bd hf
      refine x_callVNv (As := [.int x3, .int u5]) (st := []) C (c_X1_setSpan l D cy ad S x3 u5  h8) ⟨va_cnB 2 C.2.2.2.2.1 gX3_findPlan_X1_setSpan_n202 rfl rfl rfl (C.2.2.2.2.2.2.2.2.1 (.methodLinkNest RX3 202 yX1_setSpan "ClosureHours") (by decide +kernel)) (C.2.2.2.2.1 (.initialized RX1) (by decide +kernel)) (by decide +kernel) ⟨(by decide), (by decide)⟩, C.2.2.2.2.1 (.instanceMethod yX1_setSpan) (by decide +kernel), C.2.2.2.2.1 (.selects RX1 yX1_setSpan yX1_setSpan) (by decide +kernel)⟩ 4 (gC_srch cy ad S) rfl rfl rfl rfl (Nat.le_of_ble_eq_true rfl) dX3_findPlan_35 ?_
      refine x_iconst (v := 0) C dX3_findPlan_38 (by decide) ?_
      refine x_istore (lv2 := [(4, .int 0), (0, .ref (ad 0)), (1, .int x1), (2, .int x2), (3, .int x3)]) C dX3_findPlan_39 (by decide) rfl ?_
      refine x_sub [1, 2, 3, 4, 0] rfl ?_
      refine t_X3_findPlan_L41 C ih hk13 (fun S_14 x1_14 x2_14 x3_14  hf => ?_) 1000 u7 x1 x2 x3 0  hf
      refine x_aload_n C dX3_findPlan_70 rfl 0 rfl ?_
      refine x_iload_n C dX3_findPlan_71 rfl 3 rfl ?_
      refine x_iload_n C dX3_findPlan_72 rfl 3 rfl ?_
      refine x_iload_n C dX3_findPlan_73 rfl 1 rfl ?_
      refine x_icmp_ne (tgt := 81) C dX3_findPlan_74 (by decide) (fun (c_15 : ¬ (x3_14 = x1_14)) => ?_) (fun (c_15 : x3_14 = x1_14) => ?_)
      · replace hf := x_in c_15 hf
        refine x_iconst (v := 0) C dX3_findPlan_81 (by decide) ?_
        exact t_X3_findPlan_L82 C ih hk13 S_14 x1_14 x2_14 x3_14 0 x3_14  hf
      · replace hf := x_ip c_15 hf
        refine x_iload_n C dX3_findPlan_77 rfl 2 rfl ?_
        refine x_goto (tgt := 82) C dX3_findPlan_78 (by decide) ?_
        exact t_X3_findPlan_L82 C ih hk13 S_14 x1_14 x2_14 x3_14 x2_14 x3_14  hf
set_option maxHeartbeats 4000000 in
set_option maxRecDepth 100000 in
theorem c_X3_findPlan (l : Launch) (D : va_G) (cy : Nat → ClassId) (ad : Nat → Nat) (S : St) (a1 : Int32) (a2 : Int32) {r : Int32} {S2 : St}  (hf : f_X3_findPlan S a1 a2 = some (r, S2)) : XMi l D (wC cy ad) (xty cy) yX3_findPlan wsX3_findPlan ({ frames := 17, cells := 0, slots := 0, locals := 382 } : Room) [.ref (ad 0), .int a1, .int a2] S r S2 := by
  refine x_ofWi (cc := cX3_findPlan) (maxL := 5) (ret := some .boolean) (own := RX3) rfl (by decide) rfl (Nat.le_of_ble_eq_true rfl) rfl ?_
  intro p e s m args below meth c A C _
  unfold f_X3_findPlan at hf
  refine x_aload_n C dX3_findPlan_0 rfl 0 rfl ?_
  refine x_get (v := .ref (ad 4)) C iX3_findPlan_X3 rfl 0 (gC_root cy ad S) 4 (by decide) (by decide +kernel) rfl rfl dX3_findPlan_1 ?_
  refine x_aload_n C dX3_findPlan_4 rfl 0 rfl ?_
  refine x_get (v := .int (S.1 1 0 0)) C iX3_findPlan_X3 rfl 0 (gC_root cy ad S) 5 (by decide) (by decide +kernel) rfl rfl dX3_findPlan_5 ?_
  obtain ⟨u1, h2, hf⟩ := x_bd hf
  refine x_callVNv (As := [.int (S.1 1 0 0)]) (st := []) C (c_X1_begin l D cy ad S (S.1 1 0 0)  h2) ⟨va_cnB 1 C.2.2.2.2.1 gX3_findPlan_X1_begin_n196 rfl rfl rfl (C.2.2.2.2.2.2.2.2.1 (.methodLinkNest RX3 196 yX1_begin "ClosureHours") (by decide +kernel)) (C.2.2.2.2.1 (.initialized RX1) (by decide +kernel)) (by decide +kernel) ⟨(by decide), (by decide)⟩, C.2.2.2.2.1 (.instanceMethod yX1_begin) (by decide +kernel), C.2.2.2.2.1 (.selects RX1 yX1_begin yX1_begin) (by decide +kernel)⟩ 4 (gC_srch cy ad S) rfl rfl rfl rfl (Nat.le_of_ble_eq_true rfl) dX3_findPlan_8 ?_
  refine x_iconst (v := 0) C dX3_findPlan_11 (by decide) ?_
  refine x_istore_n (lv2 := [(3, .int 0), (0, .ref (ad 0)), (1, .int a1), (2, .int a2)]) C dX3_findPlan_12 rfl (by decide) rfl ?_
  refine x_sub [1, 2, 3, 0] rfl ?_
  refine t_X3_findPlan_L13 C  (fun S_24   hf => ?_) 1000 u1 a1 a2 0  hf
  refine x_aload_n C dX3_findPlan_106 rfl 0 rfl ?_
  refine x_get (v := .ref (ad 4)) C iX3_findPlan_X3 rfl 0 (gC_root cy ad S_24) 4 (by decide) (by decide +kernel) rfl rfl dX3_findPlan_107 ?_
  obtain ⟨u25, h26, hf⟩ := x_bd hf
  refine x_callVNi (As := []) (st := []) C (c_X1_solve l D cy ad S_24   h26) ⟨va_cnB 0 C.2.2.2.2.1 gX3_findPlan_X1_solve_n216 rfl rfl rfl (C.2.2.2.2.2.2.2.2.1 (.methodLinkNest RX3 216 yX1_solve "ClosureHours") (by decide +kernel)) (C.2.2.2.2.1 (.initialized RX1) (by decide +kernel)) (by decide +kernel) ⟨(by decide), (by decide)⟩, C.2.2.2.2.1 (.instanceMethod yX1_solve) (by decide +kernel), C.2.2.2.2.1 (.selects RX1 yX1_solve yX1_solve) (by decide +kernel)⟩ 4 (gC_srch cy ad S_24) rfl rfl rfl rfl (Nat.le_of_ble_eq_true rfl) dX3_findPlan_110 ?_
  obtain ⟨g_27, hf⟩ := x_gd hf
  obtain ⟨e9, e8⟩ := x_s2 hf; subst e9; subst e8
  exact x_zret C (x_bz g_27) dX3_findPlan_113
end DX3_findPlan
set_option maxRecDepth 20000 in
theorem iX3_takePlan_X1 : ∀ w ∈ u_ws RX1 TX1 10, w ∈ wsX3_takePlan := by decide +kernel
set_option maxRecDepth 20000 in
theorem iX3_takePlan_X3 : ∀ w ∈ u_ws RX3 TX3 8, w ∈ wsX3_takePlan := by decide +kernel
def f_X3_takePlan_L7  (k7 : St → Option (St)) : Nat → St → Int32 → Option (St)
  | 0 => fun _ _ => none
  | n + 1 => fun S x1 => if (S.1 1 0 0) ≤ x1 then (k7 S ) else (if x1 < 0 ∨ 4 ≤ x1.toNatClampNeg then none else (f_X3_putAt S x1 (S.1 21 0 x1.toNatClampNeg)).bind fun u3 => (f_X3_takePlan_L7  k7 n) u3 (x1 + 1))
def f_X3_takePlan (S : St)  : Option (St) := f_X3_takePlan_L7  (fun S_5  => some S_5) 1000 (xI S 2 0 0 0) 0
section DX3_takePlan
variable {p : Program} {l : Launch} {e : Env} {s : State} {m : MethodId} {args : Array Value} {below : List Frame} {meth : Method} {c : Code} {D : va_G} {cy : Nat → ClassId} {ad : Nat → Nat} {A : Nat → Prop}
set_option maxHeartbeats 4000000 in
set_option maxRecDepth 100000 in
theorem t_X3_takePlan_L7 (C : XC p s m args meth c D A (xty cy) cX3_takePlan 2 RX3 wsX3_takePlan (none)) {S2 : St}   {k7 : St → Option (St)} (hk7 : ∀ (S : St) , k7 S  = some S2 → XJ p l e ({ frames := 3, cells := 0, slots := 0, locals := 58 } : Room) s m args below meth c D (wC cy ad) A 2 (QXv D (wC cy ad) A below args s S2) S 35 [] []) : ∀ (n : Nat), ∀ (S : St) (x1 : Int32), (f_X3_takePlan_L7  k7 n) S x1 = some S2 → XJ p l e ({ frames := 3, cells := 0, slots := 0, locals := 58 } : Room) s m args below meth c D (wC cy ad) A 2 (QXv D (wC cy ad) A below args s S2) S 7 [(0, .ref (ad 0)), (1, .int x1)] [] := by
  intro n
  induction n with
  | zero => intro S x1 hf; cases hf
  | succ n ih =>
    intro S x1 hf
    rw [f_X3_takePlan_L7] at hf
    refine x_iload_n C dX3_takePlan_7 rfl 1 rfl ?_
    refine x_aload_n C dX3_takePlan_8 rfl 0 rfl ?_
    refine x_get (v := .int (S.1 1 0 0)) C iX3_takePlan_X3 rfl 0 (gC_root cy ad S) 5 (by decide) (by decide +kernel) rfl rfl dX3_takePlan_9 ?_
    refine x_icmp_ge (tgt := 35) C dX3_takePlan_12 (by decide) (fun (c_1 : (S.1 1 0 0) ≤ x1) => ?_) (fun (c_1 : ¬ ((S.1 1 0 0) ≤ x1)) => ?_)
    · replace hf := x_ip c_1 hf
      refine x_sub [] rfl ?_
      exact hk7 S   hf
    · replace hf := x_in c_1 hf
      refine x_aload_n C dX3_takePlan_15 rfl 0 rfl ?_
      refine x_iload_n C dX3_takePlan_16 rfl 1 rfl ?_
      refine x_aload_n C dX3_takePlan_17 rfl 0 rfl ?_
      refine x_get (v := .ref (ad 4)) C iX3_takePlan_X3 rfl 0 (gC_root cy ad S) 4 (by decide) (by decide +kernel) rfl rfl dX3_takePlan_18 ?_
      refine x_getN (v := .ref (ad 10)) (host := "ClosureHours") C iX3_takePlan_X1 rfl 4 (gC_srch cy ad S) 7 (by decide) (by decide +kernel) rfl rfl dX3_takePlan_21 ?_
      refine x_iload_n C dX3_takePlan_24 rfl 1 rfl ?_
      obtain ⟨g_2, hf⟩ := x_gd hf
      refine x_iald (f := S.1 21 0) C 10 0 (gC_best cy ad S) rfl g_2 dX3_takePlan_25 ?_
      obtain ⟨u3, h4, hf⟩ := x_bd hf
      refine x_callVv (As := [.int x1, .int (S.1 21 0 x1.toNatClampNeg)]) (st := []) C (c_X3_putAt l D cy ad S x1 (S.1 21 0 x1.toNatClampNeg)  h4) (cwV 2 C.2.2.2.2.1 gX3_takePlan_X3_putAt rfl rfl rfl (by decide +kernel) ⟨(by decide), (by decide)⟩) 0 (gC_root cy ad S) rfl rfl rfl rfl (Nat.le_of_ble_eq_true rfl) dX3_takePlan_26 ?_
      refine x_iinc (v := x1 + 1) (lv2 := [(1, .int (x1 + 1)), (0, .ref (ad 0))]) C dX3_takePlan_29 (k0 := 1) rfl rfl (by decide) rfl ?_
      refine x_goto (tgt := 7) C dX3_takePlan_32 (by decide) ?_
      refine x_sub [1, 0] rfl ?_
      exact ih u3 (x1 + 1)  hf
set_option maxHeartbeats 4000000 in
set_option maxRecDepth 100000 in
theorem c_X3_takePlan (l : Launch) (D : va_G) (cy : Nat → ClassId) (ad : Nat → Nat) (S : St)  {S2 : St}  (hf : f_X3_takePlan S  = some S2) : XMv l D (wC cy ad) (xty cy) yX3_takePlan wsX3_takePlan ({ frames := 3, cells := 0, slots := 0, locals := 58 } : Room) [.ref (ad 0)] S S2 := by
  refine x_ofWv (cc := cX3_takePlan) (maxL := 2) (ret := none) (own := RX3) rfl (by decide) rfl (Nat.le_of_ble_eq_true rfl) rfl ?_
  intro p e s m args below meth c A C _
  unfold f_X3_takePlan at hf
  refine x_aload_n C dX3_takePlan_0 rfl 0 rfl ?_
  refine x_iconst (v := 0) C dX3_takePlan_1 (by decide) ?_
  refine x_put (v := .int 0) (ty := .int) (S2 := (xI S 2 0 0 0)) C iX3_takePlan_X3 tyX3 tyX3_ok nmX3 rfl 0 (gC_root cy ad S) 6 (by decide) (by decide +kernel) rfl rfl (by decide +kernel) rfl rfl (Nat.le_of_ble_eq_true rfl) (sC_moved cy ad S 0) dX3_takePlan_2 ?_
  refine x_iconst (v := 0) C dX3_takePlan_5 (by decide) ?_
  refine x_istore_n (lv2 := [(1, .int 0), (0, .ref (ad 0))]) C dX3_takePlan_6 rfl (by decide) rfl ?_
  refine x_sub [1, 0] rfl ?_
  refine t_X3_takePlan_L7 C  (fun S_5   hf => ?_) 1000 (xI S 2 0 0 0) 0  hf
  have e9 := x_s1 hf; subst e9
  exact x_vret C dX3_takePlan_35
end DX3_takePlan
set_option maxRecDepth 20000 in
theorem iX1_bestCost_X1 : ∀ w ∈ u_ws RX1 TX1 10, w ∈ wsX1_bestCost := by decide +kernel
def f_X1_bestCost (S : St)  : Option (Int32) := some (Int64.toInt32 ((S.2 4 0 0) / 1679616))
section DX1_bestCost
variable {p : Program} {l : Launch} {e : Env} {s : State} {m : MethodId} {args : Array Value} {below : List Frame} {meth : Method} {c : Code} {D : va_G} {cy : Nat → ClassId} {ad : Nat → Nat} {A : Nat → Prop}
set_option maxHeartbeats 4000000 in
set_option maxRecDepth 100000 in
theorem c_X1_bestCost (l : Launch) (D : va_G) (cy : Nat → ClassId) (ad : Nat → Nat) (S : St)  {r : Int32}  (hf : f_X1_bestCost S  = some r) : XMi l D (wC cy ad) (xty cy) yX1_bestCost wsX1_bestCost ({ frames := 0, cells := 0, slots := 0, locals := 0 } : Room) [.ref (ad 4)] S r S := by
  refine x_ofWi (cc := cX1_bestCost) (maxL := 1) (ret := some .int) (own := RX1) rfl (by decide) rfl (Nat.le_of_ble_eq_true rfl) rfl ?_
  intro p e s m args below meth c A C _
  unfold f_X1_bestCost at hf
  refine x_aload_n C dX1_bestCost_0 rfl 0 rfl ?_
  refine x_get (v := .long (S.2 4 0 0)) C iX1_bestCost_X1 rfl 4 (gC_srch cy ad S) 8 (by decide) (by decide +kernel) rfl rfl dX1_bestCost_1 ?_
  refine x_ldc2 (v := 1679616) C (by decide +kernel) dX1_bestCost_4 ?_
  refine x_ldiv C dX1_bestCost_7 (by decide) ?_
  refine x_l2i C dX1_bestCost_8 ?_
  have e9 := x_s1 hf; subst e9
  exact x_iret C dX1_bestCost_9
end DX1_bestCost
set_option maxRecDepth 20000 in
theorem iX3_all_X3 : ∀ w ∈ u_ws RX3 TX3 8, w ∈ wsX3_all := by decide +kernel
def f_X3_all (S : St)  : Option (Int32 × St) := if (S.1 1 0 0) = 0 then (some ((-1), S)) else ((f_X3_findPlan S (-1) 0).bind fun u2 => if u2.1 = 0 then (some ((-1), u2.2)) else ((f_X3_takePlan u2.2 ).bind fun u5 => (f_X1_bestCost u5 ).bind fun u7 => some (u7, u5)))
section DX3_all
variable {p : Program} {l : Launch} {e : Env} {s : State} {m : MethodId} {args : Array Value} {below : List Frame} {meth : Method} {c : Code} {D : va_G} {cy : Nat → ClassId} {ad : Nat → Nat} {A : Nat → Prop}
set_option maxHeartbeats 4000000 in
set_option maxRecDepth 100000 in
theorem c_X3_all (l : Launch) (D : va_G) (cy : Nat → ClassId) (ad : Nat → Nat) (S : St)  {r : Int32} {S2 : St}  (hf : f_X3_all S  = some (r, S2)) : XMi l D (wC cy ad) (xty cy) yX3_all wsX3_all ({ frames := 18, cells := 0, slots := 0, locals := 406 } : Room) [.ref (ad 0)] S r S2 := by
  refine x_ofWi (cc := cX3_all) (maxL := 1) (ret := some .int) (own := RX3) rfl (by decide) rfl (Nat.le_of_ble_eq_true rfl) rfl ?_
  intro p e s m args below meth c A C _
  unfold f_X3_all at hf
  refine x_aload_n C dX3_all_0 rfl 0 rfl ?_
  refine x_get (v := .int (S.1 1 0 0)) C iX3_all_X3 rfl 0 (gC_root cy ad S) 5 (by decide) (by decide +kernel) rfl rfl dX3_all_1 ?_
  refine x_if_eq (tgt := 16) C dX3_all_4 (by decide) (fun (c_1 : (S.1 1 0 0) = 0) => ?_) (fun (c_1 : ¬ ((S.1 1 0 0) = 0)) => ?_)
  · replace hf := x_ip c_1 hf
    refine x_iconst (v := (-1)) C dX3_all_16 (by decide) ?_
    obtain ⟨e9, e8⟩ := x_s2 hf; subst e9; subst e8
    exact x_iret C dX3_all_17
  · replace hf := x_in c_1 hf
    refine x_aload_n C dX3_all_7 rfl 0 rfl ?_
    refine x_iconst (v := (-1)) C dX3_all_8 (by decide) ?_
    refine x_iconst (v := 0) C dX3_all_9 (by decide) ?_
    obtain ⟨u2, h3, hf⟩ := x_bd hf
    refine x_callVi (As := [.int (-1), .int 0]) (st := []) C (c_X3_findPlan l D cy ad S (-1) 0  h3) (cwV 2 C.2.2.2.2.1 gX3_all_X3_findPlan rfl rfl rfl (by decide +kernel) ⟨(by decide), (by decide)⟩) 0 (gC_root cy ad S) rfl rfl rfl rfl (Nat.le_of_ble_eq_true rfl) dX3_all_10 ?_
    refine x_if_ne (tgt := 18) C dX3_all_13 (by decide) (fun (c_4 : ¬ (u2.1 = 0)) => ?_) (fun (c_4 : u2.1 = 0) => ?_)
    · replace hf := x_in c_4 hf
      refine x_aload_n C dX3_all_18 rfl 0 rfl ?_
      obtain ⟨u5, h6, hf⟩ := x_bd hf
      refine x_callVv (As := []) (st := []) C (c_X3_takePlan l D cy ad u2.2   h6) (cwV 0 C.2.2.2.2.1 gX3_all_X3_takePlan rfl rfl rfl (by decide +kernel) ⟨(by decide), (by decide)⟩) 0 (gC_root cy ad u2.2) rfl rfl rfl rfl (Nat.le_of_ble_eq_true rfl) dX3_all_19 ?_
      refine x_aload_n C dX3_all_22 rfl 0 rfl ?_
      refine x_get (v := .ref (ad 4)) C iX3_all_X3 rfl 0 (gC_root cy ad u5) 4 (by decide) (by decide +kernel) rfl rfl dX3_all_23 ?_
      obtain ⟨u7, h8, hf⟩ := x_bd hf
      refine x_callVNi (As := []) (st := []) C (c_X1_bestCost l D cy ad u5   h8) ⟨va_cnB 0 C.2.2.2.2.1 gX3_all_X1_bestCost_n129 rfl rfl rfl (C.2.2.2.2.2.2.2.2.1 (.methodLinkNest RX3 129 yX1_bestCost "ClosureHours") (by decide +kernel)) (C.2.2.2.2.1 (.initialized RX1) (by decide +kernel)) (by decide +kernel) ⟨(by decide), (by decide)⟩, C.2.2.2.2.1 (.instanceMethod yX1_bestCost) (by decide +kernel), C.2.2.2.2.1 (.selects RX1 yX1_bestCost yX1_bestCost) (by decide +kernel)⟩ 4 (gC_srch cy ad u5) rfl rfl rfl rfl (Nat.le_of_ble_eq_true rfl) dX3_all_26 ?_
      obtain ⟨e9, e8⟩ := x_s2 hf; subst e9; subst e8
      exact x_iret C dX3_all_29
    · replace hf := x_ip c_4 hf
      refine x_iconst (v := (-1)) C dX3_all_16 (by decide) ?_
      obtain ⟨e9, e8⟩ := x_s2 hf; subst e9; subst e8
      exact x_iret C dX3_all_17
end DX3_all
set_option maxRecDepth 20000 in
theorem iX3_placedWorks_X3 : ∀ w ∈ u_ws RX3 TX3 8, w ∈ wsX3_placedWorks := by decide +kernel
def f_X3_placedWorks_L4  (k4 : St → Int32 → Option (Int32)) : Nat → St → Int32 → Int32 → Option (Int32)
  | 0 => fun _ _ _ => none
  | n + 1 => fun S x1 x2 => if (S.1 1 0 0) ≤ x2 then (k4 S x1) else (if x2 < 0 ∨ 4 ≤ x2.toNatClampNeg then none else (f_X2_isPlaced S x2.toNatClampNeg).bind fun u3 => if u3 = 0 then ((f_X3_placedWorks_L4  k4 n) S x1 (x2 + 1)) else ((f_X3_placedWorks_L4  k4 n) S (x1 + 1) (x2 + 1)))
def f_X3_placedWorks (S : St)  : Option (Int32) := f_X3_placedWorks_L4  (fun S_6 x1_6 => some x1_6) 1000 S 0 0
section DX3_placedWorks
variable {p : Program} {l : Launch} {e : Env} {s : State} {m : MethodId} {args : Array Value} {below : List Frame} {meth : Method} {c : Code} {D : va_G} {cy : Nat → ClassId} {ad : Nat → Nat} {A : Nat → Prop}
set_option maxHeartbeats 4000000 in
set_option maxRecDepth 100000 in
theorem t_X3_placedWorks_L4 (C : XC p s m args meth c D A (xty cy) cX3_placedWorks 3 RX3 wsX3_placedWorks (some .int)) {r : Int32}   {k4 : St → Int32 → Option (Int32)} (hk4 : ∀ (S : St) (x1 : Int32), k4 S x1 = some r → XJ p l e ({ frames := 1, cells := 0, slots := 0, locals := 20 } : Room) s m args below meth c D (wC cy ad) A 3 (QXi D (wC cy ad) A below args s r S) S 33 [(1, .int x1)] []) : ∀ (n : Nat), ∀ (S : St) (x1 : Int32) (x2 : Int32), (f_X3_placedWorks_L4  k4 n) S x1 x2 = some r → XJ p l e ({ frames := 1, cells := 0, slots := 0, locals := 20 } : Room) s m args below meth c D (wC cy ad) A 3 (QXi D (wC cy ad) A below args s r S) S 4 [(0, .ref (ad 0)), (1, .int x1), (2, .int x2)] [] := by
  intro n
  induction n with
  | zero => intro S x1 x2 hf; cases hf
  | succ n ih =>
    intro S x1 x2 hf
    rw [f_X3_placedWorks_L4] at hf
    refine x_iload_n C dX3_placedWorks_4 rfl 2 rfl ?_
    refine x_aload_n C dX3_placedWorks_5 rfl 0 rfl ?_
    refine x_get (v := .int (S.1 1 0 0)) C iX3_placedWorks_X3 rfl 0 (gC_root cy ad S) 5 (by decide) (by decide +kernel) rfl rfl dX3_placedWorks_6 ?_
    refine x_icmp_ge (tgt := 33) C dX3_placedWorks_9 (by decide) (fun (c_1 : (S.1 1 0 0) ≤ x2) => ?_) (fun (c_1 : ¬ ((S.1 1 0 0) ≤ x2)) => ?_)
    · replace hf := x_ip c_1 hf
      refine x_sub [1] rfl ?_
      exact hk4 S x1  hf
    · replace hf := x_in c_1 hf
      refine x_aload_n C dX3_placedWorks_12 rfl 0 rfl ?_
      refine x_get (v := .ref (ad 1)) C iX3_placedWorks_X3 rfl 0 (gC_root cy ad S) 1 (by decide) (by decide +kernel) rfl rfl dX3_placedWorks_13 ?_
      refine x_iload_n C dX3_placedWorks_16 rfl 2 rfl ?_
      obtain ⟨g_2, hf⟩ := x_gd hf
      refine x_aald C 1 2 (gC_works cy ad S) rfl rfl g_2 rfl dX3_placedWorks_17 ?_
      obtain ⟨u3, h4, hf⟩ := x_bd hf
      refine x_callVNi (As := []) (st := []) C (c_X2_isPlaced l D cy ad S x2.toNatClampNeg (x_lt g_2) h4) ⟨va_cnB 0 C.2.2.2.2.1 gX3_placedWorks_X2_isPlaced_n153 rfl rfl rfl (C.2.2.2.2.2.2.2.2.1 (.methodLinkNest RX3 153 yX2_isPlaced "ClosureHours") (by decide +kernel)) (C.2.2.2.2.1 (.initialized RX2) (by decide +kernel)) (by decide +kernel) ⟨(by decide), (by decide)⟩, C.2.2.2.2.1 (.instanceMethod yX2_isPlaced) (by decide +kernel), C.2.2.2.2.1 (.selects RX2 yX2_isPlaced yX2_isPlaced) (by decide +kernel)⟩ (15 + x2.toNatClampNeg) (gC_work cy ad S (x_lt g_2)) rfl rfl rfl rfl (Nat.le_of_ble_eq_true rfl) dX3_placedWorks_18 ?_
      refine x_if_eq (tgt := 27) C dX3_placedWorks_21 (by decide) (fun (c_5 : u3 = 0) => ?_) (fun (c_5 : ¬ (u3 = 0)) => ?_)
      · replace hf := x_ip c_5 hf
        refine x_iinc (v := x2 + 1) (lv2 := [(2, .int (x2 + 1)), (0, .ref (ad 0)), (1, .int x1)]) C dX3_placedWorks_27 (k0 := 2) rfl rfl (by decide) rfl ?_
        refine x_goto (tgt := 4) C dX3_placedWorks_30 (by decide) ?_
        refine x_sub [1, 2, 0] rfl ?_
        exact ih S x1 (x2 + 1)  hf
      · replace hf := x_in c_5 hf
        refine x_iinc (v := x1 + 1) (lv2 := [(1, .int (x1 + 1)), (0, .ref (ad 0)), (2, .int x2)]) C dX3_placedWorks_24 (k0 := 1) rfl rfl (by decide) rfl ?_
        refine x_iinc (v := x2 + 1) (lv2 := [(2, .int (x2 + 1)), (1, .int (x1 + 1)), (0, .ref (ad 0))]) C dX3_placedWorks_27 (k0 := 2) rfl rfl (by decide) rfl ?_
        refine x_goto (tgt := 4) C dX3_placedWorks_30 (by decide) ?_
        refine x_sub [2, 1, 0] rfl ?_
        exact ih S (x1 + 1) (x2 + 1)  hf
set_option maxHeartbeats 4000000 in
set_option maxRecDepth 100000 in
theorem c_X3_placedWorks (l : Launch) (D : va_G) (cy : Nat → ClassId) (ad : Nat → Nat) (S : St)  {r : Int32}  (hf : f_X3_placedWorks S  = some r) : XMi l D (wC cy ad) (xty cy) yX3_placedWorks wsX3_placedWorks ({ frames := 1, cells := 0, slots := 0, locals := 20 } : Room) [.ref (ad 0)] S r S := by
  refine x_ofWi (cc := cX3_placedWorks) (maxL := 3) (ret := some .int) (own := RX3) rfl (by decide) rfl (Nat.le_of_ble_eq_true rfl) rfl ?_
  intro p e s m args below meth c A C _
  unfold f_X3_placedWorks at hf
  refine x_iconst (v := 0) C dX3_placedWorks_0 (by decide) ?_
  refine x_istore_n (lv2 := [(1, .int 0), (0, .ref (ad 0))]) C dX3_placedWorks_1 rfl (by decide) rfl ?_
  refine x_iconst (v := 0) C dX3_placedWorks_2 (by decide) ?_
  refine x_istore_n (lv2 := [(2, .int 0), (1, .int 0), (0, .ref (ad 0))]) C dX3_placedWorks_3 rfl (by decide) rfl ?_
  refine x_sub [2, 1, 0] rfl ?_
  refine t_X3_placedWorks_L4 C  (fun S_6 x1_6  hf => ?_) 1000 S 0 0  hf
  refine x_iload_n C dX3_placedWorks_33 rfl 0 rfl ?_
  have e9 := x_s1 hf; subst e9
  exact x_iret C dX3_placedWorks_34
end DX3_placedWorks
set_option maxRecDepth 20000 in
theorem iX3_late_X3 : ∀ w ∈ u_ws RX3 TX3 8, w ∈ wsX3_late := by decide +kernel
def f_X3_late (S : St) (a1 : Int32) (a2 : Int32) : Option (Int32 × St) := (f_X3_isWork S a1).bind fun u1 => if u1 = 0 then (some ((-1), S)) else ((f_X3_isHour S a2).bind fun u4 => if u4 = 0 then (some ((-1), S)) else (if a1 < 0 ∨ 4 ≤ a1.toNatClampNeg then none else (f_X2_isFixed S a1.toNatClampNeg).bind fun u8 => if u8 = 0 then ((f_X3_placedWorks S ).bind fun u11 => if (S.1 1 0 0) ≤ u11 then ((f_X3_findPlan S a1 a2).bind fun u14 => if u14.1 = 0 then (some ((-1), u14.2)) else ((f_X3_takePlan u14.2 ).bind fun u17 => (f_X1_bestCost u17 ).bind fun u19 => some (u19 / 10000000, u17))) else (some ((-1), S))) else (some ((-1), S))))
section DX3_late
variable {p : Program} {l : Launch} {e : Env} {s : State} {m : MethodId} {args : Array Value} {below : List Frame} {meth : Method} {c : Code} {D : va_G} {cy : Nat → ClassId} {ad : Nat → Nat} {A : Nat → Prop}
set_option maxHeartbeats 4000000 in
set_option maxRecDepth 100000 in
theorem c_X3_late (l : Launch) (D : va_G) (cy : Nat → ClassId) (ad : Nat → Nat) (S : St) (a1 : Int32) (a2 : Int32) {r : Int32} {S2 : St}  (hf : f_X3_late S a1 a2 = some (r, S2)) : XMi l D (wC cy ad) (xty cy) yX3_late wsX3_late ({ frames := 18, cells := 0, slots := 0, locals := 406 } : Room) [.ref (ad 0), .int a1, .int a2] S r S2 := by
  refine x_ofWi (cc := cX3_late) (maxL := 3) (ret := some .int) (own := RX3) rfl (by decide) rfl (Nat.le_of_ble_eq_true rfl) rfl ?_
  intro p e s m args below meth c A C _
  unfold f_X3_late at hf
  refine x_aload_n C dX3_late_0 rfl 0 rfl ?_
  refine x_iload_n C dX3_late_1 rfl 1 rfl ?_
  obtain ⟨u1, h2, hf⟩ := x_bd hf
  refine x_callVi (As := [.int a1]) (st := []) C (c_X3_isWork l D cy ad S a1  h2) (cwV 1 C.2.2.2.2.1 gX3_late_X3_isWork rfl rfl rfl (by decide +kernel) ⟨(by decide), (by decide)⟩) 0 (gC_root cy ad S) rfl rfl rfl rfl (Nat.le_of_ble_eq_true rfl) dX3_late_2 ?_
  refine x_if_eq (tgt := 39) C dX3_late_5 (by decide) (fun (c_3 : u1 = 0) => ?_) (fun (c_3 : ¬ (u1 = 0)) => ?_)
  · replace hf := x_ip c_3 hf
    refine x_iconst (v := (-1)) C dX3_late_39 (by decide) ?_
    obtain ⟨e9, e8⟩ := x_s2 hf; subst e9; subst e8
    exact x_iret C dX3_late_40
  · replace hf := x_in c_3 hf
    refine x_aload_n C dX3_late_8 rfl 0 rfl ?_
    refine x_iload_n C dX3_late_9 rfl 2 rfl ?_
    obtain ⟨u4, h5, hf⟩ := x_bd hf
    refine x_callVi (As := [.int a2]) (st := []) C (c_X3_isHour l D cy ad S a2  h5) (cwV 1 C.2.2.2.2.1 gX3_late_X3_isHour rfl rfl rfl (by decide +kernel) ⟨(by decide), (by decide)⟩) 0 (gC_root cy ad S) rfl rfl rfl rfl (Nat.le_of_ble_eq_true rfl) dX3_late_10 ?_
    refine x_if_eq (tgt := 39) C dX3_late_13 (by decide) (fun (c_6 : u4 = 0) => ?_) (fun (c_6 : ¬ (u4 = 0)) => ?_)
    · replace hf := x_ip c_6 hf
      refine x_iconst (v := (-1)) C dX3_late_39 (by decide) ?_
      obtain ⟨e9, e8⟩ := x_s2 hf; subst e9; subst e8
      exact x_iret C dX3_late_40
    · replace hf := x_in c_6 hf
      refine x_aload_n C dX3_late_16 rfl 0 rfl ?_
      refine x_get (v := .ref (ad 1)) C iX3_late_X3 rfl 0 (gC_root cy ad S) 1 (by decide) (by decide +kernel) rfl rfl dX3_late_17 ?_
      refine x_iload_n C dX3_late_20 rfl 1 rfl ?_
      obtain ⟨g_7, hf⟩ := x_gd hf
      refine x_aald C 1 2 (gC_works cy ad S) rfl rfl g_7 rfl dX3_late_21 ?_
      obtain ⟨u8, h9, hf⟩ := x_bd hf
      refine x_callVNi (As := []) (st := []) C (c_X2_isFixed l D cy ad S a1.toNatClampNeg (x_lt g_7) h9) ⟨va_cnB 0 C.2.2.2.2.1 gX3_late_X2_isFixed_n101 rfl rfl rfl (C.2.2.2.2.2.2.2.2.1 (.methodLinkNest RX3 101 yX2_isFixed "ClosureHours") (by decide +kernel)) (C.2.2.2.2.1 (.initialized RX2) (by decide +kernel)) (by decide +kernel) ⟨(by decide), (by decide)⟩, C.2.2.2.2.1 (.instanceMethod yX2_isFixed) (by decide +kernel), C.2.2.2.2.1 (.selects RX2 yX2_isFixed yX2_isFixed) (by decide +kernel)⟩ (15 + a1.toNatClampNeg) (gC_work cy ad S (x_lt g_7)) rfl rfl rfl rfl (Nat.le_of_ble_eq_true rfl) dX3_late_22 ?_
      refine x_if_ne (tgt := 39) C dX3_late_25 (by decide) (fun (c_10 : ¬ (u8 = 0)) => ?_) (fun (c_10 : u8 = 0) => ?_)
      · replace hf := x_in c_10 hf
        refine x_iconst (v := (-1)) C dX3_late_39 (by decide) ?_
        obtain ⟨e9, e8⟩ := x_s2 hf; subst e9; subst e8
        exact x_iret C dX3_late_40
      · replace hf := x_ip c_10 hf
        refine x_aload_n C dX3_late_28 rfl 0 rfl ?_
        obtain ⟨u11, h12, hf⟩ := x_bd hf
        refine x_callVi (As := []) (st := []) C (c_X3_placedWorks l D cy ad S   h12) (cwV 0 C.2.2.2.2.1 gX3_late_X3_placedWorks rfl rfl rfl (by decide +kernel) ⟨(by decide), (by decide)⟩) 0 (gC_root cy ad S) rfl rfl rfl rfl (Nat.le_of_ble_eq_true rfl) dX3_late_29 ?_
        refine x_aload_n C dX3_late_32 rfl 0 rfl ?_
        refine x_get (v := .int (S.1 1 0 0)) C iX3_late_X3 rfl 0 (gC_root cy ad S) 5 (by decide) (by decide +kernel) rfl rfl dX3_late_33 ?_
        refine x_icmp_ge (tgt := 41) C dX3_late_36 (by decide) (fun (c_13 : (S.1 1 0 0) ≤ u11) => ?_) (fun (c_13 : ¬ ((S.1 1 0 0) ≤ u11)) => ?_)
        · replace hf := x_ip c_13 hf
          refine x_aload_n C dX3_late_41 rfl 0 rfl ?_
          refine x_iload_n C dX3_late_42 rfl 1 rfl ?_
          refine x_iload_n C dX3_late_43 rfl 2 rfl ?_
          obtain ⟨u14, h15, hf⟩ := x_bd hf
          refine x_callVi (As := [.int a1, .int a2]) (st := []) C (c_X3_findPlan l D cy ad S a1 a2  h15) (cwV 2 C.2.2.2.2.1 gX3_late_X3_findPlan rfl rfl rfl (by decide +kernel) ⟨(by decide), (by decide)⟩) 0 (gC_root cy ad S) rfl rfl rfl rfl (Nat.le_of_ble_eq_true rfl) dX3_late_44 ?_
          refine x_if_ne (tgt := 52) C dX3_late_47 (by decide) (fun (c_16 : ¬ (u14.1 = 0)) => ?_) (fun (c_16 : u14.1 = 0) => ?_)
          · replace hf := x_in c_16 hf
            refine x_aload_n C dX3_late_52 rfl 0 rfl ?_
            obtain ⟨u17, h18, hf⟩ := x_bd hf
            refine x_callVv (As := []) (st := []) C (c_X3_takePlan l D cy ad u14.2   h18) (cwV 0 C.2.2.2.2.1 gX3_late_X3_takePlan rfl rfl rfl (by decide +kernel) ⟨(by decide), (by decide)⟩) 0 (gC_root cy ad u14.2) rfl rfl rfl rfl (Nat.le_of_ble_eq_true rfl) dX3_late_53 ?_
            refine x_aload_n C dX3_late_56 rfl 0 rfl ?_
            refine x_get (v := .ref (ad 4)) C iX3_late_X3 rfl 0 (gC_root cy ad u17) 4 (by decide) (by decide +kernel) rfl rfl dX3_late_57 ?_
            obtain ⟨u19, h20, hf⟩ := x_bd hf
            refine x_callVNi (As := []) (st := []) C (c_X1_bestCost l D cy ad u17   h20) ⟨va_cnB 0 C.2.2.2.2.1 gX3_late_X1_bestCost_n129 rfl rfl rfl (C.2.2.2.2.2.2.2.2.1 (.methodLinkNest RX3 129 yX1_bestCost "ClosureHours") (by decide +kernel)) (C.2.2.2.2.1 (.initialized RX1) (by decide +kernel)) (by decide +kernel) ⟨(by decide), (by decide)⟩, C.2.2.2.2.1 (.instanceMethod yX1_bestCost) (by decide +kernel), C.2.2.2.2.1 (.selects RX1 yX1_bestCost yX1_bestCost) (by decide +kernel)⟩ 4 (gC_srch cy ad u17) rfl rfl rfl rfl (Nat.le_of_ble_eq_true rfl) dX3_late_60 ?_
            refine x_ldc (v := 10000000) C (by decide +kernel) dX3_late_63 ?_
            refine x_idiv C dX3_late_65 (by decide) ?_
            obtain ⟨e9, e8⟩ := x_s2 hf; subst e9; subst e8
            exact x_iret C dX3_late_66
          · replace hf := x_ip c_16 hf
            refine x_iconst (v := (-1)) C dX3_late_50 (by decide) ?_
            obtain ⟨e9, e8⟩ := x_s2 hf; subst e9; subst e8
            exact x_iret C dX3_late_51
        · replace hf := x_in c_13 hf
          refine x_iconst (v := (-1)) C dX3_late_39 (by decide) ?_
          obtain ⟨e9, e8⟩ := x_s2 hf; subst e9; subst e8
          exact x_iret C dX3_late_40
end DX3_late
set_option maxRecDepth 20000 in
theorem iX3_moved_X3 : ∀ w ∈ u_ws RX3 TX3 8, w ∈ wsX3_moved := by decide +kernel
def f_X3_moved_L4  (k4 : St → Option (Int32)) : Nat → St → Int32 → Int32 → Int32 → Option (Int32)
  | 0 => fun _ _ _ _ => none
  | n + 1 => fun S x1 x2 x3 => if (S.1 1 0 0) ≤ x3 then (k4 S ) else ((f_X3_hasBit  (Int32.toInt64 (S.1 2 0 0)) x3).bind fun u2 => if u2 = 0 then ((f_X3_moved_L4  k4 n) S x1 x2 (x3 + 1)) else (if x2 = x1 then (some x3) else ((f_X3_moved_L4  k4 n) S x1 (x2 + 1) (x3 + 1))))
def f_X3_moved (S : St) (a1 : Int32) : Option (Int32) := f_X3_moved_L4  (fun S_6  => some (-1)) 1000 S a1 0 0
section DX3_moved
variable {p : Program} {l : Launch} {e : Env} {s : State} {m : MethodId} {args : Array Value} {below : List Frame} {meth : Method} {c : Code} {D : va_G} {cy : Nat → ClassId} {ad : Nat → Nat} {A : Nat → Prop}
set_option maxHeartbeats 4000000 in
set_option maxRecDepth 100000 in
theorem t_X3_moved_L4 (C : XC p s m args meth c D A (xty cy) cX3_moved 4 RX3 wsX3_moved (some .int)) {r : Int32}   {k4 : St → Option (Int32)} (hk4 : ∀ (S : St) , k4 S  = some r → XJ p l e ({ frames := 1, cells := 0, slots := 0, locals := 22 } : Room) s m args below meth c D (wC cy ad) A 4 (QXi D (wC cy ad) A below args s r S) S 40 [] []) : ∀ (n : Nat), ∀ (S : St) (x1 : Int32) (x2 : Int32) (x3 : Int32), (f_X3_moved_L4  k4 n) S x1 x2 x3 = some r → XJ p l e ({ frames := 1, cells := 0, slots := 0, locals := 22 } : Room) s m args below meth c D (wC cy ad) A 4 (QXi D (wC cy ad) A below args s r S) S 4 [(0, .ref (ad 0)), (1, .int x1), (2, .int x2), (3, .int x3)] [] := by
  intro n
  induction n with
  | zero => intro S x1 x2 x3 hf; cases hf
  | succ n ih =>
    intro S x1 x2 x3 hf
    rw [f_X3_moved_L4] at hf
    refine x_iload_n C dX3_moved_4 rfl 3 rfl ?_
    refine x_aload_n C dX3_moved_5 rfl 0 rfl ?_
    refine x_get (v := .int (S.1 1 0 0)) C iX3_moved_X3 rfl 0 (gC_root cy ad S) 5 (by decide) (by decide +kernel) rfl rfl dX3_moved_6 ?_
    refine x_icmp_ge (tgt := 40) C dX3_moved_9 (by decide) (fun (c_1 : (S.1 1 0 0) ≤ x3) => ?_) (fun (c_1 : ¬ ((S.1 1 0 0) ≤ x3)) => ?_)
    · replace hf := x_ip c_1 hf
      refine x_sub [] rfl ?_
      exact hk4 S   hf
    · replace hf := x_in c_1 hf
      refine x_aload_n C dX3_moved_12 rfl 0 rfl ?_
      refine x_get (v := .int (S.1 2 0 0)) C iX3_moved_X3 rfl 0 (gC_root cy ad S) 6 (by decide) (by decide +kernel) rfl rfl dX3_moved_13 ?_
      refine x_i2l C dX3_moved_16 ?_
      refine x_iload_n C dX3_moved_17 rfl 3 rfl ?_
      obtain ⟨u2, h3, hf⟩ := x_bd hf
      refine x_callSi (As := [.long (Int32.toInt64 (S.1 2 0 0)), .int x3]) (st := []) C (c_X3_hasBit l D cy ad (wC cy ad) S (Int32.toInt64 (S.1 2 0 0)) x3  h3) (va_cwS 2 C.2.2.2.2.1 gX3_moved_X3_hasBit rfl rfl rfl (by decide +kernel) ⟨(by decide), (by decide)⟩) rfl rfl (Nat.le_of_ble_eq_true rfl) dX3_moved_18 ?_
      refine x_if_eq (tgt := 34) C dX3_moved_21 (by decide) (fun (c_4 : u2 = 0) => ?_) (fun (c_4 : ¬ (u2 = 0)) => ?_)
      · replace hf := x_ip c_4 hf
        refine x_iinc (v := x3 + 1) (lv2 := [(3, .int (x3 + 1)), (0, .ref (ad 0)), (1, .int x1), (2, .int x2)]) C dX3_moved_34 (k0 := 3) rfl rfl (by decide) rfl ?_
        refine x_goto (tgt := 4) C dX3_moved_37 (by decide) ?_
        refine x_sub [1, 2, 3, 0] rfl ?_
        exact ih S x1 x2 (x3 + 1)  hf
      · replace hf := x_in c_4 hf
        refine x_iload_n C dX3_moved_24 rfl 2 rfl ?_
        refine x_iload_n C dX3_moved_25 rfl 1 rfl ?_
        refine x_icmp_ne (tgt := 31) C dX3_moved_26 (by decide) (fun (c_5 : ¬ (x2 = x1)) => ?_) (fun (c_5 : x2 = x1) => ?_)
        · replace hf := x_in c_5 hf
          refine x_iinc (v := x2 + 1) (lv2 := [(2, .int (x2 + 1)), (0, .ref (ad 0)), (1, .int x1), (3, .int x3)]) C dX3_moved_31 (k0 := 2) rfl rfl (by decide) rfl ?_
          refine x_iinc (v := x3 + 1) (lv2 := [(3, .int (x3 + 1)), (2, .int (x2 + 1)), (0, .ref (ad 0)), (1, .int x1)]) C dX3_moved_34 (k0 := 3) rfl rfl (by decide) rfl ?_
          refine x_goto (tgt := 4) C dX3_moved_37 (by decide) ?_
          refine x_sub [2, 3, 1, 0] rfl ?_
          exact ih S x1 (x2 + 1) (x3 + 1)  hf
        · replace hf := x_ip c_5 hf
          refine x_iload_n C dX3_moved_29 rfl 3 rfl ?_
          have e9 := x_s1 hf; subst e9
          exact x_iret C dX3_moved_30
set_option maxHeartbeats 4000000 in
set_option maxRecDepth 100000 in
theorem c_X3_moved (l : Launch) (D : va_G) (cy : Nat → ClassId) (ad : Nat → Nat) (S : St) (a1 : Int32) {r : Int32}  (hf : f_X3_moved S a1 = some r) : XMi l D (wC cy ad) (xty cy) yX3_moved wsX3_moved ({ frames := 1, cells := 0, slots := 0, locals := 22 } : Room) [.ref (ad 0), .int a1] S r S := by
  refine x_ofWi (cc := cX3_moved) (maxL := 4) (ret := some .int) (own := RX3) rfl (by decide) rfl (Nat.le_of_ble_eq_true rfl) rfl ?_
  intro p e s m args below meth c A C _
  unfold f_X3_moved at hf
  refine x_iconst (v := 0) C dX3_moved_0 (by decide) ?_
  refine x_istore_n (lv2 := [(2, .int 0), (0, .ref (ad 0)), (1, .int a1)]) C dX3_moved_1 rfl (by decide) rfl ?_
  refine x_iconst (v := 0) C dX3_moved_2 (by decide) ?_
  refine x_istore_n (lv2 := [(3, .int 0), (2, .int 0), (0, .ref (ad 0)), (1, .int a1)]) C dX3_moved_3 rfl (by decide) rfl ?_
  refine x_sub [2, 3, 1, 0] rfl ?_
  refine t_X3_moved_L4 C  (fun S_6   hf => ?_) 1000 S a1 0 0  hf
  refine x_iconst (v := (-1)) C dX3_moved_40 (by decide) ?_
  have e9 := x_s1 hf; subst e9
  exact x_iret C dX3_moved_41
end DX3_moved
set_option maxRecDepth 20000 in
theorem iX3_start_X2 : ∀ w ∈ u_ws RX2 TX2 10, w ∈ wsX3_start := by decide +kernel
set_option maxRecDepth 20000 in
theorem iX3_start_X3 : ∀ w ∈ u_ws RX3 TX3 8, w ∈ wsX3_start := by decide +kernel
def f_X3_start (S : St) (a1 : Int32) : Option (Int32) := (f_X3_isPlacedWork S a1).bind fun u1 => if u1 = 0 then (some (-1)) else (if a1 < 0 ∨ 4 ≤ a1.toNatClampNeg then none else some (S.1 9 a1.toNatClampNeg 0))
section DX3_start
variable {p : Program} {l : Launch} {e : Env} {s : State} {m : MethodId} {args : Array Value} {below : List Frame} {meth : Method} {c : Code} {D : va_G} {cy : Nat → ClassId} {ad : Nat → Nat} {A : Nat → Prop}
set_option maxHeartbeats 4000000 in
set_option maxRecDepth 100000 in
theorem c_X3_start (l : Launch) (D : va_G) (cy : Nat → ClassId) (ad : Nat → Nat) (S : St) (a1 : Int32) {r : Int32}  (hf : f_X3_start S a1 = some r) : XMi l D (wC cy ad) (xty cy) yX3_start wsX3_start ({ frames := 2, cells := 0, slots := 0, locals := 42 } : Room) [.ref (ad 0), .int a1] S r S := by
  refine x_ofWi (cc := cX3_start) (maxL := 2) (ret := some .int) (own := RX3) rfl (by decide) rfl (Nat.le_of_ble_eq_true rfl) rfl ?_
  intro p e s m args below meth c A C _
  unfold f_X3_start at hf
  refine x_aload_n C dX3_start_0 rfl 0 rfl ?_
  refine x_iload_n C dX3_start_1 rfl 1 rfl ?_
  obtain ⟨u1, h2, hf⟩ := x_bd hf
  refine x_callVi (As := [.int a1]) (st := []) C (c_X3_isPlacedWork l D cy ad S a1  h2) (cwV 1 C.2.2.2.2.1 gX3_start_X3_isPlacedWork rfl rfl rfl (by decide +kernel) ⟨(by decide), (by decide)⟩) 0 (gC_root cy ad S) rfl rfl rfl rfl (Nat.le_of_ble_eq_true rfl) dX3_start_2 ?_
  refine x_if_eq (tgt := 20) C dX3_start_5 (by decide) (fun (c_3 : u1 = 0) => ?_) (fun (c_3 : ¬ (u1 = 0)) => ?_)
  · replace hf := x_ip c_3 hf
    refine x_iconst (v := (-1)) C dX3_start_20 (by decide) ?_
    have e9 := x_s1 hf; subst e9
    exact x_iret C dX3_start_21
  · replace hf := x_in c_3 hf
    refine x_aload_n C dX3_start_8 rfl 0 rfl ?_
    refine x_get (v := .ref (ad 1)) C iX3_start_X3 rfl 0 (gC_root cy ad S) 1 (by decide) (by decide +kernel) rfl rfl dX3_start_9 ?_
    refine x_iload_n C dX3_start_12 rfl 1 rfl ?_
    obtain ⟨g_4, hf⟩ := x_gd hf
    refine x_aald C 1 2 (gC_works cy ad S) rfl rfl g_4 rfl dX3_start_13 ?_
    refine x_getN (v := .int (S.1 9 a1.toNatClampNeg 0)) (host := "ClosureHours") C iX3_start_X2 rfl (15 + a1.toNatClampNeg) (gC_work cy ad S (x_lt g_4)) 8 (by decide) (by decide +kernel) rfl rfl dX3_start_14 ?_
    refine x_goto (tgt := 21) C dX3_start_17 (by decide) ?_
    have e9 := x_s1 hf; subst e9
    exact x_iret C dX3_start_21
end DX3_start
set_option maxRecDepth 20000 in
theorem iX3_least_X2 : ∀ w ∈ u_ws RX2 TX2 10, w ∈ wsX3_least := by decide +kernel
set_option maxRecDepth 20000 in
theorem iX3_least_X3 : ∀ w ∈ u_ws RX3 TX3 8, w ∈ wsX3_least := by decide +kernel
def f_X3_least_L40  (k40 : St → Int32 → Option (Int32)) : Nat → St → Int32 → Int32 → Option (Int32)
  | 0 => fun _ _ _ => none
  | n + 1 => fun S x2 x3 => if (S.1 1 0 0) ≤ x3 then (k40 S x2) else ((f_X3_isPlacedWork S x3).bind fun u3 => if u3 = 0 then ((f_X3_least_L40  k40 n) S x2 (x3 + 1)) else (if x3 < 0 ∨ 4 ≤ x3.toNatClampNeg then none else (f_X2_delayFrom S x3.toNatClampNeg (S.1 9 x3.toNatClampNeg 0)).bind fun u7 => (f_X3_least_L40  k40 n) S (x2 + u7) (x3 + 1)))
def f_X3_least (S : St) (a1 : Int32) : Option (Int32) := if a1 = (-1) then (f_X3_least_L40  (fun S_9 x2_9 => some x2_9) 1000 S 0 0) else ((f_X3_isPlacedWork S a1).bind fun u10 => if u10 = 0 then (some (-1)) else (if a1 < 0 ∨ 4 ≤ a1.toNatClampNeg then none else (f_X2_delayFrom S a1.toNatClampNeg (S.1 9 a1.toNatClampNeg 0)).bind fun u14 => some u14))
section DX3_least
variable {p : Program} {l : Launch} {e : Env} {s : State} {m : MethodId} {args : Array Value} {below : List Frame} {meth : Method} {c : Code} {D : va_G} {cy : Nat → ClassId} {ad : Nat → Nat} {A : Nat → Prop}
set_option maxHeartbeats 4000000 in
set_option maxRecDepth 100000 in
theorem t_X3_least_L40 (C : XC p s m args meth c D A (xty cy) cX3_least 4 RX3 wsX3_least (some .int)) {r : Int32}   {k40 : St → Int32 → Option (Int32)} (hk40 : ∀ (S : St) (x2 : Int32), k40 S x2 = some r → XJ p l e ({ frames := 2, cells := 0, slots := 0, locals := 44 } : Room) s m args below meth c D (wC cy ad) A 4 (QXi D (wC cy ad) A below args s r S) S 83 [(2, .int x2)] []) : ∀ (n : Nat), ∀ (S : St) (x2 : Int32) (x3 : Int32), (f_X3_least_L40  k40 n) S x2 x3 = some r → XJ p l e ({ frames := 2, cells := 0, slots := 0, locals := 44 } : Room) s m args below meth c D (wC cy ad) A 4 (QXi D (wC cy ad) A below args s r S) S 40 [(0, .ref (ad 0)), (2, .int x2), (3, .int x3)] [] := by
  intro n
  induction n with
  | zero => intro S x2 x3 hf; cases hf
  | succ n ih =>
    intro S x2 x3 hf
    rw [f_X3_least_L40] at hf
    refine x_iload_n C dX3_least_40 rfl 2 rfl ?_
    refine x_aload_n C dX3_least_41 rfl 0 rfl ?_
    refine x_get (v := .int (S.1 1 0 0)) C iX3_least_X3 rfl 0 (gC_root cy ad S) 5 (by decide) (by decide +kernel) rfl rfl dX3_least_42 ?_
    refine x_icmp_ge (tgt := 83) C dX3_least_45 (by decide) (fun (c_2 : (S.1 1 0 0) ≤ x3) => ?_) (fun (c_2 : ¬ ((S.1 1 0 0) ≤ x3)) => ?_)
    · replace hf := x_ip c_2 hf
      refine x_sub [1] rfl ?_
      exact hk40 S x2  hf
    · replace hf := x_in c_2 hf
      refine x_aload_n C dX3_least_48 rfl 0 rfl ?_
      refine x_iload_n C dX3_least_49 rfl 2 rfl ?_
      obtain ⟨u3, h4, hf⟩ := x_bd hf
      refine x_callVi (As := [.int x3]) (st := []) C (c_X3_isPlacedWork l D cy ad S x3  h4) (cwV 1 C.2.2.2.2.1 gX3_least_X3_isPlacedWork rfl rfl rfl (by decide +kernel) ⟨(by decide), (by decide)⟩) 0 (gC_root cy ad S) rfl rfl rfl rfl (Nat.le_of_ble_eq_true rfl) dX3_least_50 ?_
      refine x_if_eq (tgt := 77) C dX3_least_53 (by decide) (fun (c_5 : u3 = 0) => ?_) (fun (c_5 : ¬ (u3 = 0)) => ?_)
      · replace hf := x_ip c_5 hf
        refine x_iinc (v := x3 + 1) (lv2 := [(3, .int (x3 + 1)), (0, .ref (ad 0)), (2, .int x2)]) C dX3_least_77 (k0 := 2) rfl rfl (by decide) rfl ?_
        refine x_goto (tgt := 40) C dX3_least_80 (by decide) ?_
        refine x_sub [1, 2, 0] rfl ?_
        exact ih S x2 (x3 + 1)  hf
      · replace hf := x_in c_5 hf
        refine x_iload_n C dX3_least_56 rfl 1 rfl ?_
        refine x_aload_n C dX3_least_57 rfl 0 rfl ?_
        refine x_get (v := .ref (ad 1)) C iX3_least_X3 rfl 0 (gC_root cy ad S) 1 (by decide) (by decide +kernel) rfl rfl dX3_least_58 ?_
        refine x_iload_n C dX3_least_61 rfl 2 rfl ?_
        obtain ⟨g_6, hf⟩ := x_gd hf
        refine x_aald C 1 2 (gC_works cy ad S) rfl rfl g_6 rfl dX3_least_62 ?_
        refine x_aload_n C dX3_least_63 rfl 0 rfl ?_
        refine x_get (v := .ref (ad 1)) C iX3_least_X3 rfl 0 (gC_root cy ad S) 1 (by decide) (by decide +kernel) rfl rfl dX3_least_64 ?_
        refine x_iload_n C dX3_least_67 rfl 2 rfl ?_
        refine x_aald C 1 2 (gC_works cy ad S) rfl rfl g_6 rfl dX3_least_68 ?_
        refine x_getN (v := .int (S.1 9 x3.toNatClampNeg 0)) (host := "ClosureHours") C iX3_least_X2 rfl (15 + x3.toNatClampNeg) (gC_work cy ad S (x_lt g_6)) 8 (by decide) (by decide +kernel) rfl rfl dX3_least_69 ?_
        obtain ⟨u7, h8, hf⟩ := x_bd hf
        refine x_callVNi (As := [.int (S.1 9 x3.toNatClampNeg 0)]) (st := [.int x2]) C (c_X2_delayFrom l D cy ad S x3.toNatClampNeg (S.1 9 x3.toNatClampNeg 0) (x_lt g_6) h8) ⟨va_cnB 1 C.2.2.2.2.1 gX3_least_X2_delayFrom_n108 rfl rfl rfl (C.2.2.2.2.2.2.2.2.1 (.methodLinkNest RX3 108 yX2_delayFrom "ClosureHours") (by decide +kernel)) (C.2.2.2.2.1 (.initialized RX2) (by decide +kernel)) (by decide +kernel) ⟨(by decide), (by decide)⟩, C.2.2.2.2.1 (.instanceMethod yX2_delayFrom) (by decide +kernel), C.2.2.2.2.1 (.selects RX2 yX2_delayFrom yX2_delayFrom) (by decide +kernel)⟩ (15 + x3.toNatClampNeg) (gC_work cy ad S (x_lt g_6)) rfl rfl rfl rfl (Nat.le_of_ble_eq_true rfl) dX3_least_72 ?_
        refine x_iadd C dX3_least_75 ?_
        refine x_istore_n (lv2 := [(2, .int (x2 + u7)), (0, .ref (ad 0)), (3, .int x3)]) C dX3_least_76 rfl (by decide) rfl ?_
        refine x_iinc (v := x3 + 1) (lv2 := [(3, .int (x3 + 1)), (2, .int (x2 + u7)), (0, .ref (ad 0))]) C dX3_least_77 (k0 := 2) rfl rfl (by decide) rfl ?_
        refine x_goto (tgt := 40) C dX3_least_80 (by decide) ?_
        refine x_sub [2, 1, 0] rfl ?_
        exact ih S (x2 + u7) (x3 + 1)  hf
set_option maxHeartbeats 4000000 in
set_option maxRecDepth 100000 in
theorem c_X3_least (l : Launch) (D : va_G) (cy : Nat → ClassId) (ad : Nat → Nat) (S : St) (a1 : Int32) {r : Int32}  (hf : f_X3_least S a1 = some r) : XMi l D (wC cy ad) (xty cy) yX3_least wsX3_least ({ frames := 2, cells := 0, slots := 0, locals := 44 } : Room) [.ref (ad 0), .int a1] S r S := by
  refine x_ofWi (cc := cX3_least) (maxL := 4) (ret := some .int) (own := RX3) rfl (by decide) rfl (Nat.le_of_ble_eq_true rfl) rfl ?_
  intro p e s m args below meth c A C _
  unfold f_X3_least at hf
  refine x_iload_n C dX3_least_0 rfl 1 rfl ?_
  refine x_iconst (v := (-1)) C dX3_least_1 (by decide) ?_
  refine x_icmp_eq (tgt := 36) C dX3_least_2 (by decide) (fun (c_1 : a1 = (-1)) => ?_) (fun (c_1 : ¬ (a1 = (-1))) => ?_)
  · replace hf := x_ip c_1 hf
    refine x_iconst (v := 0) C dX3_least_36 (by decide) ?_
    refine x_istore_n (lv2 := [(2, .int 0), (0, .ref (ad 0)), (1, .int a1)]) C dX3_least_37 rfl (by decide) rfl ?_
    refine x_iconst (v := 0) C dX3_least_38 (by decide) ?_
    refine x_istore_n (lv2 := [(3, .int 0), (2, .int 0), (0, .ref (ad 0)), (1, .int a1)]) C dX3_least_39 rfl (by decide) rfl ?_
    refine x_sub [2, 1, 0] rfl ?_
    refine t_X3_least_L40 C  (fun S_9 x2_9  hf => ?_) 1000 S 0 0  hf
    refine x_iload_n C dX3_least_83 rfl 0 rfl ?_
    have e9 := x_s1 hf; subst e9
    exact x_iret C dX3_least_84
  · replace hf := x_in c_1 hf
    refine x_aload_n C dX3_least_5 rfl 0 rfl ?_
    refine x_iload_n C dX3_least_6 rfl 1 rfl ?_
    obtain ⟨u10, h11, hf⟩ := x_bd hf
    refine x_callVi (As := [.int a1]) (st := []) C (c_X3_isPlacedWork l D cy ad S a1  h11) (cwV 1 C.2.2.2.2.1 gX3_least_X3_isPlacedWork rfl rfl rfl (by decide +kernel) ⟨(by decide), (by decide)⟩) 0 (gC_root cy ad S) rfl rfl rfl rfl (Nat.le_of_ble_eq_true rfl) dX3_least_7 ?_
    refine x_if_eq (tgt := 34) C dX3_least_10 (by decide) (fun (c_12 : u10 = 0) => ?_) (fun (c_12 : ¬ (u10 = 0)) => ?_)
    · replace hf := x_ip c_12 hf
      refine x_iconst (v := (-1)) C dX3_least_34 (by decide) ?_
      have e9 := x_s1 hf; subst e9
      exact x_iret C dX3_least_35
    · replace hf := x_in c_12 hf
      refine x_aload_n C dX3_least_13 rfl 0 rfl ?_
      refine x_get (v := .ref (ad 1)) C iX3_least_X3 rfl 0 (gC_root cy ad S) 1 (by decide) (by decide +kernel) rfl rfl dX3_least_14 ?_
      refine x_iload_n C dX3_least_17 rfl 1 rfl ?_
      obtain ⟨g_13, hf⟩ := x_gd hf
      refine x_aald C 1 2 (gC_works cy ad S) rfl rfl g_13 rfl dX3_least_18 ?_
      refine x_aload_n C dX3_least_19 rfl 0 rfl ?_
      refine x_get (v := .ref (ad 1)) C iX3_least_X3 rfl 0 (gC_root cy ad S) 1 (by decide) (by decide +kernel) rfl rfl dX3_least_20 ?_
      refine x_iload_n C dX3_least_23 rfl 1 rfl ?_
      refine x_aald C 1 2 (gC_works cy ad S) rfl rfl g_13 rfl dX3_least_24 ?_
      refine x_getN (v := .int (S.1 9 a1.toNatClampNeg 0)) (host := "ClosureHours") C iX3_least_X2 rfl (15 + a1.toNatClampNeg) (gC_work cy ad S (x_lt g_13)) 8 (by decide) (by decide +kernel) rfl rfl dX3_least_25 ?_
      obtain ⟨u14, h15, hf⟩ := x_bd hf
      refine x_callVNi (As := [.int (S.1 9 a1.toNatClampNeg 0)]) (st := []) C (c_X2_delayFrom l D cy ad S a1.toNatClampNeg (S.1 9 a1.toNatClampNeg 0) (x_lt g_13) h15) ⟨va_cnB 1 C.2.2.2.2.1 gX3_least_X2_delayFrom_n108 rfl rfl rfl (C.2.2.2.2.2.2.2.2.1 (.methodLinkNest RX3 108 yX2_delayFrom "ClosureHours") (by decide +kernel)) (C.2.2.2.2.1 (.initialized RX2) (by decide +kernel)) (by decide +kernel) ⟨(by decide), (by decide)⟩, C.2.2.2.2.1 (.instanceMethod yX2_delayFrom) (by decide +kernel), C.2.2.2.2.1 (.selects RX2 yX2_delayFrom yX2_delayFrom) (by decide +kernel)⟩ (15 + a1.toNatClampNeg) (gC_work cy ad S (x_lt g_13)) rfl rfl rfl rfl (Nat.le_of_ble_eq_true rfl) dX3_least_28 ?_
      refine x_goto (tgt := 35) C dX3_least_31 (by decide) ?_
      have e9 := x_s1 hf; subst e9
      exact x_iret C dX3_least_35
end DX3_least
set_option maxRecDepth 20000 in
theorem iX3_state_X2 : ∀ w ∈ u_ws RX2 TX2 10, w ∈ wsX3_state := by decide +kernel
set_option maxRecDepth 20000 in
theorem iX3_state_X3 : ∀ w ∈ u_ws RX3 TX3 8, w ∈ wsX3_state := by decide +kernel
def f_X3_state (S : St) (a1 : Int32) : Option (Int32) := (f_X3_isWork S a1).bind fun u1 => if u1 = 0 then (some (-1)) else (if a1 < 0 ∨ 4 ≤ a1.toNatClampNeg then none else some (S.1 10 a1.toNatClampNeg 0))
section DX3_state
variable {p : Program} {l : Launch} {e : Env} {s : State} {m : MethodId} {args : Array Value} {below : List Frame} {meth : Method} {c : Code} {D : va_G} {cy : Nat → ClassId} {ad : Nat → Nat} {A : Nat → Prop}
set_option maxHeartbeats 4000000 in
set_option maxRecDepth 100000 in
theorem c_X3_state (l : Launch) (D : va_G) (cy : Nat → ClassId) (ad : Nat → Nat) (S : St) (a1 : Int32) {r : Int32}  (hf : f_X3_state S a1 = some r) : XMi l D (wC cy ad) (xty cy) yX3_state wsX3_state ({ frames := 1, cells := 0, slots := 0, locals := 21 } : Room) [.ref (ad 0), .int a1] S r S := by
  refine x_ofWi (cc := cX3_state) (maxL := 2) (ret := some .int) (own := RX3) rfl (by decide) rfl (Nat.le_of_ble_eq_true rfl) rfl ?_
  intro p e s m args below meth c A C _
  unfold f_X3_state at hf
  refine x_aload_n C dX3_state_0 rfl 0 rfl ?_
  refine x_iload_n C dX3_state_1 rfl 1 rfl ?_
  obtain ⟨u1, h2, hf⟩ := x_bd hf
  refine x_callVi (As := [.int a1]) (st := []) C (c_X3_isWork l D cy ad S a1  h2) (cwV 1 C.2.2.2.2.1 gX3_state_X3_isWork rfl rfl rfl (by decide +kernel) ⟨(by decide), (by decide)⟩) 0 (gC_root cy ad S) rfl rfl rfl rfl (Nat.le_of_ble_eq_true rfl) dX3_state_2 ?_
  refine x_if_eq (tgt := 20) C dX3_state_5 (by decide) (fun (c_3 : u1 = 0) => ?_) (fun (c_3 : ¬ (u1 = 0)) => ?_)
  · replace hf := x_ip c_3 hf
    refine x_iconst (v := (-1)) C dX3_state_20 (by decide) ?_
    have e9 := x_s1 hf; subst e9
    exact x_iret C dX3_state_21
  · replace hf := x_in c_3 hf
    refine x_aload_n C dX3_state_8 rfl 0 rfl ?_
    refine x_get (v := .ref (ad 1)) C iX3_state_X3 rfl 0 (gC_root cy ad S) 1 (by decide) (by decide +kernel) rfl rfl dX3_state_9 ?_
    refine x_iload_n C dX3_state_12 rfl 1 rfl ?_
    obtain ⟨g_4, hf⟩ := x_gd hf
    refine x_aald C 1 2 (gC_works cy ad S) rfl rfl g_4 rfl dX3_state_13 ?_
    refine x_getN (v := .int (S.1 10 a1.toNatClampNeg 0)) (host := "ClosureHours") C iX3_state_X2 rfl (15 + a1.toNatClampNeg) (gC_work cy ad S (x_lt g_4)) 9 (by decide) (by decide +kernel) rfl rfl dX3_state_14 ?_
    refine x_goto (tgt := 21) C dX3_state_17 (by decide) ?_
    have e9 := x_s1 hf; subst e9
    exact x_iret C dX3_state_21
end DX3_state
