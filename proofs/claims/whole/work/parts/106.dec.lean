set_option maxRecDepth 20000 in
theorem iX4_state_X4 : ∀ w ∈ u_ws RX4 TX4 25, w ∈ wsX4_state := by decide +kernel
def f_X4_state (S : St) (a1 : Int32) : Option (Int32) := (f_X4_isWork S a1).bind fun u1 => if u1 = 0 then (some (-1)) else (if a1 < 0 ∨ 4 ≤ a1.toNatClampNeg then none else some (S.1 12 0 a1.toNatClampNeg))
section DX4_state
variable {p : Program} {l : Launch} {e : Env} {s : State} {m : MethodId} {args : Array Value} {below : List Frame} {meth : Method} {c : Code} {D : va_G} {cy : Nat → ClassId} {ad : Nat → Nat} {A : Nat → Prop}
set_option maxHeartbeats 4000000 in
set_option maxRecDepth 100000 in
theorem c_X4_state (l : Launch) (D : va_G) (cy : Nat → ClassId) (ad : Nat → Nat) (S : St) (a1 : Int32) {r : Int32}  (hf : f_X4_state S a1 = some r) : XMi l D (wM cy ad) (xty cy) yX4_state wsX4_state ({ frames := 1, cells := 0, slots := 0, locals := 21 } : Room) [.ref (ad 0), .int a1] S r S := by
  refine x_ofWi (cc := cX4_state) (maxL := 2) (ret := some .int) (own := RX4) rfl (by decide) rfl (Nat.le_of_ble_eq_true rfl) rfl ?_
  intro p e s m args below meth c A C _
  unfold f_X4_state at hf
  refine x_aload_n C dX4_state_0 rfl 0 rfl ?_
  refine x_iload_n C dX4_state_1 rfl 1 rfl ?_
  obtain ⟨u1, h2, hf⟩ := x_bd hf
  refine x_callVi (As := [.int a1]) (st := []) C (c_X4_isWork l D cy ad S a1  h2) (cwV 1 C.2.2.2.2.1 gX4_state_X4_isWork rfl rfl rfl (by decide +kernel) ⟨(by decide), (by decide)⟩) 0 (gM_root cy ad S) rfl rfl rfl rfl (Nat.le_of_ble_eq_true rfl) dX4_state_2 ?_
  refine x_if_eq (tgt := 17) C dX4_state_5 (by decide) (fun (c_3 : u1 = 0) => ?_) (fun (c_3 : ¬ (u1 = 0)) => ?_)
  · replace hf := x_ip c_3 hf
    refine x_iconst (v := (-1)) C dX4_state_17 (by decide) ?_
    have e9 := x_s1 hf; subst e9
    exact x_iret C dX4_state_18
  · replace hf := x_in c_3 hf
    refine x_aload_n C dX4_state_8 rfl 0 rfl ?_
    refine x_get (v := .ref (ad 11)) C iX4_state_X4 rfl 0 (gM_root cy ad S) 12 (by decide) (by decide +kernel) rfl rfl dX4_state_9 ?_
    refine x_iload_n C dX4_state_12 rfl 1 rfl ?_
    obtain ⟨g_4, hf⟩ := x_gd hf
    refine x_iald (f := S.1 12 0) C 11 0 (gM_states cy ad S) rfl g_4 dX4_state_13 ?_
    refine x_goto (tgt := 18) C dX4_state_14 (by decide) ?_
    have e9 := x_s1 hf; subst e9
    exact x_iret C dX4_state_18
end DX4_state
set_option maxRecDepth 20000 in
theorem iX4_notice_X4 : ∀ w ∈ u_ws RX4 TX4 25, w ∈ wsX4_notice := by decide +kernel
def f_X4_notice (S : St) (a1 : Int32) (a2 : Int32) : Option (Int32) := if a1 < 0 then (some (-1)) else (if (S.1 21 0 0) ≤ a1 then (some (-1)) else (if (200 : Int32) ≤ a1 then (some (-1)) else (if a2 < 0 then (some (-1)) else (if a2 ≤ 1 then (if a2 = 0 then (if a1 < 0 ∨ 200 ≤ a1.toNatClampNeg then none else some (S.1 22 0 a1.toNatClampNeg)) else (if a1 < 0 ∨ 200 ≤ a1.toNatClampNeg then none else some (S.1 23 0 a1.toNatClampNeg))) else (some (-1))))))
section DX4_notice
variable {p : Program} {l : Launch} {e : Env} {s : State} {m : MethodId} {args : Array Value} {below : List Frame} {meth : Method} {c : Code} {D : va_G} {cy : Nat → ClassId} {ad : Nat → Nat} {A : Nat → Prop}
set_option maxHeartbeats 4000000 in
set_option maxRecDepth 100000 in
theorem c_X4_notice (l : Launch) (D : va_G) (cy : Nat → ClassId) (ad : Nat → Nat) (S : St) (a1 : Int32) (a2 : Int32) {r : Int32}  (hf : f_X4_notice S a1 a2 = some r) : XMi l D (wM cy ad) (xty cy) yX4_notice wsX4_notice ({ frames := 0, cells := 0, slots := 0, locals := 0 } : Room) [.ref (ad 0), .int a1, .int a2] S r S := by
  refine x_ofWi (cc := cX4_notice) (maxL := 3) (ret := some .int) (own := RX4) rfl (by decide) rfl (Nat.le_of_ble_eq_true rfl) rfl ?_
  intro p e s m args below meth c A C _
  unfold f_X4_notice at hf
  refine x_iload_n C dX4_notice_0 rfl 1 rfl ?_
  refine x_if_lt (tgt := 28) C dX4_notice_1 (by decide) (fun (c_1 : a1 < 0) => ?_) (fun (c_1 : ¬ (a1 < 0)) => ?_)
  · replace hf := x_ip c_1 hf
    refine x_iconst (v := (-1)) C dX4_notice_28 (by decide) ?_
    have e9 := x_s1 hf; subst e9
    exact x_iret C dX4_notice_29
  · replace hf := x_in c_1 hf
    refine x_iload_n C dX4_notice_4 rfl 1 rfl ?_
    refine x_aload_n C dX4_notice_5 rfl 0 rfl ?_
    refine x_get (v := .int (S.1 21 0 0)) C iX4_notice_X4 rfl 0 (gM_root cy ad S) 21 (by decide) (by decide +kernel) rfl rfl dX4_notice_6 ?_
    refine x_icmp_ge (tgt := 28) C dX4_notice_9 (by decide) (fun (c_2 : (S.1 21 0 0) ≤ a1) => ?_) (fun (c_2 : ¬ ((S.1 21 0 0) ≤ a1)) => ?_)
    · replace hf := x_ip c_2 hf
      refine x_iconst (v := (-1)) C dX4_notice_28 (by decide) ?_
      have e9 := x_s1 hf; subst e9
      exact x_iret C dX4_notice_29
    · replace hf := x_in c_2 hf
      refine x_iload_n C dX4_notice_12 rfl 1 rfl ?_
      refine x_sipush (v := 200) C dX4_notice_13 (by decide) ?_
      refine x_icmp_ge (tgt := 28) C dX4_notice_16 (by decide) (fun (c_3 : (200 : Int32) ≤ a1) => ?_) (fun (c_3 : ¬ ((200 : Int32) ≤ a1)) => ?_)
      · replace hf := x_ip c_3 hf
        refine x_iconst (v := (-1)) C dX4_notice_28 (by decide) ?_
        have e9 := x_s1 hf; subst e9
        exact x_iret C dX4_notice_29
      · replace hf := x_in c_3 hf
        refine x_iload_n C dX4_notice_19 rfl 2 rfl ?_
        refine x_if_lt (tgt := 28) C dX4_notice_20 (by decide) (fun (c_4 : a2 < 0) => ?_) (fun (c_4 : ¬ (a2 < 0)) => ?_)
        · replace hf := x_ip c_4 hf
          refine x_iconst (v := (-1)) C dX4_notice_28 (by decide) ?_
          have e9 := x_s1 hf; subst e9
          exact x_iret C dX4_notice_29
        · replace hf := x_in c_4 hf
          refine x_iload_n C dX4_notice_23 rfl 2 rfl ?_
          refine x_iconst (v := 1) C dX4_notice_24 (by decide) ?_
          refine x_icmp_le (tgt := 30) C dX4_notice_25 (by decide) (fun (c_5 : a2 ≤ 1) => ?_) (fun (c_5 : ¬ (a2 ≤ 1)) => ?_)
          · replace hf := x_ip c_5 hf
            refine x_iload_n C dX4_notice_30 rfl 2 rfl ?_
            refine x_if_ne (tgt := 43) C dX4_notice_31 (by decide) (fun (c_6 : ¬ (a2 = 0)) => ?_) (fun (c_6 : a2 = 0) => ?_)
            · replace hf := x_in c_6 hf
              refine x_aload_n C dX4_notice_43 rfl 0 rfl ?_
              refine x_get (v := .ref (ad 21)) C iX4_notice_X4 rfl 0 (gM_root cy ad S) 23 (by decide) (by decide +kernel) rfl rfl dX4_notice_44 ?_
              refine x_iload_n C dX4_notice_47 rfl 1 rfl ?_
              obtain ⟨g_7, hf⟩ := x_gd hf
              refine x_iald (f := S.1 23 0) C 21 0 (gM_noticeStart cy ad S) rfl g_7 dX4_notice_48 ?_
              have e9 := x_s1 hf; subst e9
              exact x_iret C dX4_notice_49
            · replace hf := x_ip c_6 hf
              refine x_aload_n C dX4_notice_34 rfl 0 rfl ?_
              refine x_get (v := .ref (ad 20)) C iX4_notice_X4 rfl 0 (gM_root cy ad S) 22 (by decide) (by decide +kernel) rfl rfl dX4_notice_35 ?_
              refine x_iload_n C dX4_notice_38 rfl 1 rfl ?_
              obtain ⟨g_8, hf⟩ := x_gd hf
              refine x_iald (f := S.1 22 0) C 20 0 (gM_noticeWork cy ad S) rfl g_8 dX4_notice_39 ?_
              refine x_goto (tgt := 49) C dX4_notice_40 (by decide) ?_
              have e9 := x_s1 hf; subst e9
              exact x_iret C dX4_notice_49
          · replace hf := x_in c_5 hf
            refine x_iconst (v := (-1)) C dX4_notice_28 (by decide) ?_
            have e9 := x_s1 hf; subst e9
            exact x_iret C dX4_notice_29
end DX4_notice
set_option maxRecDepth 20000 in
theorem iX4_paid_X4 : ∀ w ∈ u_ws RX4 TX4 25, w ∈ wsX4_paid := by decide +kernel
def f_X4_paid_L25 (r5 : St → Int32 → Int64 → Int32 → Option (Int64)) (k5 : St → Int64 → Option (Int64)) (S : St) (x1 : Int32) (x2 : Int64) (x4 : Int32) : Option (Int64) := if x4 < 0 ∨ 4 ≤ x4.toNatClampNeg then none else if (S.1 13 0 x4.toNatClampNeg) = (-1) then (r5 S x1 x2 (x4 + 1)) else ((f_X4_delayOf S x4 (S.1 13 0 x4.toNatClampNeg)).bind fun u5 => r5 S x1 (x2 + (((Int32.toInt64 u5) * (S.2 0 0 0)) / 60)) (x4 + 1))
def f_X4_paid_L5  (k5 : St → Int64 → Option (Int64)) : Nat → St → Int32 → Int64 → Int32 → Option (Int64)
  | 0 => fun _ _ _ _ => none
  | n + 1 => fun S x1 x2 x4 => if (S.1 1 0 0) ≤ x4 then (k5 S x2) else (if x1 = (-1) then (f_X4_paid_L25 (f_X4_paid_L5  k5 n) k5 S x1 x2 x4) else (if x1 = x4 then (f_X4_paid_L25 (f_X4_paid_L5  k5 n) k5 S x1 x2 x4) else ((f_X4_paid_L5  k5 n) S x1 x2 (x4 + 1))))
def f_X4_paid (S : St) (a1 : Int32) : Option (Int64) := f_X4_paid_L5  (fun S_8 x2_8 => some x2_8) 1000 S a1 0 0
section DX4_paid
variable {p : Program} {l : Launch} {e : Env} {s : State} {m : MethodId} {args : Array Value} {below : List Frame} {meth : Method} {c : Code} {D : va_G} {cy : Nat → ClassId} {ad : Nat → Nat} {A : Nat → Prop}
set_option maxHeartbeats 4000000 in
set_option maxRecDepth 100000 in
theorem t_X4_paid_L25 (C : XC p s m args meth c D A (xty cy) cX4_paid 5 RX4 wsX4_paid (some .long)) {r : Int64} {r5 : St → Int32 → Int64 → Int32 → Option (Int64)} {k5 : St → Int64 → Option (Int64)} (hr5 : ∀ (S : St) (x1 : Int32) (x2 : Int64) (x4 : Int32), r5 S x1 x2 x4 = some r → XJ p l e ({ frames := 2, cells := 0, slots := 0, locals := 45 } : Room) s m args below meth c D (wM cy ad) A 5 (QXl D (wM cy ad) A below args s r S) S 5 [(0, .ref (ad 0)), (1, .int x1), (2, .long x2), (4, .int x4)] []) (hk5 : ∀ (S : St) (x2 : Int64), k5 S x2 = some r → XJ p l e ({ frames := 2, cells := 0, slots := 0, locals := 45 } : Room) s m args below meth c D (wM cy ad) A 5 (QXl D (wM cy ad) A below args s r S) S 68 [(2, .long x2)] []) (S : St) (x1 : Int32) (x2 : Int64) (x4 : Int32)  (hf : f_X4_paid_L25 r5 k5 S x1 x2 x4 = some r) : XJ p l e ({ frames := 2, cells := 0, slots := 0, locals := 45 } : Room) s m args below meth c D (wM cy ad) A 5 (QXl D (wM cy ad) A below args s r S) S 25 [(0, .ref (ad 0)), (1, .int x1), (2, .long x2), (4, .int x4)] [] := by
  unfold f_X4_paid_L25 at hf
  refine x_aload_n C dX4_paid_25 rfl 0 rfl ?_
  refine x_get (v := .ref (ad 12)) C iX4_paid_X4 rfl 0 (gM_root cy ad S) 13 (by decide) (by decide +kernel) rfl rfl dX4_paid_26 ?_
  refine x_iload C dX4_paid_29 3 rfl ?_
  obtain ⟨g_3, hf⟩ := x_gd hf
  refine x_iald (f := S.1 13 0) C 12 0 (gM_starts cy ad S) rfl g_3 dX4_paid_31 ?_
  refine x_iconst (v := (-1)) C dX4_paid_32 (by decide) ?_
  refine x_icmp_eq (tgt := 62) C dX4_paid_33 (by decide) (fun (c_4 : (S.1 13 0 x4.toNatClampNeg) = (-1)) => ?_) (fun (c_4 : ¬ ((S.1 13 0 x4.toNatClampNeg) = (-1))) => ?_)
  · replace hf := x_ip c_4 hf
    refine x_iinc (v := x4 + 1) (lv2 := [(4, .int (x4 + 1)), (0, .ref (ad 0)), (1, .int x1), (2, .long x2)]) C dX4_paid_62 (k0 := 3) rfl rfl (by decide) rfl ?_
    refine x_goto (tgt := 5) C dX4_paid_65 (by decide) ?_
    refine x_sub [1, 2, 3, 0] rfl ?_
    exact hr5 S x1 x2 (x4 + 1)  hf
  · replace hf := x_in c_4 hf
    refine x_lload_n C dX4_paid_36 rfl 2 rfl ?_
    refine x_aload_n C dX4_paid_37 rfl 0 rfl ?_
    refine x_iload C dX4_paid_38 3 rfl ?_
    refine x_aload_n C dX4_paid_40 rfl 0 rfl ?_
    refine x_get (v := .ref (ad 12)) C iX4_paid_X4 rfl 0 (gM_root cy ad S) 13 (by decide) (by decide +kernel) rfl rfl dX4_paid_41 ?_
    refine x_iload C dX4_paid_44 3 rfl ?_
    refine x_iald (f := S.1 13 0) C 12 0 (gM_starts cy ad S) rfl g_3 dX4_paid_46 ?_
    obtain ⟨u5, h6, hf⟩ := x_bd hf
    refine x_callVi (As := [.int x4, .int (S.1 13 0 x4.toNatClampNeg)]) (st := [.long x2]) C (c_X4_delayOf l D cy ad S x4 (S.1 13 0 x4.toNatClampNeg)  h6) (cwV 2 C.2.2.2.2.1 gX4_paid_X4_delayOf rfl rfl rfl (by decide +kernel) ⟨(by decide), (by decide)⟩) 0 (gM_root cy ad S) rfl rfl rfl rfl (Nat.le_of_ble_eq_true rfl) dX4_paid_47 ?_
    refine x_i2l C dX4_paid_50 ?_
    refine x_aload_n C dX4_paid_51 rfl 0 rfl ?_
    refine x_get (v := .long (S.2 0 0 0)) C iX4_paid_X4 rfl 0 (gM_root cy ad S) 24 (by decide) (by decide +kernel) rfl rfl dX4_paid_52 ?_
    refine x_lmul C dX4_paid_55 ?_
    refine x_ldc2 (v := 60) C (by decide +kernel) dX4_paid_56 ?_
    refine x_ldiv C dX4_paid_59 (by decide) ?_
    refine x_ladd C dX4_paid_60 ?_
    refine x_lstore_n (lv2 := [(2, .long (x2 + (((Int32.toInt64 u5) * (S.2 0 0 0)) / 60))), (0, .ref (ad 0)), (1, .int x1), (4, .int x4)]) C dX4_paid_61 rfl (by decide) rfl ?_
    refine x_iinc (v := x4 + 1) (lv2 := [(4, .int (x4 + 1)), (2, .long (x2 + (((Int32.toInt64 u5) * (S.2 0 0 0)) / 60))), (0, .ref (ad 0)), (1, .int x1)]) C dX4_paid_62 (k0 := 3) rfl rfl (by decide) rfl ?_
    refine x_goto (tgt := 5) C dX4_paid_65 (by decide) ?_
    refine x_sub [2, 3, 1, 0] rfl ?_
    exact hr5 S x1 (x2 + (((Int32.toInt64 u5) * (S.2 0 0 0)) / 60)) (x4 + 1)  hf
set_option maxHeartbeats 4000000 in
set_option maxRecDepth 100000 in
theorem t_X4_paid_L5 (C : XC p s m args meth c D A (xty cy) cX4_paid 5 RX4 wsX4_paid (some .long)) {r : Int64}   {k5 : St → Int64 → Option (Int64)} (hk5 : ∀ (S : St) (x2 : Int64), k5 S x2 = some r → XJ p l e ({ frames := 2, cells := 0, slots := 0, locals := 45 } : Room) s m args below meth c D (wM cy ad) A 5 (QXl D (wM cy ad) A below args s r S) S 68 [(2, .long x2)] []) : ∀ (n : Nat), ∀ (S : St) (x1 : Int32) (x2 : Int64) (x4 : Int32), (f_X4_paid_L5  k5 n) S x1 x2 x4 = some r → XJ p l e ({ frames := 2, cells := 0, slots := 0, locals := 45 } : Room) s m args below meth c D (wM cy ad) A 5 (QXl D (wM cy ad) A below args s r S) S 5 [(0, .ref (ad 0)), (1, .int x1), (2, .long x2), (4, .int x4)] [] := by
  intro n
  induction n with
  | zero => intro S x1 x2 x4 hf; cases hf
  | succ n ih =>
    intro S x1 x2 x4 hf
    rw [f_X4_paid_L5] at hf
    refine x_iload C dX4_paid_5 3 rfl ?_
    refine x_aload_n C dX4_paid_7 rfl 0 rfl ?_
    refine x_get (v := .int (S.1 1 0 0)) C iX4_paid_X4 rfl 0 (gM_root cy ad S) 1 (by decide) (by decide +kernel) rfl rfl dX4_paid_8 ?_
    refine x_icmp_ge (tgt := 68) C dX4_paid_11 (by decide) (fun (c_1 : (S.1 1 0 0) ≤ x4) => ?_) (fun (c_1 : ¬ ((S.1 1 0 0) ≤ x4)) => ?_)
    · replace hf := x_ip c_1 hf
      refine x_sub [2] rfl ?_
      exact hk5 S x2  hf
    · replace hf := x_in c_1 hf
      refine x_iload_n C dX4_paid_14 rfl 1 rfl ?_
      refine x_iconst (v := (-1)) C dX4_paid_15 (by decide) ?_
      refine x_icmp_eq (tgt := 25) C dX4_paid_16 (by decide) (fun (c_2 : x1 = (-1)) => ?_) (fun (c_2 : ¬ (x1 = (-1))) => ?_)
      · replace hf := x_ip c_2 hf
        exact t_X4_paid_L25 C ih hk5 S x1 x2 x4  hf
      · replace hf := x_in c_2 hf
        refine x_iload_n C dX4_paid_19 rfl 1 rfl ?_
        refine x_iload C dX4_paid_20 3 rfl ?_
        refine x_icmp_ne (tgt := 62) C dX4_paid_22 (by decide) (fun (c_7 : ¬ (x1 = x4)) => ?_) (fun (c_7 : x1 = x4) => ?_)
        · replace hf := x_in c_7 hf
          refine x_iinc (v := x4 + 1) (lv2 := [(4, .int (x4 + 1)), (0, .ref (ad 0)), (1, .int x1), (2, .long x2)]) C dX4_paid_62 (k0 := 3) rfl rfl (by decide) rfl ?_
          refine x_goto (tgt := 5) C dX4_paid_65 (by decide) ?_
          refine x_sub [1, 2, 3, 0] rfl ?_
          exact ih S x1 x2 (x4 + 1)  hf
        · replace hf := x_ip c_7 hf
          exact t_X4_paid_L25 C ih hk5 S x1 x2 x4  hf
set_option maxHeartbeats 4000000 in
set_option maxRecDepth 100000 in
theorem c_X4_paid (l : Launch) (D : va_G) (cy : Nat → ClassId) (ad : Nat → Nat) (S : St) (a1 : Int32) {r : Int64}  (hf : f_X4_paid S a1 = some r) : XMl l D (wM cy ad) (xty cy) yX4_paid wsX4_paid ({ frames := 2, cells := 0, slots := 0, locals := 45 } : Room) [.ref (ad 0), .int a1] S r S := by
  refine x_ofWl (cc := cX4_paid) (maxL := 5) (ret := some .long) (own := RX4) rfl (by decide) rfl (Nat.le_of_ble_eq_true rfl) rfl ?_
  intro p e s m args below meth c A C _
  unfold f_X4_paid at hf
  refine x_lconst (v := 0) C dX4_paid_0 (by decide) ?_
  refine x_lstore_n (lv2 := [(2, .long 0), (0, .ref (ad 0)), (1, .int a1)]) C dX4_paid_1 rfl (by decide) rfl ?_
  refine x_iconst (v := 0) C dX4_paid_2 (by decide) ?_
  refine x_istore (lv2 := [(4, .int 0), (2, .long 0), (0, .ref (ad 0)), (1, .int a1)]) C dX4_paid_3 (by decide) rfl ?_
  refine x_sub [2, 3, 1, 0] rfl ?_
  refine t_X4_paid_L5 C  (fun S_8 x2_8  hf => ?_) 1000 S a1 0 0  hf
  refine x_lload_n C dX4_paid_68 rfl 0 rfl ?_
  have e9 := x_s1 hf; subst e9
  exact x_lret C dX4_paid_69
end DX4_paid
set_option maxRecDepth 20000 in
theorem iX4_open_X4 : ∀ w ∈ u_ws RX4 TX4 25, w ∈ wsX4_open := by decide +kernel
def f_X4_open_L14  (k14 : St → Int32 → Option (Int32)) : Nat → St → Int32 → Int32 → Int32 → Option (Int32)
  | 0 => fun _ _ _ _ => none
  | n + 1 => fun S x1 x2 x3 => if (S.1 1 0 0) ≤ x3 then (k14 S x2) else (if x3 < 0 ∨ 4 ≤ x3.toNatClampNeg then none else if (S.1 13 0 x3.toNatClampNeg) = (-1) then ((f_X4_open_L14  k14 n) S x1 (x2 + 0) (x3 + 1)) else (if x1 < (S.1 13 0 x3.toNatClampNeg) then ((f_X4_open_L14  k14 n) S x1 (x2 + 0) (x3 + 1)) else ((f_X4_span S x3).bind fun u8 => if ((S.1 13 0 x3.toNatClampNeg) + u8) ≤ x1 then ((f_X4_open_L14  k14 n) S x1 (x2 + 0) (x3 + 1)) else ((f_X4_open_L14  k14 n) S x1 (x2 + 1) (x3 + 1)))))
def f_X4_open (S : St) (a1 : Int32) : Option (Int32) := (f_X4_isHour S a1).bind fun u1 => if u1 = 0 then (some (-1)) else (f_X4_open_L14  (fun S_11 x2_11 => some x2_11) 1000 S a1 0 0)
section DX4_open
variable {p : Program} {l : Launch} {e : Env} {s : State} {m : MethodId} {args : Array Value} {below : List Frame} {meth : Method} {c : Code} {D : va_G} {cy : Nat → ClassId} {ad : Nat → Nat} {A : Nat → Prop}
set_option maxHeartbeats 4000000 in
set_option maxRecDepth 100000 in
theorem t_X4_open_L14 (C : XC p s m args meth c D A (xty cy) cX4_open 4 RX4 wsX4_open (some .int)) {r : Int32}   {k14 : St → Int32 → Option (Int32)} (hk14 : ∀ (S : St) (x2 : Int32), k14 S x2 = some r → XJ p l e ({ frames := 1, cells := 0, slots := 0, locals := 21 } : Room) s m args below meth c D (wM cy ad) A 4 (QXi D (wM cy ad) A below args s r S) S 72 [(2, .int x2)] []) : ∀ (n : Nat), ∀ (S : St) (x1 : Int32) (x2 : Int32) (x3 : Int32), (f_X4_open_L14  k14 n) S x1 x2 x3 = some r → XJ p l e ({ frames := 1, cells := 0, slots := 0, locals := 21 } : Room) s m args below meth c D (wM cy ad) A 4 (QXi D (wM cy ad) A below args s r S) S 14 [(0, .ref (ad 0)), (1, .int x1), (2, .int x2), (3, .int x3)] [] := by
  intro n
  induction n with
  | zero => intro S x1 x2 x3 hf; cases hf
  | succ n ih =>
    intro S x1 x2 x3 hf
    rw [f_X4_open_L14] at hf
    refine x_iload_n C dX4_open_14 rfl 3 rfl ?_
    refine x_aload_n C dX4_open_15 rfl 0 rfl ?_
    refine x_get (v := .int (S.1 1 0 0)) C iX4_open_X4 rfl 0 (gM_root cy ad S) 1 (by decide) (by decide +kernel) rfl rfl dX4_open_16 ?_
    refine x_icmp_ge (tgt := 72) C dX4_open_19 (by decide) (fun (c_4 : (S.1 1 0 0) ≤ x3) => ?_) (fun (c_4 : ¬ ((S.1 1 0 0) ≤ x3)) => ?_)
    · replace hf := x_ip c_4 hf
      refine x_sub [2] rfl ?_
      exact hk14 S x2  hf
    · replace hf := x_in c_4 hf
      refine x_iload_n C dX4_open_22 rfl 2 rfl ?_
      refine x_aload_n C dX4_open_23 rfl 0 rfl ?_
      refine x_get (v := .ref (ad 12)) C iX4_open_X4 rfl 0 (gM_root cy ad S) 13 (by decide) (by decide +kernel) rfl rfl dX4_open_24 ?_
      refine x_iload_n C dX4_open_27 rfl 3 rfl ?_
      obtain ⟨g_5, hf⟩ := x_gd hf
      refine x_iald (f := S.1 13 0) C 12 0 (gM_starts cy ad S) rfl g_5 dX4_open_28 ?_
      refine x_iconst (v := (-1)) C dX4_open_29 (by decide) ?_
      refine x_icmp_eq (tgt := 63) C dX4_open_30 (by decide) (fun (c_6 : (S.1 13 0 x3.toNatClampNeg) = (-1)) => ?_) (fun (c_6 : ¬ ((S.1 13 0 x3.toNatClampNeg) = (-1))) => ?_)
      · replace hf := x_ip c_6 hf
        refine x_iconst (v := 0) C dX4_open_63 (by decide) ?_
        refine x_iadd C dX4_open_64 ?_
        refine x_istore_n (lv2 := [(2, .int (x2 + 0)), (0, .ref (ad 0)), (1, .int x1), (3, .int x3)]) C dX4_open_65 rfl (by decide) rfl ?_
        refine x_iinc (v := x3 + 1) (lv2 := [(3, .int (x3 + 1)), (2, .int (x2 + 0)), (0, .ref (ad 0)), (1, .int x1)]) C dX4_open_66 (k0 := 3) rfl rfl (by decide) rfl ?_
        refine x_goto (tgt := 14) C dX4_open_69 (by decide) ?_
        refine x_sub [2, 3, 1, 0] rfl ?_
        exact ih S x1 (x2 + 0) (x3 + 1)  hf
      · replace hf := x_in c_6 hf
        refine x_aload_n C dX4_open_33 rfl 0 rfl ?_
        refine x_get (v := .ref (ad 12)) C iX4_open_X4 rfl 0 (gM_root cy ad S) 13 (by decide) (by decide +kernel) rfl rfl dX4_open_34 ?_
        refine x_iload_n C dX4_open_37 rfl 3 rfl ?_
        refine x_iald (f := S.1 13 0) C 12 0 (gM_starts cy ad S) rfl g_5 dX4_open_38 ?_
        refine x_iload_n C dX4_open_39 rfl 1 rfl ?_
        refine x_icmp_gt (tgt := 63) C dX4_open_40 (by decide) (fun (c_7 : x1 < (S.1 13 0 x3.toNatClampNeg)) => ?_) (fun (c_7 : ¬ (x1 < (S.1 13 0 x3.toNatClampNeg))) => ?_)
        · replace hf := x_ip c_7 hf
          refine x_iconst (v := 0) C dX4_open_63 (by decide) ?_
          refine x_iadd C dX4_open_64 ?_
          refine x_istore_n (lv2 := [(2, .int (x2 + 0)), (0, .ref (ad 0)), (1, .int x1), (3, .int x3)]) C dX4_open_65 rfl (by decide) rfl ?_
          refine x_iinc (v := x3 + 1) (lv2 := [(3, .int (x3 + 1)), (2, .int (x2 + 0)), (0, .ref (ad 0)), (1, .int x1)]) C dX4_open_66 (k0 := 3) rfl rfl (by decide) rfl ?_
          refine x_goto (tgt := 14) C dX4_open_69 (by decide) ?_
          refine x_sub [2, 3, 1, 0] rfl ?_
          exact ih S x1 (x2 + 0) (x3 + 1)  hf
        · replace hf := x_in c_7 hf
          refine x_iload_n C dX4_open_43 rfl 1 rfl ?_
          refine x_aload_n C dX4_open_44 rfl 0 rfl ?_
          refine x_get (v := .ref (ad 12)) C iX4_open_X4 rfl 0 (gM_root cy ad S) 13 (by decide) (by decide +kernel) rfl rfl dX4_open_45 ?_
          refine x_iload_n C dX4_open_48 rfl 3 rfl ?_
          refine x_iald (f := S.1 13 0) C 12 0 (gM_starts cy ad S) rfl g_5 dX4_open_49 ?_
          refine x_aload_n C dX4_open_50 rfl 0 rfl ?_
          refine x_iload_n C dX4_open_51 rfl 3 rfl ?_
          obtain ⟨u8, h9, hf⟩ := x_bd hf
          refine x_callVi (As := [.int x3]) (st := [.int (S.1 13 0 x3.toNatClampNeg), .int x1, .int x2]) C (c_X4_span l D cy ad S x3  h9) (cwV 1 C.2.2.2.2.1 gX4_open_X4_span rfl rfl rfl (by decide +kernel) ⟨(by decide), (by decide)⟩) 0 (gM_root cy ad S) rfl rfl rfl rfl (Nat.le_of_ble_eq_true rfl) dX4_open_52 ?_
          refine x_iadd C dX4_open_55 ?_
          refine x_icmp_ge (tgt := 63) C dX4_open_56 (by decide) (fun (c_10 : ((S.1 13 0 x3.toNatClampNeg) + u8) ≤ x1) => ?_) (fun (c_10 : ¬ (((S.1 13 0 x3.toNatClampNeg) + u8) ≤ x1)) => ?_)
          · replace hf := x_ip c_10 hf
            refine x_iconst (v := 0) C dX4_open_63 (by decide) ?_
            refine x_iadd C dX4_open_64 ?_
            refine x_istore_n (lv2 := [(2, .int (x2 + 0)), (0, .ref (ad 0)), (1, .int x1), (3, .int x3)]) C dX4_open_65 rfl (by decide) rfl ?_
            refine x_iinc (v := x3 + 1) (lv2 := [(3, .int (x3 + 1)), (2, .int (x2 + 0)), (0, .ref (ad 0)), (1, .int x1)]) C dX4_open_66 (k0 := 3) rfl rfl (by decide) rfl ?_
            refine x_goto (tgt := 14) C dX4_open_69 (by decide) ?_
            refine x_sub [2, 3, 1, 0] rfl ?_
            exact ih S x1 (x2 + 0) (x3 + 1)  hf
          · replace hf := x_in c_10 hf
            refine x_iconst (v := 1) C dX4_open_59 (by decide) ?_
            refine x_goto (tgt := 64) C dX4_open_60 (by decide) ?_
            refine x_iadd C dX4_open_64 ?_
            refine x_istore_n (lv2 := [(2, .int (x2 + 1)), (0, .ref (ad 0)), (1, .int x1), (3, .int x3)]) C dX4_open_65 rfl (by decide) rfl ?_
            refine x_iinc (v := x3 + 1) (lv2 := [(3, .int (x3 + 1)), (2, .int (x2 + 1)), (0, .ref (ad 0)), (1, .int x1)]) C dX4_open_66 (k0 := 3) rfl rfl (by decide) rfl ?_
            refine x_goto (tgt := 14) C dX4_open_69 (by decide) ?_
            refine x_sub [2, 3, 1, 0] rfl ?_
            exact ih S x1 (x2 + 1) (x3 + 1)  hf
set_option maxHeartbeats 4000000 in
set_option maxRecDepth 100000 in
theorem c_X4_open (l : Launch) (D : va_G) (cy : Nat → ClassId) (ad : Nat → Nat) (S : St) (a1 : Int32) {r : Int32}  (hf : f_X4_open S a1 = some r) : XMi l D (wM cy ad) (xty cy) yX4_open wsX4_open ({ frames := 1, cells := 0, slots := 0, locals := 21 } : Room) [.ref (ad 0), .int a1] S r S := by
  refine x_ofWi (cc := cX4_open) (maxL := 4) (ret := some .int) (own := RX4) rfl (by decide) rfl (Nat.le_of_ble_eq_true rfl) rfl ?_
  intro p e s m args below meth c A C _
  unfold f_X4_open at hf
  refine x_aload_n C dX4_open_0 rfl 0 rfl ?_
  refine x_iload_n C dX4_open_1 rfl 1 rfl ?_
  obtain ⟨u1, h2, hf⟩ := x_bd hf
  refine x_callVi (As := [.int a1]) (st := []) C (c_X4_isHour l D cy ad S a1  h2) (cwV 1 C.2.2.2.2.1 gX4_open_X4_isHour rfl rfl rfl (by decide +kernel) ⟨(by decide), (by decide)⟩) 0 (gM_root cy ad S) rfl rfl rfl rfl (Nat.le_of_ble_eq_true rfl) dX4_open_2 ?_
  refine x_if_ne (tgt := 10) C dX4_open_5 (by decide) (fun (c_3 : ¬ (u1 = 0)) => ?_) (fun (c_3 : u1 = 0) => ?_)
  · replace hf := x_in c_3 hf
    refine x_iconst (v := 0) C dX4_open_10 (by decide) ?_
    refine x_istore_n (lv2 := [(2, .int 0), (0, .ref (ad 0)), (1, .int a1)]) C dX4_open_11 rfl (by decide) rfl ?_
    refine x_iconst (v := 0) C dX4_open_12 (by decide) ?_
    refine x_istore_n (lv2 := [(3, .int 0), (2, .int 0), (0, .ref (ad 0)), (1, .int a1)]) C dX4_open_13 rfl (by decide) rfl ?_
    refine x_sub [2, 3, 1, 0] rfl ?_
    refine t_X4_open_L14 C  (fun S_11 x2_11  hf => ?_) 1000 S a1 0 0  hf
    refine x_iload_n C dX4_open_72 rfl 0 rfl ?_
    have e9 := x_s1 hf; subst e9
    exact x_iret C dX4_open_73
  · replace hf := x_ip c_3 hf
    refine x_iconst (v := (-1)) C dX4_open_8 (by decide) ?_
    have e9 := x_s1 hf; subst e9
    exact x_iret C dX4_open_9
end DX4_open
set_option maxRecDepth 20000 in
theorem iX4_holds_X4 : ∀ w ∈ u_ws RX4 TX4 25, w ∈ wsX4_holds := by decide +kernel
def f_X4_holds_L4  (k4 : St → Int32 → Option (Int32)) : Nat → St → Int32 → Int32 → Option (Int32)
  | 0 => fun _ _ _ => none
  | n + 1 => fun S x1 x2 => if (S.1 1 0 0) ≤ x2 then (k4 S x1) else (if x1 = 0 then ((f_X4_holds_L4  k4 n) S 0 (x2 + 1)) else (if x2 < 0 ∨ 4 ≤ x2.toNatClampNeg then none else if (S.1 13 0 x2.toNatClampNeg) = (-1) then ((f_X4_holds_L4  k4 n) S 1 (x2 + 1)) else ((f_X4_breaks S x2 (S.1 13 0 x2.toNatClampNeg)).bind fun u5 => if u5 = 0 then ((f_X4_holds_L4  k4 n) S 1 (x2 + 1)) else ((f_X4_holds_L4  k4 n) S 0 (x2 + 1)))))
def f_X4_holds (S : St)  : Option (Int32) := f_X4_holds_L4  (fun S_8 x1_8 => if ¬ (x1_8 = 0 ∨ x1_8 = 1) then none else some x1_8) 1000 S 1 0
section DX4_holds
variable {p : Program} {l : Launch} {e : Env} {s : State} {m : MethodId} {args : Array Value} {below : List Frame} {meth : Method} {c : Code} {D : va_G} {cy : Nat → ClassId} {ad : Nat → Nat} {A : Nat → Prop}
set_option maxHeartbeats 4000000 in
set_option maxRecDepth 100000 in
theorem t_X4_holds_L4 (C : XC p s m args meth c D A (xty cy) cX4_holds 3 RX4 wsX4_holds (some .boolean)) {r : Int32}   {k4 : St → Int32 → Option (Int32)} (hk4 : ∀ (S : St) (x1 : Int32), k4 S x1 = some r → XJ p l e ({ frames := 3, cells := 0, slots := 0, locals := 74 } : Room) s m args below meth c D (wM cy ad) A 3 (QXi D (wM cy ad) A below args s r S) S 52 [(1, .int x1)] []) : ∀ (n : Nat), ∀ (S : St) (x1 : Int32) (x2 : Int32), (f_X4_holds_L4  k4 n) S x1 x2 = some r → XJ p l e ({ frames := 3, cells := 0, slots := 0, locals := 74 } : Room) s m args below meth c D (wM cy ad) A 3 (QXi D (wM cy ad) A below args s r S) S 4 [(0, .ref (ad 0)), (1, .int x1), (2, .int x2)] [] := by
  intro n
  induction n with
  | zero => intro S x1 x2 hf; cases hf
  | succ n ih =>
    intro S x1 x2 hf
    rw [f_X4_holds_L4] at hf
    refine x_iload_n C dX4_holds_4 rfl 2 rfl ?_
    refine x_aload_n C dX4_holds_5 rfl 0 rfl ?_
    refine x_get (v := .int (S.1 1 0 0)) C iX4_holds_X4 rfl 0 (gM_root cy ad S) 1 (by decide) (by decide +kernel) rfl rfl dX4_holds_6 ?_
    refine x_icmp_ge (tgt := 52) C dX4_holds_9 (by decide) (fun (c_1 : (S.1 1 0 0) ≤ x2) => ?_) (fun (c_1 : ¬ ((S.1 1 0 0) ≤ x2)) => ?_)
    · replace hf := x_ip c_1 hf
      refine x_sub [1] rfl ?_
      exact hk4 S x1  hf
    · replace hf := x_in c_1 hf
      refine x_iload_n C dX4_holds_12 rfl 1 rfl ?_
      refine x_if_eq (tgt := 44) C dX4_holds_13 (by decide) (fun (c_2 : x1 = 0) => ?_) (fun (c_2 : ¬ (x1 = 0)) => ?_)
      · replace hf := x_ip c_2 hf
        refine x_iconst (v := 0) C dX4_holds_44 (by decide) ?_
        refine x_istore_n (lv2 := [(1, .int 0), (0, .ref (ad 0)), (2, .int x2)]) C dX4_holds_45 rfl (by decide) rfl ?_
        refine x_iinc (v := x2 + 1) (lv2 := [(2, .int (x2 + 1)), (1, .int 0), (0, .ref (ad 0))]) C dX4_holds_46 (k0 := 2) rfl rfl (by decide) rfl ?_
        refine x_goto (tgt := 4) C dX4_holds_49 (by decide) ?_
        refine x_sub [2, 1, 0] rfl ?_
        exact ih S 0 (x2 + 1)  hf
      · replace hf := x_in c_2 hf
        refine x_aload_n C dX4_holds_16 rfl 0 rfl ?_
        refine x_get (v := .ref (ad 12)) C iX4_holds_X4 rfl 0 (gM_root cy ad S) 13 (by decide) (by decide +kernel) rfl rfl dX4_holds_17 ?_
        refine x_iload_n C dX4_holds_20 rfl 2 rfl ?_
        obtain ⟨g_3, hf⟩ := x_gd hf
        refine x_iald (f := S.1 13 0) C 12 0 (gM_starts cy ad S) rfl g_3 dX4_holds_21 ?_
        refine x_iconst (v := (-1)) C dX4_holds_22 (by decide) ?_
        refine x_icmp_eq (tgt := 40) C dX4_holds_23 (by decide) (fun (c_4 : (S.1 13 0 x2.toNatClampNeg) = (-1)) => ?_) (fun (c_4 : ¬ ((S.1 13 0 x2.toNatClampNeg) = (-1))) => ?_)
        · replace hf := x_ip c_4 hf
          refine x_iconst (v := 1) C dX4_holds_40 (by decide) ?_
          refine x_goto (tgt := 45) C dX4_holds_41 (by decide) ?_
          refine x_istore_n (lv2 := [(1, .int 1), (0, .ref (ad 0)), (2, .int x2)]) C dX4_holds_45 rfl (by decide) rfl ?_
          refine x_iinc (v := x2 + 1) (lv2 := [(2, .int (x2 + 1)), (1, .int 1), (0, .ref (ad 0))]) C dX4_holds_46 (k0 := 2) rfl rfl (by decide) rfl ?_
          refine x_goto (tgt := 4) C dX4_holds_49 (by decide) ?_
          refine x_sub [2, 1, 0] rfl ?_
          exact ih S 1 (x2 + 1)  hf
        · replace hf := x_in c_4 hf
          refine x_aload_n C dX4_holds_26 rfl 0 rfl ?_
          refine x_iload_n C dX4_holds_27 rfl 2 rfl ?_
          refine x_aload_n C dX4_holds_28 rfl 0 rfl ?_
          refine x_get (v := .ref (ad 12)) C iX4_holds_X4 rfl 0 (gM_root cy ad S) 13 (by decide) (by decide +kernel) rfl rfl dX4_holds_29 ?_
          refine x_iload_n C dX4_holds_32 rfl 2 rfl ?_
          refine x_iald (f := S.1 13 0) C 12 0 (gM_starts cy ad S) rfl g_3 dX4_holds_33 ?_
          obtain ⟨u5, h6, hf⟩ := x_bd hf
          refine x_callVi (As := [.int x2, .int (S.1 13 0 x2.toNatClampNeg)]) (st := []) C (c_X4_breaks l D cy ad S x2 (S.1 13 0 x2.toNatClampNeg)  h6) (cwV 2 C.2.2.2.2.1 gX4_holds_X4_breaks rfl rfl rfl (by decide +kernel) ⟨(by decide), (by decide)⟩) 0 (gM_root cy ad S) rfl rfl rfl rfl (Nat.le_of_ble_eq_true rfl) dX4_holds_34 ?_
          refine x_if_ne (tgt := 44) C dX4_holds_37 (by decide) (fun (c_7 : ¬ (u5 = 0)) => ?_) (fun (c_7 : u5 = 0) => ?_)
          · replace hf := x_in c_7 hf
            refine x_iconst (v := 0) C dX4_holds_44 (by decide) ?_
            refine x_istore_n (lv2 := [(1, .int 0), (0, .ref (ad 0)), (2, .int x2)]) C dX4_holds_45 rfl (by decide) rfl ?_
            refine x_iinc (v := x2 + 1) (lv2 := [(2, .int (x2 + 1)), (1, .int 0), (0, .ref (ad 0))]) C dX4_holds_46 (k0 := 2) rfl rfl (by decide) rfl ?_
            refine x_goto (tgt := 4) C dX4_holds_49 (by decide) ?_
            refine x_sub [2, 1, 0] rfl ?_
            exact ih S 0 (x2 + 1)  hf
          · replace hf := x_ip c_7 hf
            refine x_iconst (v := 1) C dX4_holds_40 (by decide) ?_
            refine x_goto (tgt := 45) C dX4_holds_41 (by decide) ?_
            refine x_istore_n (lv2 := [(1, .int 1), (0, .ref (ad 0)), (2, .int x2)]) C dX4_holds_45 rfl (by decide) rfl ?_
            refine x_iinc (v := x2 + 1) (lv2 := [(2, .int (x2 + 1)), (1, .int 1), (0, .ref (ad 0))]) C dX4_holds_46 (k0 := 2) rfl rfl (by decide) rfl ?_
            refine x_goto (tgt := 4) C dX4_holds_49 (by decide) ?_
            refine x_sub [2, 1, 0] rfl ?_
            exact ih S 1 (x2 + 1)  hf
set_option maxHeartbeats 4000000 in
set_option maxRecDepth 100000 in
theorem c_X4_holds (l : Launch) (D : va_G) (cy : Nat → ClassId) (ad : Nat → Nat) (S : St)  {r : Int32}  (hf : f_X4_holds S  = some r) : XMi l D (wM cy ad) (xty cy) yX4_holds wsX4_holds ({ frames := 3, cells := 0, slots := 0, locals := 74 } : Room) [.ref (ad 0)] S r S := by
  refine x_ofWi (cc := cX4_holds) (maxL := 3) (ret := some .boolean) (own := RX4) rfl (by decide) rfl (Nat.le_of_ble_eq_true rfl) rfl ?_
  intro p e s m args below meth c A C _
  unfold f_X4_holds at hf
  refine x_iconst (v := 1) C dX4_holds_0 (by decide) ?_
  refine x_istore_n (lv2 := [(1, .int 1), (0, .ref (ad 0))]) C dX4_holds_1 rfl (by decide) rfl ?_
  refine x_iconst (v := 0) C dX4_holds_2 (by decide) ?_
  refine x_istore_n (lv2 := [(2, .int 0), (1, .int 1), (0, .ref (ad 0))]) C dX4_holds_3 rfl (by decide) rfl ?_
  refine x_sub [2, 1, 0] rfl ?_
  refine t_X4_holds_L4 C  (fun S_8 x1_8  hf => ?_) 1000 S 1 0  hf
  refine x_iload_n C dX4_holds_52 rfl 0 rfl ?_
  obtain ⟨g_9, hf⟩ := x_gd hf
  have e9 := x_s1 hf; subst e9
  exact x_zret C (x_bz g_9) dX4_holds_53
end DX4_holds
set_option maxRecDepth 20000 in
theorem iX4_count_X4 : ∀ w ∈ u_ws RX4 TX4 25, w ∈ wsX4_count := by decide +kernel
def f_X4_count (S : St) (a1 : Int32) : Option (Int32) := if a1 = 0 then (some (S.1 0 0 0)) else (if a1 = 1 then (some (S.1 1 0 0)) else (if a1 = 2 then ((f_X4_placedCount S ).bind fun u5 => some u5) else (if a1 = 3 then (some (S.1 21 0 0)) else (some (-1)))))
section DX4_count
variable {p : Program} {l : Launch} {e : Env} {s : State} {m : MethodId} {args : Array Value} {below : List Frame} {meth : Method} {c : Code} {D : va_G} {cy : Nat → ClassId} {ad : Nat → Nat} {A : Nat → Prop}
set_option maxHeartbeats 4000000 in
set_option maxRecDepth 100000 in
theorem c_X4_count (l : Launch) (D : va_G) (cy : Nat → ClassId) (ad : Nat → Nat) (S : St) (a1 : Int32) {r : Int32}  (hf : f_X4_count S a1 = some r) : XMi l D (wM cy ad) (xty cy) yX4_count wsX4_count ({ frames := 1, cells := 0, slots := 0, locals := 22 } : Room) [.ref (ad 0), .int a1] S r S := by
  refine x_ofWi (cc := cX4_count) (maxL := 2) (ret := some .int) (own := RX4) rfl (by decide) rfl (Nat.le_of_ble_eq_true rfl) rfl ?_
  intro p e s m args below meth c A C _
  unfold f_X4_count at hf
  refine x_iload_n C dX4_count_0 rfl 1 rfl ?_
  refine x_if_ne (tgt := 11) C dX4_count_1 (by decide) (fun (c_1 : ¬ (a1 = 0)) => ?_) (fun (c_1 : a1 = 0) => ?_)
  · replace hf := x_in c_1 hf
    refine x_iload_n C dX4_count_11 rfl 1 rfl ?_
    refine x_iconst (v := 1) C dX4_count_12 (by decide) ?_
    refine x_icmp_ne (tgt := 23) C dX4_count_13 (by decide) (fun (c_2 : ¬ (a1 = 1)) => ?_) (fun (c_2 : a1 = 1) => ?_)
    · replace hf := x_in c_2 hf
      refine x_iload_n C dX4_count_23 rfl 1 rfl ?_
      refine x_iconst (v := 2) C dX4_count_24 (by decide) ?_
      refine x_icmp_ne (tgt := 35) C dX4_count_25 (by decide) (fun (c_3 : ¬ (a1 = 2)) => ?_) (fun (c_3 : a1 = 2) => ?_)
      · replace hf := x_in c_3 hf
        refine x_iload_n C dX4_count_35 rfl 1 rfl ?_
        refine x_iconst (v := 3) C dX4_count_36 (by decide) ?_
        refine x_icmp_ne (tgt := 47) C dX4_count_37 (by decide) (fun (c_4 : ¬ (a1 = 3)) => ?_) (fun (c_4 : a1 = 3) => ?_)
        · replace hf := x_in c_4 hf
          refine x_iconst (v := (-1)) C dX4_count_47 (by decide) ?_
          have e9 := x_s1 hf; subst e9
          exact x_iret C dX4_count_48
        · replace hf := x_ip c_4 hf
          refine x_aload_n C dX4_count_40 rfl 0 rfl ?_
          refine x_get (v := .int (S.1 21 0 0)) C iX4_count_X4 rfl 0 (gM_root cy ad S) 21 (by decide) (by decide +kernel) rfl rfl dX4_count_41 ?_
          refine x_goto (tgt := 48) C dX4_count_44 (by decide) ?_
          have e9 := x_s1 hf; subst e9
          exact x_iret C dX4_count_48
      · replace hf := x_ip c_3 hf
        refine x_aload_n C dX4_count_28 rfl 0 rfl ?_
        obtain ⟨u5, h6, hf⟩ := x_bd hf
        refine x_callVi (As := []) (st := []) C (c_X4_placedCount l D cy ad S   h6) (cwV 0 C.2.2.2.2.1 gX4_count_X4_placedCount rfl rfl rfl (by decide +kernel) ⟨(by decide), (by decide)⟩) 0 (gM_root cy ad S) rfl rfl rfl rfl (Nat.le_of_ble_eq_true rfl) dX4_count_29 ?_
        refine x_goto (tgt := 48) C dX4_count_32 (by decide) ?_
        have e9 := x_s1 hf; subst e9
        exact x_iret C dX4_count_48
    · replace hf := x_ip c_2 hf
      refine x_aload_n C dX4_count_16 rfl 0 rfl ?_
      refine x_get (v := .int (S.1 1 0 0)) C iX4_count_X4 rfl 0 (gM_root cy ad S) 1 (by decide) (by decide +kernel) rfl rfl dX4_count_17 ?_
      refine x_goto (tgt := 48) C dX4_count_20 (by decide) ?_
      have e9 := x_s1 hf; subst e9
      exact x_iret C dX4_count_48
  · replace hf := x_ip c_1 hf
    refine x_aload_n C dX4_count_4 rfl 0 rfl ?_
    refine x_get (v := .int (S.1 0 0 0)) C iX4_count_X4 rfl 0 (gM_root cy ad S) 0 (by decide) (by decide +kernel) rfl rfl dX4_count_5 ?_
    refine x_goto (tgt := 48) C dX4_count_8 (by decide) ?_
    have e9 := x_s1 hf; subst e9
    exact x_iret C dX4_count_48
end DX4_count
