set_option maxRecDepth 20000 in
theorem iX4_fitsBefore_X4 : ∀ w ∈ u_ws RX4 TX4 25, w ∈ wsX4_fitsBefore := by decide +kernel
def f_X4_fitsBefore_L19  (k19 : St → Int32 → Option (Int32)) : Nat → St → Int32 → Int32 → Int32 → Option (Int32)
  | 0 => fun _ _ _ _ => none
  | n + 1 => fun S x1 x2 x3 => if x1 ≤ x3 then (k19 S x2) else (if x2 = 0 then (k19 S x2) else (if x1 < 0 ∨ 4 ≤ x1.toNatClampNeg then none else if x3 < 0 ∨ 4 ≤ x3.toNatClampNeg then none else (f_X4_goesNear S x1 (S.1 14 0 x1.toNatClampNeg) x3 (S.1 14 0 x3.toNatClampNeg)).bind fun u7 => if u7 = 0 then ((f_X4_fitsBefore_L19  k19 n) S x1 0 (x3 + 1)) else ((f_X4_goesCrew S x1 (S.1 14 0 x1.toNatClampNeg) x3 (S.1 14 0 x3.toNatClampNeg)).bind fun u10 => if u10 = 0 then ((f_X4_fitsBefore_L19  k19 n) S x1 0 (x3 + 1)) else ((f_X4_fitsBefore_L19  k19 n) S x1 1 (x3 + 1)))))
def f_X4_fitsBefore (S : St) (a1 : Int32) : Option (Int32) := if a1 < 0 ∨ 4 ≤ a1.toNatClampNeg then none else if ((36 * a1) + (S.1 14 0 a1.toNatClampNeg)) < 0 ∨ 144 ≤ ((36 * a1) + (S.1 14 0 a1.toNatClampNeg)).toNatClampNeg then none else f_X4_fitsBefore_L19  (fun S_13 x2_13 => if ¬ (x2_13 = 0 ∨ x2_13 = 1) then none else some x2_13) 1000 S a1 (S.1 18 0 ((36 * a1) + (S.1 14 0 a1.toNatClampNeg)).toNatClampNeg) 0
section DX4_fitsBefore
variable {p : Program} {l : Launch} {e : Env} {s : State} {m : MethodId} {args : Array Value} {below : List Frame} {meth : Method} {c : Code} {D : va_G} {cy : Nat → ClassId} {ad : Nat → Nat} {A : Nat → Prop}
set_option maxHeartbeats 4000000 in
set_option maxRecDepth 100000 in
theorem t_X4_fitsBefore_L19 (C : XC p s m args meth c D A (xty cy) cX4_fitsBefore 4 RX4 wsX4_fitsBefore (some .boolean)) {r : Int32}   {k19 : St → Int32 → Option (Int32)} (hk19 : ∀ (S : St) (x2 : Int32), k19 S x2 = some r → XJ p l e ({ frames := 2, cells := 0, slots := 0, locals := 46 } : Room) s m args below meth c D (wM cy ad) A 4 (QXi D (wM cy ad) A below args s r S) S 82 [(2, .int x2)] []) : ∀ (n : Nat), ∀ (S : St) (x1 : Int32) (x2 : Int32) (x3 : Int32), (f_X4_fitsBefore_L19  k19 n) S x1 x2 x3 = some r → XJ p l e ({ frames := 2, cells := 0, slots := 0, locals := 46 } : Room) s m args below meth c D (wM cy ad) A 4 (QXi D (wM cy ad) A below args s r S) S 19 [(0, .ref (ad 0)), (1, .int x1), (2, .int x2), (3, .int x3)] [] := by
  intro n
  induction n with
  | zero => intro S x1 x2 x3 hf; cases hf
  | succ n ih =>
    intro S x1 x2 x3 hf
    rw [f_X4_fitsBefore_L19] at hf
    refine x_iload_n C dX4_fitsBefore_19 rfl 3 rfl ?_
    refine x_iload_n C dX4_fitsBefore_20 rfl 1 rfl ?_
    refine x_icmp_ge (tgt := 82) C dX4_fitsBefore_21 (by decide) (fun (c_3 : x1 ≤ x3) => ?_) (fun (c_3 : ¬ (x1 ≤ x3)) => ?_)
    · replace hf := x_ip c_3 hf
      refine x_sub [2] rfl ?_
      exact hk19 S x2  hf
    · replace hf := x_in c_3 hf
      refine x_iload_n C dX4_fitsBefore_24 rfl 2 rfl ?_
      refine x_if_eq (tgt := 82) C dX4_fitsBefore_25 (by decide) (fun (c_4 : x2 = 0) => ?_) (fun (c_4 : ¬ (x2 = 0)) => ?_)
      · replace hf := x_ip c_4 hf
        refine x_sub [2] rfl ?_
        exact hk19 S x2  hf
      · replace hf := x_in c_4 hf
        refine x_aload_n C dX4_fitsBefore_28 rfl 0 rfl ?_
        refine x_iload_n C dX4_fitsBefore_29 rfl 1 rfl ?_
        refine x_aload_n C dX4_fitsBefore_30 rfl 0 rfl ?_
        refine x_get (v := .ref (ad 13)) C iX4_fitsBefore_X4 rfl 0 (gM_root cy ad S) 14 (by decide) (by decide +kernel) rfl rfl dX4_fitsBefore_31 ?_
        refine x_iload_n C dX4_fitsBefore_34 rfl 1 rfl ?_
        obtain ⟨g_5, hf⟩ := x_gd hf
        refine x_iald (f := S.1 14 0) C 13 0 (gM_tried cy ad S) rfl g_5 dX4_fitsBefore_35 ?_
        refine x_iload_n C dX4_fitsBefore_36 rfl 3 rfl ?_
        refine x_aload_n C dX4_fitsBefore_37 rfl 0 rfl ?_
        refine x_get (v := .ref (ad 13)) C iX4_fitsBefore_X4 rfl 0 (gM_root cy ad S) 14 (by decide) (by decide +kernel) rfl rfl dX4_fitsBefore_38 ?_
        refine x_iload_n C dX4_fitsBefore_41 rfl 3 rfl ?_
        obtain ⟨g_6, hf⟩ := x_gd hf
        refine x_iald (f := S.1 14 0) C 13 0 (gM_tried cy ad S) rfl g_6 dX4_fitsBefore_42 ?_
        obtain ⟨u7, h8, hf⟩ := x_bd hf
        refine x_callVi (As := [.int x1, .int (S.1 14 0 x1.toNatClampNeg), .int x3, .int (S.1 14 0 x3.toNatClampNeg)]) (st := []) C (c_X4_goesNear l D cy ad S x1 (S.1 14 0 x1.toNatClampNeg) x3 (S.1 14 0 x3.toNatClampNeg)  h8) (cwV 4 C.2.2.2.2.1 gX4_fitsBefore_X4_goesNear rfl rfl rfl (by decide +kernel) ⟨(by decide), (by decide)⟩) 0 (gM_root cy ad S) rfl rfl rfl rfl (Nat.le_of_ble_eq_true rfl) dX4_fitsBefore_43 ?_
        refine x_if_eq (tgt := 74) C dX4_fitsBefore_46 (by decide) (fun (c_9 : u7 = 0) => ?_) (fun (c_9 : ¬ (u7 = 0)) => ?_)
        · replace hf := x_ip c_9 hf
          refine x_iconst (v := 0) C dX4_fitsBefore_74 (by decide) ?_
          refine x_istore_n (lv2 := [(2, .int 0), (0, .ref (ad 0)), (1, .int x1), (3, .int x3)]) C dX4_fitsBefore_75 rfl (by decide) rfl ?_
          refine x_iinc (v := x3 + 1) (lv2 := [(3, .int (x3 + 1)), (2, .int 0), (0, .ref (ad 0)), (1, .int x1)]) C dX4_fitsBefore_76 (k0 := 3) rfl rfl (by decide) rfl ?_
          refine x_goto (tgt := 19) C dX4_fitsBefore_79 (by decide) ?_
          refine x_sub [2, 3, 1, 0] rfl ?_
          exact ih S x1 0 (x3 + 1)  hf
        · replace hf := x_in c_9 hf
          refine x_aload_n C dX4_fitsBefore_49 rfl 0 rfl ?_
          refine x_iload_n C dX4_fitsBefore_50 rfl 1 rfl ?_
          refine x_aload_n C dX4_fitsBefore_51 rfl 0 rfl ?_
          refine x_get (v := .ref (ad 13)) C iX4_fitsBefore_X4 rfl 0 (gM_root cy ad S) 14 (by decide) (by decide +kernel) rfl rfl dX4_fitsBefore_52 ?_
          refine x_iload_n C dX4_fitsBefore_55 rfl 1 rfl ?_
          refine x_iald (f := S.1 14 0) C 13 0 (gM_tried cy ad S) rfl g_5 dX4_fitsBefore_56 ?_
          refine x_iload_n C dX4_fitsBefore_57 rfl 3 rfl ?_
          refine x_aload_n C dX4_fitsBefore_58 rfl 0 rfl ?_
          refine x_get (v := .ref (ad 13)) C iX4_fitsBefore_X4 rfl 0 (gM_root cy ad S) 14 (by decide) (by decide +kernel) rfl rfl dX4_fitsBefore_59 ?_
          refine x_iload_n C dX4_fitsBefore_62 rfl 3 rfl ?_
          refine x_iald (f := S.1 14 0) C 13 0 (gM_tried cy ad S) rfl g_6 dX4_fitsBefore_63 ?_
          obtain ⟨u10, h11, hf⟩ := x_bd hf
          refine x_callVi (As := [.int x1, .int (S.1 14 0 x1.toNatClampNeg), .int x3, .int (S.1 14 0 x3.toNatClampNeg)]) (st := []) C (c_X4_goesCrew l D cy ad S x1 (S.1 14 0 x1.toNatClampNeg) x3 (S.1 14 0 x3.toNatClampNeg)  h11) (cwV 4 C.2.2.2.2.1 gX4_fitsBefore_X4_goesCrew rfl rfl rfl (by decide +kernel) ⟨(by decide), (by decide)⟩) 0 (gM_root cy ad S) rfl rfl rfl rfl (Nat.le_of_ble_eq_true rfl) dX4_fitsBefore_64 ?_
          refine x_if_eq (tgt := 74) C dX4_fitsBefore_67 (by decide) (fun (c_12 : u10 = 0) => ?_) (fun (c_12 : ¬ (u10 = 0)) => ?_)
          · replace hf := x_ip c_12 hf
            refine x_iconst (v := 0) C dX4_fitsBefore_74 (by decide) ?_
            refine x_istore_n (lv2 := [(2, .int 0), (0, .ref (ad 0)), (1, .int x1), (3, .int x3)]) C dX4_fitsBefore_75 rfl (by decide) rfl ?_
            refine x_iinc (v := x3 + 1) (lv2 := [(3, .int (x3 + 1)), (2, .int 0), (0, .ref (ad 0)), (1, .int x1)]) C dX4_fitsBefore_76 (k0 := 3) rfl rfl (by decide) rfl ?_
            refine x_goto (tgt := 19) C dX4_fitsBefore_79 (by decide) ?_
            refine x_sub [2, 3, 1, 0] rfl ?_
            exact ih S x1 0 (x3 + 1)  hf
          · replace hf := x_in c_12 hf
            refine x_iconst (v := 1) C dX4_fitsBefore_70 (by decide) ?_
            refine x_goto (tgt := 75) C dX4_fitsBefore_71 (by decide) ?_
            refine x_istore_n (lv2 := [(2, .int 1), (0, .ref (ad 0)), (1, .int x1), (3, .int x3)]) C dX4_fitsBefore_75 rfl (by decide) rfl ?_
            refine x_iinc (v := x3 + 1) (lv2 := [(3, .int (x3 + 1)), (2, .int 1), (0, .ref (ad 0)), (1, .int x1)]) C dX4_fitsBefore_76 (k0 := 3) rfl rfl (by decide) rfl ?_
            refine x_goto (tgt := 19) C dX4_fitsBefore_79 (by decide) ?_
            refine x_sub [2, 3, 1, 0] rfl ?_
            exact ih S x1 1 (x3 + 1)  hf
set_option maxHeartbeats 4000000 in
set_option maxRecDepth 100000 in
theorem c_X4_fitsBefore (l : Launch) (D : va_G) (cy : Nat → ClassId) (ad : Nat → Nat) (S : St) (a1 : Int32) {r : Int32}  (hf : f_X4_fitsBefore S a1 = some r) : XMi l D (wM cy ad) (xty cy) yX4_fitsBefore wsX4_fitsBefore ({ frames := 2, cells := 0, slots := 0, locals := 46 } : Room) [.ref (ad 0), .int a1] S r S := by
  refine x_ofWi (cc := cX4_fitsBefore) (maxL := 4) (ret := some .boolean) (own := RX4) rfl (by decide) rfl (Nat.le_of_ble_eq_true rfl) rfl ?_
  intro p e s m args below meth c A C _
  unfold f_X4_fitsBefore at hf
  refine x_aload_n C dX4_fitsBefore_0 rfl 0 rfl ?_
  refine x_get (v := .ref (ad 17)) C iX4_fitsBefore_X4 rfl 0 (gM_root cy ad S) 18 (by decide) (by decide +kernel) rfl rfl dX4_fitsBefore_1 ?_
  refine x_bipush (v := 36) C dX4_fitsBefore_4 (by decide) ?_
  refine x_iload_n C dX4_fitsBefore_6 rfl 1 rfl ?_
  refine x_imul C dX4_fitsBefore_7 ?_
  refine x_aload_n C dX4_fitsBefore_8 rfl 0 rfl ?_
  refine x_get (v := .ref (ad 13)) C iX4_fitsBefore_X4 rfl 0 (gM_root cy ad S) 14 (by decide) (by decide +kernel) rfl rfl dX4_fitsBefore_9 ?_
  refine x_iload_n C dX4_fitsBefore_12 rfl 1 rfl ?_
  obtain ⟨g_1, hf⟩ := x_gd hf
  refine x_iald (f := S.1 14 0) C 13 0 (gM_tried cy ad S) rfl g_1 dX4_fitsBefore_13 ?_
  refine x_iadd C dX4_fitsBefore_14 ?_
  obtain ⟨g_2, hf⟩ := x_gd hf
  refine x_zald (f := S.1 18 0) C 17 5 (gM_alone cy ad S) rfl g_2 dX4_fitsBefore_15 ?_
  refine x_istore_n (lv2 := [(2, .int (S.1 18 0 ((36 * a1) + (S.1 14 0 a1.toNatClampNeg)).toNatClampNeg)), (0, .ref (ad 0)), (1, .int a1)]) C dX4_fitsBefore_16 rfl (by decide) rfl ?_
  refine x_iconst (v := 0) C dX4_fitsBefore_17 (by decide) ?_
  refine x_istore_n (lv2 := [(3, .int 0), (2, .int (S.1 18 0 ((36 * a1) + (S.1 14 0 a1.toNatClampNeg)).toNatClampNeg)), (0, .ref (ad 0)), (1, .int a1)]) C dX4_fitsBefore_18 rfl (by decide) rfl ?_
  refine x_sub [2, 3, 1, 0] rfl ?_
  refine t_X4_fitsBefore_L19 C  (fun S_13 x2_13  hf => ?_) 1000 S a1 (S.1 18 0 ((36 * a1) + (S.1 14 0 a1.toNatClampNeg)).toNatClampNeg) 0  hf
  refine x_iload_n C dX4_fitsBefore_82 rfl 0 rfl ?_
  obtain ⟨g_14, hf⟩ := x_gd hf
  have e9 := x_s1 hf; subst e9
  exact x_zret C (x_bz g_14) dX4_fitsBefore_83
end DX4_fitsBefore
set_option maxRecDepth 20000 in
theorem iX4_plan_X4 : ∀ w ∈ u_ws RX4 TX4 25, w ∈ wsX4_plan := by decide +kernel
def f_X4_plan_L288 (r20 : St → Int32 → Int32 → Int32 → Int32 → Int32 → Option (Int32 × St)) (k20 : St → Int32 → Option (Int32 × St)) (k288 : St → Int32 → Int32 → Int32 → Int32 → Int32 → Option (Int32 × St)) : Nat → St → Int32 → Int32 → Int32 → Int32 → Int32 → Int32 → Option (Int32 × St)
  | 0 => fun _ _ _ _ _ _ _ => none
  | n + 1 => fun S x1 x2 x3 x4 x5 x7 => if (S.1 1 0 0) ≤ x7 then (k288 S x1 x2 x3 x4 x5) else (if x7 < 0 ∨ 4 ≤ x7.toNatClampNeg then none else (f_X4_plan_L288 r20 k20 k288 n) (xI S 15 0 x7.toNatClampNeg (S.1 14 0 x7.toNatClampNeg)) x1 x2 x3 x4 x5 (x7 + 1))
def f_X4_plan_L263 (r20 : St → Int32 → Int32 → Int32 → Int32 → Int32 → Option (Int32 × St)) (k20 : St → Int32 → Option (Int32 × St)) (S : St) (x1 : Int32) (x2 : Int32) (x3 : Int32) (x4 : Int32) (x5 : Int32) (x6 : Int32) : Option (Int32 × St) := if x6 = 0 then (r20 S x1 x2 x3 x4 x5) else (if x5 < 0 ∨ 4 ≤ x5.toNatClampNeg then none else f_X4_plan_L288 r20 k20 (fun S_23 x1_23 x2_23 x3_23 x4_23 x5_23 => r20 S_23 x1_23 x2_23 x3_23 x4_23 x5_23) 1000 S x1 x2 (S.1 16 0 x5.toNatClampNeg) (S.1 17 0 x5.toNatClampNeg) x5 0)
def f_X4_plan_L231 (r20 : St → Int32 → Int32 → Int32 → Int32 → Int32 → Option (Int32 × St)) (k20 : St → Int32 → Option (Int32 × St)) (S : St) (x1 : Int32) (x2 : Int32) (x3 : Int32) (x4 : Int32) (x5 : Int32) (y0 : Int32) : Option (Int32 × St) := if y0 = 0 then (f_X4_plan_L263 r20 k20 S x1 x2 x3 x4 x5 y0) else (if (S.1 1 0 0) ≤ (x5 + 1) then (f_X4_plan_L263 r20 k20 S x1 x2 x3 x4 x5 y0) else (if (x5 + 1) < 0 ∨ 4 ≤ (x5 + 1).toNatClampNeg then none else r20 (xI S 14 0 ((x5 + 1).toNatClampNeg) (-1)) x1 x2 x3 x4 (x5 + 1)))
def f_X4_plan_L226 (r20 : St → Int32 → Int32 → Int32 → Int32 → Int32 → Option (Int32 × St)) (k20 : St → Int32 → Option (Int32 × St)) (S : St) (x1 : Int32) (x2 : Int32) (x3 : Int32) (x4 : Int32) (x5 : Int32) : Option (Int32 × St) := f_X4_plan_L231 r20 k20 S x1 x2 x3 x4 x5 1
def f_X4_plan_L230 (r20 : St → Int32 → Int32 → Int32 → Int32 → Int32 → Option (Int32 × St)) (k20 : St → Int32 → Option (Int32 × St)) (S : St) (x1 : Int32) (x2 : Int32) (x3 : Int32) (x4 : Int32) (x5 : Int32) : Option (Int32 × St) := f_X4_plan_L231 r20 k20 S x1 x2 x3 x4 x5 0
def f_X4_plan_L166 (r20 : St → Int32 → Int32 → Int32 → Int32 → Int32 → Option (Int32 × St)) (k20 : St → Int32 → Option (Int32 × St)) (S : St) (x1 : Int32) (x2 : Int32) (x3 : Int32) (x4 : Int32) (x5 : Int32) (y0 : Int32) (y1 : Int32) : Option (Int32 × St) := if x5 < 0 ∨ 4 ≤ x5.toNatClampNeg then none else if ((36 * x5) + (S.1 14 0 x5.toNatClampNeg)) < 0 ∨ 144 ≤ ((36 * x5) + (S.1 14 0 x5.toNatClampNeg)).toNatClampNeg then none else if y1 < 0 ∨ 4 ≤ y1.toNatClampNeg then none else if x3 = (-100) then (f_X4_plan_L226 r20 k20 (xI S 17 0 y1.toNatClampNeg (y0 + (S.1 19 0 ((36 * x5) + (S.1 14 0 x5.toNatClampNeg)).toNatClampNeg))) x1 x2 x3 x4 x5) else (if (S.1 16 0 x5.toNatClampNeg) < x3 then (f_X4_plan_L226 r20 k20 (xI S 17 0 y1.toNatClampNeg (y0 + (S.1 19 0 ((36 * x5) + (S.1 14 0 x5.toNatClampNeg)).toNatClampNeg))) x1 x2 x3 x4 x5) else (if (S.1 16 0 x5.toNatClampNeg) = x3 then (if x4 ≤ ((xI S 17 0 y1.toNatClampNeg (y0 + (S.1 19 0 ((36 * x5) + (S.1 14 0 x5.toNatClampNeg)).toNatClampNeg))).1 17 0 x5.toNatClampNeg) then (f_X4_plan_L230 r20 k20 (xI S 17 0 y1.toNatClampNeg (y0 + (S.1 19 0 ((36 * x5) + (S.1 14 0 x5.toNatClampNeg)).toNatClampNeg))) x1 x2 x3 x4 x5) else (f_X4_plan_L226 r20 k20 (xI S 17 0 y1.toNatClampNeg (y0 + (S.1 19 0 ((36 * x5) + (S.1 14 0 x5.toNatClampNeg)).toNatClampNeg))) x1 x2 x3 x4 x5)) else (f_X4_plan_L230 r20 k20 (xI S 17 0 y1.toNatClampNeg (y0 + (S.1 19 0 ((36 * x5) + (S.1 14 0 x5.toNatClampNeg)).toNatClampNeg))) x1 x2 x3 x4 x5)))
def f_X4_plan_L140 (r20 : St → Int32 → Int32 → Int32 → Int32 → Int32 → Option (Int32 × St)) (k20 : St → Int32 → Option (Int32 × St)) (S : St) (x1 : Int32) (x2 : Int32) (x3 : Int32) (x4 : Int32) (x5 : Int32) (y0 : Int32) (y1 : Int32) (y2 : Int32) : Option (Int32 × St) := if y2 < 0 ∨ 4 ≤ y2.toNatClampNeg then none else if x5 ≤ 0 then (f_X4_plan_L166 r20 k20 (xI S 16 0 y2.toNatClampNeg (y1 + y0)) x1 x2 x3 x4 x5 0 x5) else (if (x5 - 1) < 0 ∨ 4 ≤ (x5 - 1).toNatClampNeg then none else f_X4_plan_L166 r20 k20 (xI S 16 0 y2.toNatClampNeg (y1 + y0)) x1 x2 x3 x4 x5 (S.1 17 0 (x5 - 1).toNatClampNeg) x5)
def f_X4_plan_L139 (r20 : St → Int32 → Int32 → Int32 → Int32 → Int32 → Option (Int32 × St)) (k20 : St → Int32 → Option (Int32 × St)) (S : St) (x1 : Int32) (x2 : Int32) (x3 : Int32) (x4 : Int32) (x5 : Int32) (y0 : Int32) (y1 : Int32) : Option (Int32 × St) := f_X4_plan_L140 r20 k20 S x1 x2 x3 x4 x5 0 y0 y1
def f_X4_plan_L106 (r20 : St → Int32 → Int32 → Int32 → Int32 → Int32 → Option (Int32 × St)) (k20 : St → Int32 → Option (Int32 × St)) (S : St) (x1 : Int32) (x2 : Int32) (x3 : Int32) (x4 : Int32) (x5 : Int32) (y0 : Int32) (y1 : Int32) : Option (Int32 × St) := if x1 = (-100) then (f_X4_plan_L139 r20 k20 S x1 x2 x3 x4 x5 y0 y1) else (if x5 = x1 then (f_X4_plan_L139 r20 k20 S x1 x2 x3 x4 x5 y0 y1) else (if x5 < 0 ∨ 4 ≤ x5.toNatClampNeg then none else if (S.1 14 0 x5.toNatClampNeg) = (S.1 13 0 x5.toNatClampNeg) then (f_X4_plan_L139 r20 k20 S x1 x2 x3 x4 x5 y0 y1) else (f_X4_plan_L140 r20 k20 S x1 x2 x3 x4 x5 1 y0 y1)))
def f_X4_plan_L82 (r20 : St → Int32 → Int32 → Int32 → Int32 → Int32 → Option (Int32 × St)) (k20 : St → Int32 → Option (Int32 × St)) (S : St) (x1 : Int32) (x2 : Int32) (x3 : Int32) (x4 : Int32) (x5 : Int32) : Option (Int32 × St) := if x5 ≤ 0 then (f_X4_plan_L106 r20 k20 S x1 x2 x3 x4 x5 0 x5) else (if (x5 - 1) < 0 ∨ 4 ≤ (x5 - 1).toNatClampNeg then none else f_X4_plan_L106 r20 k20 S x1 x2 x3 x4 x5 (S.1 16 0 (x5 - 1).toNatClampNeg) x5)
def f_X4_plan_L20  (k20 : St → Int32 → Option (Int32 × St)) : Nat → St → Int32 → Int32 → Int32 → Int32 → Int32 → Option (Int32 × St)
  | 0 => fun _ _ _ _ _ _ => none
  | n + 1 => fun S x1 x2 x3 x4 x5 => if x5 < 0 then (k20 S x3) else (if x5 < 0 ∨ 4 ≤ x5.toNatClampNeg then none else if ((xI S 14 0 x5.toNatClampNeg ((S.1 14 0 x5.toNatClampNeg) + 1)).1 14 0 x5.toNatClampNeg) < (S.1 0 0 0) then ((f_X4_fitsBefore (xI S 14 0 x5.toNatClampNeg ((S.1 14 0 x5.toNatClampNeg) + 1)) x5).bind fun u6 => if u6 = 0 then ((f_X4_plan_L20  k20 n) (xI S 14 0 x5.toNatClampNeg ((S.1 14 0 x5.toNatClampNeg) + 1)) x1 x2 x3 x4 x5) else (if x5 = x1 then (if ((xI S 14 0 x5.toNatClampNeg ((S.1 14 0 x5.toNatClampNeg) + 1)).1 14 0 x5.toNatClampNeg) < x2 then ((f_X4_plan_L20  k20 n) (xI S 14 0 x5.toNatClampNeg ((S.1 14 0 x5.toNatClampNeg) + 1)) x1 x2 x3 x4 x5) else (f_X4_plan_L82 (f_X4_plan_L20  k20 n) k20 (xI S 14 0 x5.toNatClampNeg ((S.1 14 0 x5.toNatClampNeg) + 1)) x1 x2 x3 x4 x5)) else (f_X4_plan_L82 (f_X4_plan_L20  k20 n) k20 (xI S 14 0 x5.toNatClampNeg ((S.1 14 0 x5.toNatClampNeg) + 1)) x1 x2 x3 x4 x5))) else ((f_X4_plan_L20  k20 n) (xI S 14 0 x5.toNatClampNeg ((S.1 14 0 x5.toNatClampNeg) + 1)) x1 x2 x3 x4 (x5 + (-1))))
def f_X4_plan (S : St) (a1 : Int32) (a2 : Int32) : Option (Int32 × St) := (f_X4_look S ).bind fun u1 => f_X4_plan_L20  (fun S_35 x3_35 => some (x3_35, S_35)) 3000000 (xI u1 14 0 ((0 : Int32).toNatClampNeg) (-1)) a1 a2 (-100) 0 0
section DX4_plan
variable {p : Program} {l : Launch} {e : Env} {s : State} {m : MethodId} {args : Array Value} {below : List Frame} {meth : Method} {c : Code} {D : va_G} {cy : Nat → ClassId} {ad : Nat → Nat} {A : Nat → Prop}
set_option maxHeartbeats 4000000 in
set_option maxRecDepth 100000 in
theorem t_X4_plan_L288 (C : XC p s m args meth c D A (xty cy) cX4_plan 8 RX4 wsX4_plan (some .int)) {r : Int32} {S2 : St} {r20 : St → Int32 → Int32 → Int32 → Int32 → Int32 → Option (Int32 × St)} {k20 : St → Int32 → Option (Int32 × St)} (hr20 : ∀ (S : St) (x1 : Int32) (x2 : Int32) (x3 : Int32) (x4 : Int32) (x5 : Int32), r20 S x1 x2 x3 x4 x5 = some (r, S2) → XJ p l e ({ frames := 3, cells := 0, slots := 0, locals := 70 } : Room) s m args below meth c D (wM cy ad) A 8 (QXi D (wM cy ad) A below args s r S2) S 20 [(0, .ref (ad 0)), (1, .int x1), (2, .int x2), (3, .int x3), (4, .int x4), (5, .int x5)] []) (hk20 : ∀ (S : St) (x3 : Int32), k20 S x3 = some (r, S2) → XJ p l e ({ frames := 3, cells := 0, slots := 0, locals := 70 } : Room) s m args below meth c D (wM cy ad) A 8 (QXi D (wM cy ad) A below args s r S2) S 320 [(3, .int x3)] []) {k288 : St → Int32 → Int32 → Int32 → Int32 → Int32 → Option (Int32 × St)} (hk288 : ∀ (S : St) (x1 : Int32) (x2 : Int32) (x3 : Int32) (x4 : Int32) (x5 : Int32), k288 S x1 x2 x3 x4 x5 = some (r, S2) → XJ p l e ({ frames := 3, cells := 0, slots := 0, locals := 70 } : Room) s m args below meth c D (wM cy ad) A 8 (QXi D (wM cy ad) A below args s r S2) S 317 [(0, .ref (ad 0)), (1, .int x1), (2, .int x2), (3, .int x3), (4, .int x4), (5, .int x5)] []) : ∀ (n : Nat), ∀ (S : St) (x1 : Int32) (x2 : Int32) (x3 : Int32) (x4 : Int32) (x5 : Int32) (x7 : Int32), (f_X4_plan_L288 r20 k20 k288 n) S x1 x2 x3 x4 x5 x7 = some (r, S2) → XJ p l e ({ frames := 3, cells := 0, slots := 0, locals := 70 } : Room) s m args below meth c D (wM cy ad) A 8 (QXi D (wM cy ad) A below args s r S2) S 288 [(0, .ref (ad 0)), (1, .int x1), (2, .int x2), (3, .int x3), (4, .int x4), (5, .int x5), (7, .int x7)] [] := by
  intro n
  induction n with
  | zero => intro S x1 x2 x3 x4 x5 x7 hf; cases hf
  | succ n ih =>
    intro S x1 x2 x3 x4 x5 x7 hf
    rw [f_X4_plan_L288] at hf
    refine x_iload C dX4_plan_288 6 rfl ?_
    refine x_aload_n C dX4_plan_290 rfl 0 rfl ?_
    refine x_get (v := .int (S.1 1 0 0)) C iX4_plan_X4 rfl 0 (gM_root cy ad S) 1 (by decide) (by decide +kernel) rfl rfl dX4_plan_291 ?_
    refine x_icmp_ge (tgt := 317) C dX4_plan_294 (by decide) (fun (c_21 : (S.1 1 0 0) ≤ x7) => ?_) (fun (c_21 : ¬ ((S.1 1 0 0) ≤ x7)) => ?_)
    · replace hf := x_ip c_21 hf
      refine x_sub [0, 1, 2, 3, 4, 5] rfl ?_
      exact hk288 S x1 x2 x3 x4 x5  hf
    · replace hf := x_in c_21 hf
      refine x_aload_n C dX4_plan_297 rfl 0 rfl ?_
      refine x_get (v := .ref (ad 14)) C iX4_plan_X4 rfl 0 (gM_root cy ad S) 15 (by decide) (by decide +kernel) rfl rfl dX4_plan_298 ?_
      refine x_iload C dX4_plan_301 6 rfl ?_
      refine x_aload_n C dX4_plan_303 rfl 0 rfl ?_
      refine x_get (v := .ref (ad 13)) C iX4_plan_X4 rfl 0 (gM_root cy ad S) 14 (by decide) (by decide +kernel) rfl rfl dX4_plan_304 ?_
      refine x_iload C dX4_plan_307 6 rfl ?_
      obtain ⟨g_22, hf⟩ := x_gd hf
      refine x_iald (f := S.1 14 0) C 13 0 (gM_tried cy ad S) rfl g_22 dX4_plan_309 ?_
      refine x_iast (S2 := (xI S 15 0 x7.toNatClampNeg (S.1 14 0 x7.toNatClampNeg))) C 14 0 (gM_best cy ad S) rfl g_22 (sM_best cy ad S x7.toNatClampNeg (S.1 14 0 x7.toNatClampNeg)) dX4_plan_310 ?_
      refine x_iinc (v := x7 + 1) (lv2 := [(7, .int (x7 + 1)), (0, .ref (ad 0)), (1, .int x1), (2, .int x2), (3, .int x3), (4, .int x4), (5, .int x5)]) C dX4_plan_311 (k0 := 6) rfl rfl (by decide) rfl ?_
      refine x_goto (tgt := 288) C dX4_plan_314 (by decide) ?_
      refine x_sub [1, 2, 3, 4, 5, 6, 0] rfl ?_
      exact ih (xI S 15 0 x7.toNatClampNeg (S.1 14 0 x7.toNatClampNeg)) x1 x2 x3 x4 x5 (x7 + 1)  hf
set_option maxHeartbeats 4000000 in
set_option maxRecDepth 100000 in
theorem t_X4_plan_L263 (C : XC p s m args meth c D A (xty cy) cX4_plan 8 RX4 wsX4_plan (some .int)) {r : Int32} {S2 : St} {r20 : St → Int32 → Int32 → Int32 → Int32 → Int32 → Option (Int32 × St)} {k20 : St → Int32 → Option (Int32 × St)} (hr20 : ∀ (S : St) (x1 : Int32) (x2 : Int32) (x3 : Int32) (x4 : Int32) (x5 : Int32), r20 S x1 x2 x3 x4 x5 = some (r, S2) → XJ p l e ({ frames := 3, cells := 0, slots := 0, locals := 70 } : Room) s m args below meth c D (wM cy ad) A 8 (QXi D (wM cy ad) A below args s r S2) S 20 [(0, .ref (ad 0)), (1, .int x1), (2, .int x2), (3, .int x3), (4, .int x4), (5, .int x5)] []) (hk20 : ∀ (S : St) (x3 : Int32), k20 S x3 = some (r, S2) → XJ p l e ({ frames := 3, cells := 0, slots := 0, locals := 70 } : Room) s m args below meth c D (wM cy ad) A 8 (QXi D (wM cy ad) A below args s r S2) S 320 [(3, .int x3)] []) (S : St) (x1 : Int32) (x2 : Int32) (x3 : Int32) (x4 : Int32) (x5 : Int32) (x6 : Int32)  (hf : f_X4_plan_L263 r20 k20 S x1 x2 x3 x4 x5 x6 = some (r, S2)) : XJ p l e ({ frames := 3, cells := 0, slots := 0, locals := 70 } : Room) s m args below meth c D (wM cy ad) A 8 (QXi D (wM cy ad) A below args s r S2) S 263 [(0, .ref (ad 0)), (1, .int x1), (2, .int x2), (3, .int x3), (4, .int x4), (5, .int x5), (6, .int x6)] [] := by
  unfold f_X4_plan_L263 at hf
  refine x_iload C dX4_plan_263 6 rfl ?_
  refine x_if_eq (tgt := 317) C dX4_plan_265 (by decide) (fun (c_19 : x6 = 0) => ?_) (fun (c_19 : ¬ (x6 = 0)) => ?_)
  · replace hf := x_ip c_19 hf
    refine x_goto (tgt := 20) C dX4_plan_317 (by decide) ?_
    refine x_sub [0, 1, 2, 3, 4, 5] rfl ?_
    exact hr20 S x1 x2 x3 x4 x5  hf
  · replace hf := x_in c_19 hf
    refine x_aload_n C dX4_plan_268 rfl 0 rfl ?_
    refine x_get (v := .ref (ad 15)) C iX4_plan_X4 rfl 0 (gM_root cy ad S) 16 (by decide) (by decide +kernel) rfl rfl dX4_plan_269 ?_
    refine x_iload C dX4_plan_272 5 rfl ?_
    obtain ⟨g_20, hf⟩ := x_gd hf
    refine x_iald (f := S.1 16 0) C 15 0 (gM_othersTo cy ad S) rfl g_20 dX4_plan_274 ?_
    refine x_istore_n (lv2 := [(3, .int (S.1 16 0 x5.toNatClampNeg)), (0, .ref (ad 0)), (1, .int x1), (2, .int x2), (4, .int x4), (5, .int x5), (6, .int x6)]) C dX4_plan_275 rfl (by decide) rfl ?_
    refine x_aload_n C dX4_plan_276 rfl 1 rfl ?_
    refine x_get (v := .ref (ad 16)) C iX4_plan_X4 rfl 0 (gM_root cy ad S) 17 (by decide) (by decide +kernel) rfl rfl dX4_plan_277 ?_
    refine x_iload C dX4_plan_280 5 rfl ?_
    refine x_iald (f := S.1 17 0) C 16 0 (gM_sumTo cy ad S) rfl g_20 dX4_plan_282 ?_
    refine x_istore (lv2 := [(4, .int (S.1 17 0 x5.toNatClampNeg)), (3, .int (S.1 16 0 x5.toNatClampNeg)), (0, .ref (ad 0)), (1, .int x1), (2, .int x2), (5, .int x5), (6, .int x6)]) C dX4_plan_283 (by decide) rfl ?_
    refine x_iconst (v := 0) C dX4_plan_285 (by decide) ?_
    refine x_istore (lv2 := [(7, .int 0), (4, .int (S.1 17 0 x5.toNatClampNeg)), (3, .int (S.1 16 0 x5.toNatClampNeg)), (0, .ref (ad 0)), (1, .int x1), (2, .int x2), (5, .int x5), (6, .int x6)]) C dX4_plan_286 (by decide) rfl ?_
    refine x_sub [3, 4, 5, 2, 1, 6, 0] rfl ?_
    refine t_X4_plan_L288 C hr20 hk20 (fun S_23 x1_23 x2_23 x3_23 x4_23 x5_23  hf => ?_) 1000 S x1 x2 (S.1 16 0 x5.toNatClampNeg) (S.1 17 0 x5.toNatClampNeg) x5 0  hf
    refine x_goto (tgt := 20) C dX4_plan_317 (by decide) ?_
    exact hr20 S_23 x1_23 x2_23 x3_23 x4_23 x5_23  hf
set_option maxHeartbeats 4000000 in
set_option maxRecDepth 100000 in
theorem t_X4_plan_L231 (C : XC p s m args meth c D A (xty cy) cX4_plan 8 RX4 wsX4_plan (some .int)) {r : Int32} {S2 : St} {r20 : St → Int32 → Int32 → Int32 → Int32 → Int32 → Option (Int32 × St)} {k20 : St → Int32 → Option (Int32 × St)} (hr20 : ∀ (S : St) (x1 : Int32) (x2 : Int32) (x3 : Int32) (x4 : Int32) (x5 : Int32), r20 S x1 x2 x3 x4 x5 = some (r, S2) → XJ p l e ({ frames := 3, cells := 0, slots := 0, locals := 70 } : Room) s m args below meth c D (wM cy ad) A 8 (QXi D (wM cy ad) A below args s r S2) S 20 [(0, .ref (ad 0)), (1, .int x1), (2, .int x2), (3, .int x3), (4, .int x4), (5, .int x5)] []) (hk20 : ∀ (S : St) (x3 : Int32), k20 S x3 = some (r, S2) → XJ p l e ({ frames := 3, cells := 0, slots := 0, locals := 70 } : Room) s m args below meth c D (wM cy ad) A 8 (QXi D (wM cy ad) A below args s r S2) S 320 [(3, .int x3)] []) (S : St) (x1 : Int32) (x2 : Int32) (x3 : Int32) (x4 : Int32) (x5 : Int32) (y0 : Int32)  (hf : f_X4_plan_L231 r20 k20 S x1 x2 x3 x4 x5 y0 = some (r, S2)) : XJ p l e ({ frames := 3, cells := 0, slots := 0, locals := 70 } : Room) s m args below meth c D (wM cy ad) A 8 (QXi D (wM cy ad) A below args s r S2) S 231 [(0, .ref (ad 0)), (1, .int x1), (2, .int x2), (3, .int x3), (4, .int x4), (5, .int x5)] [.int y0] := by
  unfold f_X4_plan_L231 at hf
  refine x_istore (lv2 := [(6, .int y0), (0, .ref (ad 0)), (1, .int x1), (2, .int x2), (3, .int x3), (4, .int x4), (5, .int x5)]) C dX4_plan_231 (by decide) rfl ?_
  refine x_iload C dX4_plan_233 0 rfl ?_
  refine x_if_eq (tgt := 263) C dX4_plan_235 (by decide) (fun (c_18 : y0 = 0) => ?_) (fun (c_18 : ¬ (y0 = 0)) => ?_)
  · replace hf := x_ip c_18 hf
    refine x_sub [1, 2, 3, 4, 5, 6, 0] rfl ?_
    exact t_X4_plan_L263 C hr20 hk20 S x1 x2 x3 x4 x5 y0  hf
  · replace hf := x_in c_18 hf
    refine x_iload C dX4_plan_238 6 rfl ?_
    refine x_iconst (v := 1) C dX4_plan_240 (by decide) ?_
    refine x_iadd C dX4_plan_241 ?_
    refine x_aload_n C dX4_plan_242 rfl 1 rfl ?_
    refine x_get (v := .int (S.1 1 0 0)) C iX4_plan_X4 rfl 0 (gM_root cy ad S) 1 (by decide) (by decide +kernel) rfl rfl dX4_plan_243 ?_
    refine x_icmp_ge (tgt := 263) C dX4_plan_246 (by decide) (fun (c_24 : (S.1 1 0 0) ≤ (x5 + 1)) => ?_) (fun (c_24 : ¬ ((S.1 1 0 0) ≤ (x5 + 1))) => ?_)
    · replace hf := x_ip c_24 hf
      refine x_sub [1, 2, 3, 4, 5, 6, 0] rfl ?_
      exact t_X4_plan_L263 C hr20 hk20 S x1 x2 x3 x4 x5 y0  hf
    · replace hf := x_in c_24 hf
      refine x_iinc (v := x5 + 1) (lv2 := [(5, .int (x5 + 1)), (6, .int y0), (0, .ref (ad 0)), (1, .int x1), (2, .int x2), (3, .int x3), (4, .int x4)]) C dX4_plan_249 (k0 := 6) rfl rfl (by decide) rfl ?_
      refine x_aload_n C dX4_plan_252 rfl 2 rfl ?_
      refine x_get (v := .ref (ad 13)) C iX4_plan_X4 rfl 0 (gM_root cy ad S) 14 (by decide) (by decide +kernel) rfl rfl dX4_plan_253 ?_
      refine x_iload C dX4_plan_256 0 rfl ?_
      refine x_iconst (v := (-1)) C dX4_plan_258 (by decide) ?_
      obtain ⟨g_25, hf⟩ := x_gd hf
      refine x_iast (S2 := (xI S 14 0 ((x5 + 1).toNatClampNeg) (-1))) C 13 0 (gM_tried cy ad S) rfl g_25 (sM_tried cy ad S ((x5 + 1).toNatClampNeg) (-1)) dX4_plan_259 ?_
      refine x_goto (tgt := 317) C dX4_plan_260 (by decide) ?_
      refine x_goto (tgt := 20) C dX4_plan_317 (by decide) ?_
      refine x_sub [2, 3, 4, 5, 6, 0] rfl ?_
      exact hr20 (xI S 14 0 ((x5 + 1).toNatClampNeg) (-1)) x1 x2 x3 x4 (x5 + 1)  hf
set_option maxHeartbeats 4000000 in
set_option maxRecDepth 100000 in
theorem t_X4_plan_L226 (C : XC p s m args meth c D A (xty cy) cX4_plan 8 RX4 wsX4_plan (some .int)) {r : Int32} {S2 : St} {r20 : St → Int32 → Int32 → Int32 → Int32 → Int32 → Option (Int32 × St)} {k20 : St → Int32 → Option (Int32 × St)} (hr20 : ∀ (S : St) (x1 : Int32) (x2 : Int32) (x3 : Int32) (x4 : Int32) (x5 : Int32), r20 S x1 x2 x3 x4 x5 = some (r, S2) → XJ p l e ({ frames := 3, cells := 0, slots := 0, locals := 70 } : Room) s m args below meth c D (wM cy ad) A 8 (QXi D (wM cy ad) A below args s r S2) S 20 [(0, .ref (ad 0)), (1, .int x1), (2, .int x2), (3, .int x3), (4, .int x4), (5, .int x5)] []) (hk20 : ∀ (S : St) (x3 : Int32), k20 S x3 = some (r, S2) → XJ p l e ({ frames := 3, cells := 0, slots := 0, locals := 70 } : Room) s m args below meth c D (wM cy ad) A 8 (QXi D (wM cy ad) A below args s r S2) S 320 [(3, .int x3)] []) (S : St) (x1 : Int32) (x2 : Int32) (x3 : Int32) (x4 : Int32) (x5 : Int32)  (hf : f_X4_plan_L226 r20 k20 S x1 x2 x3 x4 x5 = some (r, S2)) : XJ p l e ({ frames := 3, cells := 0, slots := 0, locals := 70 } : Room) s m args below meth c D (wM cy ad) A 8 (QXi D (wM cy ad) A below args s r S2) S 226 [(0, .ref (ad 0)), (1, .int x1), (2, .int x2), (3, .int x3), (4, .int x4), (5, .int x5)] [] := by
  unfold f_X4_plan_L226 at hf
  refine x_iconst (v := 1) C dX4_plan_226 (by decide) ?_
  refine x_goto (tgt := 231) C dX4_plan_227 (by decide) ?_
  exact t_X4_plan_L231 C hr20 hk20 S x1 x2 x3 x4 x5 1  hf
set_option maxHeartbeats 4000000 in
set_option maxRecDepth 100000 in
theorem t_X4_plan_L230 (C : XC p s m args meth c D A (xty cy) cX4_plan 8 RX4 wsX4_plan (some .int)) {r : Int32} {S2 : St} {r20 : St → Int32 → Int32 → Int32 → Int32 → Int32 → Option (Int32 × St)} {k20 : St → Int32 → Option (Int32 × St)} (hr20 : ∀ (S : St) (x1 : Int32) (x2 : Int32) (x3 : Int32) (x4 : Int32) (x5 : Int32), r20 S x1 x2 x3 x4 x5 = some (r, S2) → XJ p l e ({ frames := 3, cells := 0, slots := 0, locals := 70 } : Room) s m args below meth c D (wM cy ad) A 8 (QXi D (wM cy ad) A below args s r S2) S 20 [(0, .ref (ad 0)), (1, .int x1), (2, .int x2), (3, .int x3), (4, .int x4), (5, .int x5)] []) (hk20 : ∀ (S : St) (x3 : Int32), k20 S x3 = some (r, S2) → XJ p l e ({ frames := 3, cells := 0, slots := 0, locals := 70 } : Room) s m args below meth c D (wM cy ad) A 8 (QXi D (wM cy ad) A below args s r S2) S 320 [(3, .int x3)] []) (S : St) (x1 : Int32) (x2 : Int32) (x3 : Int32) (x4 : Int32) (x5 : Int32)  (hf : f_X4_plan_L230 r20 k20 S x1 x2 x3 x4 x5 = some (r, S2)) : XJ p l e ({ frames := 3, cells := 0, slots := 0, locals := 70 } : Room) s m args below meth c D (wM cy ad) A 8 (QXi D (wM cy ad) A below args s r S2) S 230 [(0, .ref (ad 0)), (1, .int x1), (2, .int x2), (3, .int x3), (4, .int x4), (5, .int x5)] [] := by
  unfold f_X4_plan_L230 at hf
  refine x_iconst (v := 0) C dX4_plan_230 (by decide) ?_
  exact t_X4_plan_L231 C hr20 hk20 S x1 x2 x3 x4 x5 0  hf
set_option maxHeartbeats 4000000 in
set_option maxRecDepth 100000 in
theorem t_X4_plan_L166 (C : XC p s m args meth c D A (xty cy) cX4_plan 8 RX4 wsX4_plan (some .int)) {r : Int32} {S2 : St} {r20 : St → Int32 → Int32 → Int32 → Int32 → Int32 → Option (Int32 × St)} {k20 : St → Int32 → Option (Int32 × St)} (hr20 : ∀ (S : St) (x1 : Int32) (x2 : Int32) (x3 : Int32) (x4 : Int32) (x5 : Int32), r20 S x1 x2 x3 x4 x5 = some (r, S2) → XJ p l e ({ frames := 3, cells := 0, slots := 0, locals := 70 } : Room) s m args below meth c D (wM cy ad) A 8 (QXi D (wM cy ad) A below args s r S2) S 20 [(0, .ref (ad 0)), (1, .int x1), (2, .int x2), (3, .int x3), (4, .int x4), (5, .int x5)] []) (hk20 : ∀ (S : St) (x3 : Int32), k20 S x3 = some (r, S2) → XJ p l e ({ frames := 3, cells := 0, slots := 0, locals := 70 } : Room) s m args below meth c D (wM cy ad) A 8 (QXi D (wM cy ad) A below args s r S2) S 320 [(3, .int x3)] []) (S : St) (x1 : Int32) (x2 : Int32) (x3 : Int32) (x4 : Int32) (x5 : Int32) (y0 : Int32) (y1 : Int32)  (hf : f_X4_plan_L166 r20 k20 S x1 x2 x3 x4 x5 y0 y1 = some (r, S2)) : XJ p l e ({ frames := 3, cells := 0, slots := 0, locals := 70 } : Room) s m args below meth c D (wM cy ad) A 8 (QXi D (wM cy ad) A below args s r S2) S 166 [(0, .ref (ad 0)), (1, .int x1), (2, .int x2), (3, .int x3), (4, .int x4), (5, .int x5)] [.int y0, .int y1, .ref (ad 16)] := by
  unfold f_X4_plan_L166 at hf
  refine x_aload_n C dX4_plan_166 rfl 0 rfl ?_
  refine x_get (v := .ref (ad 18)) C iX4_plan_X4 rfl 0 (gM_root cy ad S) 19 (by decide) (by decide +kernel) rfl rfl dX4_plan_167 ?_
  refine x_bipush (v := 36) C dX4_plan_170 (by decide) ?_
  refine x_iload C dX4_plan_172 5 rfl ?_
  refine x_imul C dX4_plan_174 ?_
  refine x_aload_n C dX4_plan_175 rfl 0 rfl ?_
  refine x_get (v := .ref (ad 13)) C iX4_plan_X4 rfl 0 (gM_root cy ad S) 14 (by decide) (by decide +kernel) rfl rfl dX4_plan_176 ?_
  refine x_iload C dX4_plan_179 5 rfl ?_
  obtain ⟨g_14, hf⟩ := x_gd hf
  refine x_iald (f := S.1 14 0) C 13 0 (gM_tried cy ad S) rfl g_14 dX4_plan_181 ?_
  refine x_iadd C dX4_plan_182 ?_
  obtain ⟨g_15, hf⟩ := x_gd hf
  refine x_iald (f := S.1 19 0) C 18 0 (gM_sums cy ad S) rfl g_15 dX4_plan_183 ?_
  refine x_iadd C dX4_plan_184 ?_
  obtain ⟨g_16, hf⟩ := x_gd hf
  refine x_iast (S2 := (xI S 17 0 y1.toNatClampNeg (y0 + (S.1 19 0 ((36 * x5) + (S.1 14 0 x5.toNatClampNeg)).toNatClampNeg)))) C 16 0 (gM_sumTo cy ad S) rfl g_16 (sM_sumTo cy ad S y1.toNatClampNeg (y0 + (S.1 19 0 ((36 * x5) + (S.1 14 0 x5.toNatClampNeg)).toNatClampNeg))) dX4_plan_185 ?_
  refine x_iload_n C dX4_plan_186 rfl 3 rfl ?_
  refine x_bipush (v := (-100)) C dX4_plan_187 (by decide) ?_
  refine x_icmp_eq (tgt := 226) C dX4_plan_189 (by decide) (fun (c_17 : x3 = (-100)) => ?_) (fun (c_17 : ¬ (x3 = (-100))) => ?_)
  · replace hf := x_ip c_17 hf
    exact t_X4_plan_L226 C hr20 hk20 (xI S 17 0 y1.toNatClampNeg (y0 + (S.1 19 0 ((36 * x5) + (S.1 14 0 x5.toNatClampNeg)).toNatClampNeg))) x1 x2 x3 x4 x5  hf
  · replace hf := x_in c_17 hf
    refine x_aload_n C dX4_plan_192 rfl 0 rfl ?_
    refine x_get (v := .ref (ad 15)) C iX4_plan_X4 rfl 0 (gM_root cy ad (xI S 17 0 y1.toNatClampNeg (y0 + (S.1 19 0 ((36 * x5) + (S.1 14 0 x5.toNatClampNeg)).toNatClampNeg)))) 16 (by decide) (by decide +kernel) rfl rfl dX4_plan_193 ?_
    refine x_iload C dX4_plan_196 5 rfl ?_
    refine x_iald (f := S.1 16 0) C 15 0 (gM_othersTo cy ad (xI S 17 0 y1.toNatClampNeg (y0 + (S.1 19 0 ((36 * x5) + (S.1 14 0 x5.toNatClampNeg)).toNatClampNeg)))) rfl g_14 dX4_plan_198 ?_
    refine x_iload_n C dX4_plan_199 rfl 3 rfl ?_
    refine x_icmp_lt (tgt := 226) C dX4_plan_200 (by decide) (fun (c_26 : (S.1 16 0 x5.toNatClampNeg) < x3) => ?_) (fun (c_26 : ¬ ((S.1 16 0 x5.toNatClampNeg) < x3)) => ?_)
    · replace hf := x_ip c_26 hf
      exact t_X4_plan_L226 C hr20 hk20 (xI S 17 0 y1.toNatClampNeg (y0 + (S.1 19 0 ((36 * x5) + (S.1 14 0 x5.toNatClampNeg)).toNatClampNeg))) x1 x2 x3 x4 x5  hf
    · replace hf := x_in c_26 hf
      refine x_aload_n C dX4_plan_203 rfl 0 rfl ?_
      refine x_get (v := .ref (ad 15)) C iX4_plan_X4 rfl 0 (gM_root cy ad (xI S 17 0 y1.toNatClampNeg (y0 + (S.1 19 0 ((36 * x5) + (S.1 14 0 x5.toNatClampNeg)).toNatClampNeg)))) 16 (by decide) (by decide +kernel) rfl rfl dX4_plan_204 ?_
      refine x_iload C dX4_plan_207 5 rfl ?_
      refine x_iald (f := S.1 16 0) C 15 0 (gM_othersTo cy ad (xI S 17 0 y1.toNatClampNeg (y0 + (S.1 19 0 ((36 * x5) + (S.1 14 0 x5.toNatClampNeg)).toNatClampNeg)))) rfl g_14 dX4_plan_209 ?_
      refine x_iload_n C dX4_plan_210 rfl 3 rfl ?_
      refine x_icmp_ne (tgt := 230) C dX4_plan_211 (by decide) (fun (c_27 : ¬ ((S.1 16 0 x5.toNatClampNeg) = x3)) => ?_) (fun (c_27 : (S.1 16 0 x5.toNatClampNeg) = x3) => ?_)
      · replace hf := x_in c_27 hf
        exact t_X4_plan_L230 C hr20 hk20 (xI S 17 0 y1.toNatClampNeg (y0 + (S.1 19 0 ((36 * x5) + (S.1 14 0 x5.toNatClampNeg)).toNatClampNeg))) x1 x2 x3 x4 x5  hf
      · replace hf := x_ip c_27 hf
        refine x_aload_n C dX4_plan_214 rfl 0 rfl ?_
        refine x_get (v := .ref (ad 16)) C iX4_plan_X4 rfl 0 (gM_root cy ad (xI S 17 0 y1.toNatClampNeg (y0 + (S.1 19 0 ((36 * x5) + (S.1 14 0 x5.toNatClampNeg)).toNatClampNeg)))) 17 (by decide) (by decide +kernel) rfl rfl dX4_plan_215 ?_
        refine x_iload C dX4_plan_218 5 rfl ?_
        refine x_iald (f := (xI S 17 0 y1.toNatClampNeg (y0 + (S.1 19 0 ((36 * x5) + (S.1 14 0 x5.toNatClampNeg)).toNatClampNeg))).1 17 0) C 16 0 (gM_sumTo cy ad (xI S 17 0 y1.toNatClampNeg (y0 + (S.1 19 0 ((36 * x5) + (S.1 14 0 x5.toNatClampNeg)).toNatClampNeg)))) rfl g_14 dX4_plan_220 ?_
        refine x_iload C dX4_plan_221 4 rfl ?_
        refine x_icmp_ge (tgt := 230) C dX4_plan_223 (by decide) (fun (c_28 : x4 ≤ ((xI S 17 0 y1.toNatClampNeg (y0 + (S.1 19 0 ((36 * x5) + (S.1 14 0 x5.toNatClampNeg)).toNatClampNeg))).1 17 0 x5.toNatClampNeg)) => ?_) (fun (c_28 : ¬ (x4 ≤ ((xI S 17 0 y1.toNatClampNeg (y0 + (S.1 19 0 ((36 * x5) + (S.1 14 0 x5.toNatClampNeg)).toNatClampNeg))).1 17 0 x5.toNatClampNeg))) => ?_)
        · replace hf := x_ip c_28 hf
          exact t_X4_plan_L230 C hr20 hk20 (xI S 17 0 y1.toNatClampNeg (y0 + (S.1 19 0 ((36 * x5) + (S.1 14 0 x5.toNatClampNeg)).toNatClampNeg))) x1 x2 x3 x4 x5  hf
        · replace hf := x_in c_28 hf
          exact t_X4_plan_L226 C hr20 hk20 (xI S 17 0 y1.toNatClampNeg (y0 + (S.1 19 0 ((36 * x5) + (S.1 14 0 x5.toNatClampNeg)).toNatClampNeg))) x1 x2 x3 x4 x5  hf
set_option maxHeartbeats 4000000 in
set_option maxRecDepth 100000 in
theorem t_X4_plan_L140 (C : XC p s m args meth c D A (xty cy) cX4_plan 8 RX4 wsX4_plan (some .int)) {r : Int32} {S2 : St} {r20 : St → Int32 → Int32 → Int32 → Int32 → Int32 → Option (Int32 × St)} {k20 : St → Int32 → Option (Int32 × St)} (hr20 : ∀ (S : St) (x1 : Int32) (x2 : Int32) (x3 : Int32) (x4 : Int32) (x5 : Int32), r20 S x1 x2 x3 x4 x5 = some (r, S2) → XJ p l e ({ frames := 3, cells := 0, slots := 0, locals := 70 } : Room) s m args below meth c D (wM cy ad) A 8 (QXi D (wM cy ad) A below args s r S2) S 20 [(0, .ref (ad 0)), (1, .int x1), (2, .int x2), (3, .int x3), (4, .int x4), (5, .int x5)] []) (hk20 : ∀ (S : St) (x3 : Int32), k20 S x3 = some (r, S2) → XJ p l e ({ frames := 3, cells := 0, slots := 0, locals := 70 } : Room) s m args below meth c D (wM cy ad) A 8 (QXi D (wM cy ad) A below args s r S2) S 320 [(3, .int x3)] []) (S : St) (x1 : Int32) (x2 : Int32) (x3 : Int32) (x4 : Int32) (x5 : Int32) (y0 : Int32) (y1 : Int32) (y2 : Int32)  (hf : f_X4_plan_L140 r20 k20 S x1 x2 x3 x4 x5 y0 y1 y2 = some (r, S2)) : XJ p l e ({ frames := 3, cells := 0, slots := 0, locals := 70 } : Room) s m args below meth c D (wM cy ad) A 8 (QXi D (wM cy ad) A below args s r S2) S 140 [(0, .ref (ad 0)), (1, .int x1), (2, .int x2), (3, .int x3), (4, .int x4), (5, .int x5)] [.int y0, .int y1, .int y2, .ref (ad 15)] := by
  unfold f_X4_plan_L140 at hf
  refine x_iadd C dX4_plan_140 ?_
  obtain ⟨g_12, hf⟩ := x_gd hf
  refine x_iast (S2 := (xI S 16 0 y2.toNatClampNeg (y1 + y0))) C 15 0 (gM_othersTo cy ad S) rfl g_12 (sM_othersTo cy ad S y2.toNatClampNeg (y1 + y0)) dX4_plan_141 ?_
  refine x_aload_n C dX4_plan_142 rfl 0 rfl ?_
  refine x_get (v := .ref (ad 16)) C iX4_plan_X4 rfl 0 (gM_root cy ad (xI S 16 0 y2.toNatClampNeg (y1 + y0))) 17 (by decide) (by decide +kernel) rfl rfl dX4_plan_143 ?_
  refine x_iload C dX4_plan_146 5 rfl ?_
  refine x_iload C dX4_plan_148 5 rfl ?_
  refine x_if_le (tgt := 165) C dX4_plan_150 (by decide) (fun (c_13 : x5 ≤ 0) => ?_) (fun (c_13 : ¬ (x5 ≤ 0)) => ?_)
  · replace hf := x_ip c_13 hf
    refine x_iconst (v := 0) C dX4_plan_165 (by decide) ?_
    exact t_X4_plan_L166 C hr20 hk20 (xI S 16 0 y2.toNatClampNeg (y1 + y0)) x1 x2 x3 x4 x5 0 x5  hf
  · replace hf := x_in c_13 hf
    refine x_aload_n C dX4_plan_153 rfl 0 rfl ?_
    refine x_get (v := .ref (ad 16)) C iX4_plan_X4 rfl 0 (gM_root cy ad (xI S 16 0 y2.toNatClampNeg (y1 + y0))) 17 (by decide) (by decide +kernel) rfl rfl dX4_plan_154 ?_
    refine x_iload C dX4_plan_157 5 rfl ?_
    refine x_iconst (v := 1) C dX4_plan_159 (by decide) ?_
    refine x_isub C dX4_plan_160 ?_
    obtain ⟨g_29, hf⟩ := x_gd hf
    refine x_iald (f := S.1 17 0) C 16 0 (gM_sumTo cy ad (xI S 16 0 y2.toNatClampNeg (y1 + y0))) rfl g_29 dX4_plan_161 ?_
    refine x_goto (tgt := 166) C dX4_plan_162 (by decide) ?_
    exact t_X4_plan_L166 C hr20 hk20 (xI S 16 0 y2.toNatClampNeg (y1 + y0)) x1 x2 x3 x4 x5 (S.1 17 0 (x5 - 1).toNatClampNeg) x5  hf
set_option maxHeartbeats 4000000 in
set_option maxRecDepth 100000 in
theorem t_X4_plan_L139 (C : XC p s m args meth c D A (xty cy) cX4_plan 8 RX4 wsX4_plan (some .int)) {r : Int32} {S2 : St} {r20 : St → Int32 → Int32 → Int32 → Int32 → Int32 → Option (Int32 × St)} {k20 : St → Int32 → Option (Int32 × St)} (hr20 : ∀ (S : St) (x1 : Int32) (x2 : Int32) (x3 : Int32) (x4 : Int32) (x5 : Int32), r20 S x1 x2 x3 x4 x5 = some (r, S2) → XJ p l e ({ frames := 3, cells := 0, slots := 0, locals := 70 } : Room) s m args below meth c D (wM cy ad) A 8 (QXi D (wM cy ad) A below args s r S2) S 20 [(0, .ref (ad 0)), (1, .int x1), (2, .int x2), (3, .int x3), (4, .int x4), (5, .int x5)] []) (hk20 : ∀ (S : St) (x3 : Int32), k20 S x3 = some (r, S2) → XJ p l e ({ frames := 3, cells := 0, slots := 0, locals := 70 } : Room) s m args below meth c D (wM cy ad) A 8 (QXi D (wM cy ad) A below args s r S2) S 320 [(3, .int x3)] []) (S : St) (x1 : Int32) (x2 : Int32) (x3 : Int32) (x4 : Int32) (x5 : Int32) (y0 : Int32) (y1 : Int32)  (hf : f_X4_plan_L139 r20 k20 S x1 x2 x3 x4 x5 y0 y1 = some (r, S2)) : XJ p l e ({ frames := 3, cells := 0, slots := 0, locals := 70 } : Room) s m args below meth c D (wM cy ad) A 8 (QXi D (wM cy ad) A below args s r S2) S 139 [(0, .ref (ad 0)), (1, .int x1), (2, .int x2), (3, .int x3), (4, .int x4), (5, .int x5)] [.int y0, .int y1, .ref (ad 15)] := by
  unfold f_X4_plan_L139 at hf
  refine x_iconst (v := 0) C dX4_plan_139 (by decide) ?_
  exact t_X4_plan_L140 C hr20 hk20 S x1 x2 x3 x4 x5 0 y0 y1  hf
set_option maxHeartbeats 4000000 in
set_option maxRecDepth 100000 in
theorem t_X4_plan_L106 (C : XC p s m args meth c D A (xty cy) cX4_plan 8 RX4 wsX4_plan (some .int)) {r : Int32} {S2 : St} {r20 : St → Int32 → Int32 → Int32 → Int32 → Int32 → Option (Int32 × St)} {k20 : St → Int32 → Option (Int32 × St)} (hr20 : ∀ (S : St) (x1 : Int32) (x2 : Int32) (x3 : Int32) (x4 : Int32) (x5 : Int32), r20 S x1 x2 x3 x4 x5 = some (r, S2) → XJ p l e ({ frames := 3, cells := 0, slots := 0, locals := 70 } : Room) s m args below meth c D (wM cy ad) A 8 (QXi D (wM cy ad) A below args s r S2) S 20 [(0, .ref (ad 0)), (1, .int x1), (2, .int x2), (3, .int x3), (4, .int x4), (5, .int x5)] []) (hk20 : ∀ (S : St) (x3 : Int32), k20 S x3 = some (r, S2) → XJ p l e ({ frames := 3, cells := 0, slots := 0, locals := 70 } : Room) s m args below meth c D (wM cy ad) A 8 (QXi D (wM cy ad) A below args s r S2) S 320 [(3, .int x3)] []) (S : St) (x1 : Int32) (x2 : Int32) (x3 : Int32) (x4 : Int32) (x5 : Int32) (y0 : Int32) (y1 : Int32)  (hf : f_X4_plan_L106 r20 k20 S x1 x2 x3 x4 x5 y0 y1 = some (r, S2)) : XJ p l e ({ frames := 3, cells := 0, slots := 0, locals := 70 } : Room) s m args below meth c D (wM cy ad) A 8 (QXi D (wM cy ad) A below args s r S2) S 106 [(0, .ref (ad 0)), (1, .int x1), (2, .int x2), (3, .int x3), (4, .int x4), (5, .int x5)] [.int y0, .int y1, .ref (ad 15)] := by
  unfold f_X4_plan_L106 at hf
  refine x_iload_n C dX4_plan_106 rfl 1 rfl ?_
  refine x_bipush (v := (-100)) C dX4_plan_107 (by decide) ?_
  refine x_icmp_eq (tgt := 139) C dX4_plan_109 (by decide) (fun (c_11 : x1 = (-100)) => ?_) (fun (c_11 : ¬ (x1 = (-100))) => ?_)
  · replace hf := x_ip c_11 hf
    exact t_X4_plan_L139 C hr20 hk20 S x1 x2 x3 x4 x5 y0 y1  hf
  · replace hf := x_in c_11 hf
    refine x_iload C dX4_plan_112 5 rfl ?_
    refine x_iload_n C dX4_plan_114 rfl 1 rfl ?_
    refine x_icmp_eq (tgt := 139) C dX4_plan_115 (by decide) (fun (c_30 : x5 = x1) => ?_) (fun (c_30 : ¬ (x5 = x1)) => ?_)
    · replace hf := x_ip c_30 hf
      exact t_X4_plan_L139 C hr20 hk20 S x1 x2 x3 x4 x5 y0 y1  hf
    · replace hf := x_in c_30 hf
      refine x_aload_n C dX4_plan_118 rfl 0 rfl ?_
      refine x_get (v := .ref (ad 13)) C iX4_plan_X4 rfl 0 (gM_root cy ad S) 14 (by decide) (by decide +kernel) rfl rfl dX4_plan_119 ?_
      refine x_iload C dX4_plan_122 5 rfl ?_
      obtain ⟨g_31, hf⟩ := x_gd hf
      refine x_iald (f := S.1 14 0) C 13 0 (gM_tried cy ad S) rfl g_31 dX4_plan_124 ?_
      refine x_aload_n C dX4_plan_125 rfl 0 rfl ?_
      refine x_get (v := .ref (ad 12)) C iX4_plan_X4 rfl 0 (gM_root cy ad S) 13 (by decide) (by decide +kernel) rfl rfl dX4_plan_126 ?_
      refine x_iload C dX4_plan_129 5 rfl ?_
      refine x_iald (f := S.1 13 0) C 12 0 (gM_starts cy ad S) rfl g_31 dX4_plan_131 ?_
      refine x_icmp_eq (tgt := 139) C dX4_plan_132 (by decide) (fun (c_32 : (S.1 14 0 x5.toNatClampNeg) = (S.1 13 0 x5.toNatClampNeg)) => ?_) (fun (c_32 : ¬ ((S.1 14 0 x5.toNatClampNeg) = (S.1 13 0 x5.toNatClampNeg))) => ?_)
      · replace hf := x_ip c_32 hf
        exact t_X4_plan_L139 C hr20 hk20 S x1 x2 x3 x4 x5 y0 y1  hf
      · replace hf := x_in c_32 hf
        refine x_iconst (v := 1) C dX4_plan_135 (by decide) ?_
        refine x_goto (tgt := 140) C dX4_plan_136 (by decide) ?_
        exact t_X4_plan_L140 C hr20 hk20 S x1 x2 x3 x4 x5 1 y0 y1  hf
set_option maxHeartbeats 4000000 in
set_option maxRecDepth 100000 in
theorem t_X4_plan_L82 (C : XC p s m args meth c D A (xty cy) cX4_plan 8 RX4 wsX4_plan (some .int)) {r : Int32} {S2 : St} {r20 : St → Int32 → Int32 → Int32 → Int32 → Int32 → Option (Int32 × St)} {k20 : St → Int32 → Option (Int32 × St)} (hr20 : ∀ (S : St) (x1 : Int32) (x2 : Int32) (x3 : Int32) (x4 : Int32) (x5 : Int32), r20 S x1 x2 x3 x4 x5 = some (r, S2) → XJ p l e ({ frames := 3, cells := 0, slots := 0, locals := 70 } : Room) s m args below meth c D (wM cy ad) A 8 (QXi D (wM cy ad) A below args s r S2) S 20 [(0, .ref (ad 0)), (1, .int x1), (2, .int x2), (3, .int x3), (4, .int x4), (5, .int x5)] []) (hk20 : ∀ (S : St) (x3 : Int32), k20 S x3 = some (r, S2) → XJ p l e ({ frames := 3, cells := 0, slots := 0, locals := 70 } : Room) s m args below meth c D (wM cy ad) A 8 (QXi D (wM cy ad) A below args s r S2) S 320 [(3, .int x3)] []) (S : St) (x1 : Int32) (x2 : Int32) (x3 : Int32) (x4 : Int32) (x5 : Int32)  (hf : f_X4_plan_L82 r20 k20 S x1 x2 x3 x4 x5 = some (r, S2)) : XJ p l e ({ frames := 3, cells := 0, slots := 0, locals := 70 } : Room) s m args below meth c D (wM cy ad) A 8 (QXi D (wM cy ad) A below args s r S2) S 82 [(0, .ref (ad 0)), (1, .int x1), (2, .int x2), (3, .int x3), (4, .int x4), (5, .int x5)] [] := by
  unfold f_X4_plan_L82 at hf
  refine x_aload_n C dX4_plan_82 rfl 0 rfl ?_
  refine x_get (v := .ref (ad 15)) C iX4_plan_X4 rfl 0 (gM_root cy ad S) 16 (by decide) (by decide +kernel) rfl rfl dX4_plan_83 ?_
  refine x_iload C dX4_plan_86 5 rfl ?_
  refine x_iload C dX4_plan_88 5 rfl ?_
  refine x_if_le (tgt := 105) C dX4_plan_90 (by decide) (fun (c_10 : x5 ≤ 0) => ?_) (fun (c_10 : ¬ (x5 ≤ 0)) => ?_)
  · replace hf := x_ip c_10 hf
    refine x_iconst (v := 0) C dX4_plan_105 (by decide) ?_
    exact t_X4_plan_L106 C hr20 hk20 S x1 x2 x3 x4 x5 0 x5  hf
  · replace hf := x_in c_10 hf
    refine x_aload_n C dX4_plan_93 rfl 0 rfl ?_
    refine x_get (v := .ref (ad 15)) C iX4_plan_X4 rfl 0 (gM_root cy ad S) 16 (by decide) (by decide +kernel) rfl rfl dX4_plan_94 ?_
    refine x_iload C dX4_plan_97 5 rfl ?_
    refine x_iconst (v := 1) C dX4_plan_99 (by decide) ?_
    refine x_isub C dX4_plan_100 ?_
    obtain ⟨g_33, hf⟩ := x_gd hf
    refine x_iald (f := S.1 16 0) C 15 0 (gM_othersTo cy ad S) rfl g_33 dX4_plan_101 ?_
    refine x_goto (tgt := 106) C dX4_plan_102 (by decide) ?_
    exact t_X4_plan_L106 C hr20 hk20 S x1 x2 x3 x4 x5 (S.1 16 0 (x5 - 1).toNatClampNeg) x5  hf
set_option maxHeartbeats 4000000 in
set_option maxRecDepth 100000 in
theorem t_X4_plan_L20 (C : XC p s m args meth c D A (xty cy) cX4_plan 8 RX4 wsX4_plan (some .int)) {r : Int32} {S2 : St}   {k20 : St → Int32 → Option (Int32 × St)} (hk20 : ∀ (S : St) (x3 : Int32), k20 S x3 = some (r, S2) → XJ p l e ({ frames := 3, cells := 0, slots := 0, locals := 70 } : Room) s m args below meth c D (wM cy ad) A 8 (QXi D (wM cy ad) A below args s r S2) S 320 [(3, .int x3)] []) : ∀ (n : Nat), ∀ (S : St) (x1 : Int32) (x2 : Int32) (x3 : Int32) (x4 : Int32) (x5 : Int32), (f_X4_plan_L20  k20 n) S x1 x2 x3 x4 x5 = some (r, S2) → XJ p l e ({ frames := 3, cells := 0, slots := 0, locals := 70 } : Room) s m args below meth c D (wM cy ad) A 8 (QXi D (wM cy ad) A below args s r S2) S 20 [(0, .ref (ad 0)), (1, .int x1), (2, .int x2), (3, .int x3), (4, .int x4), (5, .int x5)] [] := by
  intro n
  induction n with
  | zero => intro S x1 x2 x3 x4 x5 hf; cases hf
  | succ n ih =>
    intro S x1 x2 x3 x4 x5 hf
    rw [f_X4_plan_L20] at hf
    refine x_iload C dX4_plan_20 5 rfl ?_
    refine x_if_lt (tgt := 320) C dX4_plan_22 (by decide) (fun (c_3 : x5 < 0) => ?_) (fun (c_3 : ¬ (x5 < 0)) => ?_)
    · replace hf := x_ip c_3 hf
      refine x_sub [3] rfl ?_
      exact hk20 S x3  hf
    · replace hf := x_in c_3 hf
      refine x_aload_n C dX4_plan_25 rfl 0 rfl ?_
      refine x_get (v := .ref (ad 13)) C iX4_plan_X4 rfl 0 (gM_root cy ad S) 14 (by decide) (by decide +kernel) rfl rfl dX4_plan_26 ?_
      refine x_iload C dX4_plan_29 5 rfl ?_
      refine x_dup2 C dX4_plan_31 rfl rfl ?_
      obtain ⟨g_4, hf⟩ := x_gd hf
      refine x_iald (f := S.1 14 0) C 13 0 (gM_tried cy ad S) rfl g_4 dX4_plan_32 ?_
      refine x_iconst (v := 1) C dX4_plan_33 (by decide) ?_
      refine x_iadd C dX4_plan_34 ?_
      refine x_iast (S2 := (xI S 14 0 x5.toNatClampNeg ((S.1 14 0 x5.toNatClampNeg) + 1))) C 13 0 (gM_tried cy ad S) rfl g_4 (sM_tried cy ad S x5.toNatClampNeg ((S.1 14 0 x5.toNatClampNeg) + 1)) dX4_plan_35 ?_
      refine x_aload_n C dX4_plan_36 rfl 0 rfl ?_
      refine x_get (v := .ref (ad 13)) C iX4_plan_X4 rfl 0 (gM_root cy ad (xI S 14 0 x5.toNatClampNeg ((S.1 14 0 x5.toNatClampNeg) + 1))) 14 (by decide) (by decide +kernel) rfl rfl dX4_plan_37 ?_
      refine x_iload C dX4_plan_40 5 rfl ?_
      refine x_iald (f := (xI S 14 0 x5.toNatClampNeg ((S.1 14 0 x5.toNatClampNeg) + 1)).1 14 0) C 13 0 (gM_tried cy ad (xI S 14 0 x5.toNatClampNeg ((S.1 14 0 x5.toNatClampNeg) + 1))) rfl g_4 dX4_plan_42 ?_
      refine x_aload_n C dX4_plan_43 rfl 0 rfl ?_
      refine x_get (v := .int (S.1 0 0 0)) C iX4_plan_X4 rfl 0 (gM_root cy ad (xI S 14 0 x5.toNatClampNeg ((S.1 14 0 x5.toNatClampNeg) + 1))) 0 (by decide) (by decide +kernel) rfl rfl dX4_plan_44 ?_
      refine x_icmp_lt (tgt := 56) C dX4_plan_47 (by decide) (fun (c_5 : ((xI S 14 0 x5.toNatClampNeg ((S.1 14 0 x5.toNatClampNeg) + 1)).1 14 0 x5.toNatClampNeg) < (S.1 0 0 0)) => ?_) (fun (c_5 : ¬ (((xI S 14 0 x5.toNatClampNeg ((S.1 14 0 x5.toNatClampNeg) + 1)).1 14 0 x5.toNatClampNeg) < (S.1 0 0 0))) => ?_)
      · replace hf := x_ip c_5 hf
        refine x_aload_n C dX4_plan_56 rfl 0 rfl ?_
        refine x_iload C dX4_plan_57 5 rfl ?_
        obtain ⟨u6, h7, hf⟩ := x_bd hf
        refine x_callVi (As := [.int x5]) (st := []) C (c_X4_fitsBefore l D cy ad (xI S 14 0 x5.toNatClampNeg ((S.1 14 0 x5.toNatClampNeg) + 1)) x5  h7) (cwV 1 C.2.2.2.2.1 gX4_plan_X4_fitsBefore rfl rfl rfl (by decide +kernel) ⟨(by decide), (by decide)⟩) 0 (gM_root cy ad (xI S 14 0 x5.toNatClampNeg ((S.1 14 0 x5.toNatClampNeg) + 1))) rfl rfl rfl rfl (Nat.le_of_ble_eq_true rfl) dX4_plan_59 ?_
        refine x_if_eq (tgt := 20) C dX4_plan_62 (by decide) (fun (c_8 : u6 = 0) => ?_) (fun (c_8 : ¬ (u6 = 0)) => ?_)
        · replace hf := x_ip c_8 hf
          exact ih (xI S 14 0 x5.toNatClampNeg ((S.1 14 0 x5.toNatClampNeg) + 1)) x1 x2 x3 x4 x5  hf
        · replace hf := x_in c_8 hf
          refine x_iload C dX4_plan_65 5 rfl ?_
          refine x_iload_n C dX4_plan_67 rfl 1 rfl ?_
          refine x_icmp_ne (tgt := 82) C dX4_plan_68 (by decide) (fun (c_9 : ¬ (x5 = x1)) => ?_) (fun (c_9 : x5 = x1) => ?_)
          · replace hf := x_in c_9 hf
            exact t_X4_plan_L82 C ih hk20 (xI S 14 0 x5.toNatClampNeg ((S.1 14 0 x5.toNatClampNeg) + 1)) x1 x2 x3 x4 x5  hf
          · replace hf := x_ip c_9 hf
            refine x_aload_n C dX4_plan_71 rfl 0 rfl ?_
            refine x_get (v := .ref (ad 13)) C iX4_plan_X4 rfl 0 (gM_root cy ad (xI S 14 0 x5.toNatClampNeg ((S.1 14 0 x5.toNatClampNeg) + 1))) 14 (by decide) (by decide +kernel) rfl rfl dX4_plan_72 ?_
            refine x_iload C dX4_plan_75 5 rfl ?_
            refine x_iald (f := (xI S 14 0 x5.toNatClampNeg ((S.1 14 0 x5.toNatClampNeg) + 1)).1 14 0) C 13 0 (gM_tried cy ad (xI S 14 0 x5.toNatClampNeg ((S.1 14 0 x5.toNatClampNeg) + 1))) rfl g_4 dX4_plan_77 ?_
            refine x_iload_n C dX4_plan_78 rfl 2 rfl ?_
            refine x_icmp_lt (tgt := 20) C dX4_plan_79 (by decide) (fun (c_34 : ((xI S 14 0 x5.toNatClampNeg ((S.1 14 0 x5.toNatClampNeg) + 1)).1 14 0 x5.toNatClampNeg) < x2) => ?_) (fun (c_34 : ¬ (((xI S 14 0 x5.toNatClampNeg ((S.1 14 0 x5.toNatClampNeg) + 1)).1 14 0 x5.toNatClampNeg) < x2)) => ?_)
            · replace hf := x_ip c_34 hf
              exact ih (xI S 14 0 x5.toNatClampNeg ((S.1 14 0 x5.toNatClampNeg) + 1)) x1 x2 x3 x4 x5  hf
            · replace hf := x_in c_34 hf
              exact t_X4_plan_L82 C ih hk20 (xI S 14 0 x5.toNatClampNeg ((S.1 14 0 x5.toNatClampNeg) + 1)) x1 x2 x3 x4 x5  hf
      · replace hf := x_in c_5 hf
        refine x_iinc (v := x5 + (-1)) (lv2 := [(5, .int (x5 + (-1))), (0, .ref (ad 0)), (1, .int x1), (2, .int x2), (3, .int x3), (4, .int x4)]) C dX4_plan_50 (k0 := 5) rfl rfl (by decide) rfl ?_
        refine x_goto (tgt := 20) C dX4_plan_53 (by decide) ?_
        refine x_sub [1, 2, 3, 4, 5, 0] rfl ?_
        exact ih (xI S 14 0 x5.toNatClampNeg ((S.1 14 0 x5.toNatClampNeg) + 1)) x1 x2 x3 x4 (x5 + (-1))  hf
set_option maxHeartbeats 4000000 in
set_option maxRecDepth 100000 in
theorem c_X4_plan (l : Launch) (D : va_G) (cy : Nat → ClassId) (ad : Nat → Nat) (S : St) (a1 : Int32) (a2 : Int32) {r : Int32} {S2 : St}  (hf : f_X4_plan S a1 a2 = some (r, S2)) : XMi l D (wM cy ad) (xty cy) yX4_plan wsX4_plan ({ frames := 3, cells := 0, slots := 0, locals := 70 } : Room) [.ref (ad 0), .int a1, .int a2] S r S2 := by
  refine x_ofWi (cc := cX4_plan) (maxL := 8) (ret := some .int) (own := RX4) rfl (by decide) rfl (Nat.le_of_ble_eq_true rfl) rfl ?_
  intro p e s m args below meth c A C _
  unfold f_X4_plan at hf
  refine x_aload_n C dX4_plan_0 rfl 0 rfl ?_
  obtain ⟨u1, h2, hf⟩ := x_bd hf
  refine x_callVv (As := []) (st := []) C (c_X4_look l D cy ad S   h2) (cwV 0 C.2.2.2.2.1 gX4_plan_X4_look rfl rfl rfl (by decide +kernel) ⟨(by decide), (by decide)⟩) 0 (gM_root cy ad S) rfl rfl rfl rfl (Nat.le_of_ble_eq_true rfl) dX4_plan_1 ?_
  refine x_bipush (v := (-100)) C dX4_plan_4 (by decide) ?_
  refine x_istore_n (lv2 := [(3, .int (-100)), (0, .ref (ad 0)), (1, .int a1), (2, .int a2)]) C dX4_plan_6 rfl (by decide) rfl ?_
  refine x_iconst (v := 0) C dX4_plan_7 (by decide) ?_
  refine x_istore (lv2 := [(4, .int 0), (3, .int (-100)), (0, .ref (ad 0)), (1, .int a1), (2, .int a2)]) C dX4_plan_8 (by decide) rfl ?_
  refine x_iconst (v := 0) C dX4_plan_10 (by decide) ?_
  refine x_istore (lv2 := [(5, .int 0), (4, .int 0), (3, .int (-100)), (0, .ref (ad 0)), (1, .int a1), (2, .int a2)]) C dX4_plan_11 (by decide) rfl ?_
  refine x_aload_n C dX4_plan_13 rfl 3 rfl ?_
  refine x_get (v := .ref (ad 13)) C iX4_plan_X4 rfl 0 (gM_root cy ad u1) 14 (by decide) (by decide +kernel) rfl rfl dX4_plan_14 ?_
  refine x_iconst (v := 0) C dX4_plan_17 (by decide) ?_
  refine x_iconst (v := (-1)) C dX4_plan_18 (by decide) ?_
  refine x_iast (S2 := (xI u1 14 0 ((0 : Int32).toNatClampNeg) (-1))) C 13 0 (gM_tried cy ad u1) rfl (show ¬ ((0 : Int32) < 0 ∨ 4 ≤ (0 : Int32).toNatClampNeg) by decide) (sM_tried cy ad u1 ((0 : Int32).toNatClampNeg) (-1)) dX4_plan_19 ?_
  refine x_sub [3, 4, 5, 2, 1, 0] rfl ?_
  refine t_X4_plan_L20 C  (fun S_35 x3_35  hf => ?_) 3000000 (xI u1 14 0 ((0 : Int32).toNatClampNeg) (-1)) a1 a2 (-100) 0 0  hf
  refine x_iload_n C dX4_plan_320 rfl 0 rfl ?_
  obtain ⟨e9, e8⟩ := x_s2 hf; subst e9; subst e8
  exact x_iret C dX4_plan_321
end DX4_plan
set_option maxRecDepth 20000 in
theorem iX4_movesAll_X4 : ∀ w ∈ u_ws RX4 TX4 25, w ∈ wsX4_movesAll := by decide +kernel
def f_X4_movesAll_L6  (k6 : St → Option (St)) : Nat → St → Int32 → Option (St)
  | 0 => fun _ _ => none
  | n + 1 => fun S x1 => if (S.1 1 0 0) ≤ x1 then (k6 S ) else (if x1 < 0 ∨ 4 ≤ x1.toNatClampNeg then none else (f_X4_move S x1 (S.1 15 0 x1.toNatClampNeg)).bind fun u5 => (f_X4_movesAll_L6  k6 n) u5 (x1 + 1))
def f_X4_movesAll (S : St)  : Option (St) := (f_X4_beginMoves S ).bind fun u1 => f_X4_movesAll_L6  (fun S_7  => some S_7) 1000 u1 0
section DX4_movesAll
variable {p : Program} {l : Launch} {e : Env} {s : State} {m : MethodId} {args : Array Value} {below : List Frame} {meth : Method} {c : Code} {D : va_G} {cy : Nat → ClassId} {ad : Nat → Nat} {A : Nat → Prop}
set_option maxHeartbeats 4000000 in
set_option maxRecDepth 100000 in
theorem t_X4_movesAll_L6 (C : XC p s m args meth c D A (xty cy) cX4_movesAll 2 RX4 wsX4_movesAll (none)) {S2 : St}   {k6 : St → Option (St)} (hk6 : ∀ (S : St) , k6 S  = some S2 → XJ p l e ({ frames := 1, cells := 0, slots := 0, locals := 22 } : Room) s m args below meth c D (wM cy ad) A 2 (QXv D (wM cy ad) A below args s S2) S 31 [] []) : ∀ (n : Nat), ∀ (S : St) (x1 : Int32), (f_X4_movesAll_L6  k6 n) S x1 = some S2 → XJ p l e ({ frames := 1, cells := 0, slots := 0, locals := 22 } : Room) s m args below meth c D (wM cy ad) A 2 (QXv D (wM cy ad) A below args s S2) S 6 [(0, .ref (ad 0)), (1, .int x1)] [] := by
  intro n
  induction n with
  | zero => intro S x1 hf; cases hf
  | succ n ih =>
    intro S x1 hf
    rw [f_X4_movesAll_L6] at hf
    refine x_iload_n C dX4_movesAll_6 rfl 1 rfl ?_
    refine x_aload_n C dX4_movesAll_7 rfl 0 rfl ?_
    refine x_get (v := .int (S.1 1 0 0)) C iX4_movesAll_X4 rfl 0 (gM_root cy ad S) 1 (by decide) (by decide +kernel) rfl rfl dX4_movesAll_8 ?_
    refine x_icmp_ge (tgt := 31) C dX4_movesAll_11 (by decide) (fun (c_3 : (S.1 1 0 0) ≤ x1) => ?_) (fun (c_3 : ¬ ((S.1 1 0 0) ≤ x1)) => ?_)
    · replace hf := x_ip c_3 hf
      refine x_sub [] rfl ?_
      exact hk6 S   hf
    · replace hf := x_in c_3 hf
      refine x_aload_n C dX4_movesAll_14 rfl 0 rfl ?_
      refine x_iload_n C dX4_movesAll_15 rfl 1 rfl ?_
      refine x_aload_n C dX4_movesAll_16 rfl 0 rfl ?_
      refine x_get (v := .ref (ad 14)) C iX4_movesAll_X4 rfl 0 (gM_root cy ad S) 15 (by decide) (by decide +kernel) rfl rfl dX4_movesAll_17 ?_
      refine x_iload_n C dX4_movesAll_20 rfl 1 rfl ?_
      obtain ⟨g_4, hf⟩ := x_gd hf
      refine x_iald (f := S.1 15 0) C 14 0 (gM_best cy ad S) rfl g_4 dX4_movesAll_21 ?_
      obtain ⟨u5, h6, hf⟩ := x_bd hf
      refine x_callVv (As := [.int x1, .int (S.1 15 0 x1.toNatClampNeg)]) (st := []) C (c_X4_move l D cy ad S x1 (S.1 15 0 x1.toNatClampNeg)  h6) (cwV 2 C.2.2.2.2.1 gX4_movesAll_X4_move rfl rfl rfl (by decide +kernel) ⟨(by decide), (by decide)⟩) 0 (gM_root cy ad S) rfl rfl rfl rfl (Nat.le_of_ble_eq_true rfl) dX4_movesAll_22 ?_
      refine x_iinc (v := x1 + 1) (lv2 := [(1, .int (x1 + 1)), (0, .ref (ad 0))]) C dX4_movesAll_25 (k0 := 1) rfl rfl (by decide) rfl ?_
      refine x_goto (tgt := 6) C dX4_movesAll_28 (by decide) ?_
      refine x_sub [1, 0] rfl ?_
      exact ih u5 (x1 + 1)  hf
set_option maxHeartbeats 4000000 in
set_option maxRecDepth 100000 in
theorem c_X4_movesAll (l : Launch) (D : va_G) (cy : Nat → ClassId) (ad : Nat → Nat) (S : St)  {S2 : St}  (hf : f_X4_movesAll S  = some S2) : XMv l D (wM cy ad) (xty cy) yX4_movesAll wsX4_movesAll ({ frames := 1, cells := 0, slots := 0, locals := 22 } : Room) [.ref (ad 0)] S S2 := by
  refine x_ofWv (cc := cX4_movesAll) (maxL := 2) (ret := none) (own := RX4) rfl (by decide) rfl (Nat.le_of_ble_eq_true rfl) rfl ?_
  intro p e s m args below meth c A C _
  unfold f_X4_movesAll at hf
  refine x_aload_n C dX4_movesAll_0 rfl 0 rfl ?_
  obtain ⟨u1, h2, hf⟩ := x_bd hf
  refine x_callVv (As := []) (st := []) C (c_X4_beginMoves l D cy ad S   h2) (cwV 0 C.2.2.2.2.1 gX4_movesAll_X4_beginMoves rfl rfl rfl (by decide +kernel) ⟨(by decide), (by decide)⟩) 0 (gM_root cy ad S) rfl rfl rfl rfl (Nat.le_of_ble_eq_true rfl) dX4_movesAll_1 ?_
  refine x_iconst (v := 0) C dX4_movesAll_4 (by decide) ?_
  refine x_istore_n (lv2 := [(1, .int 0), (0, .ref (ad 0))]) C dX4_movesAll_5 rfl (by decide) rfl ?_
  refine x_sub [1, 0] rfl ?_
  refine t_X4_movesAll_L6 C  (fun S_7   hf => ?_) 1000 u1 0  hf
  have e9 := x_s1 hf; subst e9
  exact x_vret C dX4_movesAll_31
end DX4_movesAll
set_option maxRecDepth 20000 in
theorem iX4_all_X4 : ∀ w ∈ u_ws RX4 TX4 25, w ∈ wsX4_all := by decide +kernel
def f_X4_all_L29  (k29 : St → Int32 → Option (Int32 × St)) : Nat → St → Int32 → Int32 → Option (Int32 × St)
  | 0 => fun _ _ _ => none
  | n + 1 => fun S x1 x2 => if (S.1 1 0 0) ≤ x2 then (k29 S x1) else (if x2 < 0 ∨ 4 ≤ x2.toNatClampNeg then none else (f_X4_delayOf S x2 (S.1 13 0 x2.toNatClampNeg)).bind fun u9 => (f_X4_all_L29  k29 n) S (x1 + u9) (x2 + 1))
def f_X4_all (S : St)  : Option (Int32 × St) := if (S.1 1 0 0) = 0 then (some ((-1), S)) else ((f_X4_plan S (-100) 0).bind fun u2 => if u2.1 = (-100) then (some ((-1), u2.2)) else ((f_X4_movesAll u2.2 ).bind fun u5 => f_X4_all_L29  (fun S_11 x1_11 => some (x1_11, S_11)) 1000 u5 0 0))
section DX4_all
variable {p : Program} {l : Launch} {e : Env} {s : State} {m : MethodId} {args : Array Value} {below : List Frame} {meth : Method} {c : Code} {D : va_G} {cy : Nat → ClassId} {ad : Nat → Nat} {A : Nat → Prop}
set_option maxHeartbeats 4000000 in
set_option maxRecDepth 100000 in
theorem t_X4_all_L29 (C : XC p s m args meth c D A (xty cy) cX4_all 3 RX4 wsX4_all (some .int)) {r : Int32} {S2 : St}   {k29 : St → Int32 → Option (Int32 × St)} (hk29 : ∀ (S : St) (x1 : Int32), k29 S x1 = some (r, S2) → XJ p l e ({ frames := 4, cells := 0, slots := 0, locals := 97 } : Room) s m args below meth c D (wM cy ad) A 3 (QXi D (wM cy ad) A below args s r S2) S 57 [(1, .int x1)] []) : ∀ (n : Nat), ∀ (S : St) (x1 : Int32) (x2 : Int32), (f_X4_all_L29  k29 n) S x1 x2 = some (r, S2) → XJ p l e ({ frames := 4, cells := 0, slots := 0, locals := 97 } : Room) s m args below meth c D (wM cy ad) A 3 (QXi D (wM cy ad) A below args s r S2) S 29 [(0, .ref (ad 0)), (1, .int x1), (2, .int x2)] [] := by
  intro n
  induction n with
  | zero => intro S x1 x2 hf; cases hf
  | succ n ih =>
    intro S x1 x2 hf
    rw [f_X4_all_L29] at hf
    refine x_iload_n C dX4_all_29 rfl 2 rfl ?_
    refine x_aload_n C dX4_all_30 rfl 0 rfl ?_
    refine x_get (v := .int (S.1 1 0 0)) C iX4_all_X4 rfl 0 (gM_root cy ad S) 1 (by decide) (by decide +kernel) rfl rfl dX4_all_31 ?_
    refine x_icmp_ge (tgt := 57) C dX4_all_34 (by decide) (fun (c_7 : (S.1 1 0 0) ≤ x2) => ?_) (fun (c_7 : ¬ ((S.1 1 0 0) ≤ x2)) => ?_)
    · replace hf := x_ip c_7 hf
      refine x_sub [1] rfl ?_
      exact hk29 S x1  hf
    · replace hf := x_in c_7 hf
      refine x_iload_n C dX4_all_37 rfl 1 rfl ?_
      refine x_aload_n C dX4_all_38 rfl 0 rfl ?_
      refine x_iload_n C dX4_all_39 rfl 2 rfl ?_
      refine x_aload_n C dX4_all_40 rfl 0 rfl ?_
      refine x_get (v := .ref (ad 12)) C iX4_all_X4 rfl 0 (gM_root cy ad S) 13 (by decide) (by decide +kernel) rfl rfl dX4_all_41 ?_
      refine x_iload_n C dX4_all_44 rfl 2 rfl ?_
      obtain ⟨g_8, hf⟩ := x_gd hf
      refine x_iald (f := S.1 13 0) C 12 0 (gM_starts cy ad S) rfl g_8 dX4_all_45 ?_
      obtain ⟨u9, h10, hf⟩ := x_bd hf
      refine x_callVi (As := [.int x2, .int (S.1 13 0 x2.toNatClampNeg)]) (st := [.int x1]) C (c_X4_delayOf l D cy ad S x2 (S.1 13 0 x2.toNatClampNeg)  h10) (cwV 2 C.2.2.2.2.1 gX4_all_X4_delayOf rfl rfl rfl (by decide +kernel) ⟨(by decide), (by decide)⟩) 0 (gM_root cy ad S) rfl rfl rfl rfl (Nat.le_of_ble_eq_true rfl) dX4_all_46 ?_
      refine x_iadd C dX4_all_49 ?_
      refine x_istore_n (lv2 := [(1, .int (x1 + u9)), (0, .ref (ad 0)), (2, .int x2)]) C dX4_all_50 rfl (by decide) rfl ?_
      refine x_iinc (v := x2 + 1) (lv2 := [(2, .int (x2 + 1)), (1, .int (x1 + u9)), (0, .ref (ad 0))]) C dX4_all_51 (k0 := 2) rfl rfl (by decide) rfl ?_
      refine x_goto (tgt := 29) C dX4_all_54 (by decide) ?_
      refine x_sub [2, 1, 0] rfl ?_
      exact ih S (x1 + u9) (x2 + 1)  hf
set_option maxHeartbeats 4000000 in
set_option maxRecDepth 100000 in
theorem c_X4_all (l : Launch) (D : va_G) (cy : Nat → ClassId) (ad : Nat → Nat) (S : St)  {r : Int32} {S2 : St}  (hf : f_X4_all S  = some (r, S2)) : XMi l D (wM cy ad) (xty cy) yX4_all wsX4_all ({ frames := 4, cells := 0, slots := 0, locals := 97 } : Room) [.ref (ad 0)] S r S2 := by
  refine x_ofWi (cc := cX4_all) (maxL := 3) (ret := some .int) (own := RX4) rfl (by decide) rfl (Nat.le_of_ble_eq_true rfl) rfl ?_
  intro p e s m args below meth c A C _
  unfold f_X4_all at hf
  refine x_aload_n C dX4_all_0 rfl 0 rfl ?_
  refine x_get (v := .int (S.1 1 0 0)) C iX4_all_X4 rfl 0 (gM_root cy ad S) 1 (by decide) (by decide +kernel) rfl rfl dX4_all_1 ?_
  refine x_if_eq (tgt := 19) C dX4_all_4 (by decide) (fun (c_1 : (S.1 1 0 0) = 0) => ?_) (fun (c_1 : ¬ ((S.1 1 0 0) = 0)) => ?_)
  · replace hf := x_ip c_1 hf
    refine x_iconst (v := (-1)) C dX4_all_19 (by decide) ?_
    obtain ⟨e9, e8⟩ := x_s2 hf; subst e9; subst e8
    exact x_iret C dX4_all_20
  · replace hf := x_in c_1 hf
    refine x_aload_n C dX4_all_7 rfl 0 rfl ?_
    refine x_bipush (v := (-100)) C dX4_all_8 (by decide) ?_
    refine x_iconst (v := 0) C dX4_all_10 (by decide) ?_
    obtain ⟨u2, h3, hf⟩ := x_bd hf
    refine x_callVi (As := [.int (-100), .int 0]) (st := []) C (c_X4_plan l D cy ad S (-100) 0  h3) (cwV 2 C.2.2.2.2.1 gX4_all_X4_plan rfl rfl rfl (by decide +kernel) ⟨(by decide), (by decide)⟩) 0 (gM_root cy ad S) rfl rfl rfl rfl (Nat.le_of_ble_eq_true rfl) dX4_all_11 ?_
    refine x_bipush (v := (-100)) C dX4_all_14 (by decide) ?_
    refine x_icmp_ne (tgt := 21) C dX4_all_16 (by decide) (fun (c_4 : ¬ (u2.1 = (-100))) => ?_) (fun (c_4 : u2.1 = (-100)) => ?_)
    · replace hf := x_in c_4 hf
      refine x_aload_n C dX4_all_21 rfl 0 rfl ?_
      obtain ⟨u5, h6, hf⟩ := x_bd hf
      refine x_callVv (As := []) (st := []) C (c_X4_movesAll l D cy ad u2.2   h6) (cwV 0 C.2.2.2.2.1 gX4_all_X4_movesAll rfl rfl rfl (by decide +kernel) ⟨(by decide), (by decide)⟩) 0 (gM_root cy ad u2.2) rfl rfl rfl rfl (Nat.le_of_ble_eq_true rfl) dX4_all_22 ?_
      refine x_iconst (v := 0) C dX4_all_25 (by decide) ?_
      refine x_istore_n (lv2 := [(1, .int 0), (0, .ref (ad 0))]) C dX4_all_26 rfl (by decide) rfl ?_
      refine x_iconst (v := 0) C dX4_all_27 (by decide) ?_
      refine x_istore_n (lv2 := [(2, .int 0), (1, .int 0), (0, .ref (ad 0))]) C dX4_all_28 rfl (by decide) rfl ?_
      refine x_sub [2, 1, 0] rfl ?_
      refine t_X4_all_L29 C  (fun S_11 x1_11  hf => ?_) 1000 u5 0 0  hf
      refine x_iload_n C dX4_all_57 rfl 0 rfl ?_
      obtain ⟨e9, e8⟩ := x_s2 hf; subst e9; subst e8
      exact x_iret C dX4_all_58
    · replace hf := x_ip c_4 hf
      refine x_iconst (v := (-1)) C dX4_all_19 (by decide) ?_
      obtain ⟨e9, e8⟩ := x_s2 hf; subst e9; subst e8
      exact x_iret C dX4_all_20
end DX4_all
set_option maxRecDepth 20000 in
theorem iX4_placedCount_X4 : ∀ w ∈ u_ws RX4 TX4 25, w ∈ wsX4_placedCount := by decide +kernel
def f_X4_placedCount_L4  (k4 : St → Int32 → Option (Int32)) : Nat → St → Int32 → Int32 → Option (Int32)
  | 0 => fun _ _ _ => none
  | n + 1 => fun S x1 x2 => if (S.1 1 0 0) ≤ x2 then (k4 S x1) else (if x2 < 0 ∨ 4 ≤ x2.toNatClampNeg then none else if (S.1 13 0 x2.toNatClampNeg) = (-1) then ((f_X4_placedCount_L4  k4 n) S (x1 + 0) (x2 + 1)) else ((f_X4_placedCount_L4  k4 n) S (x1 + 1) (x2 + 1)))
def f_X4_placedCount (S : St)  : Option (Int32) := f_X4_placedCount_L4  (fun S_4 x1_4 => some x1_4) 1000 S 0 0
section DX4_placedCount
variable {p : Program} {l : Launch} {e : Env} {s : State} {m : MethodId} {args : Array Value} {below : List Frame} {meth : Method} {c : Code} {D : va_G} {cy : Nat → ClassId} {ad : Nat → Nat} {A : Nat → Prop}
set_option maxHeartbeats 4000000 in
set_option maxRecDepth 100000 in
theorem t_X4_placedCount_L4 (C : XC p s m args meth c D A (xty cy) cX4_placedCount 3 RX4 wsX4_placedCount (some .int)) {r : Int32}   {k4 : St → Int32 → Option (Int32)} (hk4 : ∀ (S : St) (x1 : Int32), k4 S x1 = some r → XJ p l e ({ frames := 0, cells := 0, slots := 0, locals := 0 } : Room) s m args below meth c D (wM cy ad) A 3 (QXi D (wM cy ad) A below args s r S) S 36 [(1, .int x1)] []) : ∀ (n : Nat), ∀ (S : St) (x1 : Int32) (x2 : Int32), (f_X4_placedCount_L4  k4 n) S x1 x2 = some r → XJ p l e ({ frames := 0, cells := 0, slots := 0, locals := 0 } : Room) s m args below meth c D (wM cy ad) A 3 (QXi D (wM cy ad) A below args s r S) S 4 [(0, .ref (ad 0)), (1, .int x1), (2, .int x2)] [] := by
  intro n
  induction n with
  | zero => intro S x1 x2 hf; cases hf
  | succ n ih =>
    intro S x1 x2 hf
    rw [f_X4_placedCount_L4] at hf
    refine x_iload_n C dX4_placedCount_4 rfl 2 rfl ?_
    refine x_aload_n C dX4_placedCount_5 rfl 0 rfl ?_
    refine x_get (v := .int (S.1 1 0 0)) C iX4_placedCount_X4 rfl 0 (gM_root cy ad S) 1 (by decide) (by decide +kernel) rfl rfl dX4_placedCount_6 ?_
    refine x_icmp_ge (tgt := 36) C dX4_placedCount_9 (by decide) (fun (c_1 : (S.1 1 0 0) ≤ x2) => ?_) (fun (c_1 : ¬ ((S.1 1 0 0) ≤ x2)) => ?_)
    · replace hf := x_ip c_1 hf
      refine x_sub [1] rfl ?_
      exact hk4 S x1  hf
    · replace hf := x_in c_1 hf
      refine x_iload_n C dX4_placedCount_12 rfl 1 rfl ?_
      refine x_aload_n C dX4_placedCount_13 rfl 0 rfl ?_
      refine x_get (v := .ref (ad 12)) C iX4_placedCount_X4 rfl 0 (gM_root cy ad S) 13 (by decide) (by decide +kernel) rfl rfl dX4_placedCount_14 ?_
      refine x_iload_n C dX4_placedCount_17 rfl 2 rfl ?_
      obtain ⟨g_2, hf⟩ := x_gd hf
      refine x_iald (f := S.1 13 0) C 12 0 (gM_starts cy ad S) rfl g_2 dX4_placedCount_18 ?_
      refine x_iconst (v := (-1)) C dX4_placedCount_19 (by decide) ?_
      refine x_icmp_eq (tgt := 27) C dX4_placedCount_20 (by decide) (fun (c_3 : (S.1 13 0 x2.toNatClampNeg) = (-1)) => ?_) (fun (c_3 : ¬ ((S.1 13 0 x2.toNatClampNeg) = (-1))) => ?_)
      · replace hf := x_ip c_3 hf
        refine x_iconst (v := 0) C dX4_placedCount_27 (by decide) ?_
        refine x_iadd C dX4_placedCount_28 ?_
        refine x_istore_n (lv2 := [(1, .int (x1 + 0)), (0, .ref (ad 0)), (2, .int x2)]) C dX4_placedCount_29 rfl (by decide) rfl ?_
        refine x_iinc (v := x2 + 1) (lv2 := [(2, .int (x2 + 1)), (1, .int (x1 + 0)), (0, .ref (ad 0))]) C dX4_placedCount_30 (k0 := 2) rfl rfl (by decide) rfl ?_
        refine x_goto (tgt := 4) C dX4_placedCount_33 (by decide) ?_
        refine x_sub [2, 1, 0] rfl ?_
        exact ih S (x1 + 0) (x2 + 1)  hf
      · replace hf := x_in c_3 hf
        refine x_iconst (v := 1) C dX4_placedCount_23 (by decide) ?_
        refine x_goto (tgt := 28) C dX4_placedCount_24 (by decide) ?_
        refine x_iadd C dX4_placedCount_28 ?_
        refine x_istore_n (lv2 := [(1, .int (x1 + 1)), (0, .ref (ad 0)), (2, .int x2)]) C dX4_placedCount_29 rfl (by decide) rfl ?_
        refine x_iinc (v := x2 + 1) (lv2 := [(2, .int (x2 + 1)), (1, .int (x1 + 1)), (0, .ref (ad 0))]) C dX4_placedCount_30 (k0 := 2) rfl rfl (by decide) rfl ?_
        refine x_goto (tgt := 4) C dX4_placedCount_33 (by decide) ?_
        refine x_sub [2, 1, 0] rfl ?_
        exact ih S (x1 + 1) (x2 + 1)  hf
set_option maxHeartbeats 4000000 in
set_option maxRecDepth 100000 in
theorem c_X4_placedCount (l : Launch) (D : va_G) (cy : Nat → ClassId) (ad : Nat → Nat) (S : St)  {r : Int32}  (hf : f_X4_placedCount S  = some r) : XMi l D (wM cy ad) (xty cy) yX4_placedCount wsX4_placedCount ({ frames := 0, cells := 0, slots := 0, locals := 0 } : Room) [.ref (ad 0)] S r S := by
  refine x_ofWi (cc := cX4_placedCount) (maxL := 3) (ret := some .int) (own := RX4) rfl (by decide) rfl (Nat.le_of_ble_eq_true rfl) rfl ?_
  intro p e s m args below meth c A C _
  unfold f_X4_placedCount at hf
  refine x_iconst (v := 0) C dX4_placedCount_0 (by decide) ?_
  refine x_istore_n (lv2 := [(1, .int 0), (0, .ref (ad 0))]) C dX4_placedCount_1 rfl (by decide) rfl ?_
  refine x_iconst (v := 0) C dX4_placedCount_2 (by decide) ?_
  refine x_istore_n (lv2 := [(2, .int 0), (1, .int 0), (0, .ref (ad 0))]) C dX4_placedCount_3 rfl (by decide) rfl ?_
  refine x_sub [2, 1, 0] rfl ?_
  refine t_X4_placedCount_L4 C  (fun S_4 x1_4  hf => ?_) 1000 S 0 0  hf
  refine x_iload_n C dX4_placedCount_36 rfl 0 rfl ?_
  have e9 := x_s1 hf; subst e9
  exact x_iret C dX4_placedCount_37
end DX4_placedCount
set_option maxRecDepth 20000 in
theorem iX4_late_X4 : ∀ w ∈ u_ws RX4 TX4 25, w ∈ wsX4_late := by decide +kernel
def f_X4_late (S : St) (a1 : Int32) (a2 : Int32) : Option (Int32 × St) := (f_X4_isWork S a1).bind fun u1 => if u1 = 0 then (some ((-1), S)) else ((f_X4_isHour S a2).bind fun u4 => if u4 = 0 then (some ((-1), S)) else ((f_X4_placedCount S ).bind fun u7 => if u7 < (S.1 1 0 0) then (some ((-1), S)) else ((f_X4_isFixed S a1).bind fun u10 => if u10 = 0 then ((f_X4_plan S a1 a2).bind fun u13 => if u13.1 = (-100) then (some ((-1), u13.2)) else ((f_X4_movesAll u13.2 ).bind fun u16 => some (u13.1, u16))) else (some ((-1), S)))))
section DX4_late
variable {p : Program} {l : Launch} {e : Env} {s : State} {m : MethodId} {args : Array Value} {below : List Frame} {meth : Method} {c : Code} {D : va_G} {cy : Nat → ClassId} {ad : Nat → Nat} {A : Nat → Prop}
set_option maxHeartbeats 4000000 in
set_option maxRecDepth 100000 in
theorem c_X4_late (l : Launch) (D : va_G) (cy : Nat → ClassId) (ad : Nat → Nat) (S : St) (a1 : Int32) (a2 : Int32) {r : Int32} {S2 : St}  (hf : f_X4_late S a1 a2 = some (r, S2)) : XMi l D (wM cy ad) (xty cy) yX4_late wsX4_late ({ frames := 4, cells := 0, slots := 0, locals := 97 } : Room) [.ref (ad 0), .int a1, .int a2] S r S2 := by
  refine x_ofWi (cc := cX4_late) (maxL := 4) (ret := some .int) (own := RX4) rfl (by decide) rfl (Nat.le_of_ble_eq_true rfl) rfl ?_
  intro p e s m args below meth c A C _
  unfold f_X4_late at hf
  refine x_aload_n C dX4_late_0 rfl 0 rfl ?_
  refine x_iload_n C dX4_late_1 rfl 1 rfl ?_
  obtain ⟨u1, h2, hf⟩ := x_bd hf
  refine x_callVi (As := [.int a1]) (st := []) C (c_X4_isWork l D cy ad S a1  h2) (cwV 1 C.2.2.2.2.1 gX4_late_X4_isWork rfl rfl rfl (by decide +kernel) ⟨(by decide), (by decide)⟩) 0 (gM_root cy ad S) rfl rfl rfl rfl (Nat.le_of_ble_eq_true rfl) dX4_late_2 ?_
  refine x_if_eq (tgt := 35) C dX4_late_5 (by decide) (fun (c_3 : u1 = 0) => ?_) (fun (c_3 : ¬ (u1 = 0)) => ?_)
  · replace hf := x_ip c_3 hf
    refine x_iconst (v := (-1)) C dX4_late_35 (by decide) ?_
    obtain ⟨e9, e8⟩ := x_s2 hf; subst e9; subst e8
    exact x_iret C dX4_late_36
  · replace hf := x_in c_3 hf
    refine x_aload_n C dX4_late_8 rfl 0 rfl ?_
    refine x_iload_n C dX4_late_9 rfl 2 rfl ?_
    obtain ⟨u4, h5, hf⟩ := x_bd hf
    refine x_callVi (As := [.int a2]) (st := []) C (c_X4_isHour l D cy ad S a2  h5) (cwV 1 C.2.2.2.2.1 gX4_late_X4_isHour rfl rfl rfl (by decide +kernel) ⟨(by decide), (by decide)⟩) 0 (gM_root cy ad S) rfl rfl rfl rfl (Nat.le_of_ble_eq_true rfl) dX4_late_10 ?_
    refine x_if_eq (tgt := 35) C dX4_late_13 (by decide) (fun (c_6 : u4 = 0) => ?_) (fun (c_6 : ¬ (u4 = 0)) => ?_)
    · replace hf := x_ip c_6 hf
      refine x_iconst (v := (-1)) C dX4_late_35 (by decide) ?_
      obtain ⟨e9, e8⟩ := x_s2 hf; subst e9; subst e8
      exact x_iret C dX4_late_36
    · replace hf := x_in c_6 hf
      refine x_aload_n C dX4_late_16 rfl 0 rfl ?_
      obtain ⟨u7, h8, hf⟩ := x_bd hf
      refine x_callVi (As := []) (st := []) C (c_X4_placedCount l D cy ad S   h8) (cwV 0 C.2.2.2.2.1 gX4_late_X4_placedCount rfl rfl rfl (by decide +kernel) ⟨(by decide), (by decide)⟩) 0 (gM_root cy ad S) rfl rfl rfl rfl (Nat.le_of_ble_eq_true rfl) dX4_late_17 ?_
      refine x_aload_n C dX4_late_20 rfl 0 rfl ?_
      refine x_get (v := .int (S.1 1 0 0)) C iX4_late_X4 rfl 0 (gM_root cy ad S) 1 (by decide) (by decide +kernel) rfl rfl dX4_late_21 ?_
      refine x_icmp_lt (tgt := 35) C dX4_late_24 (by decide) (fun (c_9 : u7 < (S.1 1 0 0)) => ?_) (fun (c_9 : ¬ (u7 < (S.1 1 0 0))) => ?_)
      · replace hf := x_ip c_9 hf
        refine x_iconst (v := (-1)) C dX4_late_35 (by decide) ?_
        obtain ⟨e9, e8⟩ := x_s2 hf; subst e9; subst e8
        exact x_iret C dX4_late_36
      · replace hf := x_in c_9 hf
        refine x_aload_n C dX4_late_27 rfl 0 rfl ?_
        refine x_iload_n C dX4_late_28 rfl 1 rfl ?_
        obtain ⟨u10, h11, hf⟩ := x_bd hf
        refine x_callVi (As := [.int a1]) (st := []) C (c_X4_isFixed l D cy ad S a1  h11) (cwV 1 C.2.2.2.2.1 gX4_late_X4_isFixed rfl rfl rfl (by decide +kernel) ⟨(by decide), (by decide)⟩) 0 (gM_root cy ad S) rfl rfl rfl rfl (Nat.le_of_ble_eq_true rfl) dX4_late_29 ?_
        refine x_if_eq (tgt := 37) C dX4_late_32 (by decide) (fun (c_12 : u10 = 0) => ?_) (fun (c_12 : ¬ (u10 = 0)) => ?_)
        · replace hf := x_ip c_12 hf
          refine x_aload_n C dX4_late_37 rfl 0 rfl ?_
          refine x_iload_n C dX4_late_38 rfl 1 rfl ?_
          refine x_iload_n C dX4_late_39 rfl 2 rfl ?_
          obtain ⟨u13, h14, hf⟩ := x_bd hf
          refine x_callVi (As := [.int a1, .int a2]) (st := []) C (c_X4_plan l D cy ad S a1 a2  h14) (cwV 2 C.2.2.2.2.1 gX4_late_X4_plan rfl rfl rfl (by decide +kernel) ⟨(by decide), (by decide)⟩) 0 (gM_root cy ad S) rfl rfl rfl rfl (Nat.le_of_ble_eq_true rfl) dX4_late_40 ?_
          refine x_istore_n (lv2 := [(3, .int u13.1), (0, .ref (ad 0)), (1, .int a1), (2, .int a2)]) C dX4_late_43 rfl (by decide) rfl ?_
          refine x_iload_n C dX4_late_44 rfl 0 rfl ?_
          refine x_bipush (v := (-100)) C dX4_late_45 (by decide) ?_
          refine x_icmp_ne (tgt := 52) C dX4_late_47 (by decide) (fun (c_15 : ¬ (u13.1 = (-100))) => ?_) (fun (c_15 : u13.1 = (-100)) => ?_)
          · replace hf := x_in c_15 hf
            refine x_aload_n C dX4_late_52 rfl 1 rfl ?_
            obtain ⟨u16, h17, hf⟩ := x_bd hf
            refine x_callVv (As := []) (st := []) C (c_X4_movesAll l D cy ad u13.2   h17) (cwV 0 C.2.2.2.2.1 gX4_late_X4_movesAll rfl rfl rfl (by decide +kernel) ⟨(by decide), (by decide)⟩) 0 (gM_root cy ad u13.2) rfl rfl rfl rfl (Nat.le_of_ble_eq_true rfl) dX4_late_53 ?_
            refine x_iload_n C dX4_late_56 rfl 0 rfl ?_
            obtain ⟨e9, e8⟩ := x_s2 hf; subst e9; subst e8
            exact x_iret C dX4_late_57
          · replace hf := x_ip c_15 hf
            refine x_iconst (v := (-1)) C dX4_late_50 (by decide) ?_
            obtain ⟨e9, e8⟩ := x_s2 hf; subst e9; subst e8
            exact x_iret C dX4_late_51
        · replace hf := x_in c_12 hf
          refine x_iconst (v := (-1)) C dX4_late_35 (by decide) ?_
          obtain ⟨e9, e8⟩ := x_s2 hf; subst e9; subst e8
          exact x_iret C dX4_late_36
end DX4_late
set_option maxRecDepth 20000 in
theorem iX4_moved_X4 : ∀ w ∈ u_ws RX4 TX4 25, w ∈ wsX4_moved := by decide +kernel
def f_X4_moved_L4  (k4 : St → Option (Int32)) : Nat → St → Int32 → Int32 → Int32 → Option (Int32)
  | 0 => fun _ _ _ _ => none
  | n + 1 => fun S x1 x2 x3 => if (S.1 1 0 0) ≤ x3 then (k4 S ) else (if x3 < 0 ∨ 4 ≤ x3.toNatClampNeg then none else if (S.1 20 0 x3.toNatClampNeg) = 0 then ((f_X4_moved_L4  k4 n) S x1 x2 (x3 + 1)) else (if x2 = x1 then (some x3) else ((f_X4_moved_L4  k4 n) S x1 (x2 + 1) (x3 + 1))))
def f_X4_moved (S : St) (a1 : Int32) : Option (Int32) := f_X4_moved_L4  (fun S_5  => some (-1)) 1000 S a1 0 0
section DX4_moved
variable {p : Program} {l : Launch} {e : Env} {s : State} {m : MethodId} {args : Array Value} {below : List Frame} {meth : Method} {c : Code} {D : va_G} {cy : Nat → ClassId} {ad : Nat → Nat} {A : Nat → Prop}
set_option maxHeartbeats 4000000 in
set_option maxRecDepth 100000 in
theorem t_X4_moved_L4 (C : XC p s m args meth c D A (xty cy) cX4_moved 4 RX4 wsX4_moved (some .int)) {r : Int32}   {k4 : St → Option (Int32)} (hk4 : ∀ (S : St) , k4 S  = some r → XJ p l e ({ frames := 0, cells := 0, slots := 0, locals := 0 } : Room) s m args below meth c D (wM cy ad) A 4 (QXi D (wM cy ad) A below args s r S) S 37 [] []) : ∀ (n : Nat), ∀ (S : St) (x1 : Int32) (x2 : Int32) (x3 : Int32), (f_X4_moved_L4  k4 n) S x1 x2 x3 = some r → XJ p l e ({ frames := 0, cells := 0, slots := 0, locals := 0 } : Room) s m args below meth c D (wM cy ad) A 4 (QXi D (wM cy ad) A below args s r S) S 4 [(0, .ref (ad 0)), (1, .int x1), (2, .int x2), (3, .int x3)] [] := by
  intro n
  induction n with
  | zero => intro S x1 x2 x3 hf; cases hf
  | succ n ih =>
    intro S x1 x2 x3 hf
    rw [f_X4_moved_L4] at hf
    refine x_iload_n C dX4_moved_4 rfl 3 rfl ?_
    refine x_aload_n C dX4_moved_5 rfl 0 rfl ?_
    refine x_get (v := .int (S.1 1 0 0)) C iX4_moved_X4 rfl 0 (gM_root cy ad S) 1 (by decide) (by decide +kernel) rfl rfl dX4_moved_6 ?_
    refine x_icmp_ge (tgt := 37) C dX4_moved_9 (by decide) (fun (c_1 : (S.1 1 0 0) ≤ x3) => ?_) (fun (c_1 : ¬ ((S.1 1 0 0) ≤ x3)) => ?_)
    · replace hf := x_ip c_1 hf
      refine x_sub [] rfl ?_
      exact hk4 S   hf
    · replace hf := x_in c_1 hf
      refine x_aload_n C dX4_moved_12 rfl 0 rfl ?_
      refine x_get (v := .ref (ad 19)) C iX4_moved_X4 rfl 0 (gM_root cy ad S) 20 (by decide) (by decide +kernel) rfl rfl dX4_moved_13 ?_
      refine x_iload_n C dX4_moved_16 rfl 3 rfl ?_
      obtain ⟨g_2, hf⟩ := x_gd hf
      refine x_zald (f := S.1 20 0) C 19 5 (gM_movedNow cy ad S) rfl g_2 dX4_moved_17 ?_
      refine x_if_eq (tgt := 31) C dX4_moved_18 (by decide) (fun (c_3 : (S.1 20 0 x3.toNatClampNeg) = 0) => ?_) (fun (c_3 : ¬ ((S.1 20 0 x3.toNatClampNeg) = 0)) => ?_)
      · replace hf := x_ip c_3 hf
        refine x_iinc (v := x3 + 1) (lv2 := [(3, .int (x3 + 1)), (0, .ref (ad 0)), (1, .int x1), (2, .int x2)]) C dX4_moved_31 (k0 := 3) rfl rfl (by decide) rfl ?_
        refine x_goto (tgt := 4) C dX4_moved_34 (by decide) ?_
        refine x_sub [1, 2, 3, 0] rfl ?_
        exact ih S x1 x2 (x3 + 1)  hf
      · replace hf := x_in c_3 hf
        refine x_iload_n C dX4_moved_21 rfl 2 rfl ?_
        refine x_iload_n C dX4_moved_22 rfl 1 rfl ?_
        refine x_icmp_ne (tgt := 28) C dX4_moved_23 (by decide) (fun (c_4 : ¬ (x2 = x1)) => ?_) (fun (c_4 : x2 = x1) => ?_)
        · replace hf := x_in c_4 hf
          refine x_iinc (v := x2 + 1) (lv2 := [(2, .int (x2 + 1)), (0, .ref (ad 0)), (1, .int x1), (3, .int x3)]) C dX4_moved_28 (k0 := 2) rfl rfl (by decide) rfl ?_
          refine x_iinc (v := x3 + 1) (lv2 := [(3, .int (x3 + 1)), (2, .int (x2 + 1)), (0, .ref (ad 0)), (1, .int x1)]) C dX4_moved_31 (k0 := 3) rfl rfl (by decide) rfl ?_
          refine x_goto (tgt := 4) C dX4_moved_34 (by decide) ?_
          refine x_sub [2, 3, 1, 0] rfl ?_
          exact ih S x1 (x2 + 1) (x3 + 1)  hf
        · replace hf := x_ip c_4 hf
          refine x_iload_n C dX4_moved_26 rfl 3 rfl ?_
          have e9 := x_s1 hf; subst e9
          exact x_iret C dX4_moved_27
set_option maxHeartbeats 4000000 in
set_option maxRecDepth 100000 in
theorem c_X4_moved (l : Launch) (D : va_G) (cy : Nat → ClassId) (ad : Nat → Nat) (S : St) (a1 : Int32) {r : Int32}  (hf : f_X4_moved S a1 = some r) : XMi l D (wM cy ad) (xty cy) yX4_moved wsX4_moved ({ frames := 0, cells := 0, slots := 0, locals := 0 } : Room) [.ref (ad 0), .int a1] S r S := by
  refine x_ofWi (cc := cX4_moved) (maxL := 4) (ret := some .int) (own := RX4) rfl (by decide) rfl (Nat.le_of_ble_eq_true rfl) rfl ?_
  intro p e s m args below meth c A C _
  unfold f_X4_moved at hf
  refine x_iconst (v := 0) C dX4_moved_0 (by decide) ?_
  refine x_istore_n (lv2 := [(2, .int 0), (0, .ref (ad 0)), (1, .int a1)]) C dX4_moved_1 rfl (by decide) rfl ?_
  refine x_iconst (v := 0) C dX4_moved_2 (by decide) ?_
  refine x_istore_n (lv2 := [(3, .int 0), (2, .int 0), (0, .ref (ad 0)), (1, .int a1)]) C dX4_moved_3 rfl (by decide) rfl ?_
  refine x_sub [2, 3, 1, 0] rfl ?_
  refine t_X4_moved_L4 C  (fun S_5   hf => ?_) 1000 S a1 0 0  hf
  refine x_iconst (v := (-1)) C dX4_moved_37 (by decide) ?_
  have e9 := x_s1 hf; subst e9
  exact x_iret C dX4_moved_38
end DX4_moved
set_option maxRecDepth 20000 in
theorem iX4_start_X4 : ∀ w ∈ u_ws RX4 TX4 25, w ∈ wsX4_start := by decide +kernel
def f_X4_start (S : St) (a1 : Int32) : Option (Int32) := (f_X4_isWork S a1).bind fun u1 => if u1 = 0 then (some (-1)) else (if a1 < 0 ∨ 4 ≤ a1.toNatClampNeg then none else some (S.1 13 0 a1.toNatClampNeg))
section DX4_start
variable {p : Program} {l : Launch} {e : Env} {s : State} {m : MethodId} {args : Array Value} {below : List Frame} {meth : Method} {c : Code} {D : va_G} {cy : Nat → ClassId} {ad : Nat → Nat} {A : Nat → Prop}
set_option maxHeartbeats 4000000 in
set_option maxRecDepth 100000 in
theorem c_X4_start (l : Launch) (D : va_G) (cy : Nat → ClassId) (ad : Nat → Nat) (S : St) (a1 : Int32) {r : Int32}  (hf : f_X4_start S a1 = some r) : XMi l D (wM cy ad) (xty cy) yX4_start wsX4_start ({ frames := 1, cells := 0, slots := 0, locals := 21 } : Room) [.ref (ad 0), .int a1] S r S := by
  refine x_ofWi (cc := cX4_start) (maxL := 2) (ret := some .int) (own := RX4) rfl (by decide) rfl (Nat.le_of_ble_eq_true rfl) rfl ?_
  intro p e s m args below meth c A C _
  unfold f_X4_start at hf
  refine x_aload_n C dX4_start_0 rfl 0 rfl ?_
  refine x_iload_n C dX4_start_1 rfl 1 rfl ?_
  obtain ⟨u1, h2, hf⟩ := x_bd hf
  refine x_callVi (As := [.int a1]) (st := []) C (c_X4_isWork l D cy ad S a1  h2) (cwV 1 C.2.2.2.2.1 gX4_start_X4_isWork rfl rfl rfl (by decide +kernel) ⟨(by decide), (by decide)⟩) 0 (gM_root cy ad S) rfl rfl rfl rfl (Nat.le_of_ble_eq_true rfl) dX4_start_2 ?_
  refine x_if_eq (tgt := 17) C dX4_start_5 (by decide) (fun (c_3 : u1 = 0) => ?_) (fun (c_3 : ¬ (u1 = 0)) => ?_)
  · replace hf := x_ip c_3 hf
    refine x_iconst (v := (-1)) C dX4_start_17 (by decide) ?_
    have e9 := x_s1 hf; subst e9
    exact x_iret C dX4_start_18
  · replace hf := x_in c_3 hf
    refine x_aload_n C dX4_start_8 rfl 0 rfl ?_
    refine x_get (v := .ref (ad 12)) C iX4_start_X4 rfl 0 (gM_root cy ad S) 13 (by decide) (by decide +kernel) rfl rfl dX4_start_9 ?_
    refine x_iload_n C dX4_start_12 rfl 1 rfl ?_
    obtain ⟨g_4, hf⟩ := x_gd hf
    refine x_iald (f := S.1 13 0) C 12 0 (gM_starts cy ad S) rfl g_4 dX4_start_13 ?_
    refine x_goto (tgt := 18) C dX4_start_14 (by decide) ?_
    have e9 := x_s1 hf; subst e9
    exact x_iret C dX4_start_18
end DX4_start
set_option maxRecDepth 20000 in
theorem iX4_least_X4 : ∀ w ∈ u_ws RX4 TX4 25, w ∈ wsX4_least := by decide +kernel
def f_X4_least_L9  (k9 : St → Int32 → Option (Int32)) : Nat → St → Int32 → Int32 → Option (Int32)
  | 0 => fun _ _ _ => none
  | n + 1 => fun S x2 x3 => if (S.1 1 0 0) ≤ x3 then (k9 S x2) else (if x3 < 0 ∨ 4 ≤ x3.toNatClampNeg then none else if (S.1 13 0 x3.toNatClampNeg) = (-1) then ((f_X4_least_L9  k9 n) S (x2 + 0) (x3 + 1)) else ((f_X4_delayOf S x3 (S.1 13 0 x3.toNatClampNeg)).bind fun u12 => (f_X4_least_L9  k9 n) S (x2 + u12) (x3 + 1)))
def f_X4_least (S : St) (a1 : Int32) : Option (Int32) := if a1 = (-1) then (f_X4_least_L9  (fun S_14 x2_14 => some x2_14) 1000 S 0 0) else ((f_X4_isWork S a1).bind fun u2 => if u2 = 0 then (some (-1)) else (if a1 < 0 ∨ 4 ≤ a1.toNatClampNeg then none else if (S.1 13 0 a1.toNatClampNeg) = (-1) then (some (-1)) else ((f_X4_delayOf S a1 (S.1 13 0 a1.toNatClampNeg)).bind fun u7 => some u7)))
section DX4_least
variable {p : Program} {l : Launch} {e : Env} {s : State} {m : MethodId} {args : Array Value} {below : List Frame} {meth : Method} {c : Code} {D : va_G} {cy : Nat → ClassId} {ad : Nat → Nat} {A : Nat → Prop}
set_option maxHeartbeats 4000000 in
set_option maxRecDepth 100000 in
theorem t_X4_least_L9 (C : XC p s m args meth c D A (xty cy) cX4_least 4 RX4 wsX4_least (some .int)) {r : Int32}   {k9 : St → Int32 → Option (Int32)} (hk9 : ∀ (S : St) (x2 : Int32), k9 S x2 = some r → XJ p l e ({ frames := 2, cells := 0, slots := 0, locals := 45 } : Room) s m args below meth c D (wM cy ad) A 4 (QXi D (wM cy ad) A below args s r S) S 51 [(2, .int x2)] []) : ∀ (n : Nat), ∀ (S : St) (x2 : Int32) (x3 : Int32), (f_X4_least_L9  k9 n) S x2 x3 = some r → XJ p l e ({ frames := 2, cells := 0, slots := 0, locals := 45 } : Room) s m args below meth c D (wM cy ad) A 4 (QXi D (wM cy ad) A below args s r S) S 9 [(0, .ref (ad 0)), (2, .int x2), (3, .int x3)] [] := by
  intro n
  induction n with
  | zero => intro S x2 x3 hf; cases hf
  | succ n ih =>
    intro S x2 x3 hf
    rw [f_X4_least_L9] at hf
    refine x_iload_n C dX4_least_9 rfl 2 rfl ?_
    refine x_aload_n C dX4_least_10 rfl 0 rfl ?_
    refine x_get (v := .int (S.1 1 0 0)) C iX4_least_X4 rfl 0 (gM_root cy ad S) 1 (by decide) (by decide +kernel) rfl rfl dX4_least_11 ?_
    refine x_icmp_ge (tgt := 51) C dX4_least_14 (by decide) (fun (c_9 : (S.1 1 0 0) ≤ x3) => ?_) (fun (c_9 : ¬ ((S.1 1 0 0) ≤ x3)) => ?_)
    · replace hf := x_ip c_9 hf
      refine x_sub [1] rfl ?_
      exact hk9 S x2  hf
    · replace hf := x_in c_9 hf
      refine x_iload_n C dX4_least_17 rfl 1 rfl ?_
      refine x_aload_n C dX4_least_18 rfl 0 rfl ?_
      refine x_get (v := .ref (ad 12)) C iX4_least_X4 rfl 0 (gM_root cy ad S) 13 (by decide) (by decide +kernel) rfl rfl dX4_least_19 ?_
      refine x_iload_n C dX4_least_22 rfl 2 rfl ?_
      obtain ⟨g_10, hf⟩ := x_gd hf
      refine x_iald (f := S.1 13 0) C 12 0 (gM_starts cy ad S) rfl g_10 dX4_least_23 ?_
      refine x_iconst (v := (-1)) C dX4_least_24 (by decide) ?_
      refine x_icmp_eq (tgt := 42) C dX4_least_25 (by decide) (fun (c_11 : (S.1 13 0 x3.toNatClampNeg) = (-1)) => ?_) (fun (c_11 : ¬ ((S.1 13 0 x3.toNatClampNeg) = (-1))) => ?_)
      · replace hf := x_ip c_11 hf
        refine x_iconst (v := 0) C dX4_least_42 (by decide) ?_
        refine x_iadd C dX4_least_43 ?_
        refine x_istore_n (lv2 := [(2, .int (x2 + 0)), (0, .ref (ad 0)), (3, .int x3)]) C dX4_least_44 rfl (by decide) rfl ?_
        refine x_iinc (v := x3 + 1) (lv2 := [(3, .int (x3 + 1)), (2, .int (x2 + 0)), (0, .ref (ad 0))]) C dX4_least_45 (k0 := 2) rfl rfl (by decide) rfl ?_
        refine x_goto (tgt := 9) C dX4_least_48 (by decide) ?_
        refine x_sub [2, 1, 0] rfl ?_
        exact ih S (x2 + 0) (x3 + 1)  hf
      · replace hf := x_in c_11 hf
        refine x_aload_n C dX4_least_28 rfl 0 rfl ?_
        refine x_iload_n C dX4_least_29 rfl 2 rfl ?_
        refine x_aload_n C dX4_least_30 rfl 0 rfl ?_
        refine x_get (v := .ref (ad 12)) C iX4_least_X4 rfl 0 (gM_root cy ad S) 13 (by decide) (by decide +kernel) rfl rfl dX4_least_31 ?_
        refine x_iload_n C dX4_least_34 rfl 2 rfl ?_
        refine x_iald (f := S.1 13 0) C 12 0 (gM_starts cy ad S) rfl g_10 dX4_least_35 ?_
        obtain ⟨u12, h13, hf⟩ := x_bd hf
        refine x_callVi (As := [.int x3, .int (S.1 13 0 x3.toNatClampNeg)]) (st := [.int x2]) C (c_X4_delayOf l D cy ad S x3 (S.1 13 0 x3.toNatClampNeg)  h13) (cwV 2 C.2.2.2.2.1 gX4_least_X4_delayOf rfl rfl rfl (by decide +kernel) ⟨(by decide), (by decide)⟩) 0 (gM_root cy ad S) rfl rfl rfl rfl (Nat.le_of_ble_eq_true rfl) dX4_least_36 ?_
        refine x_goto (tgt := 43) C dX4_least_39 (by decide) ?_
        refine x_iadd C dX4_least_43 ?_
        refine x_istore_n (lv2 := [(2, .int (x2 + u12)), (0, .ref (ad 0)), (3, .int x3)]) C dX4_least_44 rfl (by decide) rfl ?_
        refine x_iinc (v := x3 + 1) (lv2 := [(3, .int (x3 + 1)), (2, .int (x2 + u12)), (0, .ref (ad 0))]) C dX4_least_45 (k0 := 2) rfl rfl (by decide) rfl ?_
        refine x_goto (tgt := 9) C dX4_least_48 (by decide) ?_
        refine x_sub [2, 1, 0] rfl ?_
        exact ih S (x2 + u12) (x3 + 1)  hf
set_option maxHeartbeats 4000000 in
set_option maxRecDepth 100000 in
theorem c_X4_least (l : Launch) (D : va_G) (cy : Nat → ClassId) (ad : Nat → Nat) (S : St) (a1 : Int32) {r : Int32}  (hf : f_X4_least S a1 = some r) : XMi l D (wM cy ad) (xty cy) yX4_least wsX4_least ({ frames := 2, cells := 0, slots := 0, locals := 45 } : Room) [.ref (ad 0), .int a1] S r S := by
  refine x_ofWi (cc := cX4_least) (maxL := 4) (ret := some .int) (own := RX4) rfl (by decide) rfl (Nat.le_of_ble_eq_true rfl) rfl ?_
  intro p e s m args below meth c A C _
  unfold f_X4_least at hf
  refine x_iload_n C dX4_least_0 rfl 1 rfl ?_
  refine x_iconst (v := (-1)) C dX4_least_1 (by decide) ?_
  refine x_icmp_ne (tgt := 53) C dX4_least_2 (by decide) (fun (c_1 : ¬ (a1 = (-1))) => ?_) (fun (c_1 : a1 = (-1)) => ?_)
  · replace hf := x_in c_1 hf
    refine x_aload_n C dX4_least_53 rfl 0 rfl ?_
    refine x_iload_n C dX4_least_54 rfl 1 rfl ?_
    obtain ⟨u2, h3, hf⟩ := x_bd hf
    refine x_callVi (As := [.int a1]) (st := []) C (c_X4_isWork l D cy ad S a1  h3) (cwV 1 C.2.2.2.2.1 gX4_least_X4_isWork rfl rfl rfl (by decide +kernel) ⟨(by decide), (by decide)⟩) 0 (gM_root cy ad S) rfl rfl rfl rfl (Nat.le_of_ble_eq_true rfl) dX4_least_55 ?_
    refine x_if_eq (tgt := 85) C dX4_least_58 (by decide) (fun (c_4 : u2 = 0) => ?_) (fun (c_4 : ¬ (u2 = 0)) => ?_)
    · replace hf := x_ip c_4 hf
      refine x_iconst (v := (-1)) C dX4_least_85 (by decide) ?_
      have e9 := x_s1 hf; subst e9
      exact x_iret C dX4_least_86
    · replace hf := x_in c_4 hf
      refine x_aload_n C dX4_least_61 rfl 0 rfl ?_
      refine x_get (v := .ref (ad 12)) C iX4_least_X4 rfl 0 (gM_root cy ad S) 13 (by decide) (by decide +kernel) rfl rfl dX4_least_62 ?_
      refine x_iload_n C dX4_least_65 rfl 1 rfl ?_
      obtain ⟨g_5, hf⟩ := x_gd hf
      refine x_iald (f := S.1 13 0) C 12 0 (gM_starts cy ad S) rfl g_5 dX4_least_66 ?_
      refine x_iconst (v := (-1)) C dX4_least_67 (by decide) ?_
      refine x_icmp_eq (tgt := 85) C dX4_least_68 (by decide) (fun (c_6 : (S.1 13 0 a1.toNatClampNeg) = (-1)) => ?_) (fun (c_6 : ¬ ((S.1 13 0 a1.toNatClampNeg) = (-1))) => ?_)
      · replace hf := x_ip c_6 hf
        refine x_iconst (v := (-1)) C dX4_least_85 (by decide) ?_
        have e9 := x_s1 hf; subst e9
        exact x_iret C dX4_least_86
      · replace hf := x_in c_6 hf
        refine x_aload_n C dX4_least_71 rfl 0 rfl ?_
        refine x_iload_n C dX4_least_72 rfl 1 rfl ?_
        refine x_aload_n C dX4_least_73 rfl 0 rfl ?_
        refine x_get (v := .ref (ad 12)) C iX4_least_X4 rfl 0 (gM_root cy ad S) 13 (by decide) (by decide +kernel) rfl rfl dX4_least_74 ?_
        refine x_iload_n C dX4_least_77 rfl 1 rfl ?_
        refine x_iald (f := S.1 13 0) C 12 0 (gM_starts cy ad S) rfl g_5 dX4_least_78 ?_
        obtain ⟨u7, h8, hf⟩ := x_bd hf
        refine x_callVi (As := [.int a1, .int (S.1 13 0 a1.toNatClampNeg)]) (st := []) C (c_X4_delayOf l D cy ad S a1 (S.1 13 0 a1.toNatClampNeg)  h8) (cwV 2 C.2.2.2.2.1 gX4_least_X4_delayOf rfl rfl rfl (by decide +kernel) ⟨(by decide), (by decide)⟩) 0 (gM_root cy ad S) rfl rfl rfl rfl (Nat.le_of_ble_eq_true rfl) dX4_least_79 ?_
        refine x_goto (tgt := 86) C dX4_least_82 (by decide) ?_
        have e9 := x_s1 hf; subst e9
        exact x_iret C dX4_least_86
  · replace hf := x_ip c_1 hf
    refine x_iconst (v := 0) C dX4_least_5 (by decide) ?_
    refine x_istore_n (lv2 := [(2, .int 0), (0, .ref (ad 0)), (1, .int a1)]) C dX4_least_6 rfl (by decide) rfl ?_
    refine x_iconst (v := 0) C dX4_least_7 (by decide) ?_
    refine x_istore_n (lv2 := [(3, .int 0), (2, .int 0), (0, .ref (ad 0)), (1, .int a1)]) C dX4_least_8 rfl (by decide) rfl ?_
    refine x_sub [2, 1, 0] rfl ?_
    refine t_X4_least_L9 C  (fun S_14 x2_14  hf => ?_) 1000 S 0 0  hf
    refine x_iload_n C dX4_least_51 rfl 0 rfl ?_
    have e9 := x_s1 hf; subst e9
    exact x_iret C dX4_least_52
end DX4_least
set_option maxRecDepth 20000 in
theorem iX4_act_X4 : ∀ w ∈ u_ws RX4 TX4 25, w ∈ wsX4_act := by decide +kernel
def f_X4_act_L203  (S : St) (x1 : Int32) (x4 : Int32) (x5 : Int32) : Option (Int32 × St) := if x5 = (-1) then (if x1 < 0 ∨ 4 ≤ x1.toNatClampNeg then none else some (x5, (xI S 12 0 x1.toNatClampNeg x4))) else (if x1 < 0 ∨ 4 ≤ x1.toNatClampNeg then none else some (x5, (xI S 12 0 x1.toNatClampNeg x5)))
def f_X4_act_L92  (S : St) (x1 : Int32) (x4 : Int32) (y0 : Int32) : Option (Int32 × St) := f_X4_act_L203  S x1 x4 y0
def f_X4_act_L91  (S : St) (x1 : Int32) (x4 : Int32) : Option (Int32 × St) := f_X4_act_L92  S x1 x4 (-1)
def f_X4_act_L113  (S : St) (x1 : Int32) (x4 : Int32) (y0 : Int32) : Option (Int32 × St) := f_X4_act_L203  S x1 x4 y0
def f_X4_act_L112  (S : St) (x1 : Int32) (x4 : Int32) : Option (Int32 × St) := f_X4_act_L113  S x1 x4 (-1)
def f_X4_act_L140  (S : St) (x1 : Int32) (x4 : Int32) (y0 : Int32) : Option (Int32 × St) := f_X4_act_L203  S x1 x4 y0
def f_X4_act_L139  (S : St) (x1 : Int32) (x4 : Int32) : Option (Int32 × St) := f_X4_act_L140  S x1 x4 (-1)
def f_X4_act_L135  (S : St) (x1 : Int32) (x4 : Int32) : Option (Int32 × St) := f_X4_act_L140  S x1 x4 0
def f_X4_act_L161  (S : St) (x1 : Int32) (x4 : Int32) (y0 : Int32) : Option (Int32 × St) := f_X4_act_L203  S x1 x4 y0
def f_X4_act_L160  (S : St) (x1 : Int32) (x4 : Int32) : Option (Int32 × St) := f_X4_act_L161  S x1 x4 (-1)
def f_X4_act_L182  (S : St) (x1 : Int32) (x4 : Int32) (y0 : Int32) : Option (Int32 × St) := f_X4_act_L203  S x1 x4 y0
def f_X4_act_L181  (S : St) (x1 : Int32) (x4 : Int32) : Option (Int32 × St) := f_X4_act_L182  S x1 x4 (-1)
def f_X4_act_L198  (S : St) (x1 : Int32) (x4 : Int32) (y0 : Int32) : Option (Int32 × St) := f_X4_act_L203  S x1 x4 y0
def f_X4_act (S : St) (a1 : Int32) (a2 : Int32) (a3 : Int32) : Option (Int32 × St) := (f_X4_isWork S a1).bind fun u1 => if u1 = 0 then (some ((-1), S)) else ((f_X4_isIn  a3 0 2).bind fun u4 => if u4 = 0 then (some ((-1), S)) else (if a1 < 0 ∨ 4 ≤ a1.toNatClampNeg then none else if a2 = 0 then (if a3 = 0 then (if (S.1 12 0 a1.toNatClampNeg) = 0 then (if (S.1 13 0 a1.toNatClampNeg) = (-1) then (f_X4_act_L91  S a1 (S.1 12 0 a1.toNatClampNeg)) else (f_X4_act_L92  S a1 (S.1 12 0 a1.toNatClampNeg) 1)) else (f_X4_act_L91  S a1 (S.1 12 0 a1.toNatClampNeg))) else (f_X4_act_L91  S a1 (S.1 12 0 a1.toNatClampNeg))) else if a2 = 1 then (if a3 = 1 then (if (S.1 12 0 a1.toNatClampNeg) = 1 then (f_X4_act_L113  S a1 (S.1 12 0 a1.toNatClampNeg) 2) else (f_X4_act_L112  S a1 (S.1 12 0 a1.toNatClampNeg))) else (f_X4_act_L112  S a1 (S.1 12 0 a1.toNatClampNeg))) else if a2 = 2 then (if a3 = 1 then (if (S.1 12 0 a1.toNatClampNeg) = 1 then (f_X4_act_L135  S a1 (S.1 12 0 a1.toNatClampNeg)) else (if (S.1 12 0 a1.toNatClampNeg) = 2 then (f_X4_act_L135  S a1 (S.1 12 0 a1.toNatClampNeg)) else (f_X4_act_L139  S a1 (S.1 12 0 a1.toNatClampNeg)))) else (f_X4_act_L139  S a1 (S.1 12 0 a1.toNatClampNeg))) else if a2 = 3 then (if a3 = 2 then (if (S.1 12 0 a1.toNatClampNeg) = 2 then (f_X4_act_L161  S a1 (S.1 12 0 a1.toNatClampNeg) 3) else (f_X4_act_L160  S a1 (S.1 12 0 a1.toNatClampNeg))) else (f_X4_act_L160  S a1 (S.1 12 0 a1.toNatClampNeg))) else if a2 = 4 then (if a3 = 2 then (if (S.1 12 0 a1.toNatClampNeg) = 3 then (f_X4_act_L182  S a1 (S.1 12 0 a1.toNatClampNeg) 4) else (f_X4_act_L181  S a1 (S.1 12 0 a1.toNatClampNeg))) else (f_X4_act_L181  S a1 (S.1 12 0 a1.toNatClampNeg))) else if a2 = 5 then (if (S.1 12 0 a1.toNatClampNeg) = 3 then (f_X4_act_L198  S a1 (S.1 12 0 a1.toNatClampNeg) 2) else (f_X4_act_L198  S a1 (S.1 12 0 a1.toNatClampNeg) (-1))) else (f_X4_act_L203  S a1 (S.1 12 0 a1.toNatClampNeg) (-1))))
section DX4_act
variable {p : Program} {l : Launch} {e : Env} {s : State} {m : MethodId} {args : Array Value} {below : List Frame} {meth : Method} {c : Code} {D : va_G} {cy : Nat → ClassId} {ad : Nat → Nat} {A : Nat → Prop}
set_option maxHeartbeats 4000000 in
set_option maxRecDepth 100000 in
theorem t_X4_act_L203 (C : XC p s m args meth c D A (xty cy) cX4_act 6 RX4 wsX4_act (some .int)) {r : Int32} {S2 : St}   (S : St) (x1 : Int32) (x4 : Int32) (x5 : Int32)  (hf : f_X4_act_L203  S x1 x4 x5 = some (r, S2)) : XJ p l e ({ frames := 1, cells := 0, slots := 0, locals := 22 } : Room) s m args below meth c D (wM cy ad) A 6 (QXi D (wM cy ad) A below args s r S2) S 203 [(0, .ref (ad 0)), (1, .int x1), (4, .int x4), (5, .int x5)] [] := by
  unfold f_X4_act_L203 at hf
  refine x_aload_n C dX4_act_203 rfl 0 rfl ?_
  refine x_get (v := .ref (ad 11)) C iX4_act_X4 rfl 0 (gM_root cy ad S) 12 (by decide) (by decide +kernel) rfl rfl dX4_act_204 ?_
  refine x_iload_n C dX4_act_207 rfl 1 rfl ?_
  refine x_iload C dX4_act_208 3 rfl ?_
  refine x_iconst (v := (-1)) C dX4_act_210 (by decide) ?_
  refine x_icmp_ne (tgt := 219) C dX4_act_211 (by decide) (fun (c_10 : ¬ (x5 = (-1))) => ?_) (fun (c_10 : x5 = (-1)) => ?_)
  · replace hf := x_in c_10 hf
    refine x_iload C dX4_act_219 3 rfl ?_
    obtain ⟨g_11, hf⟩ := x_gd hf
    refine x_iast (S2 := (xI S 12 0 x1.toNatClampNeg x5)) C 11 0 (gM_states cy ad S) rfl g_11 (sM_states cy ad S x1.toNatClampNeg x5) dX4_act_221 ?_
    refine x_iload C dX4_act_222 3 rfl ?_
    obtain ⟨e9, e8⟩ := x_s2 hf; subst e9; subst e8
    exact x_iret C dX4_act_224
  · replace hf := x_ip c_10 hf
    refine x_iload C dX4_act_214 2 rfl ?_
    refine x_goto (tgt := 221) C dX4_act_216 (by decide) ?_
    obtain ⟨g_12, hf⟩ := x_gd hf
    refine x_iast (S2 := (xI S 12 0 x1.toNatClampNeg x4)) C 11 0 (gM_states cy ad S) rfl g_12 (sM_states cy ad S x1.toNatClampNeg x4) dX4_act_221 ?_
    refine x_iload C dX4_act_222 3 rfl ?_
    obtain ⟨e9, e8⟩ := x_s2 hf; subst e9; subst e8
    exact x_iret C dX4_act_224
set_option maxHeartbeats 4000000 in
set_option maxRecDepth 100000 in
theorem t_X4_act_L92 (C : XC p s m args meth c D A (xty cy) cX4_act 6 RX4 wsX4_act (some .int)) {r : Int32} {S2 : St}   (S : St) (x1 : Int32) (x4 : Int32) (y0 : Int32)  (hf : f_X4_act_L92  S x1 x4 y0 = some (r, S2)) : XJ p l e ({ frames := 1, cells := 0, slots := 0, locals := 22 } : Room) s m args below meth c D (wM cy ad) A 6 (QXi D (wM cy ad) A below args s r S2) S 92 [(0, .ref (ad 0)), (1, .int x1), (4, .int x4)] [.int y0] := by
  unfold f_X4_act_L92 at hf
  refine x_istore (lv2 := [(5, .int y0), (0, .ref (ad 0)), (1, .int x1), (4, .int x4)]) C dX4_act_92 (by decide) rfl ?_
  refine x_goto (tgt := 203) C dX4_act_94 (by decide) ?_
  refine x_sub [1, 2, 3, 0] rfl ?_
  exact t_X4_act_L203 C  S x1 x4 y0  hf
set_option maxHeartbeats 4000000 in
set_option maxRecDepth 100000 in
theorem t_X4_act_L91 (C : XC p s m args meth c D A (xty cy) cX4_act 6 RX4 wsX4_act (some .int)) {r : Int32} {S2 : St}   (S : St) (x1 : Int32) (x4 : Int32)  (hf : f_X4_act_L91  S x1 x4 = some (r, S2)) : XJ p l e ({ frames := 1, cells := 0, slots := 0, locals := 22 } : Room) s m args below meth c D (wM cy ad) A 6 (QXi D (wM cy ad) A below args s r S2) S 91 [(0, .ref (ad 0)), (1, .int x1), (4, .int x4)] [] := by
  unfold f_X4_act_L91 at hf
  refine x_iconst (v := (-1)) C dX4_act_91 (by decide) ?_
  exact t_X4_act_L92 C  S x1 x4 (-1)  hf
set_option maxHeartbeats 4000000 in
set_option maxRecDepth 100000 in
theorem t_X4_act_L113 (C : XC p s m args meth c D A (xty cy) cX4_act 6 RX4 wsX4_act (some .int)) {r : Int32} {S2 : St}   (S : St) (x1 : Int32) (x4 : Int32) (y0 : Int32)  (hf : f_X4_act_L113  S x1 x4 y0 = some (r, S2)) : XJ p l e ({ frames := 1, cells := 0, slots := 0, locals := 22 } : Room) s m args below meth c D (wM cy ad) A 6 (QXi D (wM cy ad) A below args s r S2) S 113 [(0, .ref (ad 0)), (1, .int x1), (4, .int x4)] [.int y0] := by
  unfold f_X4_act_L113 at hf
  refine x_istore (lv2 := [(5, .int y0), (0, .ref (ad 0)), (1, .int x1), (4, .int x4)]) C dX4_act_113 (by decide) rfl ?_
  refine x_goto (tgt := 203) C dX4_act_115 (by decide) ?_
  refine x_sub [1, 2, 3, 0] rfl ?_
  exact t_X4_act_L203 C  S x1 x4 y0  hf
set_option maxHeartbeats 4000000 in
set_option maxRecDepth 100000 in
theorem t_X4_act_L112 (C : XC p s m args meth c D A (xty cy) cX4_act 6 RX4 wsX4_act (some .int)) {r : Int32} {S2 : St}   (S : St) (x1 : Int32) (x4 : Int32)  (hf : f_X4_act_L112  S x1 x4 = some (r, S2)) : XJ p l e ({ frames := 1, cells := 0, slots := 0, locals := 22 } : Room) s m args below meth c D (wM cy ad) A 6 (QXi D (wM cy ad) A below args s r S2) S 112 [(0, .ref (ad 0)), (1, .int x1), (4, .int x4)] [] := by
  unfold f_X4_act_L112 at hf
  refine x_iconst (v := (-1)) C dX4_act_112 (by decide) ?_
  exact t_X4_act_L113 C  S x1 x4 (-1)  hf
set_option maxHeartbeats 4000000 in
set_option maxRecDepth 100000 in
theorem t_X4_act_L140 (C : XC p s m args meth c D A (xty cy) cX4_act 6 RX4 wsX4_act (some .int)) {r : Int32} {S2 : St}   (S : St) (x1 : Int32) (x4 : Int32) (y0 : Int32)  (hf : f_X4_act_L140  S x1 x4 y0 = some (r, S2)) : XJ p l e ({ frames := 1, cells := 0, slots := 0, locals := 22 } : Room) s m args below meth c D (wM cy ad) A 6 (QXi D (wM cy ad) A below args s r S2) S 140 [(0, .ref (ad 0)), (1, .int x1), (4, .int x4)] [.int y0] := by
  unfold f_X4_act_L140 at hf
  refine x_istore (lv2 := [(5, .int y0), (0, .ref (ad 0)), (1, .int x1), (4, .int x4)]) C dX4_act_140 (by decide) rfl ?_
  refine x_goto (tgt := 203) C dX4_act_142 (by decide) ?_
  refine x_sub [1, 2, 3, 0] rfl ?_
  exact t_X4_act_L203 C  S x1 x4 y0  hf
set_option maxHeartbeats 4000000 in
set_option maxRecDepth 100000 in
theorem t_X4_act_L139 (C : XC p s m args meth c D A (xty cy) cX4_act 6 RX4 wsX4_act (some .int)) {r : Int32} {S2 : St}   (S : St) (x1 : Int32) (x4 : Int32)  (hf : f_X4_act_L139  S x1 x4 = some (r, S2)) : XJ p l e ({ frames := 1, cells := 0, slots := 0, locals := 22 } : Room) s m args below meth c D (wM cy ad) A 6 (QXi D (wM cy ad) A below args s r S2) S 139 [(0, .ref (ad 0)), (1, .int x1), (4, .int x4)] [] := by
  unfold f_X4_act_L139 at hf
  refine x_iconst (v := (-1)) C dX4_act_139 (by decide) ?_
  exact t_X4_act_L140 C  S x1 x4 (-1)  hf
set_option maxHeartbeats 4000000 in
set_option maxRecDepth 100000 in
theorem t_X4_act_L135 (C : XC p s m args meth c D A (xty cy) cX4_act 6 RX4 wsX4_act (some .int)) {r : Int32} {S2 : St}   (S : St) (x1 : Int32) (x4 : Int32)  (hf : f_X4_act_L135  S x1 x4 = some (r, S2)) : XJ p l e ({ frames := 1, cells := 0, slots := 0, locals := 22 } : Room) s m args below meth c D (wM cy ad) A 6 (QXi D (wM cy ad) A below args s r S2) S 135 [(0, .ref (ad 0)), (1, .int x1), (4, .int x4)] [] := by
  unfold f_X4_act_L135 at hf
  refine x_iconst (v := 0) C dX4_act_135 (by decide) ?_
  refine x_goto (tgt := 140) C dX4_act_136 (by decide) ?_
  exact t_X4_act_L140 C  S x1 x4 0  hf
set_option maxHeartbeats 4000000 in
set_option maxRecDepth 100000 in
theorem t_X4_act_L161 (C : XC p s m args meth c D A (xty cy) cX4_act 6 RX4 wsX4_act (some .int)) {r : Int32} {S2 : St}   (S : St) (x1 : Int32) (x4 : Int32) (y0 : Int32)  (hf : f_X4_act_L161  S x1 x4 y0 = some (r, S2)) : XJ p l e ({ frames := 1, cells := 0, slots := 0, locals := 22 } : Room) s m args below meth c D (wM cy ad) A 6 (QXi D (wM cy ad) A below args s r S2) S 161 [(0, .ref (ad 0)), (1, .int x1), (4, .int x4)] [.int y0] := by
  unfold f_X4_act_L161 at hf
  refine x_istore (lv2 := [(5, .int y0), (0, .ref (ad 0)), (1, .int x1), (4, .int x4)]) C dX4_act_161 (by decide) rfl ?_
  refine x_goto (tgt := 203) C dX4_act_163 (by decide) ?_
  refine x_sub [1, 2, 3, 0] rfl ?_
  exact t_X4_act_L203 C  S x1 x4 y0  hf
set_option maxHeartbeats 4000000 in
set_option maxRecDepth 100000 in
theorem t_X4_act_L160 (C : XC p s m args meth c D A (xty cy) cX4_act 6 RX4 wsX4_act (some .int)) {r : Int32} {S2 : St}   (S : St) (x1 : Int32) (x4 : Int32)  (hf : f_X4_act_L160  S x1 x4 = some (r, S2)) : XJ p l e ({ frames := 1, cells := 0, slots := 0, locals := 22 } : Room) s m args below meth c D (wM cy ad) A 6 (QXi D (wM cy ad) A below args s r S2) S 160 [(0, .ref (ad 0)), (1, .int x1), (4, .int x4)] [] := by
  unfold f_X4_act_L160 at hf
  refine x_iconst (v := (-1)) C dX4_act_160 (by decide) ?_
  exact t_X4_act_L161 C  S x1 x4 (-1)  hf
set_option maxHeartbeats 4000000 in
set_option maxRecDepth 100000 in
theorem t_X4_act_L182 (C : XC p s m args meth c D A (xty cy) cX4_act 6 RX4 wsX4_act (some .int)) {r : Int32} {S2 : St}   (S : St) (x1 : Int32) (x4 : Int32) (y0 : Int32)  (hf : f_X4_act_L182  S x1 x4 y0 = some (r, S2)) : XJ p l e ({ frames := 1, cells := 0, slots := 0, locals := 22 } : Room) s m args below meth c D (wM cy ad) A 6 (QXi D (wM cy ad) A below args s r S2) S 182 [(0, .ref (ad 0)), (1, .int x1), (4, .int x4)] [.int y0] := by
  unfold f_X4_act_L182 at hf
  refine x_istore (lv2 := [(5, .int y0), (0, .ref (ad 0)), (1, .int x1), (4, .int x4)]) C dX4_act_182 (by decide) rfl ?_
  refine x_goto (tgt := 203) C dX4_act_184 (by decide) ?_
  refine x_sub [1, 2, 3, 0] rfl ?_
  exact t_X4_act_L203 C  S x1 x4 y0  hf
set_option maxHeartbeats 4000000 in
set_option maxRecDepth 100000 in
theorem t_X4_act_L181 (C : XC p s m args meth c D A (xty cy) cX4_act 6 RX4 wsX4_act (some .int)) {r : Int32} {S2 : St}   (S : St) (x1 : Int32) (x4 : Int32)  (hf : f_X4_act_L181  S x1 x4 = some (r, S2)) : XJ p l e ({ frames := 1, cells := 0, slots := 0, locals := 22 } : Room) s m args below meth c D (wM cy ad) A 6 (QXi D (wM cy ad) A below args s r S2) S 181 [(0, .ref (ad 0)), (1, .int x1), (4, .int x4)] [] := by
  unfold f_X4_act_L181 at hf
  refine x_iconst (v := (-1)) C dX4_act_181 (by decide) ?_
  exact t_X4_act_L182 C  S x1 x4 (-1)  hf
set_option maxHeartbeats 4000000 in
set_option maxRecDepth 100000 in
theorem t_X4_act_L198 (C : XC p s m args meth c D A (xty cy) cX4_act 6 RX4 wsX4_act (some .int)) {r : Int32} {S2 : St}   (S : St) (x1 : Int32) (x4 : Int32) (y0 : Int32)  (hf : f_X4_act_L198  S x1 x4 y0 = some (r, S2)) : XJ p l e ({ frames := 1, cells := 0, slots := 0, locals := 22 } : Room) s m args below meth c D (wM cy ad) A 6 (QXi D (wM cy ad) A below args s r S2) S 198 [(0, .ref (ad 0)), (1, .int x1), (4, .int x4)] [.int y0] := by
  unfold f_X4_act_L198 at hf
  refine x_istore (lv2 := [(5, .int y0), (0, .ref (ad 0)), (1, .int x1), (4, .int x4)]) C dX4_act_198 (by decide) rfl ?_
  refine x_goto (tgt := 203) C dX4_act_200 (by decide) ?_
  refine x_sub [1, 2, 3, 0] rfl ?_
  exact t_X4_act_L203 C  S x1 x4 y0  hf
set_option maxHeartbeats 4000000 in
set_option maxRecDepth 100000 in
theorem c_X4_act (l : Launch) (D : va_G) (cy : Nat → ClassId) (ad : Nat → Nat) (S : St) (a1 : Int32) (a2 : Int32) (a3 : Int32) {r : Int32} {S2 : St}  (hf : f_X4_act S a1 a2 a3 = some (r, S2)) : XMi l D (wM cy ad) (xty cy) yX4_act wsX4_act ({ frames := 1, cells := 0, slots := 0, locals := 22 } : Room) [.ref (ad 0), .int a1, .int a2, .int a3] S r S2 := by
  refine x_ofWi (cc := cX4_act) (maxL := 6) (ret := some .int) (own := RX4) rfl (by decide) rfl (Nat.le_of_ble_eq_true rfl) rfl ?_
  intro p e s m args below meth c A C _
  unfold f_X4_act at hf
  refine x_aload_n C dX4_act_0 rfl 0 rfl ?_
  refine x_iload_n C dX4_act_1 rfl 1 rfl ?_
  obtain ⟨u1, h2, hf⟩ := x_bd hf
  refine x_callVi (As := [.int a1]) (st := []) C (c_X4_isWork l D cy ad S a1  h2) (cwV 1 C.2.2.2.2.1 gX4_act_X4_isWork rfl rfl rfl (by decide +kernel) ⟨(by decide), (by decide)⟩) 0 (gM_root cy ad S) rfl rfl rfl rfl (Nat.le_of_ble_eq_true rfl) dX4_act_2 ?_
  refine x_if_eq (tgt := 17) C dX4_act_5 (by decide) (fun (c_3 : u1 = 0) => ?_) (fun (c_3 : ¬ (u1 = 0)) => ?_)
  · replace hf := x_ip c_3 hf
    refine x_iconst (v := (-1)) C dX4_act_17 (by decide) ?_
    obtain ⟨e9, e8⟩ := x_s2 hf; subst e9; subst e8
    exact x_iret C dX4_act_18
  · replace hf := x_in c_3 hf
    refine x_iload_n C dX4_act_8 rfl 3 rfl ?_
    refine x_iconst (v := 0) C dX4_act_9 (by decide) ?_
    refine x_iconst (v := 2) C dX4_act_10 (by decide) ?_
    obtain ⟨u4, h5, hf⟩ := x_bd hf
    refine x_callSi (As := [.int a3, .int 0, .int 2]) (st := []) C (c_X4_isIn l D cy ad (wM cy ad) S a3 0 2  h5) (va_cwS 3 C.2.2.2.2.1 gX4_act_X4_isIn rfl rfl rfl (by decide +kernel) ⟨(by decide), (by decide)⟩) rfl rfl (Nat.le_of_ble_eq_true rfl) dX4_act_11 ?_
    refine x_if_ne (tgt := 19) C dX4_act_14 (by decide) (fun (c_6 : ¬ (u4 = 0)) => ?_) (fun (c_6 : u4 = 0) => ?_)
    · replace hf := x_in c_6 hf
      refine x_aload_n C dX4_act_19 rfl 0 rfl ?_
      refine x_get (v := .ref (ad 11)) C iX4_act_X4 rfl 0 (gM_root cy ad S) 12 (by decide) (by decide +kernel) rfl rfl dX4_act_20 ?_
      refine x_iload_n C dX4_act_23 rfl 1 rfl ?_
      obtain ⟨g_7, hf⟩ := x_gd hf
      refine x_iald (f := S.1 12 0) C 11 0 (gM_states cy ad S) rfl g_7 dX4_act_24 ?_
      refine x_istore (lv2 := [(4, .int (S.1 12 0 a1.toNatClampNeg)), (0, .ref (ad 0)), (1, .int a1), (2, .int a2), (3, .int a3)]) C dX4_act_25 (by decide) rfl ?_
      refine x_iconst (v := (-1)) C dX4_act_27 (by decide) ?_
      refine x_istore (lv2 := [(5, .int (-1)), (4, .int (S.1 12 0 a1.toNatClampNeg)), (0, .ref (ad 0)), (1, .int a1), (2, .int a2), (3, .int a3)]) C dX4_act_28 (by decide) rfl ?_
      refine x_iload_n C dX4_act_30 rfl 4 rfl ?_
      by_cases c_8 : a2 = 0
      · replace hf := x_ip c_8 hf
        refine x_tabIn (tgt := 68) C dX4_act_31 (by rw [c_8]; decide) (by rw [c_8]; decide) (by rw [c_8]; rfl) (by decide) ?_
        refine x_iload_n C dX4_act_68 rfl 5 rfl ?_
        refine x_if_ne (tgt := 91) C dX4_act_69 (by decide) (fun (c_9 : ¬ (a3 = 0)) => ?_) (fun (c_9 : a3 = 0) => ?_)
        · replace hf := x_in c_9 hf
          refine x_sub [2, 3, 1] rfl ?_
          exact t_X4_act_L91 C  S a1 (S.1 12 0 a1.toNatClampNeg)  hf
        · replace hf := x_ip c_9 hf
          refine x_iload C dX4_act_72 1 rfl ?_
          refine x_if_ne (tgt := 91) C dX4_act_74 (by decide) (fun (c_13 : ¬ ((S.1 12 0 a1.toNatClampNeg) = 0)) => ?_) (fun (c_13 : (S.1 12 0 a1.toNatClampNeg) = 0) => ?_)
          · replace hf := x_in c_13 hf
            refine x_sub [2, 3, 1] rfl ?_
            exact t_X4_act_L91 C  S a1 (S.1 12 0 a1.toNatClampNeg)  hf
          · replace hf := x_ip c_13 hf
            refine x_aload_n C dX4_act_77 rfl 2 rfl ?_
            refine x_get (v := .ref (ad 12)) C iX4_act_X4 rfl 0 (gM_root cy ad S) 13 (by decide) (by decide +kernel) rfl rfl dX4_act_78 ?_
            refine x_iload_n C dX4_act_81 rfl 3 rfl ?_
            refine x_iald (f := S.1 13 0) C 12 0 (gM_starts cy ad S) rfl g_7 dX4_act_82 ?_
            refine x_iconst (v := (-1)) C dX4_act_83 (by decide) ?_
            refine x_icmp_eq (tgt := 91) C dX4_act_84 (by decide) (fun (c_14 : (S.1 13 0 a1.toNatClampNeg) = (-1)) => ?_) (fun (c_14 : ¬ ((S.1 13 0 a1.toNatClampNeg) = (-1))) => ?_)
            · replace hf := x_ip c_14 hf
              refine x_sub [2, 3, 1] rfl ?_
              exact t_X4_act_L91 C  S a1 (S.1 12 0 a1.toNatClampNeg)  hf
            · replace hf := x_in c_14 hf
              refine x_iconst (v := 1) C dX4_act_87 (by decide) ?_
              refine x_goto (tgt := 92) C dX4_act_88 (by decide) ?_
              refine x_sub [2, 3, 1] rfl ?_
              exact t_X4_act_L92 C  S a1 (S.1 12 0 a1.toNatClampNeg) 1  hf
      replace hf := x_in c_8 hf
      by_cases c_15 : a2 = 1
      · replace hf := x_ip c_15 hf
        refine x_tabIn (tgt := 97) C dX4_act_31 (by rw [c_15]; decide) (by rw [c_15]; decide) (by rw [c_15]; rfl) (by decide) ?_
        refine x_iload_n C dX4_act_97 rfl 5 rfl ?_
        refine x_iconst (v := 1) C dX4_act_98 (by decide) ?_
        refine x_icmp_ne (tgt := 112) C dX4_act_99 (by decide) (fun (c_16 : ¬ (a3 = 1)) => ?_) (fun (c_16 : a3 = 1) => ?_)
        · replace hf := x_in c_16 hf
          refine x_sub [2, 3, 1] rfl ?_
          exact t_X4_act_L112 C  S a1 (S.1 12 0 a1.toNatClampNeg)  hf
        · replace hf := x_ip c_16 hf
          refine x_iload C dX4_act_102 1 rfl ?_
          refine x_iconst (v := 1) C dX4_act_104 (by decide) ?_
          refine x_icmp_ne (tgt := 112) C dX4_act_105 (by decide) (fun (c_17 : ¬ ((S.1 12 0 a1.toNatClampNeg) = 1)) => ?_) (fun (c_17 : (S.1 12 0 a1.toNatClampNeg) = 1) => ?_)
          · replace hf := x_in c_17 hf
            refine x_sub [2, 3, 1] rfl ?_
            exact t_X4_act_L112 C  S a1 (S.1 12 0 a1.toNatClampNeg)  hf
          · replace hf := x_ip c_17 hf
            refine x_iconst (v := 2) C dX4_act_108 (by decide) ?_
            refine x_goto (tgt := 113) C dX4_act_109 (by decide) ?_
            refine x_sub [2, 3, 1] rfl ?_
            exact t_X4_act_L113 C  S a1 (S.1 12 0 a1.toNatClampNeg) 2  hf
      replace hf := x_in c_15 hf
      by_cases c_18 : a2 = 2
      · replace hf := x_ip c_18 hf
        refine x_tabIn (tgt := 118) C dX4_act_31 (by rw [c_18]; decide) (by rw [c_18]; decide) (by rw [c_18]; rfl) (by decide) ?_
        refine x_iload_n C dX4_act_118 rfl 5 rfl ?_
        refine x_iconst (v := 1) C dX4_act_119 (by decide) ?_
        refine x_icmp_ne (tgt := 139) C dX4_act_120 (by decide) (fun (c_19 : ¬ (a3 = 1)) => ?_) (fun (c_19 : a3 = 1) => ?_)
        · replace hf := x_in c_19 hf
          refine x_sub [2, 3, 1] rfl ?_
          exact t_X4_act_L139 C  S a1 (S.1 12 0 a1.toNatClampNeg)  hf
        · replace hf := x_ip c_19 hf
          refine x_iload C dX4_act_123 1 rfl ?_
          refine x_iconst (v := 1) C dX4_act_125 (by decide) ?_
          refine x_icmp_eq (tgt := 135) C dX4_act_126 (by decide) (fun (c_20 : (S.1 12 0 a1.toNatClampNeg) = 1) => ?_) (fun (c_20 : ¬ ((S.1 12 0 a1.toNatClampNeg) = 1)) => ?_)
          · replace hf := x_ip c_20 hf
            refine x_sub [2, 3, 1] rfl ?_
            exact t_X4_act_L135 C  S a1 (S.1 12 0 a1.toNatClampNeg)  hf
          · replace hf := x_in c_20 hf
            refine x_iload C dX4_act_129 1 rfl ?_
            refine x_iconst (v := 2) C dX4_act_131 (by decide) ?_
            refine x_icmp_ne (tgt := 139) C dX4_act_132 (by decide) (fun (c_21 : ¬ ((S.1 12 0 a1.toNatClampNeg) = 2)) => ?_) (fun (c_21 : (S.1 12 0 a1.toNatClampNeg) = 2) => ?_)
            · replace hf := x_in c_21 hf
              refine x_sub [2, 3, 1] rfl ?_
              exact t_X4_act_L139 C  S a1 (S.1 12 0 a1.toNatClampNeg)  hf
            · replace hf := x_ip c_21 hf
              refine x_sub [2, 3, 1] rfl ?_
              exact t_X4_act_L135 C  S a1 (S.1 12 0 a1.toNatClampNeg)  hf
      replace hf := x_in c_18 hf
      by_cases c_22 : a2 = 3
      · replace hf := x_ip c_22 hf
        refine x_tabIn (tgt := 145) C dX4_act_31 (by rw [c_22]; decide) (by rw [c_22]; decide) (by rw [c_22]; rfl) (by decide) ?_
        refine x_iload_n C dX4_act_145 rfl 5 rfl ?_
        refine x_iconst (v := 2) C dX4_act_146 (by decide) ?_
        refine x_icmp_ne (tgt := 160) C dX4_act_147 (by decide) (fun (c_23 : ¬ (a3 = 2)) => ?_) (fun (c_23 : a3 = 2) => ?_)
        · replace hf := x_in c_23 hf
          refine x_sub [2, 3, 1] rfl ?_
          exact t_X4_act_L160 C  S a1 (S.1 12 0 a1.toNatClampNeg)  hf
        · replace hf := x_ip c_23 hf
          refine x_iload C dX4_act_150 1 rfl ?_
          refine x_iconst (v := 2) C dX4_act_152 (by decide) ?_
          refine x_icmp_ne (tgt := 160) C dX4_act_153 (by decide) (fun (c_24 : ¬ ((S.1 12 0 a1.toNatClampNeg) = 2)) => ?_) (fun (c_24 : (S.1 12 0 a1.toNatClampNeg) = 2) => ?_)
          · replace hf := x_in c_24 hf
            refine x_sub [2, 3, 1] rfl ?_
            exact t_X4_act_L160 C  S a1 (S.1 12 0 a1.toNatClampNeg)  hf
          · replace hf := x_ip c_24 hf
            refine x_iconst (v := 3) C dX4_act_156 (by decide) ?_
            refine x_goto (tgt := 161) C dX4_act_157 (by decide) ?_
            refine x_sub [2, 3, 1] rfl ?_
            exact t_X4_act_L161 C  S a1 (S.1 12 0 a1.toNatClampNeg) 3  hf
      replace hf := x_in c_22 hf
      by_cases c_25 : a2 = 4
      · replace hf := x_ip c_25 hf
        refine x_tabIn (tgt := 166) C dX4_act_31 (by rw [c_25]; decide) (by rw [c_25]; decide) (by rw [c_25]; rfl) (by decide) ?_
        refine x_iload_n C dX4_act_166 rfl 5 rfl ?_
        refine x_iconst (v := 2) C dX4_act_167 (by decide) ?_
        refine x_icmp_ne (tgt := 181) C dX4_act_168 (by decide) (fun (c_26 : ¬ (a3 = 2)) => ?_) (fun (c_26 : a3 = 2) => ?_)
        · replace hf := x_in c_26 hf
          refine x_sub [2, 3, 1] rfl ?_
          exact t_X4_act_L181 C  S a1 (S.1 12 0 a1.toNatClampNeg)  hf
        · replace hf := x_ip c_26 hf
          refine x_iload C dX4_act_171 1 rfl ?_
          refine x_iconst (v := 3) C dX4_act_173 (by decide) ?_
          refine x_icmp_ne (tgt := 181) C dX4_act_174 (by decide) (fun (c_27 : ¬ ((S.1 12 0 a1.toNatClampNeg) = 3)) => ?_) (fun (c_27 : (S.1 12 0 a1.toNatClampNeg) = 3) => ?_)
          · replace hf := x_in c_27 hf
            refine x_sub [2, 3, 1] rfl ?_
            exact t_X4_act_L181 C  S a1 (S.1 12 0 a1.toNatClampNeg)  hf
          · replace hf := x_ip c_27 hf
            refine x_iconst (v := 4) C dX4_act_177 (by decide) ?_
            refine x_goto (tgt := 182) C dX4_act_178 (by decide) ?_
            refine x_sub [2, 3, 1] rfl ?_
            exact t_X4_act_L182 C  S a1 (S.1 12 0 a1.toNatClampNeg) 4  hf
      replace hf := x_in c_25 hf
      by_cases c_28 : a2 = 5
      · replace hf := x_ip c_28 hf
        refine x_tabIn (tgt := 187) C dX4_act_31 (by rw [c_28]; decide) (by rw [c_28]; decide) (by rw [c_28]; rfl) (by decide) ?_
        refine x_iload C dX4_act_187 1 rfl ?_
        refine x_iconst (v := 3) C dX4_act_189 (by decide) ?_
        refine x_icmp_ne (tgt := 197) C dX4_act_190 (by decide) (fun (c_29 : ¬ ((S.1 12 0 a1.toNatClampNeg) = 3)) => ?_) (fun (c_29 : (S.1 12 0 a1.toNatClampNeg) = 3) => ?_)
        · replace hf := x_in c_29 hf
          refine x_iconst (v := (-1)) C dX4_act_197 (by decide) ?_
          refine x_sub [2, 3, 1] rfl ?_
          exact t_X4_act_L198 C  S a1 (S.1 12 0 a1.toNatClampNeg) (-1)  hf
        · replace hf := x_ip c_29 hf
          refine x_iconst (v := 2) C dX4_act_193 (by decide) ?_
          refine x_goto (tgt := 198) C dX4_act_194 (by decide) ?_
          refine x_sub [2, 3, 1] rfl ?_
          exact t_X4_act_L198 C  S a1 (S.1 12 0 a1.toNatClampNeg) 2  hf
      replace hf := x_in c_28 hf
      refine x_tabOut (tgt := 203) C dX4_act_31 (by have q0 := lv_neT (a := 0) c_8 rfl; have q1 := lv_neT (a := 1) c_15 rfl; have q2 := lv_neT (a := 2) c_18 rfl; have q3 := lv_neT (a := 3) c_22 rfl; have q4 := lv_neT (a := 4) c_25 rfl; have q5 := lv_neT (a := 5) c_28 rfl; omega) (by decide) ?_
      refine x_sub [2, 3, 1, 0] rfl ?_
      exact t_X4_act_L203 C  S a1 (S.1 12 0 a1.toNatClampNeg) (-1)  hf
    · replace hf := x_ip c_6 hf
      refine x_iconst (v := (-1)) C dX4_act_17 (by decide) ?_
      obtain ⟨e9, e8⟩ := x_s2 hf; subst e9; subst e8
      exact x_iret C dX4_act_18
end DX4_act
