set_option maxRecDepth 20000 in
theorem iX3_firstBrokenRule_X3 : ∀ w ∈ u_ws RX3 TX3 8, w ∈ wsX3_firstBrokenRule := by decide +kernel
def f_X3_firstBrokenRule (S : St) (a1 : Int32) (a2 : Int32) : Option (Int32) := if a1 < 0 ∨ 4 ≤ a1.toNatClampNeg then none else (f_X2_firstBrokenAlone S a1.toNatClampNeg a2 (S.1 0 0 0)).bind fun u2 => if u2 = 0 then ((f_X3_clashesWithNear S a1 a2).bind fun u5 => if u5 = 0 then ((f_X3_clashesWithCrew S a1 a2).bind fun u8 => if u8 = 0 then (some 0) else (some 6)) else (some 5)) else (some u2)
section DX3_firstBrokenRule
variable {p : Program} {l : Launch} {e : Env} {s : State} {m : MethodId} {args : Array Value} {below : List Frame} {meth : Method} {c : Code} {D : va_G} {cy : Nat → ClassId} {ad : Nat → Nat} {A : Nat → Prop}
set_option maxHeartbeats 4000000 in
set_option maxRecDepth 100000 in
theorem c_X3_firstBrokenRule (l : Launch) (D : va_G) (cy : Nat → ClassId) (ad : Nat → Nat) (S : St) (a1 : Int32) (a2 : Int32) {r : Int32}  (hf : f_X3_firstBrokenRule S a1 a2 = some r) : XMi l D (wC cy ad) (xty cy) yX3_firstBrokenRule wsX3_firstBrokenRule ({ frames := 3, cells := 0, slots := 0, locals := 67 } : Room) [.ref (ad 0), .int a1, .int a2] S r S := by
  refine x_ofWi (cc := cX3_firstBrokenRule) (maxL := 4) (ret := some .int) (own := RX3) rfl (by decide) rfl (Nat.le_of_ble_eq_true rfl) rfl ?_
  intro p e s m args below meth c A C _
  unfold f_X3_firstBrokenRule at hf
  refine x_aload_n C dX3_firstBrokenRule_0 rfl 0 rfl ?_
  refine x_get (v := .ref (ad 1)) C iX3_firstBrokenRule_X3 rfl 0 (gC_root cy ad S) 1 (by decide) (by decide +kernel) rfl rfl dX3_firstBrokenRule_1 ?_
  refine x_iload_n C dX3_firstBrokenRule_4 rfl 1 rfl ?_
  obtain ⟨g_1, hf⟩ := x_gd hf
  refine x_aald C 1 2 (gC_works cy ad S) rfl rfl g_1 rfl dX3_firstBrokenRule_5 ?_
  refine x_iload_n C dX3_firstBrokenRule_6 rfl 2 rfl ?_
  refine x_aload_n C dX3_firstBrokenRule_7 rfl 0 rfl ?_
  refine x_get (v := .int (S.1 0 0 0)) C iX3_firstBrokenRule_X3 rfl 0 (gC_root cy ad S) 0 (by decide) (by decide +kernel) rfl rfl dX3_firstBrokenRule_8 ?_
  obtain ⟨u2, h3, hf⟩ := x_bd hf
  refine x_callVNi (As := [.int a2, .int (S.1 0 0 0)]) (st := []) C (c_X2_firstBrokenAlone l D cy ad S a1.toNatClampNeg a2 (S.1 0 0 0) (x_lt g_1) h3) ⟨va_cnB 2 C.2.2.2.2.1 gX3_firstBrokenRule_X2_firstBrokenAlone_n183 rfl rfl rfl (C.2.2.2.2.2.2.2.2.1 (.methodLinkNest RX3 183 yX2_firstBrokenAlone "ClosureHours") (by decide +kernel)) (C.2.2.2.2.1 (.initialized RX2) (by decide +kernel)) (by decide +kernel) ⟨(by decide), (by decide)⟩, C.2.2.2.2.1 (.instanceMethod yX2_firstBrokenAlone) (by decide +kernel), C.2.2.2.2.1 (.selects RX2 yX2_firstBrokenAlone yX2_firstBrokenAlone) (by decide +kernel)⟩ (15 + a1.toNatClampNeg) (gC_work cy ad S (x_lt g_1)) rfl rfl rfl rfl (Nat.le_of_ble_eq_true rfl) dX3_firstBrokenRule_11 ?_
  refine x_istore_n (lv2 := [(3, .int u2), (0, .ref (ad 0)), (1, .int a1), (2, .int a2)]) C dX3_firstBrokenRule_14 rfl (by decide) rfl ?_
  refine x_iload_n C dX3_firstBrokenRule_15 rfl 0 rfl ?_
  refine x_if_eq (tgt := 21) C dX3_firstBrokenRule_16 (by decide) (fun (c_4 : u2 = 0) => ?_) (fun (c_4 : ¬ (u2 = 0)) => ?_)
  · replace hf := x_ip c_4 hf
    refine x_aload_n C dX3_firstBrokenRule_21 rfl 1 rfl ?_
    refine x_iload_n C dX3_firstBrokenRule_22 rfl 2 rfl ?_
    refine x_iload_n C dX3_firstBrokenRule_23 rfl 3 rfl ?_
    obtain ⟨u5, h6, hf⟩ := x_bd hf
    refine x_callVi (As := [.int a1, .int a2]) (st := []) C (c_X3_clashesWithNear l D cy ad S a1 a2  h6) (cwV 2 C.2.2.2.2.1 gX3_firstBrokenRule_X3_clashesWithNear rfl rfl rfl (by decide +kernel) ⟨(by decide), (by decide)⟩) 0 (gC_root cy ad S) rfl rfl rfl rfl (Nat.le_of_ble_eq_true rfl) dX3_firstBrokenRule_24 ?_
    refine x_if_eq (tgt := 32) C dX3_firstBrokenRule_27 (by decide) (fun (c_7 : u5 = 0) => ?_) (fun (c_7 : ¬ (u5 = 0)) => ?_)
    · replace hf := x_ip c_7 hf
      refine x_aload_n C dX3_firstBrokenRule_32 rfl 1 rfl ?_
      refine x_iload_n C dX3_firstBrokenRule_33 rfl 2 rfl ?_
      refine x_iload_n C dX3_firstBrokenRule_34 rfl 3 rfl ?_
      obtain ⟨u8, h9, hf⟩ := x_bd hf
      refine x_callVi (As := [.int a1, .int a2]) (st := []) C (c_X3_clashesWithCrew l D cy ad S a1 a2  h9) (cwV 2 C.2.2.2.2.1 gX3_firstBrokenRule_X3_clashesWithCrew rfl rfl rfl (by decide +kernel) ⟨(by decide), (by decide)⟩) 0 (gC_root cy ad S) rfl rfl rfl rfl (Nat.le_of_ble_eq_true rfl) dX3_firstBrokenRule_35 ?_
      refine x_if_eq (tgt := 46) C dX3_firstBrokenRule_38 (by decide) (fun (c_10 : u8 = 0) => ?_) (fun (c_10 : ¬ (u8 = 0)) => ?_)
      · replace hf := x_ip c_10 hf
        refine x_iconst (v := 0) C dX3_firstBrokenRule_46 (by decide) ?_
        have e9 := x_s1 hf; subst e9
        exact x_iret C dX3_firstBrokenRule_47
      · replace hf := x_in c_10 hf
        refine x_bipush (v := 6) C dX3_firstBrokenRule_41 (by decide) ?_
        refine x_goto (tgt := 47) C dX3_firstBrokenRule_43 (by decide) ?_
        have e9 := x_s1 hf; subst e9
        exact x_iret C dX3_firstBrokenRule_47
    · replace hf := x_in c_7 hf
      refine x_iconst (v := 5) C dX3_firstBrokenRule_30 (by decide) ?_
      have e9 := x_s1 hf; subst e9
      exact x_iret C dX3_firstBrokenRule_31
  · replace hf := x_in c_4 hf
    refine x_iload_n C dX3_firstBrokenRule_19 rfl 0 rfl ?_
    have e9 := x_s1 hf; subst e9
    exact x_iret C dX3_firstBrokenRule_20
end DX3_firstBrokenRule
set_option maxRecDepth 20000 in
theorem iX2_delayFrom_X2 : ∀ w ∈ u_ws RX2 TX2 10, w ∈ wsX2_delayFrom := by decide +kernel
def f_X2_delayFrom_L17 (w : Nat) (k17 : St → Int32 → Option (Int32)) : Nat → St → Int32 → Int32 → Int32 → Option (Int32)
  | 0 => fun _ _ _ _ => none
  | n + 1 => fun S x2 x3 x4 => if x2 ≤ x4 then (k17 S x3) else (if x4 < 0 ∨ 36 ≤ x4.toNatClampNeg then none else (f_X2_delayFrom_L17 w k17 n) S x2 (x3 + (S.1 11 w x4.toNatClampNeg)) (x4 + 1))
def f_X2_delayFrom (S : St) (w : Nat) (a1 : Int32) : Option (Int32) := (f_X2_span S w).bind fun u1 => f_X2_delayFrom_L17 w (fun S_5 x3_5 => some x3_5) 1000 S (if (36 : Int32) < (a1 + u1) then 36 else (a1 + u1)) 0 a1
section DX2_delayFrom
variable {p : Program} {l : Launch} {e : Env} {s : State} {m : MethodId} {args : Array Value} {below : List Frame} {meth : Method} {c : Code} {D : va_G} {cy : Nat → ClassId} {ad : Nat → Nat} {A : Nat → Prop}
set_option maxHeartbeats 4000000 in
set_option maxRecDepth 100000 in
theorem t_X2_delayFrom_L17 (C : XC p s m args meth c D A (xty cy) cX2_delayFrom 5 RX2 wsX2_delayFrom (some .int)) {w : Nat} (hw : w < 4) {r : Int32}   {k17 : St → Int32 → Option (Int32)} (hk17 : ∀ (S : St) (x3 : Int32), k17 S x3 = some r → XJ p l e ({ frames := 1, cells := 0, slots := 0, locals := 20 } : Room) s m args below meth c D (wC cy ad) A 5 (QXi D (wC cy ad) A below args s r S) S 39 [(3, .int x3)] []) : ∀ (n : Nat), ∀ (S : St) (x2 : Int32) (x3 : Int32) (x4 : Int32), (f_X2_delayFrom_L17 w k17 n) S x2 x3 x4 = some r → XJ p l e ({ frames := 1, cells := 0, slots := 0, locals := 20 } : Room) s m args below meth c D (wC cy ad) A 5 (QXi D (wC cy ad) A below args s r S) S 17 [(0, .ref (ad (15 + w))), (2, .int x2), (3, .int x3), (4, .int x4)] [] := by
  intro n
  induction n with
  | zero => intro S x2 x3 x4 hf; cases hf
  | succ n ih =>
    intro S x2 x3 x4 hf
    rw [f_X2_delayFrom_L17] at hf
    refine x_iload C dX2_delayFrom_17 3 rfl ?_
    refine x_iload_n C dX2_delayFrom_19 rfl 1 rfl ?_
    refine x_icmp_ge (tgt := 39) C dX2_delayFrom_20 (by decide) (fun (c_3 : x2 ≤ x4) => ?_) (fun (c_3 : ¬ (x2 ≤ x4)) => ?_)
    · replace hf := x_ip c_3 hf
      refine x_sub [2] rfl ?_
      exact hk17 S x3  hf
    · replace hf := x_in c_3 hf
      refine x_iload_n C dX2_delayFrom_23 rfl 2 rfl ?_
      refine x_aload_n C dX2_delayFrom_24 rfl 0 rfl ?_
      refine x_get (v := .ref (ad (19 + w))) C iX2_delayFrom_X2 rfl (15 + w) (gC_work cy ad S hw) 0 (by decide) (by decide +kernel) rfl rfl dX2_delayFrom_25 ?_
      refine x_iload C dX2_delayFrom_28 3 rfl ?_
      obtain ⟨g_4, hf⟩ := x_gd hf
      refine x_iald (f := S.1 11 w) C (19 + w) 0 (gC_dly cy ad S hw) rfl g_4 dX2_delayFrom_30 ?_
      refine x_iadd C dX2_delayFrom_31 ?_
      refine x_istore_n (lv2 := [(3, .int (x3 + (S.1 11 w x4.toNatClampNeg))), (0, .ref (ad (15 + w))), (2, .int x2), (4, .int x4)]) C dX2_delayFrom_32 rfl (by decide) rfl ?_
      refine x_iinc (v := x4 + 1) (lv2 := [(4, .int (x4 + 1)), (3, .int (x3 + (S.1 11 w x4.toNatClampNeg))), (0, .ref (ad (15 + w))), (2, .int x2)]) C dX2_delayFrom_33 (k0 := 3) rfl rfl (by decide) rfl ?_
      refine x_goto (tgt := 17) C dX2_delayFrom_36 (by decide) ?_
      refine x_sub [2, 3, 1, 0] rfl ?_
      exact ih S x2 (x3 + (S.1 11 w x4.toNatClampNeg)) (x4 + 1)  hf
set_option maxHeartbeats 4000000 in
set_option maxRecDepth 100000 in
theorem c_X2_delayFrom (l : Launch) (D : va_G) (cy : Nat → ClassId) (ad : Nat → Nat) (S : St) (w : Nat) (a1 : Int32) (hw : w < 4) {r : Int32}  (hf : f_X2_delayFrom S w a1 = some r) : XMi l D (wC cy ad) (xty cy) yX2_delayFrom wsX2_delayFrom ({ frames := 1, cells := 0, slots := 0, locals := 20 } : Room) [.ref (ad (15 + w)), .int a1] S r S := by
  refine x_ofWi (cc := cX2_delayFrom) (maxL := 5) (ret := some .int) (own := RX2) rfl (by decide) rfl (Nat.le_of_ble_eq_true rfl) rfl ?_
  intro p e s m args below meth c A C _
  unfold f_X2_delayFrom at hf
  refine x_iload_n C dX2_delayFrom_0 rfl 1 rfl ?_
  refine x_aload_n C dX2_delayFrom_1 rfl 0 rfl ?_
  obtain ⟨u1, h2, hf⟩ := x_bd hf
  refine x_callVi (As := []) (st := [.int a1]) C (c_X2_span l D cy ad S w hw h2) (cwV 0 C.2.2.2.2.1 gX2_delayFrom_X2_span rfl rfl rfl (by decide +kernel) ⟨(by decide), (by decide)⟩) (15 + w) (gC_work cy ad S hw) rfl rfl rfl rfl (Nat.le_of_ble_eq_true rfl) dX2_delayFrom_2 ?_
  refine x_iadd C dX2_delayFrom_5 ?_
  refine x_bipush (v := 36) C dX2_delayFrom_6 (by decide) ?_
  refine x_mmin C (by decide +kernel) (by decide +kernel) (by decide +kernel) (by decide +kernel) (Nat.le_of_ble_eq_true rfl) (Nat.le_of_ble_eq_true rfl) dX2_delayFrom_8 ?_
  refine x_istore_n (lv2 := [(2, .int (if (36 : Int32) < (a1 + u1) then 36 else (a1 + u1))), (0, .ref (ad (15 + w))), (1, .int a1)]) C dX2_delayFrom_11 rfl (by decide) rfl ?_
  refine x_iconst (v := 0) C dX2_delayFrom_12 (by decide) ?_
  refine x_istore_n (lv2 := [(3, .int 0), (2, .int (if (36 : Int32) < (a1 + u1) then 36 else (a1 + u1))), (0, .ref (ad (15 + w))), (1, .int a1)]) C dX2_delayFrom_13 rfl (by decide) rfl ?_
  refine x_iload_n C dX2_delayFrom_14 rfl 3 rfl ?_
  refine x_istore (lv2 := [(4, .int a1), (3, .int 0), (2, .int (if (36 : Int32) < (a1 + u1) then 36 else (a1 + u1))), (0, .ref (ad (15 + w))), (1, .int a1)]) C dX2_delayFrom_15 (by decide) rfl ?_
  refine x_sub [3, 2, 1, 0] rfl ?_
  refine t_X2_delayFrom_L17 C hw  (fun S_5 x3_5  hf => ?_) 1000 S (if (36 : Int32) < (a1 + u1) then 36 else (a1 + u1)) 0 a1  hf
  refine x_iload_n C dX2_delayFrom_39 rfl 0 rfl ?_
  have e9 := x_s1 hf; subst e9
  exact x_iret C dX2_delayFrom_40
end DX2_delayFrom
set_option maxRecDepth 20000 in
theorem iX0_write_X0 : ∀ w ∈ u_ws RX0 TX0 3, w ∈ wsX0_write := by decide +kernel
def f_X0_write_L30  (S : St)  : Option (St) := some (xI S 13 0 0 (if (1000000 : Int32) < ((S.1 13 0 0) + 1) then 1000000 else ((S.1 13 0 0) + 1)))
def f_X0_write (S : St) (a1 : Int32) (a2 : Int32) : Option (St) := if (200 : Int32) ≤ (S.1 13 0 0) then (f_X0_write_L30  S ) else (if (S.1 13 0 0) < 0 ∨ 200 ≤ (S.1 13 0 0).toNatClampNeg then none else f_X0_write_L30  (xI (xI S 14 0 ((S.1 13 0 0).toNatClampNeg) a1) 15 0 ((S.1 13 0 0).toNatClampNeg) a2) )
section DX0_write
variable {p : Program} {l : Launch} {e : Env} {s : State} {m : MethodId} {args : Array Value} {below : List Frame} {meth : Method} {c : Code} {D : va_G} {cy : Nat → ClassId} {ad : Nat → Nat} {A : Nat → Prop}
set_option maxHeartbeats 4000000 in
set_option maxRecDepth 100000 in
theorem t_X0_write_L30 (C : XC p s m args meth c D A (xty cy) cX0_write 3 RX0 wsX0_write (none)) {S2 : St}   (S : St)   (hf : f_X0_write_L30  S  = some S2) : XJ p l e ({ frames := 1, cells := 0, slots := 0, locals := 14 } : Room) s m args below meth c D (wC cy ad) A 3 (QXv D (wC cy ad) A below args s S2) S 30 [(0, .ref (ad 3))] [] := by
  unfold f_X0_write_L30 at hf
  refine x_aload_n C dX0_write_30 rfl 0 rfl ?_
  refine x_aload_n C dX0_write_31 rfl 0 rfl ?_
  refine x_get (v := .int (S.1 13 0 0)) C iX0_write_X0 rfl 3 (gC_nots cy ad S) 2 (by decide) (by decide +kernel) rfl rfl dX0_write_32 ?_
  refine x_iconst (v := 1) C dX0_write_35 (by decide) ?_
  refine x_iadd C dX0_write_36 ?_
  refine x_ldc (v := 1000000) C (by decide +kernel) dX0_write_37 ?_
  refine x_mmin C (by decide +kernel) (by decide +kernel) (by decide +kernel) (by decide +kernel) (Nat.le_of_ble_eq_true rfl) (Nat.le_of_ble_eq_true rfl) dX0_write_39 ?_
  refine x_put (v := .int (if (1000000 : Int32) < ((S.1 13 0 0) + 1) then 1000000 else ((S.1 13 0 0) + 1))) (ty := .int) (S2 := (xI S 13 0 0 (if (1000000 : Int32) < ((S.1 13 0 0) + 1) then 1000000 else ((S.1 13 0 0) + 1)))) C iX0_write_X0 tyX0 tyX0_ok nmX0 rfl 3 (gC_nots cy ad S) 2 (by decide) (by decide +kernel) rfl rfl (by decide +kernel) rfl rfl (Nat.le_of_ble_eq_true rfl) (sC_total cy ad S (if (1000000 : Int32) < ((S.1 13 0 0) + 1) then 1000000 else ((S.1 13 0 0) + 1))) dX0_write_42 ?_
  have e9 := x_s1 hf; subst e9
  exact x_vret C dX0_write_45
set_option maxHeartbeats 4000000 in
set_option maxRecDepth 100000 in
theorem c_X0_write (l : Launch) (D : va_G) (cy : Nat → ClassId) (ad : Nat → Nat) (S : St) (a1 : Int32) (a2 : Int32) {S2 : St}  (hf : f_X0_write S a1 a2 = some S2) : XMv l D (wC cy ad) (xty cy) yX0_write wsX0_write ({ frames := 1, cells := 0, slots := 0, locals := 14 } : Room) [.ref (ad 3), .int a1, .int a2] S S2 := by
  refine x_ofWv (cc := cX0_write) (maxL := 3) (ret := none) (own := RX0) rfl (by decide) rfl (Nat.le_of_ble_eq_true rfl) rfl ?_
  intro p e s m args below meth c A C _
  unfold f_X0_write at hf
  refine x_aload_n C dX0_write_0 rfl 0 rfl ?_
  refine x_get (v := .int (S.1 13 0 0)) C iX0_write_X0 rfl 3 (gC_nots cy ad S) 2 (by decide) (by decide +kernel) rfl rfl dX0_write_1 ?_
  refine x_sipush (v := 200) C dX0_write_4 (by decide) ?_
  refine x_icmp_ge (tgt := 30) C dX0_write_7 (by decide) (fun (c_1 : (200 : Int32) ≤ (S.1 13 0 0)) => ?_) (fun (c_1 : ¬ ((200 : Int32) ≤ (S.1 13 0 0))) => ?_)
  · replace hf := x_ip c_1 hf
    refine x_sub [0] rfl ?_
    exact t_X0_write_L30 C  S   hf
  · replace hf := x_in c_1 hf
    refine x_aload_n C dX0_write_10 rfl 0 rfl ?_
    refine x_get (v := .ref (ad 5)) C iX0_write_X0 rfl 3 (gC_nots cy ad S) 0 (by decide) (by decide +kernel) rfl rfl dX0_write_11 ?_
    refine x_aload_n C dX0_write_14 rfl 0 rfl ?_
    refine x_get (v := .int (S.1 13 0 0)) C iX0_write_X0 rfl 3 (gC_nots cy ad S) 2 (by decide) (by decide +kernel) rfl rfl dX0_write_15 ?_
    refine x_iload_n C dX0_write_18 rfl 1 rfl ?_
    obtain ⟨g_2, hf⟩ := x_gd hf
    refine x_iast (S2 := (xI S 14 0 ((S.1 13 0 0).toNatClampNeg) a1)) C 5 0 (gC_nwk cy ad S) rfl g_2 (sC_nwk cy ad S ((S.1 13 0 0).toNatClampNeg) a1) dX0_write_19 ?_
    refine x_aload_n C dX0_write_20 rfl 0 rfl ?_
    refine x_get (v := .ref (ad 6)) C iX0_write_X0 rfl 3 (gC_nots cy ad (xI S 14 0 ((S.1 13 0 0).toNatClampNeg) a1)) 1 (by decide) (by decide +kernel) rfl rfl dX0_write_21 ?_
    refine x_aload_n C dX0_write_24 rfl 0 rfl ?_
    refine x_get (v := .int (S.1 13 0 0)) C iX0_write_X0 rfl 3 (gC_nots cy ad (xI S 14 0 ((S.1 13 0 0).toNatClampNeg) a1)) 2 (by decide) (by decide +kernel) rfl rfl dX0_write_25 ?_
    refine x_iload_n C dX0_write_28 rfl 2 rfl ?_
    refine x_iast (S2 := (xI (xI S 14 0 ((S.1 13 0 0).toNatClampNeg) a1) 15 0 ((S.1 13 0 0).toNatClampNeg) a2)) C 6 0 (gC_nst cy ad (xI S 14 0 ((S.1 13 0 0).toNatClampNeg) a1)) rfl g_2 (sC_nst cy ad (xI S 14 0 ((S.1 13 0 0).toNatClampNeg) a1) ((S.1 13 0 0).toNatClampNeg) a2) dX0_write_29 ?_
    refine x_sub [0] rfl ?_
    exact t_X0_write_L30 C  (xI (xI S 14 0 ((S.1 13 0 0).toNatClampNeg) a1) 15 0 ((S.1 13 0 0).toNatClampNeg) a2)   hf
end DX0_write
set_option maxRecDepth 20000 in
theorem iX3_putAt_X2 : ∀ w ∈ u_ws RX2 TX2 10, w ∈ wsX3_putAt := by decide +kernel
set_option maxRecDepth 20000 in
theorem iX3_putAt_X3 : ∀ w ∈ u_ws RX3 TX3 8, w ∈ wsX3_putAt := by decide +kernel
def f_X3_putAt (S : St) (a1 : Int32) (a2 : Int32) : Option (St) := if a1 < 0 ∨ 4 ≤ a1.toNatClampNeg then none else if (S.1 9 a1.toNatClampNeg 0) = a2 then (some S) else ((f_X3_withBit  (Int32.toInt64 (S.1 2 0 0)) a1 1).bind fun u3 => (f_X0_write (xI (xI (xI S 9 a1.toNatClampNeg 0 a2) 10 a1.toNatClampNeg 0 0) 2 0 0 (Int64.toInt32 u3)) a1 a2).bind fun u5 => some u5)
section DX3_putAt
variable {p : Program} {l : Launch} {e : Env} {s : State} {m : MethodId} {args : Array Value} {below : List Frame} {meth : Method} {c : Code} {D : va_G} {cy : Nat → ClassId} {ad : Nat → Nat} {A : Nat → Prop}
set_option maxHeartbeats 4000000 in
set_option maxRecDepth 100000 in
theorem c_X3_putAt (l : Launch) (D : va_G) (cy : Nat → ClassId) (ad : Nat → Nat) (S : St) (a1 : Int32) (a2 : Int32) {S2 : St}  (hf : f_X3_putAt S a1 a2 = some S2) : XMv l D (wC cy ad) (xty cy) yX3_putAt wsX3_putAt ({ frames := 2, cells := 0, slots := 0, locals := 36 } : Room) [.ref (ad 0), .int a1, .int a2] S S2 := by
  refine x_ofWv (cc := cX3_putAt) (maxL := 3) (ret := none) (own := RX3) rfl (by decide) rfl (Nat.le_of_ble_eq_true rfl) rfl ?_
  intro p e s m args below meth c A C _
  unfold f_X3_putAt at hf
  refine x_aload_n C dX3_putAt_0 rfl 0 rfl ?_
  refine x_get (v := .ref (ad 1)) C iX3_putAt_X3 rfl 0 (gC_root cy ad S) 1 (by decide) (by decide +kernel) rfl rfl dX3_putAt_1 ?_
  refine x_iload_n C dX3_putAt_4 rfl 1 rfl ?_
  obtain ⟨g_1, hf⟩ := x_gd hf
  refine x_aald C 1 2 (gC_works cy ad S) rfl rfl g_1 rfl dX3_putAt_5 ?_
  refine x_getN (v := .int (S.1 9 a1.toNatClampNeg 0)) (host := "ClosureHours") C iX3_putAt_X2 rfl (15 + a1.toNatClampNeg) (gC_work cy ad S (x_lt g_1)) 8 (by decide) (by decide +kernel) rfl rfl dX3_putAt_6 ?_
  refine x_iload_n C dX3_putAt_9 rfl 2 rfl ?_
  refine x_icmp_ne (tgt := 14) C dX3_putAt_10 (by decide) (fun (c_2 : ¬ ((S.1 9 a1.toNatClampNeg 0) = a2)) => ?_) (fun (c_2 : (S.1 9 a1.toNatClampNeg 0) = a2) => ?_)
  · replace hf := x_in c_2 hf
    refine x_aload_n C dX3_putAt_14 rfl 0 rfl ?_
    refine x_get (v := .ref (ad 1)) C iX3_putAt_X3 rfl 0 (gC_root cy ad S) 1 (by decide) (by decide +kernel) rfl rfl dX3_putAt_15 ?_
    refine x_iload_n C dX3_putAt_18 rfl 1 rfl ?_
    refine x_aald C 1 2 (gC_works cy ad S) rfl rfl g_1 rfl dX3_putAt_19 ?_
    refine x_iload_n C dX3_putAt_20 rfl 2 rfl ?_
    refine x_putN (v := .int a2) (ty := .int) (S2 := (xI S 9 a1.toNatClampNeg 0 a2)) (host := "ClosureHours") C iX3_putAt_X2 tyX2 tyX2_ok nmX2 rfl (15 + a1.toNatClampNeg) (gC_work cy ad S (x_lt g_1)) 8 (by decide) (by decide +kernel) rfl rfl (by decide +kernel) rfl rfl (Nat.le_of_ble_eq_true rfl) (sC_start cy ad S a2 (x_lt g_1)) dX3_putAt_21 ?_
    refine x_aload_n C dX3_putAt_24 rfl 0 rfl ?_
    refine x_get (v := .ref (ad 1)) C iX3_putAt_X3 rfl 0 (gC_root cy ad (xI S 9 a1.toNatClampNeg 0 a2)) 1 (by decide) (by decide +kernel) rfl rfl dX3_putAt_25 ?_
    refine x_iload_n C dX3_putAt_28 rfl 1 rfl ?_
    refine x_aald C 1 2 (gC_works cy ad (xI S 9 a1.toNatClampNeg 0 a2)) rfl rfl g_1 rfl dX3_putAt_29 ?_
    refine x_iconst (v := 0) C dX3_putAt_30 (by decide) ?_
    refine x_putN (v := .int 0) (ty := .int) (S2 := (xI (xI S 9 a1.toNatClampNeg 0 a2) 10 a1.toNatClampNeg 0 0)) (host := "ClosureHours") C iX3_putAt_X2 tyX2 tyX2_ok nmX2 rfl (15 + a1.toNatClampNeg) (gC_work cy ad (xI S 9 a1.toNatClampNeg 0 a2) (x_lt g_1)) 9 (by decide) (by decide +kernel) rfl rfl (by decide +kernel) rfl rfl (Nat.le_of_ble_eq_true rfl) (sC_state cy ad (xI S 9 a1.toNatClampNeg 0 a2) 0 (x_lt g_1)) dX3_putAt_31 ?_
    refine x_aload_n C dX3_putAt_34 rfl 0 rfl ?_
    refine x_aload_n C dX3_putAt_35 rfl 0 rfl ?_
    refine x_get (v := .int (S.1 2 0 0)) C iX3_putAt_X3 rfl 0 (gC_root cy ad (xI (xI S 9 a1.toNatClampNeg 0 a2) 10 a1.toNatClampNeg 0 0)) 6 (by decide) (by decide +kernel) rfl rfl dX3_putAt_36 ?_
    refine x_i2l C dX3_putAt_39 ?_
    refine x_iload_n C dX3_putAt_40 rfl 1 rfl ?_
    refine x_iconst (v := 1) C dX3_putAt_41 (by decide) ?_
    obtain ⟨u3, h4, hf⟩ := x_bd hf
    refine x_callSl (As := [.long (Int32.toInt64 (S.1 2 0 0)), .int a1, .int 1]) (st := [.ref (ad 0)]) C (c_X3_withBit l D cy ad (wC cy ad) (xI (xI S 9 a1.toNatClampNeg 0 a2) 10 a1.toNatClampNeg 0 0) (Int32.toInt64 (S.1 2 0 0)) a1 1  h4) (va_cwS 3 C.2.2.2.2.1 gX3_putAt_X3_withBit rfl rfl rfl (by decide +kernel) ⟨(by decide), (by decide)⟩) rfl rfl (Nat.le_of_ble_eq_true rfl) dX3_putAt_42 ?_
    refine x_l2i C dX3_putAt_45 ?_
    refine x_put (v := .int (Int64.toInt32 u3)) (ty := .int) (S2 := (xI (xI (xI S 9 a1.toNatClampNeg 0 a2) 10 a1.toNatClampNeg 0 0) 2 0 0 (Int64.toInt32 u3))) C iX3_putAt_X3 tyX3 tyX3_ok nmX3 rfl 0 (gC_root cy ad (xI (xI S 9 a1.toNatClampNeg 0 a2) 10 a1.toNatClampNeg 0 0)) 6 (by decide) (by decide +kernel) rfl rfl (by decide +kernel) rfl rfl (Nat.le_of_ble_eq_true rfl) (sC_moved cy ad (xI (xI S 9 a1.toNatClampNeg 0 a2) 10 a1.toNatClampNeg 0 0) (Int64.toInt32 u3)) dX3_putAt_46 ?_
    refine x_aload_n C dX3_putAt_49 rfl 0 rfl ?_
    refine x_get (v := .ref (ad 3)) C iX3_putAt_X3 rfl 0 (gC_root cy ad (xI (xI (xI S 9 a1.toNatClampNeg 0 a2) 10 a1.toNatClampNeg 0 0) 2 0 0 (Int64.toInt32 u3))) 3 (by decide) (by decide +kernel) rfl rfl dX3_putAt_50 ?_
    refine x_iload_n C dX3_putAt_53 rfl 1 rfl ?_
    refine x_iload_n C dX3_putAt_54 rfl 2 rfl ?_
    obtain ⟨u5, h6, hf⟩ := x_bd hf
    refine x_callVNv (As := [.int a1, .int a2]) (st := []) C (c_X0_write l D cy ad (xI (xI (xI S 9 a1.toNatClampNeg 0 a2) 10 a1.toNatClampNeg 0 0) 2 0 0 (Int64.toInt32 u3)) a1 a2  h6) ⟨va_cnB 2 C.2.2.2.2.1 gX3_putAt_X0_write_n225 rfl rfl rfl (C.2.2.2.2.2.2.2.2.1 (.methodLinkNest RX3 225 yX0_write "ClosureHours") (by decide +kernel)) (C.2.2.2.2.1 (.initialized RX0) (by decide +kernel)) (by decide +kernel) ⟨(by decide), (by decide)⟩, C.2.2.2.2.1 (.instanceMethod yX0_write) (by decide +kernel), C.2.2.2.2.1 (.selects RX0 yX0_write yX0_write) (by decide +kernel)⟩ 3 (gC_nots cy ad (xI (xI (xI S 9 a1.toNatClampNeg 0 a2) 10 a1.toNatClampNeg 0 0) 2 0 0 (Int64.toInt32 u3))) rfl rfl rfl rfl (Nat.le_of_ble_eq_true rfl) dX3_putAt_55 ?_
    have e9 := x_s1 hf; subst e9
    exact x_vret C dX3_putAt_58
  · replace hf := x_ip c_2 hf
    have e9 := x_s1 hf; subst e9
    exact x_vret C dX3_putAt_13
end DX3_putAt
set_option maxRecDepth 20000 in
theorem iX3_run_X3 : ∀ w ∈ u_ws RX3 TX3 8, w ∈ wsX3_run := by decide +kernel
def f_X3_run_L33  (k33 : St → Int32 → Int32 → Int32 → Option (Int32 × St)) : Nat → St → Int32 → Int32 → Int32 → Int32 → Int32 → Option (Int32 × St)
  | 0 => fun _ _ _ _ _ _ => none
  | n + 1 => fun S x1 x2 x3 x4 x5 => if (S.1 0 0 0) ≤ x5 then (k33 S x1 x2 x4) else ((f_X3_firstBrokenRule S x1 x5).bind fun u9 => if u9 = 0 then (if x1 < 0 ∨ 4 ≤ x1.toNatClampNeg then none else (f_X2_delayFrom S x1.toNatClampNeg x5).bind fun u13 => if x2 = (-1) then ((f_X3_run_L33  k33 n) S x1 x5 u13 (if x4 < u9 then u9 else x4) (x5 + 1)) else (if x3 ≤ u13 then ((f_X3_run_L33  k33 n) S x1 x2 x3 (if x4 < u9 then u9 else x4) (x5 + 1)) else ((f_X3_run_L33  k33 n) S x1 x5 u13 (if x4 < u9 then u9 else x4) (x5 + 1)))) else ((f_X3_run_L33  k33 n) S x1 x2 x3 (if x4 < u9 then u9 else x4) (x5 + 1)))
def f_X3_run (S : St) (a1 : Int32) : Option (Int32 × St) := (f_X3_isWork S a1).bind fun u1 => if u1 = 0 then (some ((-100), S)) else (if a1 < 0 ∨ 4 ≤ a1.toNatClampNeg then none else (f_X2_isFixed S a1.toNatClampNeg).bind fun u5 => if u5 = 0 then (f_X3_run_L33  (fun S_17 x1_17 x2_17 x4_17 => if x2_17 = (-1) then (some ((-1) - x4_17, S_17)) else ((f_X3_putAt (xI S_17 2 0 0 0) x1_17 x2_17).bind fun u19 => some (x2_17, u19))) 1000 S a1 (-1) 0 0 0) else (some ((-100), S)))
section DX3_run
variable {p : Program} {l : Launch} {e : Env} {s : State} {m : MethodId} {args : Array Value} {below : List Frame} {meth : Method} {c : Code} {D : va_G} {cy : Nat → ClassId} {ad : Nat → Nat} {A : Nat → Prop}
set_option maxHeartbeats 4000000 in
set_option maxRecDepth 100000 in
theorem t_X3_run_L33 (C : XC p s m args meth c D A (xty cy) cX3_run 8 RX3 wsX3_run (some .int)) {r : Int32} {S2 : St}   {k33 : St → Int32 → Int32 → Int32 → Option (Int32 × St)} (hk33 : ∀ (S : St) (x1 : Int32) (x2 : Int32) (x4 : Int32), k33 S x1 x2 x4 = some (r, S2) → XJ p l e ({ frames := 4, cells := 0, slots := 0, locals := 90 } : Room) s m args below meth c D (wC cy ad) A 8 (QXi D (wC cy ad) A below args s r S2) S 101 [(0, .ref (ad 0)), (1, .int x1), (2, .int x2), (4, .int x4)] []) : ∀ (n : Nat), ∀ (S : St) (x1 : Int32) (x2 : Int32) (x3 : Int32) (x4 : Int32) (x5 : Int32), (f_X3_run_L33  k33 n) S x1 x2 x3 x4 x5 = some (r, S2) → XJ p l e ({ frames := 4, cells := 0, slots := 0, locals := 90 } : Room) s m args below meth c D (wC cy ad) A 8 (QXi D (wC cy ad) A below args s r S2) S 33 [(0, .ref (ad 0)), (1, .int x1), (2, .int x2), (3, .int x3), (4, .int x4), (5, .int x5)] [] := by
  intro n
  induction n with
  | zero => intro S x1 x2 x3 x4 x5 hf; cases hf
  | succ n ih =>
    intro S x1 x2 x3 x4 x5 hf
    rw [f_X3_run_L33] at hf
    refine x_iload C dX3_run_33 5 rfl ?_
    refine x_aload_n C dX3_run_35 rfl 0 rfl ?_
    refine x_get (v := .int (S.1 0 0 0)) C iX3_run_X3 rfl 0 (gC_root cy ad S) 0 (by decide) (by decide +kernel) rfl rfl dX3_run_36 ?_
    refine x_icmp_ge (tgt := 101) C dX3_run_39 (by decide) (fun (c_8 : (S.1 0 0 0) ≤ x5) => ?_) (fun (c_8 : ¬ ((S.1 0 0 0) ≤ x5)) => ?_)
    · replace hf := x_ip c_8 hf
      refine x_sub [0, 1, 2, 4] rfl ?_
      exact hk33 S x1 x2 x4  hf
    · replace hf := x_in c_8 hf
      refine x_aload_n C dX3_run_42 rfl 0 rfl ?_
      refine x_iload_n C dX3_run_43 rfl 1 rfl ?_
      refine x_iload C dX3_run_44 5 rfl ?_
      obtain ⟨u9, h10, hf⟩ := x_bd hf
      refine x_callVi (As := [.int x1, .int x5]) (st := []) C (c_X3_firstBrokenRule l D cy ad S x1 x5  h10) (cwV 2 C.2.2.2.2.1 gX3_run_X3_firstBrokenRule rfl rfl rfl (by decide +kernel) ⟨(by decide), (by decide)⟩) 0 (gC_root cy ad S) rfl rfl rfl rfl (Nat.le_of_ble_eq_true rfl) dX3_run_46 ?_
      refine x_istore (lv2 := [(6, .int u9), (0, .ref (ad 0)), (1, .int x1), (2, .int x2), (3, .int x3), (4, .int x4), (5, .int x5)]) C dX3_run_49 (by decide) rfl ?_
      refine x_iload C dX3_run_51 5 rfl ?_
      refine x_iload C dX3_run_53 0 rfl ?_
      refine x_mmax C (by decide +kernel) (by decide +kernel) (by decide +kernel) (by decide +kernel) (Nat.le_of_ble_eq_true rfl) (Nat.le_of_ble_eq_true rfl) dX3_run_55 ?_
      refine x_istore (lv2 := [(4, .int (if x4 < u9 then u9 else x4)), (6, .int u9), (0, .ref (ad 0)), (1, .int x1), (2, .int x2), (3, .int x3), (5, .int x5)]) C dX3_run_58 (by decide) rfl ?_
      refine x_iload C dX3_run_60 1 rfl ?_
      refine x_if_ne (tgt := 95) C dX3_run_62 (by decide) (fun (c_11 : ¬ (u9 = 0)) => ?_) (fun (c_11 : u9 = 0) => ?_)
      · replace hf := x_in c_11 hf
        refine x_iinc (v := x5 + 1) (lv2 := [(5, .int (x5 + 1)), (4, .int (if x4 < u9 then u9 else x4)), (6, .int u9), (0, .ref (ad 0)), (1, .int x1), (2, .int x2), (3, .int x3)]) C dX3_run_95 (k0 := 6) rfl rfl (by decide) rfl ?_
        refine x_goto (tgt := 33) C dX3_run_98 (by decide) ?_
        refine x_sub [3, 4, 5, 6, 1, 0] rfl ?_
        exact ih S x1 x2 x3 (if x4 < u9 then u9 else x4) (x5 + 1)  hf
      · replace hf := x_ip c_11 hf
        refine x_aload_n C dX3_run_65 rfl 2 rfl ?_
        refine x_get (v := .ref (ad 1)) C iX3_run_X3 rfl 0 (gC_root cy ad S) 1 (by decide) (by decide +kernel) rfl rfl dX3_run_66 ?_
        refine x_iload_n C dX3_run_69 rfl 3 rfl ?_
        obtain ⟨g_12, hf⟩ := x_gd hf
        refine x_aald C 1 2 (gC_works cy ad S) rfl rfl g_12 rfl dX3_run_70 ?_
        refine x_iload C dX3_run_71 6 rfl ?_
        obtain ⟨u13, h14, hf⟩ := x_bd hf
        refine x_callVNi (As := [.int x5]) (st := []) C (c_X2_delayFrom l D cy ad S x1.toNatClampNeg x5 (x_lt g_12) h14) ⟨va_cnB 1 C.2.2.2.2.1 gX3_run_X2_delayFrom_n108 rfl rfl rfl (C.2.2.2.2.2.2.2.2.1 (.methodLinkNest RX3 108 yX2_delayFrom "ClosureHours") (by decide +kernel)) (C.2.2.2.2.1 (.initialized RX2) (by decide +kernel)) (by decide +kernel) ⟨(by decide), (by decide)⟩, C.2.2.2.2.1 (.instanceMethod yX2_delayFrom) (by decide +kernel), C.2.2.2.2.1 (.selects RX2 yX2_delayFrom yX2_delayFrom) (by decide +kernel)⟩ (15 + x1.toNatClampNeg) (gC_work cy ad S (x_lt g_12)) rfl rfl rfl rfl (Nat.le_of_ble_eq_true rfl) dX3_run_73 ?_
        refine x_istore (lv2 := [(7, .int u13), (4, .int (if x4 < u9 then u9 else x4)), (6, .int u9), (0, .ref (ad 0)), (1, .int x1), (2, .int x2), (3, .int x3), (5, .int x5)]) C dX3_run_76 (by decide) rfl ?_
        refine x_iload_n C dX3_run_78 rfl 5 rfl ?_
        refine x_iconst (v := (-1)) C dX3_run_79 (by decide) ?_
        refine x_icmp_eq (tgt := 89) C dX3_run_80 (by decide) (fun (c_15 : x2 = (-1)) => ?_) (fun (c_15 : ¬ (x2 = (-1))) => ?_)
        · replace hf := x_ip c_15 hf
          refine x_iload C dX3_run_89 7 rfl ?_
          refine x_istore_n (lv2 := [(2, .int x5), (7, .int u13), (4, .int (if x4 < u9 then u9 else x4)), (6, .int u9), (0, .ref (ad 0)), (1, .int x1), (3, .int x3), (5, .int x5)]) C dX3_run_91 rfl (by decide) rfl ?_
          refine x_iload C dX3_run_92 1 rfl ?_
          refine x_istore_n (lv2 := [(3, .int u13), (2, .int x5), (7, .int u13), (4, .int (if x4 < u9 then u9 else x4)), (6, .int u9), (0, .ref (ad 0)), (1, .int x1), (5, .int x5)]) C dX3_run_94 rfl (by decide) rfl ?_
          refine x_iinc (v := x5 + 1) (lv2 := [(5, .int (x5 + 1)), (3, .int u13), (2, .int x5), (7, .int u13), (4, .int (if x4 < u9 then u9 else x4)), (6, .int u9), (0, .ref (ad 0)), (1, .int x1)]) C dX3_run_95 (k0 := 7) rfl rfl (by decide) rfl ?_
          refine x_goto (tgt := 33) C dX3_run_98 (by decide) ?_
          refine x_sub [6, 7, 2, 1, 4, 0] rfl ?_
          exact ih S x1 x5 u13 (if x4 < u9 then u9 else x4) (x5 + 1)  hf
        · replace hf := x_in c_15 hf
          refine x_iload C dX3_run_83 0 rfl ?_
          refine x_iload_n C dX3_run_85 rfl 6 rfl ?_
          refine x_icmp_ge (tgt := 95) C dX3_run_86 (by decide) (fun (c_16 : x3 ≤ u13) => ?_) (fun (c_16 : ¬ (x3 ≤ u13)) => ?_)
          · replace hf := x_ip c_16 hf
            refine x_iinc (v := x5 + 1) (lv2 := [(5, .int (x5 + 1)), (7, .int u13), (4, .int (if x4 < u9 then u9 else x4)), (6, .int u9), (0, .ref (ad 0)), (1, .int x1), (2, .int x2), (3, .int x3)]) C dX3_run_95 (k0 := 7) rfl rfl (by decide) rfl ?_
            refine x_goto (tgt := 33) C dX3_run_98 (by decide) ?_
            refine x_sub [4, 5, 6, 7, 2, 0] rfl ?_
            exact ih S x1 x2 x3 (if x4 < u9 then u9 else x4) (x5 + 1)  hf
          · replace hf := x_in c_16 hf
            refine x_iload C dX3_run_89 7 rfl ?_
            refine x_istore_n (lv2 := [(2, .int x5), (7, .int u13), (4, .int (if x4 < u9 then u9 else x4)), (6, .int u9), (0, .ref (ad 0)), (1, .int x1), (3, .int x3), (5, .int x5)]) C dX3_run_91 rfl (by decide) rfl ?_
            refine x_iload C dX3_run_92 1 rfl ?_
            refine x_istore_n (lv2 := [(3, .int u13), (2, .int x5), (7, .int u13), (4, .int (if x4 < u9 then u9 else x4)), (6, .int u9), (0, .ref (ad 0)), (1, .int x1), (5, .int x5)]) C dX3_run_94 rfl (by decide) rfl ?_
            refine x_iinc (v := x5 + 1) (lv2 := [(5, .int (x5 + 1)), (3, .int u13), (2, .int x5), (7, .int u13), (4, .int (if x4 < u9 then u9 else x4)), (6, .int u9), (0, .ref (ad 0)), (1, .int x1)]) C dX3_run_95 (k0 := 7) rfl rfl (by decide) rfl ?_
            refine x_goto (tgt := 33) C dX3_run_98 (by decide) ?_
            refine x_sub [6, 7, 2, 1, 4, 0] rfl ?_
            exact ih S x1 x5 u13 (if x4 < u9 then u9 else x4) (x5 + 1)  hf
set_option maxHeartbeats 4000000 in
set_option maxRecDepth 100000 in
theorem c_X3_run (l : Launch) (D : va_G) (cy : Nat → ClassId) (ad : Nat → Nat) (S : St) (a1 : Int32) {r : Int32} {S2 : St}  (hf : f_X3_run S a1 = some (r, S2)) : XMi l D (wC cy ad) (xty cy) yX3_run wsX3_run ({ frames := 4, cells := 0, slots := 0, locals := 90 } : Room) [.ref (ad 0), .int a1] S r S2 := by
  refine x_ofWi (cc := cX3_run) (maxL := 8) (ret := some .int) (own := RX3) rfl (by decide) rfl (Nat.le_of_ble_eq_true rfl) rfl ?_
  intro p e s m args below meth c A C _
  unfold f_X3_run at hf
  refine x_aload_n C dX3_run_0 rfl 0 rfl ?_
  refine x_iload_n C dX3_run_1 rfl 1 rfl ?_
  obtain ⟨u1, h2, hf⟩ := x_bd hf
  refine x_callVi (As := [.int a1]) (st := []) C (c_X3_isWork l D cy ad S a1  h2) (cwV 1 C.2.2.2.2.1 gX3_run_X3_isWork rfl rfl rfl (by decide +kernel) ⟨(by decide), (by decide)⟩) 0 (gC_root cy ad S) rfl rfl rfl rfl (Nat.le_of_ble_eq_true rfl) dX3_run_2 ?_
  refine x_if_eq (tgt := 20) C dX3_run_5 (by decide) (fun (c_3 : u1 = 0) => ?_) (fun (c_3 : ¬ (u1 = 0)) => ?_)
  · replace hf := x_ip c_3 hf
    refine x_bipush (v := (-100)) C dX3_run_20 (by decide) ?_
    obtain ⟨e9, e8⟩ := x_s2 hf; subst e9; subst e8
    exact x_iret C dX3_run_22
  · replace hf := x_in c_3 hf
    refine x_aload_n C dX3_run_8 rfl 0 rfl ?_
    refine x_get (v := .ref (ad 1)) C iX3_run_X3 rfl 0 (gC_root cy ad S) 1 (by decide) (by decide +kernel) rfl rfl dX3_run_9 ?_
    refine x_iload_n C dX3_run_12 rfl 1 rfl ?_
    obtain ⟨g_4, hf⟩ := x_gd hf
    refine x_aald C 1 2 (gC_works cy ad S) rfl rfl g_4 rfl dX3_run_13 ?_
    obtain ⟨u5, h6, hf⟩ := x_bd hf
    refine x_callVNi (As := []) (st := []) C (c_X2_isFixed l D cy ad S a1.toNatClampNeg (x_lt g_4) h6) ⟨va_cnB 0 C.2.2.2.2.1 gX3_run_X2_isFixed_n101 rfl rfl rfl (C.2.2.2.2.2.2.2.2.1 (.methodLinkNest RX3 101 yX2_isFixed "ClosureHours") (by decide +kernel)) (C.2.2.2.2.1 (.initialized RX2) (by decide +kernel)) (by decide +kernel) ⟨(by decide), (by decide)⟩, C.2.2.2.2.1 (.instanceMethod yX2_isFixed) (by decide +kernel), C.2.2.2.2.1 (.selects RX2 yX2_isFixed yX2_isFixed) (by decide +kernel)⟩ (15 + a1.toNatClampNeg) (gC_work cy ad S (x_lt g_4)) rfl rfl rfl rfl (Nat.le_of_ble_eq_true rfl) dX3_run_14 ?_
    refine x_if_eq (tgt := 23) C dX3_run_17 (by decide) (fun (c_7 : u5 = 0) => ?_) (fun (c_7 : ¬ (u5 = 0)) => ?_)
    · replace hf := x_ip c_7 hf
      refine x_iconst (v := (-1)) C dX3_run_23 (by decide) ?_
      refine x_istore_n (lv2 := [(2, .int (-1)), (0, .ref (ad 0)), (1, .int a1)]) C dX3_run_24 rfl (by decide) rfl ?_
      refine x_iconst (v := 0) C dX3_run_25 (by decide) ?_
      refine x_istore_n (lv2 := [(3, .int 0), (2, .int (-1)), (0, .ref (ad 0)), (1, .int a1)]) C dX3_run_26 rfl (by decide) rfl ?_
      refine x_iconst (v := 0) C dX3_run_27 (by decide) ?_
      refine x_istore (lv2 := [(4, .int 0), (3, .int 0), (2, .int (-1)), (0, .ref (ad 0)), (1, .int a1)]) C dX3_run_28 (by decide) rfl ?_
      refine x_iconst (v := 0) C dX3_run_30 (by decide) ?_
      refine x_istore (lv2 := [(5, .int 0), (4, .int 0), (3, .int 0), (2, .int (-1)), (0, .ref (ad 0)), (1, .int a1)]) C dX3_run_31 (by decide) rfl ?_
      refine x_sub [4, 5, 3, 2, 1, 0] rfl ?_
      refine t_X3_run_L33 C  (fun S_17 x1_17 x2_17 x4_17  hf => ?_) 1000 S a1 (-1) 0 0 0  hf
      refine x_iload_n C dX3_run_101 rfl 2 rfl ?_
      refine x_iconst (v := (-1)) C dX3_run_102 (by decide) ?_
      refine x_icmp_ne (tgt := 111) C dX3_run_103 (by decide) (fun (c_18 : ¬ (x2_17 = (-1))) => ?_) (fun (c_18 : x2_17 = (-1)) => ?_)
      · replace hf := x_in c_18 hf
        refine x_aload_n C dX3_run_111 rfl 0 rfl ?_
        refine x_iconst (v := 0) C dX3_run_112 (by decide) ?_
        refine x_put (v := .int 0) (ty := .int) (S2 := (xI S_17 2 0 0 0)) C iX3_run_X3 tyX3 tyX3_ok nmX3 rfl 0 (gC_root cy ad S_17) 6 (by decide) (by decide +kernel) rfl rfl (by decide +kernel) rfl rfl (Nat.le_of_ble_eq_true rfl) (sC_moved cy ad S_17 0) dX3_run_113 ?_
        refine x_aload_n C dX3_run_116 rfl 0 rfl ?_
        refine x_iload_n C dX3_run_117 rfl 1 rfl ?_
        refine x_iload_n C dX3_run_118 rfl 2 rfl ?_
        obtain ⟨u19, h20, hf⟩ := x_bd hf
        refine x_callVv (As := [.int x1_17, .int x2_17]) (st := []) C (c_X3_putAt l D cy ad (xI S_17 2 0 0 0) x1_17 x2_17  h20) (cwV 2 C.2.2.2.2.1 gX3_run_X3_putAt rfl rfl rfl (by decide +kernel) ⟨(by decide), (by decide)⟩) 0 (gC_root cy ad (xI S_17 2 0 0 0)) rfl rfl rfl rfl (Nat.le_of_ble_eq_true rfl) dX3_run_119 ?_
        refine x_iload_n C dX3_run_122 rfl 2 rfl ?_
        obtain ⟨e9, e8⟩ := x_s2 hf; subst e9; subst e8
        exact x_iret C dX3_run_123
      · replace hf := x_ip c_18 hf
        refine x_iconst (v := (-1)) C dX3_run_106 (by decide) ?_
        refine x_iload C dX3_run_107 3 rfl ?_
        refine x_isub C dX3_run_109 ?_
        obtain ⟨e9, e8⟩ := x_s2 hf; subst e9; subst e8
        exact x_iret C dX3_run_110
    · replace hf := x_in c_7 hf
      refine x_bipush (v := (-100)) C dX3_run_20 (by decide) ?_
      obtain ⟨e9, e8⟩ := x_s2 hf; subst e9; subst e8
      exact x_iret C dX3_run_22
end DX3_run
set_option maxRecDepth 20000 in
theorem iX3_isPlacedWork_X3 : ∀ w ∈ u_ws RX3 TX3 8, w ∈ wsX3_isPlacedWork := by decide +kernel
def f_X3_isPlacedWork (S : St) (a1 : Int32) : Option (Int32) := (f_X3_isWork S a1).bind fun u1 => if u1 = 0 then (some 0) else (if a1 < 0 ∨ 4 ≤ a1.toNatClampNeg then none else (f_X2_isPlaced S a1.toNatClampNeg).bind fun u5 => if u5 = 0 then (some 0) else (some 1))
section DX3_isPlacedWork
variable {p : Program} {l : Launch} {e : Env} {s : State} {m : MethodId} {args : Array Value} {below : List Frame} {meth : Method} {c : Code} {D : va_G} {cy : Nat → ClassId} {ad : Nat → Nat} {A : Nat → Prop}
set_option maxHeartbeats 4000000 in
set_option maxRecDepth 100000 in
theorem c_X3_isPlacedWork (l : Launch) (D : va_G) (cy : Nat → ClassId) (ad : Nat → Nat) (S : St) (a1 : Int32) {r : Int32}  (hf : f_X3_isPlacedWork S a1 = some r) : XMi l D (wC cy ad) (xty cy) yX3_isPlacedWork wsX3_isPlacedWork ({ frames := 1, cells := 0, slots := 0, locals := 21 } : Room) [.ref (ad 0), .int a1] S r S := by
  refine x_ofWi (cc := cX3_isPlacedWork) (maxL := 2) (ret := some .boolean) (own := RX3) rfl (by decide) rfl (Nat.le_of_ble_eq_true rfl) rfl ?_
  intro p e s m args below meth c A C _
  unfold f_X3_isPlacedWork at hf
  refine x_aload_n C dX3_isPlacedWork_0 rfl 0 rfl ?_
  refine x_iload_n C dX3_isPlacedWork_1 rfl 1 rfl ?_
  obtain ⟨u1, h2, hf⟩ := x_bd hf
  refine x_callVi (As := [.int a1]) (st := []) C (c_X3_isWork l D cy ad S a1  h2) (cwV 1 C.2.2.2.2.1 gX3_isPlacedWork_X3_isWork rfl rfl rfl (by decide +kernel) ⟨(by decide), (by decide)⟩) 0 (gC_root cy ad S) rfl rfl rfl rfl (Nat.le_of_ble_eq_true rfl) dX3_isPlacedWork_2 ?_
  refine x_if_eq (tgt := 24) C dX3_isPlacedWork_5 (by decide) (fun (c_3 : u1 = 0) => ?_) (fun (c_3 : ¬ (u1 = 0)) => ?_)
  · replace hf := x_ip c_3 hf
    refine x_iconst (v := 0) C dX3_isPlacedWork_24 (by decide) ?_
    have e9 := x_s1 hf; subst e9
    exact x_zret C rfl dX3_isPlacedWork_25
  · replace hf := x_in c_3 hf
    refine x_aload_n C dX3_isPlacedWork_8 rfl 0 rfl ?_
    refine x_get (v := .ref (ad 1)) C iX3_isPlacedWork_X3 rfl 0 (gC_root cy ad S) 1 (by decide) (by decide +kernel) rfl rfl dX3_isPlacedWork_9 ?_
    refine x_iload_n C dX3_isPlacedWork_12 rfl 1 rfl ?_
    obtain ⟨g_4, hf⟩ := x_gd hf
    refine x_aald C 1 2 (gC_works cy ad S) rfl rfl g_4 rfl dX3_isPlacedWork_13 ?_
    obtain ⟨u5, h6, hf⟩ := x_bd hf
    refine x_callVNi (As := []) (st := []) C (c_X2_isPlaced l D cy ad S a1.toNatClampNeg (x_lt g_4) h6) ⟨va_cnB 0 C.2.2.2.2.1 gX3_isPlacedWork_X2_isPlaced_n153 rfl rfl rfl (C.2.2.2.2.2.2.2.2.1 (.methodLinkNest RX3 153 yX2_isPlaced "ClosureHours") (by decide +kernel)) (C.2.2.2.2.1 (.initialized RX2) (by decide +kernel)) (by decide +kernel) ⟨(by decide), (by decide)⟩, C.2.2.2.2.1 (.instanceMethod yX2_isPlaced) (by decide +kernel), C.2.2.2.2.1 (.selects RX2 yX2_isPlaced yX2_isPlaced) (by decide +kernel)⟩ (15 + a1.toNatClampNeg) (gC_work cy ad S (x_lt g_4)) rfl rfl rfl rfl (Nat.le_of_ble_eq_true rfl) dX3_isPlacedWork_14 ?_
    refine x_if_eq (tgt := 24) C dX3_isPlacedWork_17 (by decide) (fun (c_7 : u5 = 0) => ?_) (fun (c_7 : ¬ (u5 = 0)) => ?_)
    · replace hf := x_ip c_7 hf
      refine x_iconst (v := 0) C dX3_isPlacedWork_24 (by decide) ?_
      have e9 := x_s1 hf; subst e9
      exact x_zret C rfl dX3_isPlacedWork_25
    · replace hf := x_in c_7 hf
      refine x_iconst (v := 1) C dX3_isPlacedWork_20 (by decide) ?_
      refine x_goto (tgt := 25) C dX3_isPlacedWork_21 (by decide) ?_
      have e9 := x_s1 hf; subst e9
      exact x_zret C rfl dX3_isPlacedWork_25
end DX3_isPlacedWork
set_option maxRecDepth 20000 in
theorem iX3_drop_X3 : ∀ w ∈ u_ws RX3 TX3 8, w ∈ wsX3_drop := by decide +kernel
def f_X3_drop (S : St) (a1 : Int32) : Option (Int32 × St) := (f_X3_isPlacedWork S a1).bind fun u1 => if u1 = 0 then (some (0, S)) else (if a1 < 0 ∨ 4 ≤ a1.toNatClampNeg then none else (f_X2_isFixed S a1.toNatClampNeg).bind fun u5 => if u5 = 0 then ((f_X3_putAt (xI S 2 0 0 0) a1 (-1)).bind fun u8 => some (1, u8)) else (some (0, S)))
section DX3_drop
variable {p : Program} {l : Launch} {e : Env} {s : State} {m : MethodId} {args : Array Value} {below : List Frame} {meth : Method} {c : Code} {D : va_G} {cy : Nat → ClassId} {ad : Nat → Nat} {A : Nat → Prop}
set_option maxHeartbeats 4000000 in
set_option maxRecDepth 100000 in
theorem c_X3_drop (l : Launch) (D : va_G) (cy : Nat → ClassId) (ad : Nat → Nat) (S : St) (a1 : Int32) {r : Int32} {S2 : St}  (hf : f_X3_drop S a1 = some (r, S2)) : XMi l D (wC cy ad) (xty cy) yX3_drop wsX3_drop ({ frames := 3, cells := 0, slots := 0, locals := 58 } : Room) [.ref (ad 0), .int a1] S r S2 := by
  refine x_ofWi (cc := cX3_drop) (maxL := 2) (ret := some .boolean) (own := RX3) rfl (by decide) rfl (Nat.le_of_ble_eq_true rfl) rfl ?_
  intro p e s m args below meth c A C _
  unfold f_X3_drop at hf
  refine x_aload_n C dX3_drop_0 rfl 0 rfl ?_
  refine x_iload_n C dX3_drop_1 rfl 1 rfl ?_
  obtain ⟨u1, h2, hf⟩ := x_bd hf
  refine x_callVi (As := [.int a1]) (st := []) C (c_X3_isPlacedWork l D cy ad S a1  h2) (cwV 1 C.2.2.2.2.1 gX3_drop_X3_isPlacedWork rfl rfl rfl (by decide +kernel) ⟨(by decide), (by decide)⟩) 0 (gC_root cy ad S) rfl rfl rfl rfl (Nat.le_of_ble_eq_true rfl) dX3_drop_2 ?_
  refine x_if_eq (tgt := 20) C dX3_drop_5 (by decide) (fun (c_3 : u1 = 0) => ?_) (fun (c_3 : ¬ (u1 = 0)) => ?_)
  · replace hf := x_ip c_3 hf
    refine x_iconst (v := 0) C dX3_drop_20 (by decide) ?_
    obtain ⟨e9, e8⟩ := x_s2 hf; subst e9; subst e8
    exact x_zret C rfl dX3_drop_21
  · replace hf := x_in c_3 hf
    refine x_aload_n C dX3_drop_8 rfl 0 rfl ?_
    refine x_get (v := .ref (ad 1)) C iX3_drop_X3 rfl 0 (gC_root cy ad S) 1 (by decide) (by decide +kernel) rfl rfl dX3_drop_9 ?_
    refine x_iload_n C dX3_drop_12 rfl 1 rfl ?_
    obtain ⟨g_4, hf⟩ := x_gd hf
    refine x_aald C 1 2 (gC_works cy ad S) rfl rfl g_4 rfl dX3_drop_13 ?_
    obtain ⟨u5, h6, hf⟩ := x_bd hf
    refine x_callVNi (As := []) (st := []) C (c_X2_isFixed l D cy ad S a1.toNatClampNeg (x_lt g_4) h6) ⟨va_cnB 0 C.2.2.2.2.1 gX3_drop_X2_isFixed_n101 rfl rfl rfl (C.2.2.2.2.2.2.2.2.1 (.methodLinkNest RX3 101 yX2_isFixed "ClosureHours") (by decide +kernel)) (C.2.2.2.2.1 (.initialized RX2) (by decide +kernel)) (by decide +kernel) ⟨(by decide), (by decide)⟩, C.2.2.2.2.1 (.instanceMethod yX2_isFixed) (by decide +kernel), C.2.2.2.2.1 (.selects RX2 yX2_isFixed yX2_isFixed) (by decide +kernel)⟩ (15 + a1.toNatClampNeg) (gC_work cy ad S (x_lt g_4)) rfl rfl rfl rfl (Nat.le_of_ble_eq_true rfl) dX3_drop_14 ?_
    refine x_if_eq (tgt := 22) C dX3_drop_17 (by decide) (fun (c_7 : u5 = 0) => ?_) (fun (c_7 : ¬ (u5 = 0)) => ?_)
    · replace hf := x_ip c_7 hf
      refine x_aload_n C dX3_drop_22 rfl 0 rfl ?_
      refine x_iconst (v := 0) C dX3_drop_23 (by decide) ?_
      refine x_put (v := .int 0) (ty := .int) (S2 := (xI S 2 0 0 0)) C iX3_drop_X3 tyX3 tyX3_ok nmX3 rfl 0 (gC_root cy ad S) 6 (by decide) (by decide +kernel) rfl rfl (by decide +kernel) rfl rfl (Nat.le_of_ble_eq_true rfl) (sC_moved cy ad S 0) dX3_drop_24 ?_
      refine x_aload_n C dX3_drop_27 rfl 0 rfl ?_
      refine x_iload_n C dX3_drop_28 rfl 1 rfl ?_
      refine x_iconst (v := (-1)) C dX3_drop_29 (by decide) ?_
      obtain ⟨u8, h9, hf⟩ := x_bd hf
      refine x_callVv (As := [.int a1, .int (-1)]) (st := []) C (c_X3_putAt l D cy ad (xI S 2 0 0 0) a1 (-1)  h9) (cwV 2 C.2.2.2.2.1 gX3_drop_X3_putAt rfl rfl rfl (by decide +kernel) ⟨(by decide), (by decide)⟩) 0 (gC_root cy ad (xI S 2 0 0 0)) rfl rfl rfl rfl (Nat.le_of_ble_eq_true rfl) dX3_drop_30 ?_
      refine x_iconst (v := 1) C dX3_drop_33 (by decide) ?_
      obtain ⟨e9, e8⟩ := x_s2 hf; subst e9; subst e8
      exact x_zret C rfl dX3_drop_34
    · replace hf := x_in c_7 hf
      refine x_iconst (v := 0) C dX3_drop_20 (by decide) ?_
      obtain ⟨e9, e8⟩ := x_s2 hf; subst e9; subst e8
      exact x_zret C rfl dX3_drop_21
end DX3_drop
def f_X3_may (S : St) (a1 : Int32) (a2 : Int32) : Option (Int32) := (f_X3_isWork S a1).bind fun u1 => if u1 = 0 then (some 0) else ((f_X3_isHour S a2).bind fun u4 => if u4 = 0 then (some 0) else ((f_X3_firstBrokenRule S a1 a2).bind fun u7 => if u7 = 0 then (some 1) else (some 0)))
section DX3_may
variable {p : Program} {l : Launch} {e : Env} {s : State} {m : MethodId} {args : Array Value} {below : List Frame} {meth : Method} {c : Code} {D : va_G} {cy : Nat → ClassId} {ad : Nat → Nat} {A : Nat → Prop}
set_option maxHeartbeats 4000000 in
set_option maxRecDepth 100000 in
theorem c_X3_may (l : Launch) (D : va_G) (cy : Nat → ClassId) (ad : Nat → Nat) (S : St) (a1 : Int32) (a2 : Int32) {r : Int32}  (hf : f_X3_may S a1 a2 = some r) : XMi l D (wC cy ad) (xty cy) yX3_may wsX3_may ({ frames := 4, cells := 0, slots := 0, locals := 90 } : Room) [.ref (ad 0), .int a1, .int a2] S r S := by
  refine x_ofWi (cc := cX3_may) (maxL := 3) (ret := some .boolean) (own := RX3) rfl (by decide) rfl (Nat.le_of_ble_eq_true rfl) rfl ?_
  intro p e s m args below meth c A C _
  unfold f_X3_may at hf
  refine x_aload_n C dX3_may_0 rfl 0 rfl ?_
  refine x_iload_n C dX3_may_1 rfl 1 rfl ?_
  obtain ⟨u1, h2, hf⟩ := x_bd hf
  refine x_callVi (As := [.int a1]) (st := []) C (c_X3_isWork l D cy ad S a1  h2) (cwV 1 C.2.2.2.2.1 gX3_may_X3_isWork rfl rfl rfl (by decide +kernel) ⟨(by decide), (by decide)⟩) 0 (gC_root cy ad S) rfl rfl rfl rfl (Nat.le_of_ble_eq_true rfl) dX3_may_2 ?_
  refine x_if_eq (tgt := 29) C dX3_may_5 (by decide) (fun (c_3 : u1 = 0) => ?_) (fun (c_3 : ¬ (u1 = 0)) => ?_)
  · replace hf := x_ip c_3 hf
    refine x_iconst (v := 0) C dX3_may_29 (by decide) ?_
    have e9 := x_s1 hf; subst e9
    exact x_zret C rfl dX3_may_30
  · replace hf := x_in c_3 hf
    refine x_aload_n C dX3_may_8 rfl 0 rfl ?_
    refine x_iload_n C dX3_may_9 rfl 2 rfl ?_
    obtain ⟨u4, h5, hf⟩ := x_bd hf
    refine x_callVi (As := [.int a2]) (st := []) C (c_X3_isHour l D cy ad S a2  h5) (cwV 1 C.2.2.2.2.1 gX3_may_X3_isHour rfl rfl rfl (by decide +kernel) ⟨(by decide), (by decide)⟩) 0 (gC_root cy ad S) rfl rfl rfl rfl (Nat.le_of_ble_eq_true rfl) dX3_may_10 ?_
    refine x_if_eq (tgt := 29) C dX3_may_13 (by decide) (fun (c_6 : u4 = 0) => ?_) (fun (c_6 : ¬ (u4 = 0)) => ?_)
    · replace hf := x_ip c_6 hf
      refine x_iconst (v := 0) C dX3_may_29 (by decide) ?_
      have e9 := x_s1 hf; subst e9
      exact x_zret C rfl dX3_may_30
    · replace hf := x_in c_6 hf
      refine x_aload_n C dX3_may_16 rfl 0 rfl ?_
      refine x_iload_n C dX3_may_17 rfl 1 rfl ?_
      refine x_iload_n C dX3_may_18 rfl 2 rfl ?_
      obtain ⟨u7, h8, hf⟩ := x_bd hf
      refine x_callVi (As := [.int a1, .int a2]) (st := []) C (c_X3_firstBrokenRule l D cy ad S a1 a2  h8) (cwV 2 C.2.2.2.2.1 gX3_may_X3_firstBrokenRule rfl rfl rfl (by decide +kernel) ⟨(by decide), (by decide)⟩) 0 (gC_root cy ad S) rfl rfl rfl rfl (Nat.le_of_ble_eq_true rfl) dX3_may_19 ?_
      refine x_if_ne (tgt := 29) C dX3_may_22 (by decide) (fun (c_9 : ¬ (u7 = 0)) => ?_) (fun (c_9 : u7 = 0) => ?_)
      · replace hf := x_in c_9 hf
        refine x_iconst (v := 0) C dX3_may_29 (by decide) ?_
        have e9 := x_s1 hf; subst e9
        exact x_zret C rfl dX3_may_30
      · replace hf := x_ip c_9 hf
        refine x_iconst (v := 1) C dX3_may_25 (by decide) ?_
        refine x_goto (tgt := 30) C dX3_may_26 (by decide) ?_
        have e9 := x_s1 hf; subst e9
        exact x_zret C rfl dX3_may_30
end DX3_may
set_option maxRecDepth 20000 in
theorem iX1_begin_X1 : ∀ w ∈ u_ws RX1 TX1 10, w ∈ wsX1_begin := by decide +kernel
def f_X1_begin_L14  (k14 : St → Option (St)) : Nat → St → Int32 → Int32 → Option (St)
  | 0 => fun _ _ _ => none
  | n + 1 => fun S x1 x2 => if x1 ≤ x2 then (k14 S ) else (if x2 < 0 ∨ 4 ≤ x2.toNatClampNeg then none else (f_X1_begin_L14  k14 n) (xJ (xI S 19 0 x2.toNatClampNeg 0) 3 ((0 : Int32).toNatClampNeg) x2.toNatClampNeg 0) x1 (x2 + 1))
def f_X1_begin (S : St) (a1 : Int32) : Option (St) := f_X1_begin_L14  (fun S_3  => some S_3) 1000 (xJ (xI S 22 0 0 a1) 4 0 0 4611686018427387904) a1 0
section DX1_begin
variable {p : Program} {l : Launch} {e : Env} {s : State} {m : MethodId} {args : Array Value} {below : List Frame} {meth : Method} {c : Code} {D : va_G} {cy : Nat → ClassId} {ad : Nat → Nat} {A : Nat → Prop}
set_option maxHeartbeats 4000000 in
set_option maxRecDepth 100000 in
theorem t_X1_begin_L14 (C : XC p s m args meth c D A (xty cy) cX1_begin 3 RX1 wsX1_begin (none)) {S2 : St}   {k14 : St → Option (St)} (hk14 : ∀ (S : St) , k14 S  = some S2 → XJ p l e ({ frames := 0, cells := 0, slots := 0, locals := 0 } : Room) s m args below meth c D (wC cy ad) A 3 (QXv D (wC cy ad) A below args s S2) S 41 [] []) : ∀ (n : Nat), ∀ (S : St) (x1 : Int32) (x2 : Int32), (f_X1_begin_L14  k14 n) S x1 x2 = some S2 → XJ p l e ({ frames := 0, cells := 0, slots := 0, locals := 0 } : Room) s m args below meth c D (wC cy ad) A 3 (QXv D (wC cy ad) A below args s S2) S 14 [(0, .ref (ad 4)), (1, .int x1), (2, .int x2)] [] := by
  intro n
  induction n with
  | zero => intro S x1 x2 hf; cases hf
  | succ n ih =>
    intro S x1 x2 hf
    rw [f_X1_begin_L14] at hf
    refine x_iload_n C dX1_begin_14 rfl 2 rfl ?_
    refine x_iload_n C dX1_begin_15 rfl 1 rfl ?_
    refine x_icmp_ge (tgt := 41) C dX1_begin_16 (by decide) (fun (c_1 : x1 ≤ x2) => ?_) (fun (c_1 : ¬ (x1 ≤ x2)) => ?_)
    · replace hf := x_ip c_1 hf
      refine x_sub [] rfl ?_
      exact hk14 S   hf
    · replace hf := x_in c_1 hf
      refine x_aload_n C dX1_begin_19 rfl 0 rfl ?_
      refine x_get (v := .ref (ad 8)) C iX1_begin_X1 rfl 4 (gC_srch cy ad S) 4 (by decide) (by decide +kernel) rfl rfl dX1_begin_20 ?_
      refine x_iload_n C dX1_begin_23 rfl 2 rfl ?_
      refine x_iconst (v := 0) C dX1_begin_24 (by decide) ?_
      obtain ⟨g_2, hf⟩ := x_gd hf
      refine x_iast (S2 := (xI S 19 0 x2.toNatClampNeg 0)) C 8 0 (gC_offd cy ad S) rfl g_2 (sC_offd cy ad S x2.toNatClampNeg 0) dX1_begin_25 ?_
      refine x_aload_n C dX1_begin_26 rfl 0 rfl ?_
      refine x_get (v := .ref (ad 14)) C iX1_begin_X1 rfl 4 (gC_srch cy ad (xI S 19 0 x2.toNatClampNeg 0)) 5 (by decide) (by decide +kernel) rfl rfl dX1_begin_27 ?_
      refine x_iconst (v := 0) C dX1_begin_30 (by decide) ?_
      refine x_aald C 14 4 (gC_leftO cy ad (xI S 19 0 x2.toNatClampNeg 0)) rfl rfl (show ¬ ((0 : Int32) < 0 ∨ 4 ≤ (0 : Int32).toNatClampNeg) by decide) rfl dX1_begin_31 ?_
      refine x_iload_n C dX1_begin_32 rfl 2 rfl ?_
      refine x_lconst (v := 0) C dX1_begin_33 (by decide) ?_
      refine x_last (S2 := (xJ (xI S 19 0 x2.toNatClampNeg 0) 3 ((0 : Int32).toNatClampNeg) x2.toNatClampNeg 0)) C (35 + ((0 : Int32).toNatClampNeg)) 1 (gC_left cy ad (xI S 19 0 x2.toNatClampNeg 0) (x_lt (show ¬ ((0 : Int32) < 0 ∨ 4 ≤ (0 : Int32).toNatClampNeg) by decide))) rfl g_2 (sC_left cy ad (xI S 19 0 x2.toNatClampNeg 0) x2.toNatClampNeg 0 (x_lt (show ¬ ((0 : Int32) < 0 ∨ 4 ≤ (0 : Int32).toNatClampNeg) by decide))) dX1_begin_34 ?_
      refine x_iinc (v := x2 + 1) (lv2 := [(2, .int (x2 + 1)), (0, .ref (ad 4)), (1, .int x1)]) C dX1_begin_35 (k0 := 2) rfl rfl (by decide) rfl ?_
      refine x_goto (tgt := 14) C dX1_begin_38 (by decide) ?_
      refine x_sub [1, 2, 0] rfl ?_
      exact ih (xJ (xI S 19 0 x2.toNatClampNeg 0) 3 ((0 : Int32).toNatClampNeg) x2.toNatClampNeg 0) x1 (x2 + 1)  hf
set_option maxHeartbeats 4000000 in
set_option maxRecDepth 100000 in
theorem c_X1_begin (l : Launch) (D : va_G) (cy : Nat → ClassId) (ad : Nat → Nat) (S : St) (a1 : Int32) {S2 : St}  (hf : f_X1_begin S a1 = some S2) : XMv l D (wC cy ad) (xty cy) yX1_begin wsX1_begin ({ frames := 0, cells := 0, slots := 0, locals := 0 } : Room) [.ref (ad 4), .int a1] S S2 := by
  refine x_ofWv (cc := cX1_begin) (maxL := 3) (ret := none) (own := RX1) rfl (by decide) rfl (Nat.le_of_ble_eq_true rfl) rfl ?_
  intro p e s m args below meth c A C _
  unfold f_X1_begin at hf
  refine x_aload_n C dX1_begin_0 rfl 0 rfl ?_
  refine x_iload_n C dX1_begin_1 rfl 1 rfl ?_
  refine x_put (v := .int a1) (ty := .int) (S2 := (xI S 22 0 0 a1)) C iX1_begin_X1 tyX1 tyX1_ok nmX1 rfl 4 (gC_srch cy ad S) 9 (by decide) (by decide +kernel) rfl rfl (by decide +kernel) rfl rfl (Nat.le_of_ble_eq_true rfl) (sC_many cy ad S a1) dX1_begin_2 ?_
  refine x_aload_n C dX1_begin_5 rfl 0 rfl ?_
  refine x_ldc2 (v := 4611686018427387904) C (by decide +kernel) dX1_begin_6 ?_
  refine x_put (v := .long 4611686018427387904) (ty := .long) (S2 := (xJ (xI S 22 0 0 a1) 4 0 0 4611686018427387904)) C iX1_begin_X1 tyX1 tyX1_ok nmX1 rfl 4 (gC_srch cy ad (xI S 22 0 0 a1)) 8 (by decide) (by decide +kernel) rfl rfl (by decide +kernel) rfl rfl (Nat.le_of_ble_eq_true rfl) (sC_bestW cy ad (xI S 22 0 0 a1) 4611686018427387904) dX1_begin_9 ?_
  refine x_iconst (v := 0) C dX1_begin_12 (by decide) ?_
  refine x_istore_n (lv2 := [(2, .int 0), (0, .ref (ad 4)), (1, .int a1)]) C dX1_begin_13 rfl (by decide) rfl ?_
  refine x_sub [1, 2, 0] rfl ?_
  refine t_X1_begin_L14 C  (fun S_3   hf => ?_) 1000 (xJ (xI S 22 0 0 a1) 4 0 0 4611686018427387904) a1 0  hf
  have e9 := x_s1 hf; subst e9
  exact x_vret C dX1_begin_41
end DX1_begin
set_option maxRecDepth 20000 in
theorem iX1_setSpan_X1 : ∀ w ∈ u_ws RX1 TX1 10, w ∈ wsX1_setSpan := by decide +kernel
def f_X1_setSpan (S : St) (a1 : Int32) (a2 : Int32) : Option (St) := if a1 < 0 ∨ 4 ≤ a1.toNatClampNeg then none else some (xI S 16 0 a1.toNatClampNeg a2)
section DX1_setSpan
variable {p : Program} {l : Launch} {e : Env} {s : State} {m : MethodId} {args : Array Value} {below : List Frame} {meth : Method} {c : Code} {D : va_G} {cy : Nat → ClassId} {ad : Nat → Nat} {A : Nat → Prop}
set_option maxHeartbeats 4000000 in
set_option maxRecDepth 100000 in
theorem c_X1_setSpan (l : Launch) (D : va_G) (cy : Nat → ClassId) (ad : Nat → Nat) (S : St) (a1 : Int32) (a2 : Int32) {S2 : St}  (hf : f_X1_setSpan S a1 a2 = some S2) : XMv l D (wC cy ad) (xty cy) yX1_setSpan wsX1_setSpan ({ frames := 0, cells := 0, slots := 0, locals := 0 } : Room) [.ref (ad 4), .int a1, .int a2] S S2 := by
  refine x_ofWv (cc := cX1_setSpan) (maxL := 3) (ret := none) (own := RX1) rfl (by decide) rfl (Nat.le_of_ble_eq_true rfl) rfl ?_
  intro p e s m args below meth c A C _
  unfold f_X1_setSpan at hf
  refine x_aload_n C dX1_setSpan_0 rfl 0 rfl ?_
  refine x_get (v := .ref (ad 7)) C iX1_setSpan_X1 rfl 4 (gC_srch cy ad S) 0 (by decide) (by decide +kernel) rfl rfl dX1_setSpan_1 ?_
  refine x_iload_n C dX1_setSpan_4 rfl 1 rfl ?_
  refine x_iload_n C dX1_setSpan_5 rfl 2 rfl ?_
  obtain ⟨g_1, hf⟩ := x_gd hf
  refine x_iast (S2 := (xI S 16 0 a1.toNatClampNeg a2)) C 7 0 (gC_spans cy ad S) rfl g_1 (sC_spans cy ad S a1.toNatClampNeg a2) dX1_setSpan_6 ?_
  have e9 := x_s1 hf; subst e9
  exact x_vret C dX1_setSpan_7
end DX1_setSpan
set_option maxRecDepth 20000 in
theorem iX3_gapBetween_X2 : ∀ w ∈ u_ws RX2 TX2 10, w ∈ wsX3_gapBetween := by decide +kernel
set_option maxRecDepth 20000 in
theorem iX3_gapBetween_X3 : ∀ w ∈ u_ws RX3 TX3 8, w ∈ wsX3_gapBetween := by decide +kernel
def f_X3_gapBetween (S : St) (a1 : Int32) (a2 : Int32) : Option (Int32) := if a1 < 0 ∨ 4 ≤ a1.toNatClampNeg then none else if a2 < 0 ∨ 4 ≤ a2.toNatClampNeg then none else if (S.1 8 a1.toNatClampNeg 0) = (S.1 8 a2.toNatClampNeg 0) then (if (S.1 8 a1.toNatClampNeg 0) < 0 ∨ 4 ≤ (S.1 8 a1.toNatClampNeg 0).toNatClampNeg then none else some (S.1 12 0 (S.1 8 a1.toNatClampNeg 0).toNatClampNeg)) else ((f_X3_hasBit  (Int32.toInt64 (S.1 7 a1.toNatClampNeg 0)) a2).bind fun u4 => if u4 = 0 then (some (-1)) else (some 0))
section DX3_gapBetween
variable {p : Program} {l : Launch} {e : Env} {s : State} {m : MethodId} {args : Array Value} {below : List Frame} {meth : Method} {c : Code} {D : va_G} {cy : Nat → ClassId} {ad : Nat → Nat} {A : Nat → Prop}
set_option maxHeartbeats 4000000 in
set_option maxRecDepth 100000 in
theorem c_X3_gapBetween (l : Launch) (D : va_G) (cy : Nat → ClassId) (ad : Nat → Nat) (S : St) (a1 : Int32) (a2 : Int32) {r : Int32}  (hf : f_X3_gapBetween S a1 a2 = some r) : XMi l D (wC cy ad) (xty cy) yX3_gapBetween wsX3_gapBetween ({ frames := 1, cells := 0, slots := 0, locals := 22 } : Room) [.ref (ad 0), .int a1, .int a2] S r S := by
  refine x_ofWi (cc := cX3_gapBetween) (maxL := 3) (ret := some .int) (own := RX3) rfl (by decide) rfl (Nat.le_of_ble_eq_true rfl) rfl ?_
  intro p e s m args below meth c A C _
  unfold f_X3_gapBetween at hf
  refine x_aload_n C dX3_gapBetween_0 rfl 0 rfl ?_
  refine x_get (v := .ref (ad 1)) C iX3_gapBetween_X3 rfl 0 (gC_root cy ad S) 1 (by decide) (by decide +kernel) rfl rfl dX3_gapBetween_1 ?_
  refine x_iload_n C dX3_gapBetween_4 rfl 1 rfl ?_
  obtain ⟨g_1, hf⟩ := x_gd hf
  refine x_aald C 1 2 (gC_works cy ad S) rfl rfl g_1 rfl dX3_gapBetween_5 ?_
  refine x_getN (v := .int (S.1 8 a1.toNatClampNeg 0)) (host := "ClosureHours") C iX3_gapBetween_X2 rfl (15 + a1.toNatClampNeg) (gC_work cy ad S (x_lt g_1)) 7 (by decide) (by decide +kernel) rfl rfl dX3_gapBetween_6 ?_
  refine x_aload_n C dX3_gapBetween_9 rfl 0 rfl ?_
  refine x_get (v := .ref (ad 1)) C iX3_gapBetween_X3 rfl 0 (gC_root cy ad S) 1 (by decide) (by decide +kernel) rfl rfl dX3_gapBetween_10 ?_
  refine x_iload_n C dX3_gapBetween_13 rfl 2 rfl ?_
  obtain ⟨g_2, hf⟩ := x_gd hf
  refine x_aald C 1 2 (gC_works cy ad S) rfl rfl g_2 rfl dX3_gapBetween_14 ?_
  refine x_getN (v := .int (S.1 8 a2.toNatClampNeg 0)) (host := "ClosureHours") C iX3_gapBetween_X2 rfl (15 + a2.toNatClampNeg) (gC_work cy ad S (x_lt g_2)) 7 (by decide) (by decide +kernel) rfl rfl dX3_gapBetween_15 ?_
  refine x_icmp_ne (tgt := 36) C dX3_gapBetween_18 (by decide) (fun (c_3 : ¬ ((S.1 8 a1.toNatClampNeg 0) = (S.1 8 a2.toNatClampNeg 0))) => ?_) (fun (c_3 : (S.1 8 a1.toNatClampNeg 0) = (S.1 8 a2.toNatClampNeg 0)) => ?_)
  · replace hf := x_in c_3 hf
    refine x_aload_n C dX3_gapBetween_36 rfl 0 rfl ?_
    refine x_get (v := .ref (ad 1)) C iX3_gapBetween_X3 rfl 0 (gC_root cy ad S) 1 (by decide) (by decide +kernel) rfl rfl dX3_gapBetween_37 ?_
    refine x_iload_n C dX3_gapBetween_40 rfl 1 rfl ?_
    refine x_aald C 1 2 (gC_works cy ad S) rfl rfl g_1 rfl dX3_gapBetween_41 ?_
    refine x_getN (v := .int (S.1 7 a1.toNatClampNeg 0)) (host := "ClosureHours") C iX3_gapBetween_X2 rfl (15 + a1.toNatClampNeg) (gC_work cy ad S (x_lt g_1)) 6 (by decide) (by decide +kernel) rfl rfl dX3_gapBetween_42 ?_
    refine x_i2l C dX3_gapBetween_45 ?_
    refine x_iload_n C dX3_gapBetween_46 rfl 2 rfl ?_
    obtain ⟨u4, h5, hf⟩ := x_bd hf
    refine x_callSi (As := [.long (Int32.toInt64 (S.1 7 a1.toNatClampNeg 0)), .int a2]) (st := []) C (c_X3_hasBit l D cy ad (wC cy ad) S (Int32.toInt64 (S.1 7 a1.toNatClampNeg 0)) a2  h5) (va_cwS 2 C.2.2.2.2.1 gX3_gapBetween_X3_hasBit rfl rfl rfl (by decide +kernel) ⟨(by decide), (by decide)⟩) rfl rfl (Nat.le_of_ble_eq_true rfl) dX3_gapBetween_47 ?_
    refine x_if_eq (tgt := 57) C dX3_gapBetween_50 (by decide) (fun (c_6 : u4 = 0) => ?_) (fun (c_6 : ¬ (u4 = 0)) => ?_)
    · replace hf := x_ip c_6 hf
      refine x_iconst (v := (-1)) C dX3_gapBetween_57 (by decide) ?_
      have e9 := x_s1 hf; subst e9
      exact x_iret C dX3_gapBetween_58
    · replace hf := x_in c_6 hf
      refine x_iconst (v := 0) C dX3_gapBetween_53 (by decide) ?_
      refine x_goto (tgt := 58) C dX3_gapBetween_54 (by decide) ?_
      have e9 := x_s1 hf; subst e9
      exact x_iret C dX3_gapBetween_58
  · replace hf := x_ip c_3 hf
    refine x_aload_n C dX3_gapBetween_21 rfl 0 rfl ?_
    refine x_get (v := .ref (ad 2)) C iX3_gapBetween_X3 rfl 0 (gC_root cy ad S) 2 (by decide) (by decide +kernel) rfl rfl dX3_gapBetween_22 ?_
    refine x_aload_n C dX3_gapBetween_25 rfl 0 rfl ?_
    refine x_get (v := .ref (ad 1)) C iX3_gapBetween_X3 rfl 0 (gC_root cy ad S) 1 (by decide) (by decide +kernel) rfl rfl dX3_gapBetween_26 ?_
    refine x_iload_n C dX3_gapBetween_29 rfl 1 rfl ?_
    refine x_aald C 1 2 (gC_works cy ad S) rfl rfl g_1 rfl dX3_gapBetween_30 ?_
    refine x_getN (v := .int (S.1 8 a1.toNatClampNeg 0)) (host := "ClosureHours") C iX3_gapBetween_X2 rfl (15 + a1.toNatClampNeg) (gC_work cy ad S (x_lt g_1)) 7 (by decide) (by decide +kernel) rfl rfl dX3_gapBetween_31 ?_
    obtain ⟨g_7, hf⟩ := x_gd hf
    refine x_iald (f := S.1 12 0) C 2 0 (gC_rests cy ad S) rfl g_7 dX3_gapBetween_34 ?_
    have e9 := x_s1 hf; subst e9
    exact x_iret C dX3_gapBetween_35
end DX3_gapBetween
set_option maxRecDepth 20000 in
theorem iX1_setGap_X1 : ∀ w ∈ u_ws RX1 TX1 10, w ∈ wsX1_setGap := by decide +kernel
def f_X1_setGap (S : St) (a1 : Int32) (a2 : Int32) (a3 : Int32) : Option (St) := if a1 < 0 ∨ 4 ≤ a1.toNatClampNeg then none else if a2 < 0 ∨ 4 ≤ a2.toNatClampNeg then none else some (xI S 17 a1.toNatClampNeg a2.toNatClampNeg a3)
section DX1_setGap
variable {p : Program} {l : Launch} {e : Env} {s : State} {m : MethodId} {args : Array Value} {below : List Frame} {meth : Method} {c : Code} {D : va_G} {cy : Nat → ClassId} {ad : Nat → Nat} {A : Nat → Prop}
set_option maxHeartbeats 4000000 in
set_option maxRecDepth 100000 in
theorem c_X1_setGap (l : Launch) (D : va_G) (cy : Nat → ClassId) (ad : Nat → Nat) (S : St) (a1 : Int32) (a2 : Int32) (a3 : Int32) {S2 : St}  (hf : f_X1_setGap S a1 a2 a3 = some S2) : XMv l D (wC cy ad) (xty cy) yX1_setGap wsX1_setGap ({ frames := 0, cells := 0, slots := 0, locals := 0 } : Room) [.ref (ad 4), .int a1, .int a2, .int a3] S S2 := by
  refine x_ofWv (cc := cX1_setGap) (maxL := 4) (ret := none) (own := RX1) rfl (by decide) rfl (Nat.le_of_ble_eq_true rfl) rfl ?_
  intro p e s m args below meth c A C _
  unfold f_X1_setGap at hf
  refine x_aload_n C dX1_setGap_0 rfl 0 rfl ?_
  refine x_get (v := .ref (ad 11)) C iX1_setGap_X1 rfl 4 (gC_srch cy ad S) 1 (by decide) (by decide +kernel) rfl rfl dX1_setGap_1 ?_
  refine x_iload_n C dX1_setGap_4 rfl 1 rfl ?_
  obtain ⟨g_1, hf⟩ := x_gd hf
  refine x_aald C 11 3 (gC_gapsO cy ad S) rfl rfl g_1 rfl dX1_setGap_5 ?_
  refine x_iload_n C dX1_setGap_6 rfl 2 rfl ?_
  refine x_iload_n C dX1_setGap_7 rfl 3 rfl ?_
  obtain ⟨g_2, hf⟩ := x_gd hf
  refine x_iast (S2 := (xI S 17 a1.toNatClampNeg a2.toNatClampNeg a3)) C (23 + a1.toNatClampNeg) 0 (gC_gaps cy ad S (x_lt g_1)) rfl g_2 (sC_gaps cy ad S a2.toNatClampNeg a3 (x_lt g_1)) dX1_setGap_8 ?_
  have e9 := x_s1 hf; subst e9
  exact x_vret C dX1_setGap_9
end DX1_setGap
def f_X1_digit_L8  (k8 : St → Int64 → Option (Int64)) : Nat → St → Int64 → Int32 → Option (Int64)
  | 0 => fun _ _ _ => none
  | n + 1 => fun S x2 x4 => if (4 : Int32) ≤ x4 then (k8 S x2) else ((f_X1_digit_L8  k8 n) S (x2 * 36) (x4 + 1))
def f_X1_digit (S : St) (a1 : Int32) (a2 : Int32) : Option (Int64) := f_X1_digit_L8  (fun S_2 x2_2 => some x2_2) 1000 S (Int32.toInt64 a2) (a1 + 1)
section DX1_digit
variable {p : Program} {l : Launch} {e : Env} {s : State} {m : MethodId} {args : Array Value} {below : List Frame} {meth : Method} {c : Code} {D : va_G} {cy : Nat → ClassId} {ad : Nat → Nat} {A : Nat → Prop}
set_option maxHeartbeats 4000000 in
set_option maxRecDepth 100000 in
theorem t_X1_digit_L8 (C : XC p s m args meth c D A (xty cy) cX1_digit 5 RX1 wsX1_digit (some .long)) {r : Int64}   {k8 : St → Int64 → Option (Int64)} (hk8 : ∀ (S : St) (x2 : Int64), k8 S x2 = some r → XJ p l e ({ frames := 0, cells := 0, slots := 0, locals := 0 } : Room) s m args below meth c D (wC cy ad) A 5 (QXl D (wC cy ad) A below args s r S) S 26 [(2, .long x2)] []) : ∀ (n : Nat), ∀ (S : St) (x2 : Int64) (x4 : Int32), (f_X1_digit_L8  k8 n) S x2 x4 = some r → XJ p l e ({ frames := 0, cells := 0, slots := 0, locals := 0 } : Room) s m args below meth c D (wC cy ad) A 5 (QXl D (wC cy ad) A below args s r S) S 8 [(2, .long x2), (4, .int x4)] [] := by
  intro n
  induction n with
  | zero => intro S x2 x4 hf; cases hf
  | succ n ih =>
    intro S x2 x4 hf
    rw [f_X1_digit_L8] at hf
    refine x_iload C dX1_digit_8 1 rfl ?_
    refine x_iconst (v := 4) C dX1_digit_10 (by decide) ?_
    refine x_icmp_ge (tgt := 26) C dX1_digit_11 (by decide) (fun (c_1 : (4 : Int32) ≤ x4) => ?_) (fun (c_1 : ¬ ((4 : Int32) ≤ x4)) => ?_)
    · replace hf := x_ip c_1 hf
      refine x_sub [0] rfl ?_
      exact hk8 S x2  hf
    · replace hf := x_in c_1 hf
      refine x_lload_n C dX1_digit_14 rfl 0 rfl ?_
      refine x_ldc2 (v := 36) C (by decide +kernel) dX1_digit_15 ?_
      refine x_lmul C dX1_digit_18 ?_
      refine x_lstore_n (lv2 := [(2, .long (x2 * 36)), (4, .int x4)]) C dX1_digit_19 rfl (by decide) rfl ?_
      refine x_iinc (v := x4 + 1) (lv2 := [(4, .int (x4 + 1)), (2, .long (x2 * 36))]) C dX1_digit_20 (k0 := 1) rfl rfl (by decide) rfl ?_
      refine x_goto (tgt := 8) C dX1_digit_23 (by decide) ?_
      refine x_sub [1, 0] rfl ?_
      exact ih S (x2 * 36) (x4 + 1)  hf
set_option maxHeartbeats 4000000 in
set_option maxRecDepth 100000 in
theorem c_X1_digit (l : Launch) (D : va_G) (cy : Nat → ClassId) (ad : Nat → Nat) (S : St) (a1 : Int32) (a2 : Int32) {r : Int64}  (hf : f_X1_digit S a1 a2 = some r) : XMl l D (wC cy ad) (xty cy) yX1_digit wsX1_digit ({ frames := 0, cells := 0, slots := 0, locals := 0 } : Room) [.int a1, .int a2] S r S := by
  refine x_ofWl (cc := cX1_digit) (maxL := 5) (ret := some .long) (own := RX1) rfl (by decide) rfl (Nat.le_of_ble_eq_true rfl) rfl ?_
  intro p e s m args below meth c A C _
  unfold f_X1_digit at hf
  refine x_iload_n C dX1_digit_0 rfl 1 rfl ?_
  refine x_i2l C dX1_digit_1 ?_
  refine x_lstore_n (lv2 := [(2, .long (Int32.toInt64 a2)), (0, .int a1), (1, .int a2)]) C dX1_digit_2 rfl (by decide) rfl ?_
  refine x_iload_n C dX1_digit_3 rfl 1 rfl ?_
  refine x_iconst (v := 1) C dX1_digit_4 (by decide) ?_
  refine x_iadd C dX1_digit_5 ?_
  refine x_istore (lv2 := [(4, .int (a1 + 1)), (2, .long (Int32.toInt64 a2)), (0, .int a1), (1, .int a2)]) C dX1_digit_6 (by decide) rfl ?_
  refine x_sub [1, 0] rfl ?_
  refine t_X1_digit_L8 C  (fun S_2 x2_2  hf => ?_) 1000 S (Int32.toInt64 a2) (a1 + 1)  hf
  refine x_lload_n C dX1_digit_26 rfl 0 rfl ?_
  have e9 := x_s1 hf; subst e9
  exact x_lret C dX1_digit_27
end DX1_digit
set_option maxRecDepth 20000 in
theorem iX1_offer_X1 : ∀ w ∈ u_ws RX1 TX1 10, w ∈ wsX1_offer := by decide +kernel
def f_X1_offer_L32  (k32 : St → Int32 → Int32 → Int32 → Option (St)) : Nat → St → Int32 → Int32 → Int64 → Int32 → Option (St)
  | 0 => fun _ _ _ _ _ => none
  | n + 1 => fun S x1 x2 x4 x6 => if x6 ≤ 0 then (k32 S x1 x2 x6) else (if x1 < 0 ∨ 4 ≤ x1.toNatClampNeg then none else if (x6 - 1) < 0 ∨ 36 ≤ (x6 - 1).toNatClampNeg then none else if (S.1 18 x1.toNatClampNeg (x6 - 1).toNatClampNeg) < 0 ∨ 36 ≤ (S.1 18 x1.toNatClampNeg (x6 - 1).toNatClampNeg).toNatClampNeg then none else if (lg_cmp (S.2 2 x1.toNatClampNeg (S.1 18 x1.toNatClampNeg (x6 - 1).toNatClampNeg).toNatClampNeg) x4) ≤ 0 then (k32 S x1 x2 x6) else (if x6 < 0 ∨ 36 ≤ x6.toNatClampNeg then none else (f_X1_offer_L32  k32 n) (xI S 18 x1.toNatClampNeg x6.toNatClampNeg (S.1 18 x1.toNatClampNeg (x6 - 1).toNatClampNeg)) x1 x2 x4 (x6 + (-1))))
def f_X1_offer (S : St) (a1 : Int32) (a2 : Int32) (a3 : Int32) : Option (St) := (f_X1_digit S a1 a2).bind fun u1 => if a1 < 0 ∨ 4 ≤ a1.toNatClampNeg then none else if a2 < 0 ∨ 36 ≤ a2.toNatClampNeg then none else f_X1_offer_L32  (fun S_11 x1_11 x2_11 x6_11 => if x1_11 < 0 ∨ 4 ≤ x1_11.toNatClampNeg then none else if x6_11 < 0 ∨ 36 ≤ x6_11.toNatClampNeg then none else (f_X3_withBit  (S_11.2 3 ((0 : Int32).toNatClampNeg) x1_11.toNatClampNeg) x2_11 1).bind fun u14 => some (xJ (xI (xI S_11 18 x1_11.toNatClampNeg x6_11.toNatClampNeg x2_11) 19 0 x1_11.toNatClampNeg ((S_11.1 19 0 x1_11.toNatClampNeg) + 1)) 3 ((0 : Int32).toNatClampNeg) x1_11.toNatClampNeg u14)) 1000 (xJ S 2 a1.toNatClampNeg a2.toNatClampNeg (((Int32.toInt64 a3) * 1679616) + u1)) a1 a2 (((Int32.toInt64 a3) * 1679616) + u1) (S.1 19 0 a1.toNatClampNeg)
section DX1_offer
variable {p : Program} {l : Launch} {e : Env} {s : State} {m : MethodId} {args : Array Value} {below : List Frame} {meth : Method} {c : Code} {D : va_G} {cy : Nat → ClassId} {ad : Nat → Nat} {A : Nat → Prop}
set_option maxHeartbeats 4000000 in
set_option maxRecDepth 100000 in
theorem t_X1_offer_L32 (C : XC p s m args meth c D A (xty cy) cX1_offer 7 RX1 wsX1_offer (none)) {S2 : St}   {k32 : St → Int32 → Int32 → Int32 → Option (St)} (hk32 : ∀ (S : St) (x1 : Int32) (x2 : Int32) (x6 : Int32), k32 S x1 x2 x6 = some S2 → XJ p l e ({ frames := 1, cells := 0, slots := 0, locals := 24 } : Room) s m args below meth c D (wC cy ad) A 7 (QXv D (wC cy ad) A below args s S2) S 87 [(0, .ref (ad 4)), (1, .int x1), (2, .int x2), (6, .int x6)] []) : ∀ (n : Nat), ∀ (S : St) (x1 : Int32) (x2 : Int32) (x4 : Int64) (x6 : Int32), (f_X1_offer_L32  k32 n) S x1 x2 x4 x6 = some S2 → XJ p l e ({ frames := 1, cells := 0, slots := 0, locals := 24 } : Room) s m args below meth c D (wC cy ad) A 7 (QXv D (wC cy ad) A below args s S2) S 32 [(0, .ref (ad 4)), (1, .int x1), (2, .int x2), (4, .long x4), (6, .int x6)] [] := by
  intro n
  induction n with
  | zero => intro S x1 x2 x4 x6 hf; cases hf
  | succ n ih =>
    intro S x1 x2 x4 x6 hf
    rw [f_X1_offer_L32] at hf
    refine x_iload C dX1_offer_32 4 rfl ?_
    refine x_if_le (tgt := 87) C dX1_offer_34 (by decide) (fun (c_5 : x6 ≤ 0) => ?_) (fun (c_5 : ¬ (x6 ≤ 0)) => ?_)
    · replace hf := x_ip c_5 hf
      refine x_sub [0, 1, 2, 4] rfl ?_
      exact hk32 S x1 x2 x6  hf
    · replace hf := x_in c_5 hf
      refine x_aload_n C dX1_offer_37 rfl 0 rfl ?_
      refine x_get (v := .ref (ad 12)) C iX1_offer_X1 rfl 4 (gC_srch cy ad S) 2 (by decide) (by decide +kernel) rfl rfl dX1_offer_38 ?_
      refine x_iload_n C dX1_offer_41 rfl 1 rfl ?_
      obtain ⟨g_6, hf⟩ := x_gd hf
      refine x_aald C 12 4 (gC_weisO cy ad S) rfl rfl g_6 rfl dX1_offer_42 ?_
      refine x_aload_n C dX1_offer_43 rfl 0 rfl ?_
      refine x_get (v := .ref (ad 13)) C iX1_offer_X1 rfl 4 (gC_srch cy ad S) 3 (by decide) (by decide +kernel) rfl rfl dX1_offer_44 ?_
      refine x_iload_n C dX1_offer_47 rfl 1 rfl ?_
      refine x_aald C 13 3 (gC_ordO cy ad S) rfl rfl g_6 rfl dX1_offer_48 ?_
      refine x_iload C dX1_offer_49 4 rfl ?_
      refine x_iconst (v := 1) C dX1_offer_51 (by decide) ?_
      refine x_isub C dX1_offer_52 ?_
      obtain ⟨g_7, hf⟩ := x_gd hf
      refine x_iald (f := S.1 18 x1.toNatClampNeg) C (31 + x1.toNatClampNeg) 0 (gC_ord cy ad S (x_lt g_6)) rfl g_7 dX1_offer_53 ?_
      obtain ⟨g_8, hf⟩ := x_gd hf
      refine x_lald (f := S.2 2 x1.toNatClampNeg) C (27 + x1.toNatClampNeg) 1 (gC_weis cy ad S (x_lt g_6)) rfl g_8 dX1_offer_54 ?_
      refine x_lload C dX1_offer_55 3 rfl ?_
      refine x_lcmp C dX1_offer_57 ?_
      refine x_if_le (tgt := 87) C dX1_offer_58 (by decide) (fun (c_9 : (lg_cmp (S.2 2 x1.toNatClampNeg (S.1 18 x1.toNatClampNeg (x6 - 1).toNatClampNeg).toNatClampNeg) x4) ≤ 0) => ?_) (fun (c_9 : ¬ ((lg_cmp (S.2 2 x1.toNatClampNeg (S.1 18 x1.toNatClampNeg (x6 - 1).toNatClampNeg).toNatClampNeg) x4) ≤ 0)) => ?_)
      · replace hf := x_ip c_9 hf
        refine x_sub [0, 1, 2, 4] rfl ?_
        exact hk32 S x1 x2 x6  hf
      · replace hf := x_in c_9 hf
        refine x_aload_n C dX1_offer_61 rfl 0 rfl ?_
        refine x_get (v := .ref (ad 13)) C iX1_offer_X1 rfl 4 (gC_srch cy ad S) 3 (by decide) (by decide +kernel) rfl rfl dX1_offer_62 ?_
        refine x_iload_n C dX1_offer_65 rfl 1 rfl ?_
        refine x_aald C 13 3 (gC_ordO cy ad S) rfl rfl g_6 rfl dX1_offer_66 ?_
        refine x_iload C dX1_offer_67 4 rfl ?_
        refine x_aload_n C dX1_offer_69 rfl 0 rfl ?_
        refine x_get (v := .ref (ad 13)) C iX1_offer_X1 rfl 4 (gC_srch cy ad S) 3 (by decide) (by decide +kernel) rfl rfl dX1_offer_70 ?_
        refine x_iload_n C dX1_offer_73 rfl 1 rfl ?_
        refine x_aald C 13 3 (gC_ordO cy ad S) rfl rfl g_6 rfl dX1_offer_74 ?_
        refine x_iload C dX1_offer_75 4 rfl ?_
        refine x_iconst (v := 1) C dX1_offer_77 (by decide) ?_
        refine x_isub C dX1_offer_78 ?_
        refine x_iald (f := S.1 18 x1.toNatClampNeg) C (31 + x1.toNatClampNeg) 0 (gC_ord cy ad S (x_lt g_6)) rfl g_7 dX1_offer_79 ?_
        obtain ⟨g_10, hf⟩ := x_gd hf
        refine x_iast (S2 := (xI S 18 x1.toNatClampNeg x6.toNatClampNeg (S.1 18 x1.toNatClampNeg (x6 - 1).toNatClampNeg))) C (31 + x1.toNatClampNeg) 0 (gC_ord cy ad S (x_lt g_6)) rfl g_10 (sC_ord cy ad S x6.toNatClampNeg (S.1 18 x1.toNatClampNeg (x6 - 1).toNatClampNeg) (x_lt g_6)) dX1_offer_80 ?_
        refine x_iinc (v := x6 + (-1)) (lv2 := [(6, .int (x6 + (-1))), (0, .ref (ad 4)), (1, .int x1), (2, .int x2), (4, .long x4)]) C dX1_offer_81 (k0 := 4) rfl rfl (by decide) rfl ?_
        refine x_goto (tgt := 32) C dX1_offer_84 (by decide) ?_
        refine x_sub [1, 2, 3, 4, 0] rfl ?_
        exact ih (xI S 18 x1.toNatClampNeg x6.toNatClampNeg (S.1 18 x1.toNatClampNeg (x6 - 1).toNatClampNeg)) x1 x2 x4 (x6 + (-1))  hf
set_option maxHeartbeats 4000000 in
set_option maxRecDepth 100000 in
theorem c_X1_offer (l : Launch) (D : va_G) (cy : Nat → ClassId) (ad : Nat → Nat) (S : St) (a1 : Int32) (a2 : Int32) (a3 : Int32) {S2 : St}  (hf : f_X1_offer S a1 a2 a3 = some S2) : XMv l D (wC cy ad) (xty cy) yX1_offer wsX1_offer ({ frames := 1, cells := 0, slots := 0, locals := 24 } : Room) [.ref (ad 4), .int a1, .int a2, .int a3] S S2 := by
  refine x_ofWv (cc := cX1_offer) (maxL := 7) (ret := none) (own := RX1) rfl (by decide) rfl (Nat.le_of_ble_eq_true rfl) rfl ?_
  intro p e s m args below meth c A C _
  unfold f_X1_offer at hf
  refine x_iload_n C dX1_offer_0 rfl 3 rfl ?_
  refine x_i2l C dX1_offer_1 ?_
  refine x_ldc2 (v := 1679616) C (by decide +kernel) dX1_offer_2 ?_
  refine x_lmul C dX1_offer_5 ?_
  refine x_iload_n C dX1_offer_6 rfl 1 rfl ?_
  refine x_iload_n C dX1_offer_7 rfl 2 rfl ?_
  obtain ⟨u1, h2, hf⟩ := x_bd hf
  refine x_callSl (As := [.int a1, .int a2]) (st := [.long ((Int32.toInt64 a3) * 1679616)]) C (c_X1_digit l D cy ad S a1 a2  h2) (va_cwS 2 C.2.2.2.2.1 gX1_offer_X1_digit rfl rfl rfl (by decide +kernel) ⟨(by decide), (by decide)⟩) rfl rfl (Nat.le_of_ble_eq_true rfl) dX1_offer_8 ?_
  refine x_ladd C dX1_offer_11 ?_
  refine x_lstore (lv2 := [(4, .long (((Int32.toInt64 a3) * 1679616) + u1)), (0, .ref (ad 4)), (1, .int a1), (2, .int a2), (3, .int a3)]) C dX1_offer_12 (by decide) rfl ?_
  refine x_aload_n C dX1_offer_14 rfl 1 rfl ?_
  refine x_get (v := .ref (ad 12)) C iX1_offer_X1 rfl 4 (gC_srch cy ad S) 2 (by decide) (by decide +kernel) rfl rfl dX1_offer_15 ?_
  refine x_iload_n C dX1_offer_18 rfl 2 rfl ?_
  obtain ⟨g_3, hf⟩ := x_gd hf
  refine x_aald C 12 4 (gC_weisO cy ad S) rfl rfl g_3 rfl dX1_offer_19 ?_
  refine x_iload_n C dX1_offer_20 rfl 3 rfl ?_
  refine x_lload C dX1_offer_21 0 rfl ?_
  obtain ⟨g_4, hf⟩ := x_gd hf
  refine x_last (S2 := (xJ S 2 a1.toNatClampNeg a2.toNatClampNeg (((Int32.toInt64 a3) * 1679616) + u1))) C (27 + a1.toNatClampNeg) 1 (gC_weis cy ad S (x_lt g_3)) rfl g_4 (sC_weis cy ad S a2.toNatClampNeg (((Int32.toInt64 a3) * 1679616) + u1) (x_lt g_3)) dX1_offer_23 ?_
  refine x_aload_n C dX1_offer_24 rfl 1 rfl ?_
  refine x_get (v := .ref (ad 8)) C iX1_offer_X1 rfl 4 (gC_srch cy ad (xJ S 2 a1.toNatClampNeg a2.toNatClampNeg (((Int32.toInt64 a3) * 1679616) + u1))) 4 (by decide) (by decide +kernel) rfl rfl dX1_offer_25 ?_
  refine x_iload_n C dX1_offer_28 rfl 2 rfl ?_
  refine x_iald (f := S.1 19 0) C 8 0 (gC_offd cy ad (xJ S 2 a1.toNatClampNeg a2.toNatClampNeg (((Int32.toInt64 a3) * 1679616) + u1))) rfl g_3 dX1_offer_29 ?_
  refine x_istore (lv2 := [(6, .int (S.1 19 0 a1.toNatClampNeg)), (4, .long (((Int32.toInt64 a3) * 1679616) + u1)), (0, .ref (ad 4)), (1, .int a1), (2, .int a2), (3, .int a3)]) C dX1_offer_30 (by decide) rfl ?_
  refine x_sub [2, 3, 4, 1, 0] rfl ?_
  refine t_X1_offer_L32 C  (fun S_11 x1_11 x2_11 x6_11  hf => ?_) 1000 (xJ S 2 a1.toNatClampNeg a2.toNatClampNeg (((Int32.toInt64 a3) * 1679616) + u1)) a1 a2 (((Int32.toInt64 a3) * 1679616) + u1) (S.1 19 0 a1.toNatClampNeg)  hf
  refine x_aload_n C dX1_offer_87 rfl 0 rfl ?_
  refine x_get (v := .ref (ad 13)) C iX1_offer_X1 rfl 4 (gC_srch cy ad S_11) 3 (by decide) (by decide +kernel) rfl rfl dX1_offer_88 ?_
  refine x_iload_n C dX1_offer_91 rfl 1 rfl ?_
  obtain ⟨g_12, hf⟩ := x_gd hf
  refine x_aald C 13 3 (gC_ordO cy ad S_11) rfl rfl g_12 rfl dX1_offer_92 ?_
  refine x_iload C dX1_offer_93 3 rfl ?_
  refine x_iload_n C dX1_offer_95 rfl 2 rfl ?_
  obtain ⟨g_13, hf⟩ := x_gd hf
  refine x_iast (S2 := (xI S_11 18 x1_11.toNatClampNeg x6_11.toNatClampNeg x2_11)) C (31 + x1_11.toNatClampNeg) 0 (gC_ord cy ad S_11 (x_lt g_12)) rfl g_13 (sC_ord cy ad S_11 x6_11.toNatClampNeg x2_11 (x_lt g_12)) dX1_offer_96 ?_
  refine x_aload_n C dX1_offer_97 rfl 0 rfl ?_
  refine x_get (v := .ref (ad 8)) C iX1_offer_X1 rfl 4 (gC_srch cy ad (xI S_11 18 x1_11.toNatClampNeg x6_11.toNatClampNeg x2_11)) 4 (by decide) (by decide +kernel) rfl rfl dX1_offer_98 ?_
  refine x_iload_n C dX1_offer_101 rfl 1 rfl ?_
  refine x_dup2 C dX1_offer_102 rfl rfl ?_
  refine x_iald (f := S_11.1 19 0) C 8 0 (gC_offd cy ad (xI S_11 18 x1_11.toNatClampNeg x6_11.toNatClampNeg x2_11)) rfl g_12 dX1_offer_103 ?_
  refine x_iconst (v := 1) C dX1_offer_104 (by decide) ?_
  refine x_iadd C dX1_offer_105 ?_
  refine x_iast (S2 := (xI (xI S_11 18 x1_11.toNatClampNeg x6_11.toNatClampNeg x2_11) 19 0 x1_11.toNatClampNeg ((S_11.1 19 0 x1_11.toNatClampNeg) + 1))) C 8 0 (gC_offd cy ad (xI S_11 18 x1_11.toNatClampNeg x6_11.toNatClampNeg x2_11)) rfl g_12 (sC_offd cy ad (xI S_11 18 x1_11.toNatClampNeg x6_11.toNatClampNeg x2_11) x1_11.toNatClampNeg ((S_11.1 19 0 x1_11.toNatClampNeg) + 1)) dX1_offer_106 ?_
  refine x_aload_n C dX1_offer_107 rfl 0 rfl ?_
  refine x_get (v := .ref (ad 14)) C iX1_offer_X1 rfl 4 (gC_srch cy ad (xI (xI S_11 18 x1_11.toNatClampNeg x6_11.toNatClampNeg x2_11) 19 0 x1_11.toNatClampNeg ((S_11.1 19 0 x1_11.toNatClampNeg) + 1))) 5 (by decide) (by decide +kernel) rfl rfl dX1_offer_108 ?_
  refine x_iconst (v := 0) C dX1_offer_111 (by decide) ?_
  refine x_aald C 14 4 (gC_leftO cy ad (xI (xI S_11 18 x1_11.toNatClampNeg x6_11.toNatClampNeg x2_11) 19 0 x1_11.toNatClampNeg ((S_11.1 19 0 x1_11.toNatClampNeg) + 1))) rfl rfl (show ¬ ((0 : Int32) < 0 ∨ 4 ≤ (0 : Int32).toNatClampNeg) by decide) rfl dX1_offer_112 ?_
  refine x_iload_n C dX1_offer_113 rfl 1 rfl ?_
  refine x_aload_n C dX1_offer_114 rfl 0 rfl ?_
  refine x_get (v := .ref (ad 14)) C iX1_offer_X1 rfl 4 (gC_srch cy ad (xI (xI S_11 18 x1_11.toNatClampNeg x6_11.toNatClampNeg x2_11) 19 0 x1_11.toNatClampNeg ((S_11.1 19 0 x1_11.toNatClampNeg) + 1))) 5 (by decide) (by decide +kernel) rfl rfl dX1_offer_115 ?_
  refine x_iconst (v := 0) C dX1_offer_118 (by decide) ?_
  refine x_aald C 14 4 (gC_leftO cy ad (xI (xI S_11 18 x1_11.toNatClampNeg x6_11.toNatClampNeg x2_11) 19 0 x1_11.toNatClampNeg ((S_11.1 19 0 x1_11.toNatClampNeg) + 1))) rfl rfl (show ¬ ((0 : Int32) < 0 ∨ 4 ≤ (0 : Int32).toNatClampNeg) by decide) rfl dX1_offer_119 ?_
  refine x_iload_n C dX1_offer_120 rfl 1 rfl ?_
  refine x_lald (f := S_11.2 3 ((0 : Int32).toNatClampNeg)) C (35 + ((0 : Int32).toNatClampNeg)) 1 (gC_left cy ad (xI (xI S_11 18 x1_11.toNatClampNeg x6_11.toNatClampNeg x2_11) 19 0 x1_11.toNatClampNeg ((S_11.1 19 0 x1_11.toNatClampNeg) + 1)) (x_lt (show ¬ ((0 : Int32) < 0 ∨ 4 ≤ (0 : Int32).toNatClampNeg) by decide))) rfl g_12 dX1_offer_121 ?_
  refine x_iload_n C dX1_offer_122 rfl 2 rfl ?_
  refine x_iconst (v := 1) C dX1_offer_123 (by decide) ?_
  obtain ⟨u14, h15, hf⟩ := x_bd hf
  refine x_callSNl (As := [.long (S_11.2 3 ((0 : Int32).toNatClampNeg) x1_11.toNatClampNeg), .int x2_11, .int 1]) (st := [.int x1_11, .ref (ad (35 + ((0 : Int32).toNatClampNeg)))]) C (c_X3_withBit l D cy ad (wC cy ad) (xI (xI S_11 18 x1_11.toNatClampNeg x6_11.toNatClampNeg x2_11) 19 0 x1_11.toNatClampNeg ((S_11.1 19 0 x1_11.toNatClampNeg) + 1)) (S_11.2 3 ((0 : Int32).toNatClampNeg) x1_11.toNatClampNeg) x2_11 1  h15) ⟨va_cnB 3 C.2.2.2.2.1 gX1_offer_X3_withBit_n56 rfl rfl rfl (C.2.2.2.2.2.2.2.2.1 (.methodLinkNest RX1 56 yX3_withBit "ClosureHours") (by decide +kernel)) (C.2.2.2.2.1 (.initialized RX3) (by decide +kernel)) (by decide +kernel) ⟨(by decide), (by decide)⟩, C.2.2.2.2.1 (.static yX3_withBit) (by decide +kernel), trivial⟩ rfl rfl (Nat.le_of_ble_eq_true rfl) dX1_offer_124 ?_
  refine x_last (S2 := (xJ (xI (xI S_11 18 x1_11.toNatClampNeg x6_11.toNatClampNeg x2_11) 19 0 x1_11.toNatClampNeg ((S_11.1 19 0 x1_11.toNatClampNeg) + 1)) 3 ((0 : Int32).toNatClampNeg) x1_11.toNatClampNeg u14)) C (35 + ((0 : Int32).toNatClampNeg)) 1 (gC_left cy ad (xI (xI S_11 18 x1_11.toNatClampNeg x6_11.toNatClampNeg x2_11) 19 0 x1_11.toNatClampNeg ((S_11.1 19 0 x1_11.toNatClampNeg) + 1)) (x_lt (show ¬ ((0 : Int32) < 0 ∨ 4 ≤ (0 : Int32).toNatClampNeg) by decide))) rfl g_12 (sC_left cy ad (xI (xI S_11 18 x1_11.toNatClampNeg x6_11.toNatClampNeg x2_11) 19 0 x1_11.toNatClampNeg ((S_11.1 19 0 x1_11.toNatClampNeg) + 1)) x1_11.toNatClampNeg u14 (x_lt (show ¬ ((0 : Int32) < 0 ∨ 4 ≤ (0 : Int32).toNatClampNeg) by decide))) dX1_offer_127 ?_
  have e9 := x_s1 hf; subst e9
  exact x_vret C dX1_offer_128
end DX1_offer
set_option maxRecDepth 20000 in
theorem iX3_offerStarts_X2 : ∀ w ∈ u_ws RX2 TX2 10, w ∈ wsX3_offerStarts := by decide +kernel
set_option maxRecDepth 20000 in
theorem iX3_offerStarts_X3 : ∀ w ∈ u_ws RX3 TX3 8, w ∈ wsX3_offerStarts := by decide +kernel
def f_X3_offerStarts_L50 (r11 : St → Int32 → Int32 → Nat → Int32 → Option (St)) (k11 : St → Option (St)) (S : St) (x1 : Int32) (x3 : Int32) (x4 : Nat) (x5 : Int32) (x6 : Int32) : Option (St) := (f_X2_firstBrokenAlone S x4 x5 (S.1 0 0 0)).bind fun u5 => if u5 = 0 then ((f_X2_delayFrom S x4 x5).bind fun u8 => if x3 = 0 then ((f_X1_offer S x1 x5 u8).bind fun u11 => r11 u11 x1 x3 x4 (x5 + 1)) else (if x6 = 0 then ((f_X1_offer S x1 x5 (u8 + 10000000)).bind fun u16 => r11 u16 x1 x3 x4 (x5 + 1)) else ((f_X1_offer S x1 x5 u8).bind fun u14 => r11 u14 x1 x3 x4 (x5 + 1)))) else (r11 S x1 x3 x4 (x5 + 1))
def f_X3_offerStarts_L35 (r11 : St → Int32 → Int32 → Nat → Int32 → Option (St)) (k11 : St → Option (St)) (S : St) (x1 : Int32) (x3 : Int32) (x4 : Nat) (x5 : Int32) (y0 : Int32) : Option (St) := if y0 = 0 then ((f_X2_isFixed S x4).bind fun u18 => if u18 = 0 then (f_X3_offerStarts_L50 r11 k11 S x1 x3 x4 x5 y0) else (r11 S x1 x3 x4 (x5 + 1))) else (f_X3_offerStarts_L50 r11 k11 S x1 x3 x4 x5 y0)
def f_X3_offerStarts_L11  (k11 : St → Option (St)) : Nat → St → Int32 → Int32 → Nat → Int32 → Option (St)
  | 0 => fun _ _ _ _ _ => none
  | n + 1 => fun S x1 x3 x4 x5 => if (S.1 0 0 0) ≤ x5 then (k11 S ) else (if x5 = (S.1 9 x4 0) then (f_X3_offerStarts_L35 (f_X3_offerStarts_L11  k11 n) k11 S x1 x3 x4 x5 1) else (f_X3_offerStarts_L35 (f_X3_offerStarts_L11  k11 n) k11 S x1 x3 x4 x5 0))
def f_X3_offerStarts (S : St) (a1 : Int32) (a2 : Int32) (a3 : Int32) : Option (St) := if a1 < 0 ∨ 4 ≤ a1.toNatClampNeg then none else f_X3_offerStarts_L11  (fun S_21  => some S_21) 1000 S a1 a3 a1.toNatClampNeg a2
section DX3_offerStarts
variable {p : Program} {l : Launch} {e : Env} {s : State} {m : MethodId} {args : Array Value} {below : List Frame} {meth : Method} {c : Code} {D : va_G} {cy : Nat → ClassId} {ad : Nat → Nat} {A : Nat → Prop}
set_option maxHeartbeats 4000000 in
set_option maxRecDepth 100000 in
theorem t_X3_offerStarts_L50 (C : XC p s m args meth c D A (xty cy) cX3_offerStarts 8 RX3 wsX3_offerStarts (none)) {S2 : St} {r11 : St → Int32 → Int32 → Nat → Int32 → Option (St)} {k11 : St → Option (St)} (hr11 : ∀ (S : St) (x1 : Int32) (x3 : Int32) (x4 : Nat) (x5 : Int32) (hx4 : x4 < 4), r11 S x1 x3 x4 x5 = some S2 → XJ p l e ({ frames := 3, cells := 0, slots := 0, locals := 66 } : Room) s m args below meth c D (wC cy ad) A 8 (QXv D (wC cy ad) A below args s S2) S 11 [(0, .ref (ad 0)), (1, .int x1), (3, .int x3), (4, .ref (ad (15 + x4))), (5, .int x5)] []) (hk11 : ∀ (S : St) , k11 S  = some S2 → XJ p l e ({ frames := 3, cells := 0, slots := 0, locals := 66 } : Room) s m args below meth c D (wC cy ad) A 8 (QXv D (wC cy ad) A below args s S2) S 108 [] []) (S : St) (x1 : Int32) (x3 : Int32) (x4 : Nat) (x5 : Int32) (x6 : Int32) (hx4 : x4 < 4) (hf : f_X3_offerStarts_L50 r11 k11 S x1 x3 x4 x5 x6 = some S2) : XJ p l e ({ frames := 3, cells := 0, slots := 0, locals := 66 } : Room) s m args below meth c D (wC cy ad) A 8 (QXv D (wC cy ad) A below args s S2) S 50 [(0, .ref (ad 0)), (1, .int x1), (3, .int x3), (4, .ref (ad (15 + x4))), (5, .int x5), (6, .int x6)] [] := by
  unfold f_X3_offerStarts_L50 at hf
  refine x_aload C dX3_offerStarts_50 3 rfl ?_
  refine x_iload C dX3_offerStarts_52 4 rfl ?_
  refine x_aload_n C dX3_offerStarts_54 rfl 0 rfl ?_
  refine x_get (v := .int (S.1 0 0 0)) C iX3_offerStarts_X3 rfl 0 (gC_root cy ad S) 0 (by decide) (by decide +kernel) rfl rfl dX3_offerStarts_55 ?_
  obtain ⟨u5, h6, hf⟩ := x_bd hf
  refine x_callVNi (As := [.int x5, .int (S.1 0 0 0)]) (st := []) C (c_X2_firstBrokenAlone l D cy ad S x4 x5 (S.1 0 0 0) hx4 h6) ⟨va_cnB 2 C.2.2.2.2.1 gX3_offerStarts_X2_firstBrokenAlone_n183 rfl rfl rfl (C.2.2.2.2.2.2.2.2.1 (.methodLinkNest RX3 183 yX2_firstBrokenAlone "ClosureHours") (by decide +kernel)) (C.2.2.2.2.1 (.initialized RX2) (by decide +kernel)) (by decide +kernel) ⟨(by decide), (by decide)⟩, C.2.2.2.2.1 (.instanceMethod yX2_firstBrokenAlone) (by decide +kernel), C.2.2.2.2.1 (.selects RX2 yX2_firstBrokenAlone yX2_firstBrokenAlone) (by decide +kernel)⟩ (15 + x4) (gC_work cy ad S hx4) rfl rfl rfl rfl (Nat.le_of_ble_eq_true rfl) dX3_offerStarts_58 ?_
  refine x_if_ne (tgt := 102) C dX3_offerStarts_61 (by decide) (fun (c_7 : ¬ (u5 = 0)) => ?_) (fun (c_7 : u5 = 0) => ?_)
  · replace hf := x_in c_7 hf
    refine x_iinc (v := x5 + 1) (lv2 := [(5, .int (x5 + 1)), (0, .ref (ad 0)), (1, .int x1), (3, .int x3), (4, .ref (ad (15 + x4))), (6, .int x6)]) C dX3_offerStarts_102 (k0 := 4) rfl rfl (by decide) rfl ?_
    refine x_goto (tgt := 11) C dX3_offerStarts_105 (by decide) ?_
    refine x_sub [1, 2, 3, 4, 0] rfl ?_
    exact hr11 S x1 x3 x4 (x5 + 1) hx4 hf
  · replace hf := x_ip c_7 hf
    refine x_aload C dX3_offerStarts_64 3 rfl ?_
    refine x_iload C dX3_offerStarts_66 4 rfl ?_
    obtain ⟨u8, h9, hf⟩ := x_bd hf
    refine x_callVNi (As := [.int x5]) (st := []) C (c_X2_delayFrom l D cy ad S x4 x5 hx4 h9) ⟨va_cnB 1 C.2.2.2.2.1 gX3_offerStarts_X2_delayFrom_n108 rfl rfl rfl (C.2.2.2.2.2.2.2.2.1 (.methodLinkNest RX3 108 yX2_delayFrom "ClosureHours") (by decide +kernel)) (C.2.2.2.2.1 (.initialized RX2) (by decide +kernel)) (by decide +kernel) ⟨(by decide), (by decide)⟩, C.2.2.2.2.1 (.instanceMethod yX2_delayFrom) (by decide +kernel), C.2.2.2.2.1 (.selects RX2 yX2_delayFrom yX2_delayFrom) (by decide +kernel)⟩ (15 + x4) (gC_work cy ad S hx4) rfl rfl rfl rfl (Nat.le_of_ble_eq_true rfl) dX3_offerStarts_68 ?_
    refine x_istore (lv2 := [(7, .int u8), (0, .ref (ad 0)), (1, .int x1), (3, .int x3), (4, .ref (ad (15 + x4))), (5, .int x5), (6, .int x6)]) C dX3_offerStarts_71 (by decide) rfl ?_
    refine x_aload_n C dX3_offerStarts_73 rfl 1 rfl ?_
    refine x_get (v := .ref (ad 4)) C iX3_offerStarts_X3 rfl 0 (gC_root cy ad S) 4 (by decide) (by decide +kernel) rfl rfl dX3_offerStarts_74 ?_
    refine x_iload_n C dX3_offerStarts_77 rfl 2 rfl ?_
    refine x_iload C dX3_offerStarts_78 5 rfl ?_
    refine x_iload_n C dX3_offerStarts_80 rfl 3 rfl ?_
    refine x_if_eq (tgt := 97) C dX3_offerStarts_81 (by decide) (fun (c_10 : x3 = 0) => ?_) (fun (c_10 : ¬ (x3 = 0)) => ?_)
    · replace hf := x_ip c_10 hf
      refine x_iload C dX3_offerStarts_97 0 rfl ?_
      obtain ⟨u11, h12, hf⟩ := x_bd hf
      refine x_callVNv (As := [.int x1, .int x5, .int u8]) (st := []) C (c_X1_offer l D cy ad S x1 x5 u8  h12) ⟨va_cnB 3 C.2.2.2.2.1 gX3_offerStarts_X1_offer_n219 rfl rfl rfl (C.2.2.2.2.2.2.2.2.1 (.methodLinkNest RX3 219 yX1_offer "ClosureHours") (by decide +kernel)) (C.2.2.2.2.1 (.initialized RX1) (by decide +kernel)) (by decide +kernel) ⟨(by decide), (by decide)⟩, C.2.2.2.2.1 (.instanceMethod yX1_offer) (by decide +kernel), C.2.2.2.2.1 (.selects RX1 yX1_offer yX1_offer) (by decide +kernel)⟩ 4 (gC_srch cy ad S) rfl rfl rfl rfl (Nat.le_of_ble_eq_true rfl) dX3_offerStarts_99 ?_
      refine x_iinc (v := x5 + 1) (lv2 := [(5, .int (x5 + 1)), (7, .int u8), (0, .ref (ad 0)), (1, .int x1), (3, .int x3), (4, .ref (ad (15 + x4))), (6, .int x6)]) C dX3_offerStarts_102 (k0 := 5) rfl rfl (by decide) rfl ?_
      refine x_goto (tgt := 11) C dX3_offerStarts_105 (by decide) ?_
      refine x_sub [2, 3, 4, 5, 0] rfl ?_
      exact hr11 u11 x1 x3 x4 (x5 + 1) hx4 hf
    · replace hf := x_in c_10 hf
      refine x_iload C dX3_offerStarts_84 6 rfl ?_
      refine x_if_ne (tgt := 97) C dX3_offerStarts_86 (by decide) (fun (c_13 : ¬ (x6 = 0)) => ?_) (fun (c_13 : x6 = 0) => ?_)
      · replace hf := x_in c_13 hf
        refine x_iload C dX3_offerStarts_97 0 rfl ?_
        obtain ⟨u14, h15, hf⟩ := x_bd hf
        refine x_callVNv (As := [.int x1, .int x5, .int u8]) (st := []) C (c_X1_offer l D cy ad S x1 x5 u8  h15) ⟨va_cnB 3 C.2.2.2.2.1 gX3_offerStarts_X1_offer_n219 rfl rfl rfl (C.2.2.2.2.2.2.2.2.1 (.methodLinkNest RX3 219 yX1_offer "ClosureHours") (by decide +kernel)) (C.2.2.2.2.1 (.initialized RX1) (by decide +kernel)) (by decide +kernel) ⟨(by decide), (by decide)⟩, C.2.2.2.2.1 (.instanceMethod yX1_offer) (by decide +kernel), C.2.2.2.2.1 (.selects RX1 yX1_offer yX1_offer) (by decide +kernel)⟩ 4 (gC_srch cy ad S) rfl rfl rfl rfl (Nat.le_of_ble_eq_true rfl) dX3_offerStarts_99 ?_
        refine x_iinc (v := x5 + 1) (lv2 := [(5, .int (x5 + 1)), (7, .int u8), (0, .ref (ad 0)), (1, .int x1), (3, .int x3), (4, .ref (ad (15 + x4))), (6, .int x6)]) C dX3_offerStarts_102 (k0 := 5) rfl rfl (by decide) rfl ?_
        refine x_goto (tgt := 11) C dX3_offerStarts_105 (by decide) ?_
        refine x_sub [2, 3, 4, 5, 0] rfl ?_
        exact hr11 u14 x1 x3 x4 (x5 + 1) hx4 hf
      · replace hf := x_ip c_13 hf
        refine x_iload C dX3_offerStarts_89 0 rfl ?_
        refine x_ldc (v := 10000000) C (by decide +kernel) dX3_offerStarts_91 ?_
        refine x_iadd C dX3_offerStarts_93 ?_
        refine x_goto (tgt := 99) C dX3_offerStarts_94 (by decide) ?_
        obtain ⟨u16, h17, hf⟩ := x_bd hf
        refine x_callVNv (As := [.int x1, .int x5, .int (u8 + 10000000)]) (st := []) C (c_X1_offer l D cy ad S x1 x5 (u8 + 10000000)  h17) ⟨va_cnB 3 C.2.2.2.2.1 gX3_offerStarts_X1_offer_n219 rfl rfl rfl (C.2.2.2.2.2.2.2.2.1 (.methodLinkNest RX3 219 yX1_offer "ClosureHours") (by decide +kernel)) (C.2.2.2.2.1 (.initialized RX1) (by decide +kernel)) (by decide +kernel) ⟨(by decide), (by decide)⟩, C.2.2.2.2.1 (.instanceMethod yX1_offer) (by decide +kernel), C.2.2.2.2.1 (.selects RX1 yX1_offer yX1_offer) (by decide +kernel)⟩ 4 (gC_srch cy ad S) rfl rfl rfl rfl (Nat.le_of_ble_eq_true rfl) dX3_offerStarts_99 ?_
        refine x_iinc (v := x5 + 1) (lv2 := [(5, .int (x5 + 1)), (7, .int u8), (0, .ref (ad 0)), (1, .int x1), (3, .int x3), (4, .ref (ad (15 + x4))), (6, .int x6)]) C dX3_offerStarts_102 (k0 := 5) rfl rfl (by decide) rfl ?_
        refine x_goto (tgt := 11) C dX3_offerStarts_105 (by decide) ?_
        refine x_sub [2, 3, 4, 5, 0] rfl ?_
        exact hr11 u16 x1 x3 x4 (x5 + 1) hx4 hf
set_option maxHeartbeats 4000000 in
set_option maxRecDepth 100000 in
theorem t_X3_offerStarts_L35 (C : XC p s m args meth c D A (xty cy) cX3_offerStarts 8 RX3 wsX3_offerStarts (none)) {S2 : St} {r11 : St → Int32 → Int32 → Nat → Int32 → Option (St)} {k11 : St → Option (St)} (hr11 : ∀ (S : St) (x1 : Int32) (x3 : Int32) (x4 : Nat) (x5 : Int32) (hx4 : x4 < 4), r11 S x1 x3 x4 x5 = some S2 → XJ p l e ({ frames := 3, cells := 0, slots := 0, locals := 66 } : Room) s m args below meth c D (wC cy ad) A 8 (QXv D (wC cy ad) A below args s S2) S 11 [(0, .ref (ad 0)), (1, .int x1), (3, .int x3), (4, .ref (ad (15 + x4))), (5, .int x5)] []) (hk11 : ∀ (S : St) , k11 S  = some S2 → XJ p l e ({ frames := 3, cells := 0, slots := 0, locals := 66 } : Room) s m args below meth c D (wC cy ad) A 8 (QXv D (wC cy ad) A below args s S2) S 108 [] []) (S : St) (x1 : Int32) (x3 : Int32) (x4 : Nat) (x5 : Int32) (y0 : Int32) (hx4 : x4 < 4) (hf : f_X3_offerStarts_L35 r11 k11 S x1 x3 x4 x5 y0 = some S2) : XJ p l e ({ frames := 3, cells := 0, slots := 0, locals := 66 } : Room) s m args below meth c D (wC cy ad) A 8 (QXv D (wC cy ad) A below args s S2) S 35 [(0, .ref (ad 0)), (1, .int x1), (3, .int x3), (4, .ref (ad (15 + x4))), (5, .int x5)] [.int y0] := by
  unfold f_X3_offerStarts_L35 at hf
  refine x_istore (lv2 := [(6, .int y0), (0, .ref (ad 0)), (1, .int x1), (3, .int x3), (4, .ref (ad (15 + x4))), (5, .int x5)]) C dX3_offerStarts_35 (by decide) rfl ?_
  refine x_iload C dX3_offerStarts_37 0 rfl ?_
  refine x_if_ne (tgt := 50) C dX3_offerStarts_39 (by decide) (fun (c_4 : ¬ (y0 = 0)) => ?_) (fun (c_4 : y0 = 0) => ?_)
  · replace hf := x_in c_4 hf
    refine x_sub [1, 2, 3, 4, 5, 0] rfl ?_
    exact t_X3_offerStarts_L50 C hr11 hk11 S x1 x3 x4 x5 y0 hx4 hf
  · replace hf := x_ip c_4 hf
    refine x_aload C dX3_offerStarts_42 4 rfl ?_
    obtain ⟨u18, h19, hf⟩ := x_bd hf
    refine x_callVNi (As := []) (st := []) C (c_X2_isFixed l D cy ad S x4 hx4 h19) ⟨va_cnB 0 C.2.2.2.2.1 gX3_offerStarts_X2_isFixed_n101 rfl rfl rfl (C.2.2.2.2.2.2.2.2.1 (.methodLinkNest RX3 101 yX2_isFixed "ClosureHours") (by decide +kernel)) (C.2.2.2.2.1 (.initialized RX2) (by decide +kernel)) (by decide +kernel) ⟨(by decide), (by decide)⟩, C.2.2.2.2.1 (.instanceMethod yX2_isFixed) (by decide +kernel), C.2.2.2.2.1 (.selects RX2 yX2_isFixed yX2_isFixed) (by decide +kernel)⟩ (15 + x4) (gC_work cy ad S hx4) rfl rfl rfl rfl (Nat.le_of_ble_eq_true rfl) dX3_offerStarts_44 ?_
    refine x_if_ne (tgt := 102) C dX3_offerStarts_47 (by decide) (fun (c_20 : ¬ (u18 = 0)) => ?_) (fun (c_20 : u18 = 0) => ?_)
    · replace hf := x_in c_20 hf
      refine x_iinc (v := x5 + 1) (lv2 := [(5, .int (x5 + 1)), (6, .int y0), (0, .ref (ad 0)), (1, .int x1), (3, .int x3), (4, .ref (ad (15 + x4)))]) C dX3_offerStarts_102 (k0 := 5) rfl rfl (by decide) rfl ?_
      refine x_goto (tgt := 11) C dX3_offerStarts_105 (by decide) ?_
      refine x_sub [2, 3, 4, 5, 0] rfl ?_
      exact hr11 S x1 x3 x4 (x5 + 1) hx4 hf
    · replace hf := x_ip c_20 hf
      refine x_sub [1, 2, 3, 4, 5, 0] rfl ?_
      exact t_X3_offerStarts_L50 C hr11 hk11 S x1 x3 x4 x5 y0 hx4 hf
set_option maxHeartbeats 4000000 in
set_option maxRecDepth 100000 in
theorem t_X3_offerStarts_L11 (C : XC p s m args meth c D A (xty cy) cX3_offerStarts 8 RX3 wsX3_offerStarts (none)) {S2 : St}   {k11 : St → Option (St)} (hk11 : ∀ (S : St) , k11 S  = some S2 → XJ p l e ({ frames := 3, cells := 0, slots := 0, locals := 66 } : Room) s m args below meth c D (wC cy ad) A 8 (QXv D (wC cy ad) A below args s S2) S 108 [] []) : ∀ (n : Nat), ∀ (S : St) (x1 : Int32) (x3 : Int32) (x4 : Nat) (x5 : Int32) (hx4 : x4 < 4), (f_X3_offerStarts_L11  k11 n) S x1 x3 x4 x5 = some S2 → XJ p l e ({ frames := 3, cells := 0, slots := 0, locals := 66 } : Room) s m args below meth c D (wC cy ad) A 8 (QXv D (wC cy ad) A below args s S2) S 11 [(0, .ref (ad 0)), (1, .int x1), (3, .int x3), (4, .ref (ad (15 + x4))), (5, .int x5)] [] := by
  intro n
  induction n with
  | zero => intro S x1 x3 x4 x5 hx4 hf; cases hf
  | succ n ih =>
    intro S x1 x3 x4 x5 hx4 hf
    rw [f_X3_offerStarts_L11] at hf
    refine x_iload C dX3_offerStarts_11 4 rfl ?_
    refine x_aload_n C dX3_offerStarts_13 rfl 0 rfl ?_
    refine x_get (v := .int (S.1 0 0 0)) C iX3_offerStarts_X3 rfl 0 (gC_root cy ad S) 0 (by decide) (by decide +kernel) rfl rfl dX3_offerStarts_14 ?_
    refine x_icmp_ge (tgt := 108) C dX3_offerStarts_17 (by decide) (fun (c_2 : (S.1 0 0 0) ≤ x5) => ?_) (fun (c_2 : ¬ ((S.1 0 0 0) ≤ x5)) => ?_)
    · replace hf := x_ip c_2 hf
      refine x_sub [] rfl ?_
      exact hk11 S   hf
    · replace hf := x_in c_2 hf
      refine x_iload C dX3_offerStarts_20 4 rfl ?_
      refine x_aload C dX3_offerStarts_22 3 rfl ?_
      refine x_getN (v := .int (S.1 9 x4 0)) (host := "ClosureHours") C iX3_offerStarts_X2 rfl (15 + x4) (gC_work cy ad S hx4) 8 (by decide) (by decide +kernel) rfl rfl dX3_offerStarts_24 ?_
      refine x_icmp_ne (tgt := 34) C dX3_offerStarts_27 (by decide) (fun (c_3 : ¬ (x5 = (S.1 9 x4 0))) => ?_) (fun (c_3 : x5 = (S.1 9 x4 0)) => ?_)
      · replace hf := x_in c_3 hf
        refine x_iconst (v := 0) C dX3_offerStarts_34 (by decide) ?_
        exact t_X3_offerStarts_L35 C ih hk11 S x1 x3 x4 x5 0 hx4 hf
      · replace hf := x_ip c_3 hf
        refine x_iconst (v := 1) C dX3_offerStarts_30 (by decide) ?_
        refine x_goto (tgt := 35) C dX3_offerStarts_31 (by decide) ?_
        exact t_X3_offerStarts_L35 C ih hk11 S x1 x3 x4 x5 1 hx4 hf
set_option maxHeartbeats 4000000 in
set_option maxRecDepth 100000 in
theorem c_X3_offerStarts (l : Launch) (D : va_G) (cy : Nat → ClassId) (ad : Nat → Nat) (S : St) (a1 : Int32) (a2 : Int32) (a3 : Int32) {S2 : St}  (hf : f_X3_offerStarts S a1 a2 a3 = some S2) : XMv l D (wC cy ad) (xty cy) yX3_offerStarts wsX3_offerStarts ({ frames := 3, cells := 0, slots := 0, locals := 66 } : Room) [.ref (ad 0), .int a1, .int a2, .int a3] S S2 := by
  refine x_ofWv (cc := cX3_offerStarts) (maxL := 8) (ret := none) (own := RX3) rfl (by decide) rfl (Nat.le_of_ble_eq_true rfl) rfl ?_
  intro p e s m args below meth c A C _
  unfold f_X3_offerStarts at hf
  refine x_aload_n C dX3_offerStarts_0 rfl 0 rfl ?_
  refine x_get (v := .ref (ad 1)) C iX3_offerStarts_X3 rfl 0 (gC_root cy ad S) 1 (by decide) (by decide +kernel) rfl rfl dX3_offerStarts_1 ?_
  refine x_iload_n C dX3_offerStarts_4 rfl 1 rfl ?_
  obtain ⟨g_1, hf⟩ := x_gd hf
  refine x_aald C 1 2 (gC_works cy ad S) rfl rfl g_1 rfl dX3_offerStarts_5 ?_
  refine x_astore (lv2 := [(4, .ref (ad (15 + a1.toNatClampNeg))), (0, .ref (ad 0)), (1, .int a1), (2, .int a2), (3, .int a3)]) C dX3_offerStarts_6 (by decide) rfl ?_
  refine x_iload_n C dX3_offerStarts_8 rfl 3 rfl ?_
  refine x_istore (lv2 := [(5, .int a2), (4, .ref (ad (15 + a1.toNatClampNeg))), (0, .ref (ad 0)), (1, .int a1), (2, .int a2), (3, .int a3)]) C dX3_offerStarts_9 (by decide) rfl ?_
  refine x_sub [2, 3, 5, 1, 0] rfl ?_
  refine t_X3_offerStarts_L11 C  (fun S_21   hf => ?_) 1000 S a1 a3 a1.toNatClampNeg a2 (x_lt g_1) hf
  have e9 := x_s1 hf; subst e9
  exact x_vret C dX3_offerStarts_108
end DX3_offerStarts
set_option maxRecDepth 20000 in
theorem iX1_lightest_X1 : ∀ w ∈ u_ws RX1 TX1 10, w ∈ wsX1_lightest := by decide +kernel
def f_X1_lightest_L3  (k3 : St → Option (Int64)) : Nat → St → Int32 → Int64 → Int32 → Option (Int64)
  | 0 => fun _ _ _ _ => none
  | n + 1 => fun S x1 x2 x4 => if x1 < 0 ∨ 4 ≤ x1.toNatClampNeg then none else if (S.1 19 0 x1.toNatClampNeg) ≤ x4 then (k3 S ) else (if x4 < 0 ∨ 36 ≤ x4.toNatClampNeg then none else (f_X3_hasBit  x2 (S.1 18 x1.toNatClampNeg x4.toNatClampNeg)).bind fun u4 => if u4 = 0 then ((f_X1_lightest_L3  k3 n) S x1 x2 (x4 + 1)) else (if (S.1 18 x1.toNatClampNeg x4.toNatClampNeg) < 0 ∨ 36 ≤ (S.1 18 x1.toNatClampNeg x4.toNatClampNeg).toNatClampNeg then none else some (S.2 2 x1.toNatClampNeg (S.1 18 x1.toNatClampNeg x4.toNatClampNeg).toNatClampNeg)))
def f_X1_lightest (S : St) (a1 : Int32) (a2 : Int64) : Option (Int64) := f_X1_lightest_L3  (fun S_8  => some 4611686018427387904) 1000 S a1 a2 0
section DX1_lightest
variable {p : Program} {l : Launch} {e : Env} {s : State} {m : MethodId} {args : Array Value} {below : List Frame} {meth : Method} {c : Code} {D : va_G} {cy : Nat → ClassId} {ad : Nat → Nat} {A : Nat → Prop}
set_option maxHeartbeats 4000000 in
set_option maxRecDepth 100000 in
theorem t_X1_lightest_L3 (C : XC p s m args meth c D A (xty cy) cX1_lightest 5 RX1 wsX1_lightest (some .long)) {r : Int64}   {k3 : St → Option (Int64)} (hk3 : ∀ (S : St) , k3 S  = some r → XJ p l e ({ frames := 1, cells := 0, slots := 0, locals := 22 } : Room) s m args below meth c D (wC cy ad) A 5 (QXl D (wC cy ad) A below args s r S) S 53 [] []) : ∀ (n : Nat), ∀ (S : St) (x1 : Int32) (x2 : Int64) (x4 : Int32), (f_X1_lightest_L3  k3 n) S x1 x2 x4 = some r → XJ p l e ({ frames := 1, cells := 0, slots := 0, locals := 22 } : Room) s m args below meth c D (wC cy ad) A 5 (QXl D (wC cy ad) A below args s r S) S 3 [(0, .ref (ad 4)), (1, .int x1), (2, .long x2), (4, .int x4)] [] := by
  intro n
  induction n with
  | zero => intro S x1 x2 x4 hf; cases hf
  | succ n ih =>
    intro S x1 x2 x4 hf
    rw [f_X1_lightest_L3] at hf
    refine x_iload C dX1_lightest_3 3 rfl ?_
    refine x_aload_n C dX1_lightest_5 rfl 0 rfl ?_
    refine x_get (v := .ref (ad 8)) C iX1_lightest_X1 rfl 4 (gC_srch cy ad S) 4 (by decide) (by decide +kernel) rfl rfl dX1_lightest_6 ?_
    refine x_iload_n C dX1_lightest_9 rfl 1 rfl ?_
    obtain ⟨g_1, hf⟩ := x_gd hf
    refine x_iald (f := S.1 19 0) C 8 0 (gC_offd cy ad S) rfl g_1 dX1_lightest_10 ?_
    refine x_icmp_ge (tgt := 53) C dX1_lightest_11 (by decide) (fun (c_2 : (S.1 19 0 x1.toNatClampNeg) ≤ x4) => ?_) (fun (c_2 : ¬ ((S.1 19 0 x1.toNatClampNeg) ≤ x4)) => ?_)
    · replace hf := x_ip c_2 hf
      refine x_sub [] rfl ?_
      exact hk3 S   hf
    · replace hf := x_in c_2 hf
      refine x_lload_n C dX1_lightest_14 rfl 2 rfl ?_
      refine x_aload_n C dX1_lightest_15 rfl 0 rfl ?_
      refine x_get (v := .ref (ad 13)) C iX1_lightest_X1 rfl 4 (gC_srch cy ad S) 3 (by decide) (by decide +kernel) rfl rfl dX1_lightest_16 ?_
      refine x_iload_n C dX1_lightest_19 rfl 1 rfl ?_
      refine x_aald C 13 3 (gC_ordO cy ad S) rfl rfl g_1 rfl dX1_lightest_20 ?_
      refine x_iload C dX1_lightest_21 3 rfl ?_
      obtain ⟨g_3, hf⟩ := x_gd hf
      refine x_iald (f := S.1 18 x1.toNatClampNeg) C (31 + x1.toNatClampNeg) 0 (gC_ord cy ad S (x_lt g_1)) rfl g_3 dX1_lightest_23 ?_
      obtain ⟨u4, h5, hf⟩ := x_bd hf
      refine x_callSNi (As := [.long x2, .int (S.1 18 x1.toNatClampNeg x4.toNatClampNeg)]) (st := []) C (c_X3_hasBit l D cy ad (wC cy ad) S x2 (S.1 18 x1.toNatClampNeg x4.toNatClampNeg)  h5) ⟨va_cnB 2 C.2.2.2.2.1 gX1_lightest_X3_hasBit_n72 rfl rfl rfl (C.2.2.2.2.2.2.2.2.1 (.methodLinkNest RX1 72 yX3_hasBit "ClosureHours") (by decide +kernel)) (C.2.2.2.2.1 (.initialized RX3) (by decide +kernel)) (by decide +kernel) ⟨(by decide), (by decide)⟩, C.2.2.2.2.1 (.static yX3_hasBit) (by decide +kernel), trivial⟩ rfl rfl (Nat.le_of_ble_eq_true rfl) dX1_lightest_24 ?_
      refine x_if_eq (tgt := 47) C dX1_lightest_27 (by decide) (fun (c_6 : u4 = 0) => ?_) (fun (c_6 : ¬ (u4 = 0)) => ?_)
      · replace hf := x_ip c_6 hf
        refine x_iinc (v := x4 + 1) (lv2 := [(4, .int (x4 + 1)), (0, .ref (ad 4)), (1, .int x1), (2, .long x2)]) C dX1_lightest_47 (k0 := 3) rfl rfl (by decide) rfl ?_
        refine x_goto (tgt := 3) C dX1_lightest_50 (by decide) ?_
        refine x_sub [1, 2, 3, 0] rfl ?_
        exact ih S x1 x2 (x4 + 1)  hf
      · replace hf := x_in c_6 hf
        refine x_aload_n C dX1_lightest_30 rfl 0 rfl ?_
        refine x_get (v := .ref (ad 12)) C iX1_lightest_X1 rfl 4 (gC_srch cy ad S) 2 (by decide) (by decide +kernel) rfl rfl dX1_lightest_31 ?_
        refine x_iload_n C dX1_lightest_34 rfl 1 rfl ?_
        refine x_aald C 12 4 (gC_weisO cy ad S) rfl rfl g_1 rfl dX1_lightest_35 ?_
        refine x_aload_n C dX1_lightest_36 rfl 0 rfl ?_
        refine x_get (v := .ref (ad 13)) C iX1_lightest_X1 rfl 4 (gC_srch cy ad S) 3 (by decide) (by decide +kernel) rfl rfl dX1_lightest_37 ?_
        refine x_iload_n C dX1_lightest_40 rfl 1 rfl ?_
        refine x_aald C 13 3 (gC_ordO cy ad S) rfl rfl g_1 rfl dX1_lightest_41 ?_
        refine x_iload C dX1_lightest_42 3 rfl ?_
        refine x_iald (f := S.1 18 x1.toNatClampNeg) C (31 + x1.toNatClampNeg) 0 (gC_ord cy ad S (x_lt g_1)) rfl g_3 dX1_lightest_44 ?_
        obtain ⟨g_7, hf⟩ := x_gd hf
        refine x_lald (f := S.2 2 x1.toNatClampNeg) C (27 + x1.toNatClampNeg) 1 (gC_weis cy ad S (x_lt g_1)) rfl g_7 dX1_lightest_45 ?_
        have e9 := x_s1 hf; subst e9
        exact x_lret C dX1_lightest_46
set_option maxHeartbeats 4000000 in
set_option maxRecDepth 100000 in
theorem c_X1_lightest (l : Launch) (D : va_G) (cy : Nat → ClassId) (ad : Nat → Nat) (S : St) (a1 : Int32) (a2 : Int64) {r : Int64}  (hf : f_X1_lightest S a1 a2 = some r) : XMl l D (wC cy ad) (xty cy) yX1_lightest wsX1_lightest ({ frames := 1, cells := 0, slots := 0, locals := 22 } : Room) [.ref (ad 4), .int a1, .long a2] S r S := by
  refine x_ofWl (cc := cX1_lightest) (maxL := 5) (ret := some .long) (own := RX1) rfl (by decide) rfl (Nat.le_of_ble_eq_true rfl) rfl ?_
  intro p e s m args below meth c A C _
  unfold f_X1_lightest at hf
  refine x_iconst (v := 0) C dX1_lightest_0 (by decide) ?_
  refine x_istore (lv2 := [(4, .int 0), (0, .ref (ad 4)), (1, .int a1), (2, .long a2)]) C dX1_lightest_1 (by decide) rfl ?_
  refine x_sub [1, 2, 3, 0] rfl ?_
  refine t_X1_lightest_L3 C  (fun S_8   hf => ?_) 1000 S a1 a2 0  hf
  refine x_ldc2 (v := 4611686018427387904) C (by decide +kernel) dX1_lightest_53 ?_
  have e9 := x_s1 hf; subst e9
  exact x_lret C dX1_lightest_56
end DX1_lightest
