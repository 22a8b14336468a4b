set_option maxRecDepth 20000 in
theorem iX4_span_X4 : ∀ w ∈ u_ws RX4 TX4 25, w ∈ wsX4_span := by decide +kernel
def f_X4_span (S : St) (a1 : Int32) : Option (Int32) := if a1 < 0 ∨ 4 ≤ a1.toNatClampNeg then none else some ((S.1 3 0 a1.toNatClampNeg) + (S.1 2 0 a1.toNatClampNeg))
section DX4_span
variable {p : Program} {l : Launch} {e : Env} {s : State} {m : MethodId} {args : Array Value} {below : List Frame} {meth : Method} {c : Code} {D : va_G} {cy : Nat → ClassId} {ad : Nat → Nat} {A : Nat → Prop}
set_option maxHeartbeats 4000000 in
set_option maxRecDepth 100000 in
theorem c_X4_span (l : Launch) (D : va_G) (cy : Nat → ClassId) (ad : Nat → Nat) (S : St) (a1 : Int32) {r : Int32}  (hf : f_X4_span S a1 = some r) : XMi l D (wM cy ad) (xty cy) yX4_span wsX4_span ({ frames := 0, cells := 0, slots := 0, locals := 0 } : Room) [.ref (ad 0), .int a1] S r S := by
  refine x_ofWi (cc := cX4_span) (maxL := 2) (ret := some .int) (own := RX4) rfl (by decide) rfl (Nat.le_of_ble_eq_true rfl) rfl ?_
  intro p e s m args below meth c A C _
  unfold f_X4_span at hf
  refine x_aload_n C dX4_span_0 rfl 0 rfl ?_
  refine x_get (v := .ref (ad 2)) C iX4_span_X4 rfl 0 (gM_root cy ad S) 3 (by decide) (by decide +kernel) rfl rfl dX4_span_1 ?_
  refine x_iload_n C dX4_span_4 rfl 1 rfl ?_
  obtain ⟨g_1, hf⟩ := x_gd hf
  refine x_iald (f := S.1 3 0) C 2 0 (gM_setUps cy ad S) rfl g_1 dX4_span_5 ?_
  refine x_aload_n C dX4_span_6 rfl 0 rfl ?_
  refine x_get (v := .ref (ad 1)) C iX4_span_X4 rfl 0 (gM_root cy ad S) 2 (by decide) (by decide +kernel) rfl rfl dX4_span_7 ?_
  refine x_iload_n C dX4_span_10 rfl 1 rfl ?_
  refine x_iald (f := S.1 2 0) C 1 0 (gM_lengths cy ad S) rfl g_1 dX4_span_11 ?_
  refine x_iadd C dX4_span_12 ?_
  have e9 := x_s1 hf; subst e9
  exact x_iret C dX4_span_13
end DX4_span
set_option maxRecDepth 20000 in
theorem iX4_breaksAlone_X4 : ∀ w ∈ u_ws RX4 TX4 25, w ∈ wsX4_breaksAlone := by decide +kernel
def f_X4_breaksAlone_L137 (r21 : St → Int32 → Int32 → Int32 → Int32 → Option (Int32)) (k21 : St → Int32 → Option (Int32)) (S : St) (x1 : Int32) (x2 : Int32) (x3 : Int32) (x4 : Int32) (y0 : Int32) : Option (Int32) := if y0 ≤ 0 then (r21 S x1 x2 x3 (x4 + 1)) else (if x3 = 0 then (r21 S x1 x2 y0 (x4 + 1)) else (if x3 ≤ y0 then (r21 S x1 x2 x3 (x4 + 1)) else (r21 S x1 x2 y0 (x4 + 1))))
def f_X4_breaksAlone_L136 (r21 : St → Int32 → Int32 → Int32 → Int32 → Option (Int32)) (k21 : St → Int32 → Option (Int32)) (S : St) (x1 : Int32) (x2 : Int32) (x3 : Int32) (x4 : Int32) : Option (Int32) := f_X4_breaksAlone_L137 r21 k21 S x1 x2 x3 x4 0
def f_X4_breaksAlone_L78 (r21 : St → Int32 → Int32 → Int32 → Int32 → Option (Int32)) (k21 : St → Int32 → Option (Int32)) (S : St) (x1 : Int32) (x2 : Int32) (x3 : Int32) (x4 : Int32) : Option (Int32) := if ((36 * x1) + x4) < 0 ∨ 144 ≤ ((36 * x1) + x4).toNatClampNeg then none else if (S.1 7 0 ((36 * x1) + x4).toNatClampNeg) = 0 then (if x1 < 0 ∨ 4 ≤ x1.toNatClampNeg then none else if x4 < (x2 + (S.1 3 0 x1.toNatClampNeg)) then (f_X4_breaksAlone_L136 r21 k21 S x1 x2 x3 x4) else (if x4 < (S.1 8 0 x1.toNatClampNeg) then (f_X4_breaksAlone_L136 r21 k21 S x1 x2 x3 x4) else (if (S.1 9 0 x1.toNatClampNeg) < x4 then (f_X4_breaksAlone_L136 r21 k21 S x1 x2 x3 x4) else (f_X4_breaksAlone_L137 r21 k21 S x1 x2 x3 x4 4)))) else (f_X4_breaksAlone_L137 r21 k21 S x1 x2 x3 x4 3)
def f_X4_breaksAlone_L58 (r21 : St → Int32 → Int32 → Int32 → Int32 → Option (Int32)) (k21 : St → Int32 → Option (Int32)) (S : St) (x1 : Int32) (x2 : Int32) (x3 : Int32) (x4 : Int32) (y0 : Int32) : Option (Int32) := if x1 < 0 ∨ 4 ≤ x1.toNatClampNeg then none else if (S.1 6 0 x1.toNatClampNeg) = 0 then (f_X4_breaksAlone_L78 r21 k21 S x1 x2 x3 x4) else (if y0 = 0 then (f_X4_breaksAlone_L137 r21 k21 S x1 x2 x3 x4 2) else (f_X4_breaksAlone_L78 r21 k21 S x1 x2 x3 x4))
def f_X4_breaksAlone_L53 (r21 : St → Int32 → Int32 → Int32 → Int32 → Option (Int32)) (k21 : St → Int32 → Option (Int32)) (S : St) (x1 : Int32) (x2 : Int32) (x3 : Int32) (x4 : Int32) : Option (Int32) := f_X4_breaksAlone_L58 r21 k21 S x1 x2 x3 x4 1
def f_X4_breaksAlone_L21  (k21 : St → Int32 → Option (Int32)) : Nat → St → Int32 → Int32 → Int32 → Int32 → Option (Int32)
  | 0 => fun _ _ _ _ _ => none
  | n + 1 => fun S x1 x2 x3 x4 => (f_X4_span S x1).bind fun u4 => if (x2 + u4) ≤ x4 then (k21 S x3) else (if (20 : Int32) ≤ (x4 - x4 / 24 * 24) then (f_X4_breaksAlone_L53 (f_X4_breaksAlone_L21  k21 n) k21 S x1 x2 x3 x4) else (if (4 : Int32) < (x4 - x4 / 24 * 24) then (f_X4_breaksAlone_L58 (f_X4_breaksAlone_L21  k21 n) k21 S x1 x2 x3 x4 0) else (f_X4_breaksAlone_L53 (f_X4_breaksAlone_L21  k21 n) k21 S x1 x2 x3 x4)))
def f_X4_breaksAlone (S : St) (a1 : Int32) (a2 : Int32) : Option (Int32) := (f_X4_span S a1).bind fun u1 => if (a2 + u1) ≤ (S.1 0 0 0) then (f_X4_breaksAlone_L21  (fun S_21 x3_21 => some x3_21) 1000 S a1 a2 0 a2) else (some 1)
section DX4_breaksAlone
variable {p : Program} {l : Launch} {e : Env} {s : State} {m : MethodId} {args : Array Value} {below : List Frame} {meth : Method} {c : Code} {D : va_G} {cy : Nat → ClassId} {ad : Nat → Nat} {A : Nat → Prop}
set_option maxHeartbeats 4000000 in
set_option maxRecDepth 100000 in
theorem t_X4_breaksAlone_L137 (C : XC p s m args meth c D A (xty cy) cX4_breaksAlone 8 RX4 wsX4_breaksAlone (some .int)) {r : Int32} {r21 : St → Int32 → Int32 → Int32 → Int32 → Option (Int32)} {k21 : St → Int32 → Option (Int32)} (hr21 : ∀ (S : St) (x1 : Int32) (x2 : Int32) (x3 : Int32) (x4 : Int32), r21 S x1 x2 x3 x4 = some r → XJ p l e ({ frames := 1, cells := 0, slots := 0, locals := 21 } : Room) s m args below meth c D (wM cy ad) A 8 (QXi D (wM cy ad) A below args s r S) S 21 [(0, .ref (ad 0)), (1, .int x1), (2, .int x2), (3, .int x3), (4, .int x4)] []) (hk21 : ∀ (S : St) (x3 : Int32), k21 S x3 = some r → XJ p l e ({ frames := 1, cells := 0, slots := 0, locals := 21 } : Room) s m args below meth c D (wM cy ad) A 8 (QXi D (wM cy ad) A below args s r S) S 167 [(3, .int x3)] []) (S : St) (x1 : Int32) (x2 : Int32) (x3 : Int32) (x4 : Int32) (y0 : Int32)  (hf : f_X4_breaksAlone_L137 r21 k21 S x1 x2 x3 x4 y0 = some r) : XJ p l e ({ frames := 1, cells := 0, slots := 0, locals := 21 } : Room) s m args below meth c D (wM cy ad) A 8 (QXi D (wM cy ad) A below args s r S) S 137 [(0, .ref (ad 0)), (1, .int x1), (2, .int x2), (3, .int x3), (4, .int x4)] [.int y0] := by
  unfold f_X4_breaksAlone_L137 at hf
  refine x_istore (lv2 := [(7, .int y0), (0, .ref (ad 0)), (1, .int x1), (2, .int x2), (3, .int x3), (4, .int x4)]) C dX4_breaksAlone_137 (by decide) rfl ?_
  refine x_iload C dX4_breaksAlone_139 0 rfl ?_
  refine x_if_le (tgt := 159) C dX4_breaksAlone_141 (by decide) (fun (c_14 : y0 ≤ 0) => ?_) (fun (c_14 : ¬ (y0 ≤ 0)) => ?_)
  · replace hf := x_ip c_14 hf
    refine x_iload_n C dX4_breaksAlone_159 rfl 4 rfl ?_
    refine x_istore_n (lv2 := [(3, .int x3), (7, .int y0), (0, .ref (ad 0)), (1, .int x1), (2, .int x2), (4, .int x4)]) C dX4_breaksAlone_160 rfl (by decide) rfl ?_
    refine x_iinc (v := x4 + 1) (lv2 := [(4, .int (x4 + 1)), (3, .int x3), (7, .int y0), (0, .ref (ad 0)), (1, .int x1), (2, .int x2)]) C dX4_breaksAlone_161 (k0 := 5) rfl rfl (by decide) rfl ?_
    refine x_goto (tgt := 21) C dX4_breaksAlone_164 (by decide) ?_
    refine x_sub [3, 4, 5, 1, 0] rfl ?_
    exact hr21 S x1 x2 x3 (x4 + 1)  hf
  · replace hf := x_in c_14 hf
    refine x_iload_n C dX4_breaksAlone_144 rfl 4 rfl ?_
    refine x_if_eq (tgt := 154) C dX4_breaksAlone_145 (by decide) (fun (c_15 : x3 = 0) => ?_) (fun (c_15 : ¬ (x3 = 0)) => ?_)
    · replace hf := x_ip c_15 hf
      refine x_iload C dX4_breaksAlone_154 0 rfl ?_
      refine x_goto (tgt := 160) C dX4_breaksAlone_156 (by decide) ?_
      refine x_istore_n (lv2 := [(3, .int y0), (7, .int y0), (0, .ref (ad 0)), (1, .int x1), (2, .int x2), (4, .int x4)]) C dX4_breaksAlone_160 rfl (by decide) rfl ?_
      refine x_iinc (v := x4 + 1) (lv2 := [(4, .int (x4 + 1)), (3, .int y0), (7, .int y0), (0, .ref (ad 0)), (1, .int x1), (2, .int x2)]) C dX4_breaksAlone_161 (k0 := 5) rfl rfl (by decide) rfl ?_
      refine x_goto (tgt := 21) C dX4_breaksAlone_164 (by decide) ?_
      refine x_sub [3, 4, 5, 1, 0] rfl ?_
      exact hr21 S x1 x2 y0 (x4 + 1)  hf
    · replace hf := x_in c_15 hf
      refine x_iload C dX4_breaksAlone_148 0 rfl ?_
      refine x_iload_n C dX4_breaksAlone_150 rfl 4 rfl ?_
      refine x_icmp_ge (tgt := 159) C dX4_breaksAlone_151 (by decide) (fun (c_16 : x3 ≤ y0) => ?_) (fun (c_16 : ¬ (x3 ≤ y0)) => ?_)
      · replace hf := x_ip c_16 hf
        refine x_iload_n C dX4_breaksAlone_159 rfl 4 rfl ?_
        refine x_istore_n (lv2 := [(3, .int x3), (7, .int y0), (0, .ref (ad 0)), (1, .int x1), (2, .int x2), (4, .int x4)]) C dX4_breaksAlone_160 rfl (by decide) rfl ?_
        refine x_iinc (v := x4 + 1) (lv2 := [(4, .int (x4 + 1)), (3, .int x3), (7, .int y0), (0, .ref (ad 0)), (1, .int x1), (2, .int x2)]) C dX4_breaksAlone_161 (k0 := 5) rfl rfl (by decide) rfl ?_
        refine x_goto (tgt := 21) C dX4_breaksAlone_164 (by decide) ?_
        refine x_sub [3, 4, 5, 1, 0] rfl ?_
        exact hr21 S x1 x2 x3 (x4 + 1)  hf
      · replace hf := x_in c_16 hf
        refine x_iload C dX4_breaksAlone_154 0 rfl ?_
        refine x_goto (tgt := 160) C dX4_breaksAlone_156 (by decide) ?_
        refine x_istore_n (lv2 := [(3, .int y0), (7, .int y0), (0, .ref (ad 0)), (1, .int x1), (2, .int x2), (4, .int x4)]) C dX4_breaksAlone_160 rfl (by decide) rfl ?_
        refine x_iinc (v := x4 + 1) (lv2 := [(4, .int (x4 + 1)), (3, .int y0), (7, .int y0), (0, .ref (ad 0)), (1, .int x1), (2, .int x2)]) C dX4_breaksAlone_161 (k0 := 5) rfl rfl (by decide) rfl ?_
        refine x_goto (tgt := 21) C dX4_breaksAlone_164 (by decide) ?_
        refine x_sub [3, 4, 5, 1, 0] rfl ?_
        exact hr21 S x1 x2 y0 (x4 + 1)  hf
set_option maxHeartbeats 4000000 in
set_option maxRecDepth 100000 in
theorem t_X4_breaksAlone_L136 (C : XC p s m args meth c D A (xty cy) cX4_breaksAlone 8 RX4 wsX4_breaksAlone (some .int)) {r : Int32} {r21 : St → Int32 → Int32 → Int32 → Int32 → Option (Int32)} {k21 : St → Int32 → Option (Int32)} (hr21 : ∀ (S : St) (x1 : Int32) (x2 : Int32) (x3 : Int32) (x4 : Int32), r21 S x1 x2 x3 x4 = some r → XJ p l e ({ frames := 1, cells := 0, slots := 0, locals := 21 } : Room) s m args below meth c D (wM cy ad) A 8 (QXi D (wM cy ad) A below args s r S) S 21 [(0, .ref (ad 0)), (1, .int x1), (2, .int x2), (3, .int x3), (4, .int x4)] []) (hk21 : ∀ (S : St) (x3 : Int32), k21 S x3 = some r → XJ p l e ({ frames := 1, cells := 0, slots := 0, locals := 21 } : Room) s m args below meth c D (wM cy ad) A 8 (QXi D (wM cy ad) A below args s r S) S 167 [(3, .int x3)] []) (S : St) (x1 : Int32) (x2 : Int32) (x3 : Int32) (x4 : Int32)  (hf : f_X4_breaksAlone_L136 r21 k21 S x1 x2 x3 x4 = some r) : XJ p l e ({ frames := 1, cells := 0, slots := 0, locals := 21 } : Room) s m args below meth c D (wM cy ad) A 8 (QXi D (wM cy ad) A below args s r S) S 136 [(0, .ref (ad 0)), (1, .int x1), (2, .int x2), (3, .int x3), (4, .int x4)] [] := by
  unfold f_X4_breaksAlone_L136 at hf
  refine x_iconst (v := 0) C dX4_breaksAlone_136 (by decide) ?_
  exact t_X4_breaksAlone_L137 C hr21 hk21 S x1 x2 x3 x4 0  hf
set_option maxHeartbeats 4000000 in
set_option maxRecDepth 100000 in
theorem t_X4_breaksAlone_L78 (C : XC p s m args meth c D A (xty cy) cX4_breaksAlone 8 RX4 wsX4_breaksAlone (some .int)) {r : Int32} {r21 : St → Int32 → Int32 → Int32 → Int32 → Option (Int32)} {k21 : St → Int32 → Option (Int32)} (hr21 : ∀ (S : St) (x1 : Int32) (x2 : Int32) (x3 : Int32) (x4 : Int32), r21 S x1 x2 x3 x4 = some r → XJ p l e ({ frames := 1, cells := 0, slots := 0, locals := 21 } : Room) s m args below meth c D (wM cy ad) A 8 (QXi D (wM cy ad) A below args s r S) S 21 [(0, .ref (ad 0)), (1, .int x1), (2, .int x2), (3, .int x3), (4, .int x4)] []) (hk21 : ∀ (S : St) (x3 : Int32), k21 S x3 = some r → XJ p l e ({ frames := 1, cells := 0, slots := 0, locals := 21 } : Room) s m args below meth c D (wM cy ad) A 8 (QXi D (wM cy ad) A below args s r S) S 167 [(3, .int x3)] []) (S : St) (x1 : Int32) (x2 : Int32) (x3 : Int32) (x4 : Int32)  (hf : f_X4_breaksAlone_L78 r21 k21 S x1 x2 x3 x4 = some r) : XJ p l e ({ frames := 1, cells := 0, slots := 0, locals := 21 } : Room) s m args below meth c D (wM cy ad) A 8 (QXi D (wM cy ad) A below args s r S) S 78 [(0, .ref (ad 0)), (1, .int x1), (2, .int x2), (3, .int x3), (4, .int x4)] [] := by
  unfold f_X4_breaksAlone_L78 at hf
  refine x_aload_n C dX4_breaksAlone_78 rfl 0 rfl ?_
  refine x_get (v := .ref (ad 6)) C iX4_breaksAlone_X4 rfl 0 (gM_root cy ad S) 7 (by decide) (by decide +kernel) rfl rfl dX4_breaksAlone_79 ?_
  refine x_bipush (v := 36) C dX4_breaksAlone_82 (by decide) ?_
  refine x_iload_n C dX4_breaksAlone_84 rfl 1 rfl ?_
  refine x_imul C dX4_breaksAlone_85 ?_
  refine x_iload C dX4_breaksAlone_86 4 rfl ?_
  refine x_iadd C dX4_breaksAlone_88 ?_
  obtain ⟨g_10, hf⟩ := x_gd hf
  refine x_zald (f := S.1 7 0) C 6 5 (gM_events cy ad S) rfl g_10 dX4_breaksAlone_89 ?_
  refine x_if_eq (tgt := 97) C dX4_breaksAlone_90 (by decide) (fun (c_11 : (S.1 7 0 ((36 * x1) + x4).toNatClampNeg) = 0) => ?_) (fun (c_11 : ¬ ((S.1 7 0 ((36 * x1) + x4).toNatClampNeg) = 0)) => ?_)
  · replace hf := x_ip c_11 hf
    refine x_iload C dX4_breaksAlone_97 4 rfl ?_
    refine x_iload_n C dX4_breaksAlone_99 rfl 2 rfl ?_
    refine x_aload_n C dX4_breaksAlone_100 rfl 0 rfl ?_
    refine x_get (v := .ref (ad 2)) C iX4_breaksAlone_X4 rfl 0 (gM_root cy ad S) 3 (by decide) (by decide +kernel) rfl rfl dX4_breaksAlone_101 ?_
    refine x_iload_n C dX4_breaksAlone_104 rfl 1 rfl ?_
    obtain ⟨g_12, hf⟩ := x_gd hf
    refine x_iald (f := S.1 3 0) C 2 0 (gM_setUps cy ad S) rfl g_12 dX4_breaksAlone_105 ?_
    refine x_iadd C dX4_breaksAlone_106 ?_
    refine x_icmp_lt (tgt := 136) C dX4_breaksAlone_107 (by decide) (fun (c_13 : x4 < (x2 + (S.1 3 0 x1.toNatClampNeg))) => ?_) (fun (c_13 : ¬ (x4 < (x2 + (S.1 3 0 x1.toNatClampNeg)))) => ?_)
    · replace hf := x_ip c_13 hf
      exact t_X4_breaksAlone_L136 C hr21 hk21 S x1 x2 x3 x4  hf
    · replace hf := x_in c_13 hf
      refine x_iload C dX4_breaksAlone_110 4 rfl ?_
      refine x_aload_n C dX4_breaksAlone_112 rfl 0 rfl ?_
      refine x_get (v := .ref (ad 7)) C iX4_breaksAlone_X4 rfl 0 (gM_root cy ad S) 8 (by decide) (by decide +kernel) rfl rfl dX4_breaksAlone_113 ?_
      refine x_iload_n C dX4_breaksAlone_116 rfl 1 rfl ?_
      refine x_iald (f := S.1 8 0) C 7 0 (gM_noiseFrom cy ad S) rfl g_12 dX4_breaksAlone_117 ?_
      refine x_icmp_lt (tgt := 136) C dX4_breaksAlone_118 (by decide) (fun (c_17 : x4 < (S.1 8 0 x1.toNatClampNeg)) => ?_) (fun (c_17 : ¬ (x4 < (S.1 8 0 x1.toNatClampNeg))) => ?_)
      · replace hf := x_ip c_17 hf
        exact t_X4_breaksAlone_L136 C hr21 hk21 S x1 x2 x3 x4  hf
      · replace hf := x_in c_17 hf
        refine x_iload C dX4_breaksAlone_121 4 rfl ?_
        refine x_aload_n C dX4_breaksAlone_123 rfl 0 rfl ?_
        refine x_get (v := .ref (ad 8)) C iX4_breaksAlone_X4 rfl 0 (gM_root cy ad S) 9 (by decide) (by decide +kernel) rfl rfl dX4_breaksAlone_124 ?_
        refine x_iload_n C dX4_breaksAlone_127 rfl 1 rfl ?_
        refine x_iald (f := S.1 9 0) C 8 0 (gM_noiseTo cy ad S) rfl g_12 dX4_breaksAlone_128 ?_
        refine x_icmp_gt (tgt := 136) C dX4_breaksAlone_129 (by decide) (fun (c_18 : (S.1 9 0 x1.toNatClampNeg) < x4) => ?_) (fun (c_18 : ¬ ((S.1 9 0 x1.toNatClampNeg) < x4)) => ?_)
        · replace hf := x_ip c_18 hf
          exact t_X4_breaksAlone_L136 C hr21 hk21 S x1 x2 x3 x4  hf
        · replace hf := x_in c_18 hf
          refine x_iconst (v := 4) C dX4_breaksAlone_132 (by decide) ?_
          refine x_goto (tgt := 137) C dX4_breaksAlone_133 (by decide) ?_
          exact t_X4_breaksAlone_L137 C hr21 hk21 S x1 x2 x3 x4 4  hf
  · replace hf := x_in c_11 hf
    refine x_iconst (v := 3) C dX4_breaksAlone_93 (by decide) ?_
    refine x_goto (tgt := 137) C dX4_breaksAlone_94 (by decide) ?_
    exact t_X4_breaksAlone_L137 C hr21 hk21 S x1 x2 x3 x4 3  hf
set_option maxHeartbeats 4000000 in
set_option maxRecDepth 100000 in
theorem t_X4_breaksAlone_L58 (C : XC p s m args meth c D A (xty cy) cX4_breaksAlone 8 RX4 wsX4_breaksAlone (some .int)) {r : Int32} {r21 : St → Int32 → Int32 → Int32 → Int32 → Option (Int32)} {k21 : St → Int32 → Option (Int32)} (hr21 : ∀ (S : St) (x1 : Int32) (x2 : Int32) (x3 : Int32) (x4 : Int32), r21 S x1 x2 x3 x4 = some r → XJ p l e ({ frames := 1, cells := 0, slots := 0, locals := 21 } : Room) s m args below meth c D (wM cy ad) A 8 (QXi D (wM cy ad) A below args s r S) S 21 [(0, .ref (ad 0)), (1, .int x1), (2, .int x2), (3, .int x3), (4, .int x4)] []) (hk21 : ∀ (S : St) (x3 : Int32), k21 S x3 = some r → XJ p l e ({ frames := 1, cells := 0, slots := 0, locals := 21 } : Room) s m args below meth c D (wM cy ad) A 8 (QXi D (wM cy ad) A below args s r S) S 167 [(3, .int x3)] []) (S : St) (x1 : Int32) (x2 : Int32) (x3 : Int32) (x4 : Int32) (y0 : Int32)  (hf : f_X4_breaksAlone_L58 r21 k21 S x1 x2 x3 x4 y0 = some r) : XJ p l e ({ frames := 1, cells := 0, slots := 0, locals := 21 } : Room) s m args below meth c D (wM cy ad) A 8 (QXi D (wM cy ad) A below args s r S) S 58 [(0, .ref (ad 0)), (1, .int x1), (2, .int x2), (3, .int x3), (4, .int x4)] [.int y0] := by
  unfold f_X4_breaksAlone_L58 at hf
  refine x_istore (lv2 := [(6, .int y0), (0, .ref (ad 0)), (1, .int x1), (2, .int x2), (3, .int x3), (4, .int x4)]) C dX4_breaksAlone_58 (by decide) rfl ?_
  refine x_aload_n C dX4_breaksAlone_60 rfl 1 rfl ?_
  refine x_get (v := .ref (ad 5)) C iX4_breaksAlone_X4 rfl 0 (gM_root cy ad S) 6 (by decide) (by decide +kernel) rfl rfl dX4_breaksAlone_61 ?_
  refine x_iload_n C dX4_breaksAlone_64 rfl 2 rfl ?_
  obtain ⟨g_8, hf⟩ := x_gd hf
  refine x_zald (f := S.1 6 0) C 5 5 (gM_nights cy ad S) rfl g_8 dX4_breaksAlone_65 ?_
  refine x_if_eq (tgt := 78) C dX4_breaksAlone_66 (by decide) (fun (c_9 : (S.1 6 0 x1.toNatClampNeg) = 0) => ?_) (fun (c_9 : ¬ ((S.1 6 0 x1.toNatClampNeg) = 0)) => ?_)
  · replace hf := x_ip c_9 hf
    refine x_sub [1, 2, 3, 4, 5] rfl ?_
    exact t_X4_breaksAlone_L78 C hr21 hk21 S x1 x2 x3 x4  hf
  · replace hf := x_in c_9 hf
    refine x_iload C dX4_breaksAlone_69 0 rfl ?_
    refine x_if_ne (tgt := 78) C dX4_breaksAlone_71 (by decide) (fun (c_19 : ¬ (y0 = 0)) => ?_) (fun (c_19 : y0 = 0) => ?_)
    · replace hf := x_in c_19 hf
      refine x_sub [1, 2, 3, 4, 5] rfl ?_
      exact t_X4_breaksAlone_L78 C hr21 hk21 S x1 x2 x3 x4  hf
    · replace hf := x_ip c_19 hf
      refine x_iconst (v := 2) C dX4_breaksAlone_74 (by decide) ?_
      refine x_goto (tgt := 137) C dX4_breaksAlone_75 (by decide) ?_
      refine x_sub [1, 2, 3, 4, 5] rfl ?_
      exact t_X4_breaksAlone_L137 C hr21 hk21 S x1 x2 x3 x4 2  hf
set_option maxHeartbeats 4000000 in
set_option maxRecDepth 100000 in
theorem t_X4_breaksAlone_L53 (C : XC p s m args meth c D A (xty cy) cX4_breaksAlone 8 RX4 wsX4_breaksAlone (some .int)) {r : Int32} {r21 : St → Int32 → Int32 → Int32 → Int32 → Option (Int32)} {k21 : St → Int32 → Option (Int32)} (hr21 : ∀ (S : St) (x1 : Int32) (x2 : Int32) (x3 : Int32) (x4 : Int32), r21 S x1 x2 x3 x4 = some r → XJ p l e ({ frames := 1, cells := 0, slots := 0, locals := 21 } : Room) s m args below meth c D (wM cy ad) A 8 (QXi D (wM cy ad) A below args s r S) S 21 [(0, .ref (ad 0)), (1, .int x1), (2, .int x2), (3, .int x3), (4, .int x4)] []) (hk21 : ∀ (S : St) (x3 : Int32), k21 S x3 = some r → XJ p l e ({ frames := 1, cells := 0, slots := 0, locals := 21 } : Room) s m args below meth c D (wM cy ad) A 8 (QXi D (wM cy ad) A below args s r S) S 167 [(3, .int x3)] []) (S : St) (x1 : Int32) (x2 : Int32) (x3 : Int32) (x4 : Int32)  (hf : f_X4_breaksAlone_L53 r21 k21 S x1 x2 x3 x4 = some r) : XJ p l e ({ frames := 1, cells := 0, slots := 0, locals := 21 } : Room) s m args below meth c D (wM cy ad) A 8 (QXi D (wM cy ad) A below args s r S) S 53 [(0, .ref (ad 0)), (1, .int x1), (2, .int x2), (3, .int x3), (4, .int x4)] [] := by
  unfold f_X4_breaksAlone_L53 at hf
  refine x_iconst (v := 1) C dX4_breaksAlone_53 (by decide) ?_
  refine x_goto (tgt := 58) C dX4_breaksAlone_54 (by decide) ?_
  exact t_X4_breaksAlone_L58 C hr21 hk21 S x1 x2 x3 x4 1  hf
set_option maxHeartbeats 4000000 in
set_option maxRecDepth 100000 in
theorem t_X4_breaksAlone_L21 (C : XC p s m args meth c D A (xty cy) cX4_breaksAlone 8 RX4 wsX4_breaksAlone (some .int)) {r : Int32}   {k21 : St → Int32 → Option (Int32)} (hk21 : ∀ (S : St) (x3 : Int32), k21 S x3 = some r → XJ p l e ({ frames := 1, cells := 0, slots := 0, locals := 21 } : Room) s m args below meth c D (wM cy ad) A 8 (QXi D (wM cy ad) A below args s r S) S 167 [(3, .int x3)] []) : ∀ (n : Nat), ∀ (S : St) (x1 : Int32) (x2 : Int32) (x3 : Int32) (x4 : Int32), (f_X4_breaksAlone_L21  k21 n) S x1 x2 x3 x4 = some r → XJ p l e ({ frames := 1, cells := 0, slots := 0, locals := 21 } : Room) s m args below meth c D (wM cy ad) A 8 (QXi D (wM cy ad) A below args s r S) S 21 [(0, .ref (ad 0)), (1, .int x1), (2, .int x2), (3, .int x3), (4, .int x4)] [] := by
  intro n
  induction n with
  | zero => intro S x1 x2 x3 x4 hf; cases hf
  | succ n ih =>
    intro S x1 x2 x3 x4 hf
    rw [f_X4_breaksAlone_L21] at hf
    refine x_iload C dX4_breaksAlone_21 4 rfl ?_
    refine x_iload_n C dX4_breaksAlone_23 rfl 2 rfl ?_
    refine x_aload_n C dX4_breaksAlone_24 rfl 0 rfl ?_
    refine x_iload_n C dX4_breaksAlone_25 rfl 1 rfl ?_
    obtain ⟨u4, h5, hf⟩ := x_bd hf
    refine x_callVi (As := [.int x1]) (st := [.int x2, .int x4]) C (c_X4_span l D cy ad S x1  h5) (cwV 1 C.2.2.2.2.1 gX4_breaksAlone_X4_span rfl rfl rfl (by decide +kernel) ⟨(by decide), (by decide)⟩) 0 (gM_root cy ad S) rfl rfl rfl rfl (Nat.le_of_ble_eq_true rfl) dX4_breaksAlone_26 ?_
    refine x_iadd C dX4_breaksAlone_29 ?_
    refine x_icmp_ge (tgt := 167) C dX4_breaksAlone_30 (by decide) (fun (c_6 : (x2 + u4) ≤ x4) => ?_) (fun (c_6 : ¬ ((x2 + u4) ≤ x4)) => ?_)
    · replace hf := x_ip c_6 hf
      refine x_sub [3] rfl ?_
      exact hk21 S x3  hf
    · replace hf := x_in c_6 hf
      refine x_iload C dX4_breaksAlone_33 4 rfl ?_
      refine x_bipush (v := 24) C dX4_breaksAlone_35 (by decide) ?_
      refine x_irem C dX4_breaksAlone_37 (by decide) ?_
      refine x_istore (lv2 := [(5, .int (x4 - x4 / 24 * 24)), (0, .ref (ad 0)), (1, .int x1), (2, .int x2), (3, .int x3), (4, .int x4)]) C dX4_breaksAlone_38 (by decide) rfl ?_
      refine x_iload C dX4_breaksAlone_40 0 rfl ?_
      refine x_bipush (v := 20) C dX4_breaksAlone_42 (by decide) ?_
      refine x_icmp_ge (tgt := 53) C dX4_breaksAlone_44 (by decide) (fun (c_7 : (20 : Int32) ≤ (x4 - x4 / 24 * 24)) => ?_) (fun (c_7 : ¬ ((20 : Int32) ≤ (x4 - x4 / 24 * 24))) => ?_)
      · replace hf := x_ip c_7 hf
        refine x_sub [1, 2, 3, 4, 5] rfl ?_
        exact t_X4_breaksAlone_L53 C ih hk21 S x1 x2 x3 x4  hf
      · replace hf := x_in c_7 hf
        refine x_iload C dX4_breaksAlone_47 0 rfl ?_
        refine x_iconst (v := 4) C dX4_breaksAlone_49 (by decide) ?_
        refine x_icmp_gt (tgt := 57) C dX4_breaksAlone_50 (by decide) (fun (c_20 : (4 : Int32) < (x4 - x4 / 24 * 24)) => ?_) (fun (c_20 : ¬ ((4 : Int32) < (x4 - x4 / 24 * 24))) => ?_)
        · replace hf := x_ip c_20 hf
          refine x_iconst (v := 0) C dX4_breaksAlone_57 (by decide) ?_
          refine x_sub [1, 2, 3, 4, 5] rfl ?_
          exact t_X4_breaksAlone_L58 C ih hk21 S x1 x2 x3 x4 0  hf
        · replace hf := x_in c_20 hf
          refine x_sub [1, 2, 3, 4, 5] rfl ?_
          exact t_X4_breaksAlone_L53 C ih hk21 S x1 x2 x3 x4  hf
set_option maxHeartbeats 4000000 in
set_option maxRecDepth 100000 in
theorem c_X4_breaksAlone (l : Launch) (D : va_G) (cy : Nat → ClassId) (ad : Nat → Nat) (S : St) (a1 : Int32) (a2 : Int32) {r : Int32}  (hf : f_X4_breaksAlone S a1 a2 = some r) : XMi l D (wM cy ad) (xty cy) yX4_breaksAlone wsX4_breaksAlone ({ frames := 1, cells := 0, slots := 0, locals := 21 } : Room) [.ref (ad 0), .int a1, .int a2] S r S := by
  refine x_ofWi (cc := cX4_breaksAlone) (maxL := 8) (ret := some .int) (own := RX4) rfl (by decide) rfl (Nat.le_of_ble_eq_true rfl) rfl ?_
  intro p e s m args below meth c A C _
  unfold f_X4_breaksAlone at hf
  refine x_iload_n C dX4_breaksAlone_0 rfl 2 rfl ?_
  refine x_aload_n C dX4_breaksAlone_1 rfl 0 rfl ?_
  refine x_iload_n C dX4_breaksAlone_2 rfl 1 rfl ?_
  obtain ⟨u1, h2, hf⟩ := x_bd hf
  refine x_callVi (As := [.int a1]) (st := [.int a2]) C (c_X4_span l D cy ad S a1  h2) (cwV 1 C.2.2.2.2.1 gX4_breaksAlone_X4_span rfl rfl rfl (by decide +kernel) ⟨(by decide), (by decide)⟩) 0 (gM_root cy ad S) rfl rfl rfl rfl (Nat.le_of_ble_eq_true rfl) dX4_breaksAlone_3 ?_
  refine x_iadd C dX4_breaksAlone_6 ?_
  refine x_aload_n C dX4_breaksAlone_7 rfl 0 rfl ?_
  refine x_get (v := .int (S.1 0 0 0)) C iX4_breaksAlone_X4 rfl 0 (gM_root cy ad S) 0 (by decide) (by decide +kernel) rfl rfl dX4_breaksAlone_8 ?_
  refine x_icmp_le (tgt := 16) C dX4_breaksAlone_11 (by decide) (fun (c_3 : (a2 + u1) ≤ (S.1 0 0 0)) => ?_) (fun (c_3 : ¬ ((a2 + u1) ≤ (S.1 0 0 0))) => ?_)
  · replace hf := x_ip c_3 hf
    refine x_iconst (v := 0) C dX4_breaksAlone_16 (by decide) ?_
    refine x_istore_n (lv2 := [(3, .int 0), (0, .ref (ad 0)), (1, .int a1), (2, .int a2)]) C dX4_breaksAlone_17 rfl (by decide) rfl ?_
    refine x_iload_n C dX4_breaksAlone_18 rfl 3 rfl ?_
    refine x_istore (lv2 := [(4, .int a2), (3, .int 0), (0, .ref (ad 0)), (1, .int a1), (2, .int a2)]) C dX4_breaksAlone_19 (by decide) rfl ?_
    refine x_sub [2, 3, 4, 1, 0] rfl ?_
    refine t_X4_breaksAlone_L21 C  (fun S_21 x3_21  hf => ?_) 1000 S a1 a2 0 a2  hf
    refine x_iload_n C dX4_breaksAlone_167 rfl 0 rfl ?_
    have e9 := x_s1 hf; subst e9
    exact x_iret C dX4_breaksAlone_168
  · replace hf := x_in c_3 hf
    refine x_iconst (v := 1) C dX4_breaksAlone_14 (by decide) ?_
    have e9 := x_s1 hf; subst e9
    exact x_iret C dX4_breaksAlone_15
end DX4_breaksAlone
set_option maxRecDepth 20000 in
theorem iX4_goesNear_X4 : ∀ w ∈ u_ws RX4 TX4 25, w ∈ wsX4_goesNear := by decide +kernel
def f_X4_goesNear (S : St) (a1 : Int32) (a2 : Int32) (a3 : Int32) (a4 : Int32) : Option (Int32) := if ((4 * a1) + a3) < 0 ∨ 16 ≤ ((4 * a1) + a3).toNatClampNeg then none else if (S.1 4 0 ((4 * a1) + a3).toNatClampNeg) = 0 then (some 1) else ((f_X4_span S a1).bind fun u3 => if (a2 + u3) ≤ a4 then (some 1) else ((f_X4_span S a3).bind fun u6 => if a2 < (a4 + u6) then (some 0) else (some 1)))
section DX4_goesNear
variable {p : Program} {l : Launch} {e : Env} {s : State} {m : MethodId} {args : Array Value} {below : List Frame} {meth : Method} {c : Code} {D : va_G} {cy : Nat → ClassId} {ad : Nat → Nat} {A : Nat → Prop}
set_option maxHeartbeats 4000000 in
set_option maxRecDepth 100000 in
theorem c_X4_goesNear (l : Launch) (D : va_G) (cy : Nat → ClassId) (ad : Nat → Nat) (S : St) (a1 : Int32) (a2 : Int32) (a3 : Int32) (a4 : Int32) {r : Int32}  (hf : f_X4_goesNear S a1 a2 a3 a4 = some r) : XMi l D (wM cy ad) (xty cy) yX4_goesNear wsX4_goesNear ({ frames := 1, cells := 0, slots := 0, locals := 21 } : Room) [.ref (ad 0), .int a1, .int a2, .int a3, .int a4] S r S := by
  refine x_ofWi (cc := cX4_goesNear) (maxL := 5) (ret := some .boolean) (own := RX4) rfl (by decide) rfl (Nat.le_of_ble_eq_true rfl) rfl ?_
  intro p e s m args below meth c A C _
  unfold f_X4_goesNear at hf
  refine x_aload_n C dX4_goesNear_0 rfl 0 rfl ?_
  refine x_get (v := .ref (ad 3)) C iX4_goesNear_X4 rfl 0 (gM_root cy ad S) 4 (by decide) (by decide +kernel) rfl rfl dX4_goesNear_1 ?_
  refine x_iconst (v := 4) C dX4_goesNear_4 (by decide) ?_
  refine x_iload_n C dX4_goesNear_5 rfl 1 rfl ?_
  refine x_imul C dX4_goesNear_6 ?_
  refine x_iload_n C dX4_goesNear_7 rfl 3 rfl ?_
  refine x_iadd C dX4_goesNear_8 ?_
  obtain ⟨g_1, hf⟩ := x_gd hf
  refine x_zald (f := S.1 4 0) C 3 5 (gM_nears cy ad S) rfl g_1 dX4_goesNear_9 ?_
  refine x_if_eq (tgt := 37) C dX4_goesNear_10 (by decide) (fun (c_2 : (S.1 4 0 ((4 * a1) + a3).toNatClampNeg) = 0) => ?_) (fun (c_2 : ¬ ((S.1 4 0 ((4 * a1) + a3).toNatClampNeg) = 0)) => ?_)
  · replace hf := x_ip c_2 hf
    refine x_iconst (v := 1) C dX4_goesNear_37 (by decide) ?_
    refine x_goto (tgt := 42) C dX4_goesNear_38 (by decide) ?_
    have e9 := x_s1 hf; subst e9
    exact x_zret C rfl dX4_goesNear_42
  · replace hf := x_in c_2 hf
    refine x_iload_n C dX4_goesNear_13 rfl 2 rfl ?_
    refine x_aload_n C dX4_goesNear_14 rfl 0 rfl ?_
    refine x_iload_n C dX4_goesNear_15 rfl 1 rfl ?_
    obtain ⟨u3, h4, hf⟩ := x_bd hf
    refine x_callVi (As := [.int a1]) (st := [.int a2]) C (c_X4_span l D cy ad S a1  h4) (cwV 1 C.2.2.2.2.1 gX4_goesNear_X4_span rfl rfl rfl (by decide +kernel) ⟨(by decide), (by decide)⟩) 0 (gM_root cy ad S) rfl rfl rfl rfl (Nat.le_of_ble_eq_true rfl) dX4_goesNear_16 ?_
    refine x_iadd C dX4_goesNear_19 ?_
    refine x_iload C dX4_goesNear_20 4 rfl ?_
    refine x_icmp_le (tgt := 37) C dX4_goesNear_22 (by decide) (fun (c_5 : (a2 + u3) ≤ a4) => ?_) (fun (c_5 : ¬ ((a2 + u3) ≤ a4)) => ?_)
    · replace hf := x_ip c_5 hf
      refine x_iconst (v := 1) C dX4_goesNear_37 (by decide) ?_
      refine x_goto (tgt := 42) C dX4_goesNear_38 (by decide) ?_
      have e9 := x_s1 hf; subst e9
      exact x_zret C rfl dX4_goesNear_42
    · replace hf := x_in c_5 hf
      refine x_iload C dX4_goesNear_25 4 rfl ?_
      refine x_aload_n C dX4_goesNear_27 rfl 0 rfl ?_
      refine x_iload_n C dX4_goesNear_28 rfl 3 rfl ?_
      obtain ⟨u6, h7, hf⟩ := x_bd hf
      refine x_callVi (As := [.int a3]) (st := [.int a4]) C (c_X4_span l D cy ad S a3  h7) (cwV 1 C.2.2.2.2.1 gX4_goesNear_X4_span rfl rfl rfl (by decide +kernel) ⟨(by decide), (by decide)⟩) 0 (gM_root cy ad S) rfl rfl rfl rfl (Nat.le_of_ble_eq_true rfl) dX4_goesNear_29 ?_
      refine x_iadd C dX4_goesNear_32 ?_
      refine x_iload_n C dX4_goesNear_33 rfl 2 rfl ?_
      refine x_icmp_gt (tgt := 41) C dX4_goesNear_34 (by decide) (fun (c_8 : a2 < (a4 + u6)) => ?_) (fun (c_8 : ¬ (a2 < (a4 + u6))) => ?_)
      · replace hf := x_ip c_8 hf
        refine x_iconst (v := 0) C dX4_goesNear_41 (by decide) ?_
        have e9 := x_s1 hf; subst e9
        exact x_zret C rfl dX4_goesNear_42
      · replace hf := x_in c_8 hf
        refine x_iconst (v := 1) C dX4_goesNear_37 (by decide) ?_
        refine x_goto (tgt := 42) C dX4_goesNear_38 (by decide) ?_
        have e9 := x_s1 hf; subst e9
        exact x_zret C rfl dX4_goesNear_42
end DX4_goesNear
set_option maxRecDepth 20000 in
theorem iX4_goesCrew_X4 : ∀ w ∈ u_ws RX4 TX4 25, w ∈ wsX4_goesCrew := by decide +kernel
def f_X4_goesCrew (S : St) (a1 : Int32) (a2 : Int32) (a3 : Int32) (a4 : Int32) : Option (Int32) := if a1 < 0 ∨ 4 ≤ a1.toNatClampNeg then none else if (S.1 10 0 a1.toNatClampNeg) < 0 ∨ 4 ≤ (S.1 10 0 a1.toNatClampNeg).toNatClampNeg then none else if a3 < 0 ∨ 4 ≤ a3.toNatClampNeg then none else if (S.1 10 0 a1.toNatClampNeg) = (S.1 10 0 a3.toNatClampNeg) then ((f_X4_span S a1).bind fun u5 => if ((a2 + u5) + (S.1 11 0 (S.1 10 0 a1.toNatClampNeg).toNatClampNeg)) ≤ a4 then (some 1) else ((f_X4_span S a3).bind fun u8 => if a2 < ((a4 + u8) + (S.1 11 0 (S.1 10 0 a1.toNatClampNeg).toNatClampNeg)) then (some 0) else (some 1))) else (some 1)
section DX4_goesCrew
variable {p : Program} {l : Launch} {e : Env} {s : State} {m : MethodId} {args : Array Value} {below : List Frame} {meth : Method} {c : Code} {D : va_G} {cy : Nat → ClassId} {ad : Nat → Nat} {A : Nat → Prop}
set_option maxHeartbeats 4000000 in
set_option maxRecDepth 100000 in
theorem c_X4_goesCrew (l : Launch) (D : va_G) (cy : Nat → ClassId) (ad : Nat → Nat) (S : St) (a1 : Int32) (a2 : Int32) (a3 : Int32) (a4 : Int32) {r : Int32}  (hf : f_X4_goesCrew S a1 a2 a3 a4 = some r) : XMi l D (wM cy ad) (xty cy) yX4_goesCrew wsX4_goesCrew ({ frames := 1, cells := 0, slots := 0, locals := 21 } : Room) [.ref (ad 0), .int a1, .int a2, .int a3, .int a4] S r S := by
  refine x_ofWi (cc := cX4_goesCrew) (maxL := 6) (ret := some .boolean) (own := RX4) rfl (by decide) rfl (Nat.le_of_ble_eq_true rfl) rfl ?_
  intro p e s m args below meth c A C _
  unfold f_X4_goesCrew at hf
  refine x_aload_n C dX4_goesCrew_0 rfl 0 rfl ?_
  refine x_get (v := .ref (ad 10)) C iX4_goesCrew_X4 rfl 0 (gM_root cy ad S) 11 (by decide) (by decide +kernel) rfl rfl dX4_goesCrew_1 ?_
  refine x_aload_n C dX4_goesCrew_4 rfl 0 rfl ?_
  refine x_get (v := .ref (ad 9)) C iX4_goesCrew_X4 rfl 0 (gM_root cy ad S) 10 (by decide) (by decide +kernel) rfl rfl dX4_goesCrew_5 ?_
  refine x_iload_n C dX4_goesCrew_8 rfl 1 rfl ?_
  obtain ⟨g_1, hf⟩ := x_gd hf
  refine x_iald (f := S.1 10 0) C 9 0 (gM_crews cy ad S) rfl g_1 dX4_goesCrew_9 ?_
  obtain ⟨g_2, hf⟩ := x_gd hf
  refine x_iald (f := S.1 11 0) C 10 0 (gM_rests cy ad S) rfl g_2 dX4_goesCrew_10 ?_
  refine x_istore (lv2 := [(5, .int (S.1 11 0 (S.1 10 0 a1.toNatClampNeg).toNatClampNeg)), (0, .ref (ad 0)), (1, .int a1), (2, .int a2), (3, .int a3), (4, .int a4)]) C dX4_goesCrew_11 (by decide) rfl ?_
  refine x_aload_n C dX4_goesCrew_13 rfl 1 rfl ?_
  refine x_get (v := .ref (ad 9)) C iX4_goesCrew_X4 rfl 0 (gM_root cy ad S) 10 (by decide) (by decide +kernel) rfl rfl dX4_goesCrew_14 ?_
  refine x_iload_n C dX4_goesCrew_17 rfl 2 rfl ?_
  refine x_iald (f := S.1 10 0) C 9 0 (gM_crews cy ad S) rfl g_1 dX4_goesCrew_18 ?_
  refine x_aload_n C dX4_goesCrew_19 rfl 1 rfl ?_
  refine x_get (v := .ref (ad 9)) C iX4_goesCrew_X4 rfl 0 (gM_root cy ad S) 10 (by decide) (by decide +kernel) rfl rfl dX4_goesCrew_20 ?_
  refine x_iload_n C dX4_goesCrew_23 rfl 4 rfl ?_
  obtain ⟨g_3, hf⟩ := x_gd hf
  refine x_iald (f := S.1 10 0) C 9 0 (gM_crews cy ad S) rfl g_3 dX4_goesCrew_24 ?_
  refine x_icmp_ne (tgt := 58) C dX4_goesCrew_25 (by decide) (fun (c_4 : ¬ ((S.1 10 0 a1.toNatClampNeg) = (S.1 10 0 a3.toNatClampNeg))) => ?_) (fun (c_4 : (S.1 10 0 a1.toNatClampNeg) = (S.1 10 0 a3.toNatClampNeg)) => ?_)
  · replace hf := x_in c_4 hf
    refine x_iconst (v := 1) C dX4_goesCrew_58 (by decide) ?_
    refine x_goto (tgt := 63) C dX4_goesCrew_59 (by decide) ?_
    have e9 := x_s1 hf; subst e9
    exact x_zret C rfl dX4_goesCrew_63
  · replace hf := x_ip c_4 hf
    refine x_iload_n C dX4_goesCrew_28 rfl 3 rfl ?_
    refine x_aload_n C dX4_goesCrew_29 rfl 1 rfl ?_
    refine x_iload_n C dX4_goesCrew_30 rfl 2 rfl ?_
    obtain ⟨u5, h6, hf⟩ := x_bd hf
    refine x_callVi (As := [.int a1]) (st := [.int a2]) C (c_X4_span l D cy ad S a1  h6) (cwV 1 C.2.2.2.2.1 gX4_goesCrew_X4_span rfl rfl rfl (by decide +kernel) ⟨(by decide), (by decide)⟩) 0 (gM_root cy ad S) rfl rfl rfl rfl (Nat.le_of_ble_eq_true rfl) dX4_goesCrew_31 ?_
    refine x_iadd C dX4_goesCrew_34 ?_
    refine x_iload C dX4_goesCrew_35 0 rfl ?_
    refine x_iadd C dX4_goesCrew_37 ?_
    refine x_iload C dX4_goesCrew_38 5 rfl ?_
    refine x_icmp_le (tgt := 58) C dX4_goesCrew_40 (by decide) (fun (c_7 : ((a2 + u5) + (S.1 11 0 (S.1 10 0 a1.toNatClampNeg).toNatClampNeg)) ≤ a4) => ?_) (fun (c_7 : ¬ (((a2 + u5) + (S.1 11 0 (S.1 10 0 a1.toNatClampNeg).toNatClampNeg)) ≤ a4)) => ?_)
    · replace hf := x_ip c_7 hf
      refine x_iconst (v := 1) C dX4_goesCrew_58 (by decide) ?_
      refine x_goto (tgt := 63) C dX4_goesCrew_59 (by decide) ?_
      have e9 := x_s1 hf; subst e9
      exact x_zret C rfl dX4_goesCrew_63
    · replace hf := x_in c_7 hf
      refine x_iload C dX4_goesCrew_43 5 rfl ?_
      refine x_aload_n C dX4_goesCrew_45 rfl 1 rfl ?_
      refine x_iload_n C dX4_goesCrew_46 rfl 4 rfl ?_
      obtain ⟨u8, h9, hf⟩ := x_bd hf
      refine x_callVi (As := [.int a3]) (st := [.int a4]) C (c_X4_span l D cy ad S a3  h9) (cwV 1 C.2.2.2.2.1 gX4_goesCrew_X4_span rfl rfl rfl (by decide +kernel) ⟨(by decide), (by decide)⟩) 0 (gM_root cy ad S) rfl rfl rfl rfl (Nat.le_of_ble_eq_true rfl) dX4_goesCrew_47 ?_
      refine x_iadd C dX4_goesCrew_50 ?_
      refine x_iload C dX4_goesCrew_51 0 rfl ?_
      refine x_iadd C dX4_goesCrew_53 ?_
      refine x_iload_n C dX4_goesCrew_54 rfl 3 rfl ?_
      refine x_icmp_gt (tgt := 62) C dX4_goesCrew_55 (by decide) (fun (c_10 : a2 < ((a4 + u8) + (S.1 11 0 (S.1 10 0 a1.toNatClampNeg).toNatClampNeg))) => ?_) (fun (c_10 : ¬ (a2 < ((a4 + u8) + (S.1 11 0 (S.1 10 0 a1.toNatClampNeg).toNatClampNeg)))) => ?_)
      · replace hf := x_ip c_10 hf
        refine x_iconst (v := 0) C dX4_goesCrew_62 (by decide) ?_
        have e9 := x_s1 hf; subst e9
        exact x_zret C rfl dX4_goesCrew_63
      · replace hf := x_in c_10 hf
        refine x_iconst (v := 1) C dX4_goesCrew_58 (by decide) ?_
        refine x_goto (tgt := 63) C dX4_goesCrew_59 (by decide) ?_
        have e9 := x_s1 hf; subst e9
        exact x_zret C rfl dX4_goesCrew_63
end DX4_goesCrew
set_option maxRecDepth 20000 in
theorem iX4_breaks_X4 : ∀ w ∈ u_ws RX4 TX4 25, w ∈ wsX4_breaks := by decide +kernel
def f_X4_breaks_L76 (r22 : St → Int32 → Int32 → Int32 → Int32 → Int32 → Option (Int32)) (k22 : St → Int32 → Int32 → Option (Int32)) (S : St) (x1 : Int32) (x2 : Int32) (x5 : Int32) (x6 : Int32) (y0 : Int32) : Option (Int32) := if x5 = 0 then (if x6 < 0 ∨ 4 ≤ x6.toNatClampNeg then none else (f_X4_goesCrew S x1 x2 x6 (S.1 13 0 x6.toNatClampNeg)).bind fun u11 => if u11 = 0 then (r22 S x1 x2 y0 1 (x6 + 1)) else (r22 S x1 x2 y0 0 (x6 + 1))) else (r22 S x1 x2 y0 1 (x6 + 1))
def f_X4_breaks_L71 (r22 : St → Int32 → Int32 → Int32 → Int32 → Int32 → Option (Int32)) (k22 : St → Int32 → Int32 → Option (Int32)) (S : St) (x1 : Int32) (x2 : Int32) (x5 : Int32) (x6 : Int32) : Option (Int32) := f_X4_breaks_L76 r22 k22 S x1 x2 x5 x6 1
def f_X4_breaks_L22  (k22 : St → Int32 → Int32 → Option (Int32)) : Nat → St → Int32 → Int32 → Int32 → Int32 → Int32 → Option (Int32)
  | 0 => fun _ _ _ _ _ _ => none
  | n + 1 => fun S x1 x2 x4 x5 x6 => if (S.1 1 0 0) ≤ x6 then (k22 S x4 x5) else (if x6 = x1 then ((f_X4_breaks_L22  k22 n) S x1 x2 x4 x5 (x6 + 1)) else (if x6 < 0 ∨ 4 ≤ x6.toNatClampNeg then none else if (S.1 13 0 x6.toNatClampNeg) = (-1) then ((f_X4_breaks_L22  k22 n) S x1 x2 x4 x5 (x6 + 1)) else (if x4 = 0 then ((f_X4_goesNear S x1 x2 x6 (S.1 13 0 x6.toNatClampNeg)).bind fun u14 => if u14 = 0 then (f_X4_breaks_L71 (f_X4_breaks_L22  k22 n) k22 S x1 x2 x5 x6) else (f_X4_breaks_L76 (f_X4_breaks_L22  k22 n) k22 S x1 x2 x5 x6 0)) else (f_X4_breaks_L71 (f_X4_breaks_L22  k22 n) k22 S x1 x2 x5 x6))))
def f_X4_breaks (S : St) (a1 : Int32) (a2 : Int32) : Option (Int32) := (f_X4_breaksAlone S a1 a2).bind fun u1 => if u1 ≤ 0 then (f_X4_breaks_L22  (fun S_17 x4_17 x5_17 => if x4_17 = 0 then (if x5_17 = 0 then (some 0) else (some 6)) else (some 5)) 1000 S a1 a2 0 0 0) else (some u1)
section DX4_breaks
variable {p : Program} {l : Launch} {e : Env} {s : State} {m : MethodId} {args : Array Value} {below : List Frame} {meth : Method} {c : Code} {D : va_G} {cy : Nat → ClassId} {ad : Nat → Nat} {A : Nat → Prop}
set_option maxHeartbeats 4000000 in
set_option maxRecDepth 100000 in
theorem t_X4_breaks_L76 (C : XC p s m args meth c D A (xty cy) cX4_breaks 7 RX4 wsX4_breaks (some .int)) {r : Int32} {r22 : St → Int32 → Int32 → Int32 → Int32 → Int32 → Option (Int32)} {k22 : St → Int32 → Int32 → Option (Int32)} (hr22 : ∀ (S : St) (x1 : Int32) (x2 : Int32) (x4 : Int32) (x5 : Int32) (x6 : Int32), r22 S x1 x2 x4 x5 x6 = some r → XJ p l e ({ frames := 2, cells := 0, slots := 0, locals := 48 } : Room) s m args below meth c D (wM cy ad) A 7 (QXi D (wM cy ad) A below args s r S) S 22 [(0, .ref (ad 0)), (1, .int x1), (2, .int x2), (4, .int x4), (5, .int x5), (6, .int x6)] []) (hk22 : ∀ (S : St) (x4 : Int32) (x5 : Int32), k22 S x4 x5 = some r → XJ p l e ({ frames := 2, cells := 0, slots := 0, locals := 48 } : Room) s m args below meth c D (wM cy ad) A 7 (QXi D (wM cy ad) A below args s r S) S 114 [(4, .int x4), (5, .int x5)] []) (S : St) (x1 : Int32) (x2 : Int32) (x5 : Int32) (x6 : Int32) (y0 : Int32)  (hf : f_X4_breaks_L76 r22 k22 S x1 x2 x5 x6 y0 = some r) : XJ p l e ({ frames := 2, cells := 0, slots := 0, locals := 48 } : Room) s m args below meth c D (wM cy ad) A 7 (QXi D (wM cy ad) A below args s r S) S 76 [(0, .ref (ad 0)), (1, .int x1), (2, .int x2), (5, .int x5), (6, .int x6)] [.int y0] := by
  unfold f_X4_breaks_L76 at hf
  refine x_istore (lv2 := [(4, .int y0), (0, .ref (ad 0)), (1, .int x1), (2, .int x2), (5, .int x5), (6, .int x6)]) C dX4_breaks_76 (by decide) rfl ?_
  refine x_iload C dX4_breaks_78 4 rfl ?_
  refine x_if_ne (tgt := 101) C dX4_breaks_80 (by decide) (fun (c_9 : ¬ (x5 = 0)) => ?_) (fun (c_9 : x5 = 0) => ?_)
  · replace hf := x_in c_9 hf
    refine x_iconst (v := 1) C dX4_breaks_101 (by decide) ?_
    refine x_goto (tgt := 106) C dX4_breaks_102 (by decide) ?_
    refine x_istore (lv2 := [(5, .int 1), (4, .int y0), (0, .ref (ad 0)), (1, .int x1), (2, .int x2), (6, .int x6)]) C dX4_breaks_106 (by decide) rfl ?_
    refine x_iinc (v := x6 + 1) (lv2 := [(6, .int (x6 + 1)), (5, .int 1), (4, .int y0), (0, .ref (ad 0)), (1, .int x1), (2, .int x2)]) C dX4_breaks_108 (k0 := 5) rfl rfl (by decide) rfl ?_
    refine x_goto (tgt := 22) C dX4_breaks_111 (by decide) ?_
    refine x_sub [3, 4, 5, 2, 1, 0] rfl ?_
    exact hr22 S x1 x2 y0 1 (x6 + 1)  hf
  · replace hf := x_ip c_9 hf
    refine x_aload_n C dX4_breaks_83 rfl 1 rfl ?_
    refine x_iload_n C dX4_breaks_84 rfl 2 rfl ?_
    refine x_iload_n C dX4_breaks_85 rfl 3 rfl ?_
    refine x_iload C dX4_breaks_86 5 rfl ?_
    refine x_aload_n C dX4_breaks_88 rfl 1 rfl ?_
    refine x_get (v := .ref (ad 12)) C iX4_breaks_X4 rfl 0 (gM_root cy ad S) 13 (by decide) (by decide +kernel) rfl rfl dX4_breaks_89 ?_
    refine x_iload C dX4_breaks_92 5 rfl ?_
    obtain ⟨g_10, hf⟩ := x_gd hf
    refine x_iald (f := S.1 13 0) C 12 0 (gM_starts cy ad S) rfl g_10 dX4_breaks_94 ?_
    obtain ⟨u11, h12, hf⟩ := x_bd hf
    refine x_callVi (As := [.int x1, .int x2, .int x6, .int (S.1 13 0 x6.toNatClampNeg)]) (st := []) C (c_X4_goesCrew l D cy ad S x1 x2 x6 (S.1 13 0 x6.toNatClampNeg)  h12) (cwV 4 C.2.2.2.2.1 gX4_breaks_X4_goesCrew rfl rfl rfl (by decide +kernel) ⟨(by decide), (by decide)⟩) 0 (gM_root cy ad S) rfl rfl rfl rfl (Nat.le_of_ble_eq_true rfl) dX4_breaks_95 ?_
    refine x_if_ne (tgt := 105) C dX4_breaks_98 (by decide) (fun (c_13 : ¬ (u11 = 0)) => ?_) (fun (c_13 : u11 = 0) => ?_)
    · replace hf := x_in c_13 hf
      refine x_iconst (v := 0) C dX4_breaks_105 (by decide) ?_
      refine x_istore (lv2 := [(5, .int 0), (4, .int y0), (0, .ref (ad 0)), (1, .int x1), (2, .int x2), (6, .int x6)]) C dX4_breaks_106 (by decide) rfl ?_
      refine x_iinc (v := x6 + 1) (lv2 := [(6, .int (x6 + 1)), (5, .int 0), (4, .int y0), (0, .ref (ad 0)), (1, .int x1), (2, .int x2)]) C dX4_breaks_108 (k0 := 5) rfl rfl (by decide) rfl ?_
      refine x_goto (tgt := 22) C dX4_breaks_111 (by decide) ?_
      refine x_sub [3, 4, 5, 2, 1, 0] rfl ?_
      exact hr22 S x1 x2 y0 0 (x6 + 1)  hf
    · replace hf := x_ip c_13 hf
      refine x_iconst (v := 1) C dX4_breaks_101 (by decide) ?_
      refine x_goto (tgt := 106) C dX4_breaks_102 (by decide) ?_
      refine x_istore (lv2 := [(5, .int 1), (4, .int y0), (0, .ref (ad 0)), (1, .int x1), (2, .int x2), (6, .int x6)]) C dX4_breaks_106 (by decide) rfl ?_
      refine x_iinc (v := x6 + 1) (lv2 := [(6, .int (x6 + 1)), (5, .int 1), (4, .int y0), (0, .ref (ad 0)), (1, .int x1), (2, .int x2)]) C dX4_breaks_108 (k0 := 5) rfl rfl (by decide) rfl ?_
      refine x_goto (tgt := 22) C dX4_breaks_111 (by decide) ?_
      refine x_sub [3, 4, 5, 2, 1, 0] rfl ?_
      exact hr22 S x1 x2 y0 1 (x6 + 1)  hf
set_option maxHeartbeats 4000000 in
set_option maxRecDepth 100000 in
theorem t_X4_breaks_L71 (C : XC p s m args meth c D A (xty cy) cX4_breaks 7 RX4 wsX4_breaks (some .int)) {r : Int32} {r22 : St → Int32 → Int32 → Int32 → Int32 → Int32 → Option (Int32)} {k22 : St → Int32 → Int32 → Option (Int32)} (hr22 : ∀ (S : St) (x1 : Int32) (x2 : Int32) (x4 : Int32) (x5 : Int32) (x6 : Int32), r22 S x1 x2 x4 x5 x6 = some r → XJ p l e ({ frames := 2, cells := 0, slots := 0, locals := 48 } : Room) s m args below meth c D (wM cy ad) A 7 (QXi D (wM cy ad) A below args s r S) S 22 [(0, .ref (ad 0)), (1, .int x1), (2, .int x2), (4, .int x4), (5, .int x5), (6, .int x6)] []) (hk22 : ∀ (S : St) (x4 : Int32) (x5 : Int32), k22 S x4 x5 = some r → XJ p l e ({ frames := 2, cells := 0, slots := 0, locals := 48 } : Room) s m args below meth c D (wM cy ad) A 7 (QXi D (wM cy ad) A below args s r S) S 114 [(4, .int x4), (5, .int x5)] []) (S : St) (x1 : Int32) (x2 : Int32) (x5 : Int32) (x6 : Int32)  (hf : f_X4_breaks_L71 r22 k22 S x1 x2 x5 x6 = some r) : XJ p l e ({ frames := 2, cells := 0, slots := 0, locals := 48 } : Room) s m args below meth c D (wM cy ad) A 7 (QXi D (wM cy ad) A below args s r S) S 71 [(0, .ref (ad 0)), (1, .int x1), (2, .int x2), (5, .int x5), (6, .int x6)] [] := by
  unfold f_X4_breaks_L71 at hf
  refine x_iconst (v := 1) C dX4_breaks_71 (by decide) ?_
  refine x_goto (tgt := 76) C dX4_breaks_72 (by decide) ?_
  exact t_X4_breaks_L76 C hr22 hk22 S x1 x2 x5 x6 1  hf
set_option maxHeartbeats 4000000 in
set_option maxRecDepth 100000 in
theorem t_X4_breaks_L22 (C : XC p s m args meth c D A (xty cy) cX4_breaks 7 RX4 wsX4_breaks (some .int)) {r : Int32}   {k22 : St → Int32 → Int32 → Option (Int32)} (hk22 : ∀ (S : St) (x4 : Int32) (x5 : Int32), k22 S x4 x5 = some r → XJ p l e ({ frames := 2, cells := 0, slots := 0, locals := 48 } : Room) s m args below meth c D (wM cy ad) A 7 (QXi D (wM cy ad) A below args s r S) S 114 [(4, .int x4), (5, .int x5)] []) : ∀ (n : Nat), ∀ (S : St) (x1 : Int32) (x2 : Int32) (x4 : Int32) (x5 : Int32) (x6 : Int32), (f_X4_breaks_L22  k22 n) S x1 x2 x4 x5 x6 = some r → XJ p l e ({ frames := 2, cells := 0, slots := 0, locals := 48 } : Room) s m args below meth c D (wM cy ad) A 7 (QXi D (wM cy ad) A below args s r S) S 22 [(0, .ref (ad 0)), (1, .int x1), (2, .int x2), (4, .int x4), (5, .int x5), (6, .int x6)] [] := by
  intro n
  induction n with
  | zero => intro S x1 x2 x4 x5 x6 hf; cases hf
  | succ n ih =>
    intro S x1 x2 x4 x5 x6 hf
    rw [f_X4_breaks_L22] at hf
    refine x_iload C dX4_breaks_22 5 rfl ?_
    refine x_aload_n C dX4_breaks_24 rfl 0 rfl ?_
    refine x_get (v := .int (S.1 1 0 0)) C iX4_breaks_X4 rfl 0 (gM_root cy ad S) 1 (by decide) (by decide +kernel) rfl rfl dX4_breaks_25 ?_
    refine x_icmp_ge (tgt := 114) C dX4_breaks_28 (by decide) (fun (c_4 : (S.1 1 0 0) ≤ x6) => ?_) (fun (c_4 : ¬ ((S.1 1 0 0) ≤ x6)) => ?_)
    · replace hf := x_ip c_4 hf
      refine x_sub [3, 4] rfl ?_
      exact hk22 S x4 x5  hf
    · replace hf := x_in c_4 hf
      refine x_iload C dX4_breaks_31 5 rfl ?_
      refine x_iload_n C dX4_breaks_33 rfl 1 rfl ?_
      refine x_icmp_eq (tgt := 108) C dX4_breaks_34 (by decide) (fun (c_5 : x6 = x1) => ?_) (fun (c_5 : ¬ (x6 = x1)) => ?_)
      · replace hf := x_ip c_5 hf
        refine x_iinc (v := x6 + 1) (lv2 := [(6, .int (x6 + 1)), (0, .ref (ad 0)), (1, .int x1), (2, .int x2), (4, .int x4), (5, .int x5)]) C dX4_breaks_108 (k0 := 5) rfl rfl (by decide) rfl ?_
        refine x_goto (tgt := 22) C dX4_breaks_111 (by decide) ?_
        refine x_sub [1, 2, 3, 4, 5, 0] rfl ?_
        exact ih S x1 x2 x4 x5 (x6 + 1)  hf
      · replace hf := x_in c_5 hf
        refine x_aload_n C dX4_breaks_37 rfl 0 rfl ?_
        refine x_get (v := .ref (ad 12)) C iX4_breaks_X4 rfl 0 (gM_root cy ad S) 13 (by decide) (by decide +kernel) rfl rfl dX4_breaks_38 ?_
        refine x_iload C dX4_breaks_41 5 rfl ?_
        obtain ⟨g_6, hf⟩ := x_gd hf
        refine x_iald (f := S.1 13 0) C 12 0 (gM_starts cy ad S) rfl g_6 dX4_breaks_43 ?_
        refine x_iconst (v := (-1)) C dX4_breaks_44 (by decide) ?_
        refine x_icmp_eq (tgt := 108) C dX4_breaks_45 (by decide) (fun (c_7 : (S.1 13 0 x6.toNatClampNeg) = (-1)) => ?_) (fun (c_7 : ¬ ((S.1 13 0 x6.toNatClampNeg) = (-1))) => ?_)
        · replace hf := x_ip c_7 hf
          refine x_iinc (v := x6 + 1) (lv2 := [(6, .int (x6 + 1)), (0, .ref (ad 0)), (1, .int x1), (2, .int x2), (4, .int x4), (5, .int x5)]) C dX4_breaks_108 (k0 := 5) rfl rfl (by decide) rfl ?_
          refine x_goto (tgt := 22) C dX4_breaks_111 (by decide) ?_
          refine x_sub [1, 2, 3, 4, 5, 0] rfl ?_
          exact ih S x1 x2 x4 x5 (x6 + 1)  hf
        · replace hf := x_in c_7 hf
          refine x_iload C dX4_breaks_48 3 rfl ?_
          refine x_if_ne (tgt := 71) C dX4_breaks_50 (by decide) (fun (c_8 : ¬ (x4 = 0)) => ?_) (fun (c_8 : x4 = 0) => ?_)
          · replace hf := x_in c_8 hf
            refine x_sub [0, 1, 2, 4, 5] rfl ?_
            exact t_X4_breaks_L71 C ih hk22 S x1 x2 x5 x6  hf
          · replace hf := x_ip c_8 hf
            refine x_aload_n C dX4_breaks_53 rfl 0 rfl ?_
            refine x_iload_n C dX4_breaks_54 rfl 1 rfl ?_
            refine x_iload_n C dX4_breaks_55 rfl 2 rfl ?_
            refine x_iload C dX4_breaks_56 5 rfl ?_
            refine x_aload_n C dX4_breaks_58 rfl 0 rfl ?_
            refine x_get (v := .ref (ad 12)) C iX4_breaks_X4 rfl 0 (gM_root cy ad S) 13 (by decide) (by decide +kernel) rfl rfl dX4_breaks_59 ?_
            refine x_iload C dX4_breaks_62 5 rfl ?_
            refine x_iald (f := S.1 13 0) C 12 0 (gM_starts cy ad S) rfl g_6 dX4_breaks_64 ?_
            obtain ⟨u14, h15, hf⟩ := x_bd hf
            refine x_callVi (As := [.int x1, .int x2, .int x6, .int (S.1 13 0 x6.toNatClampNeg)]) (st := []) C (c_X4_goesNear l D cy ad S x1 x2 x6 (S.1 13 0 x6.toNatClampNeg)  h15) (cwV 4 C.2.2.2.2.1 gX4_breaks_X4_goesNear rfl rfl rfl (by decide +kernel) ⟨(by decide), (by decide)⟩) 0 (gM_root cy ad S) rfl rfl rfl rfl (Nat.le_of_ble_eq_true rfl) dX4_breaks_65 ?_
            refine x_if_ne (tgt := 75) C dX4_breaks_68 (by decide) (fun (c_16 : ¬ (u14 = 0)) => ?_) (fun (c_16 : u14 = 0) => ?_)
            · replace hf := x_in c_16 hf
              refine x_iconst (v := 0) C dX4_breaks_75 (by decide) ?_
              refine x_sub [0, 1, 2, 4, 5] rfl ?_
              exact t_X4_breaks_L76 C ih hk22 S x1 x2 x5 x6 0  hf
            · replace hf := x_ip c_16 hf
              refine x_sub [0, 1, 2, 4, 5] rfl ?_
              exact t_X4_breaks_L71 C ih hk22 S x1 x2 x5 x6  hf
set_option maxHeartbeats 4000000 in
set_option maxRecDepth 100000 in
theorem c_X4_breaks (l : Launch) (D : va_G) (cy : Nat → ClassId) (ad : Nat → Nat) (S : St) (a1 : Int32) (a2 : Int32) {r : Int32}  (hf : f_X4_breaks S a1 a2 = some r) : XMi l D (wM cy ad) (xty cy) yX4_breaks wsX4_breaks ({ frames := 2, cells := 0, slots := 0, locals := 48 } : Room) [.ref (ad 0), .int a1, .int a2] S r S := by
  refine x_ofWi (cc := cX4_breaks) (maxL := 7) (ret := some .int) (own := RX4) rfl (by decide) rfl (Nat.le_of_ble_eq_true rfl) rfl ?_
  intro p e s m args below meth c A C _
  unfold f_X4_breaks at hf
  refine x_aload_n C dX4_breaks_0 rfl 0 rfl ?_
  refine x_iload_n C dX4_breaks_1 rfl 1 rfl ?_
  refine x_iload_n C dX4_breaks_2 rfl 2 rfl ?_
  obtain ⟨u1, h2, hf⟩ := x_bd hf
  refine x_callVi (As := [.int a1, .int a2]) (st := []) C (c_X4_breaksAlone l D cy ad S a1 a2  h2) (cwV 2 C.2.2.2.2.1 gX4_breaks_X4_breaksAlone rfl rfl rfl (by decide +kernel) ⟨(by decide), (by decide)⟩) 0 (gM_root cy ad S) rfl rfl rfl rfl (Nat.le_of_ble_eq_true rfl) dX4_breaks_3 ?_
  refine x_istore_n (lv2 := [(3, .int u1), (0, .ref (ad 0)), (1, .int a1), (2, .int a2)]) C dX4_breaks_6 rfl (by decide) rfl ?_
  refine x_iload_n C dX4_breaks_7 rfl 0 rfl ?_
  refine x_if_le (tgt := 13) C dX4_breaks_8 (by decide) (fun (c_3 : u1 ≤ 0) => ?_) (fun (c_3 : ¬ (u1 ≤ 0)) => ?_)
  · replace hf := x_ip c_3 hf
    refine x_iconst (v := 0) C dX4_breaks_13 (by decide) ?_
    refine x_istore (lv2 := [(4, .int 0), (3, .int u1), (0, .ref (ad 0)), (1, .int a1), (2, .int a2)]) C dX4_breaks_14 (by decide) rfl ?_
    refine x_iconst (v := 0) C dX4_breaks_16 (by decide) ?_
    refine x_istore (lv2 := [(5, .int 0), (4, .int 0), (3, .int u1), (0, .ref (ad 0)), (1, .int a1), (2, .int a2)]) C dX4_breaks_17 (by decide) rfl ?_
    refine x_iconst (v := 0) C dX4_breaks_19 (by decide) ?_
    refine x_istore (lv2 := [(6, .int 0), (5, .int 0), (4, .int 0), (3, .int u1), (0, .ref (ad 0)), (1, .int a1), (2, .int a2)]) C dX4_breaks_20 (by decide) rfl ?_
    refine x_sub [4, 5, 6, 2, 1, 0] rfl ?_
    refine t_X4_breaks_L22 C  (fun S_17 x4_17 x5_17  hf => ?_) 1000 S a1 a2 0 0 0  hf
    refine x_iload C dX4_breaks_114 0 rfl ?_
    refine x_if_eq (tgt := 123) C dX4_breaks_116 (by decide) (fun (c_18 : x4_17 = 0) => ?_) (fun (c_18 : ¬ (x4_17 = 0)) => ?_)
    · replace hf := x_ip c_18 hf
      refine x_iload C dX4_breaks_123 1 rfl ?_
      refine x_if_eq (tgt := 133) C dX4_breaks_125 (by decide) (fun (c_19 : x5_17 = 0) => ?_) (fun (c_19 : ¬ (x5_17 = 0)) => ?_)
      · replace hf := x_ip c_19 hf
        refine x_iconst (v := 0) C dX4_breaks_133 (by decide) ?_
        have e9 := x_s1 hf; subst e9
        exact x_iret C dX4_breaks_134
      · replace hf := x_in c_19 hf
        refine x_bipush (v := 6) C dX4_breaks_128 (by decide) ?_
        refine x_goto (tgt := 134) C dX4_breaks_130 (by decide) ?_
        have e9 := x_s1 hf; subst e9
        exact x_iret C dX4_breaks_134
    · replace hf := x_in c_18 hf
      refine x_iconst (v := 5) C dX4_breaks_119 (by decide) ?_
      refine x_goto (tgt := 134) C dX4_breaks_120 (by decide) ?_
      have e9 := x_s1 hf; subst e9
      exact x_iret C dX4_breaks_134
  · replace hf := x_in c_3 hf
    refine x_iload_n C dX4_breaks_11 rfl 0 rfl ?_
    have e9 := x_s1 hf; subst e9
    exact x_iret C dX4_breaks_12
end DX4_breaks
set_option maxRecDepth 20000 in
theorem iX4_delayOf_X4 : ∀ w ∈ u_ws RX4 TX4 25, w ∈ wsX4_delayOf := by decide +kernel
def f_X4_delayOf_L5  (k5 : St → Int32 → Option (Int32)) : Nat → St → Int32 → Int32 → Int32 → Int32 → Option (Int32)
  | 0 => fun _ _ _ _ _ => none
  | n + 1 => fun S x1 x2 x3 x4 => (f_X4_span S x1).bind fun u1 => if (x2 + u1) ≤ x4 then (k5 S x3) else (if ((36 * x1) + x4) < 0 ∨ 144 ≤ ((36 * x1) + x4).toNatClampNeg then none else (f_X4_delayOf_L5  k5 n) S x1 x2 (x3 + (S.1 5 0 ((36 * x1) + x4).toNatClampNeg)) (x4 + 1))
def f_X4_delayOf (S : St) (a1 : Int32) (a2 : Int32) : Option (Int32) := f_X4_delayOf_L5  (fun S_5 x3_5 => some x3_5) 1000 S a1 a2 0 a2
section DX4_delayOf
variable {p : Program} {l : Launch} {e : Env} {s : State} {m : MethodId} {args : Array Value} {below : List Frame} {meth : Method} {c : Code} {D : va_G} {cy : Nat → ClassId} {ad : Nat → Nat} {A : Nat → Prop}
set_option maxHeartbeats 4000000 in
set_option maxRecDepth 100000 in
theorem t_X4_delayOf_L5 (C : XC p s m args meth c D A (xty cy) cX4_delayOf 5 RX4 wsX4_delayOf (some .int)) {r : Int32}   {k5 : St → Int32 → Option (Int32)} (hk5 : ∀ (S : St) (x3 : Int32), k5 S x3 = some r → XJ p l e ({ frames := 1, cells := 0, slots := 0, locals := 21 } : Room) s m args below meth c D (wM cy ad) A 5 (QXi D (wM cy ad) A below args s r S) S 38 [(3, .int x3)] []) : ∀ (n : Nat), ∀ (S : St) (x1 : Int32) (x2 : Int32) (x3 : Int32) (x4 : Int32), (f_X4_delayOf_L5  k5 n) S x1 x2 x3 x4 = some r → XJ p l e ({ frames := 1, cells := 0, slots := 0, locals := 21 } : Room) s m args below meth c D (wM cy ad) A 5 (QXi D (wM cy ad) A below args s r S) S 5 [(0, .ref (ad 0)), (1, .int x1), (2, .int x2), (3, .int x3), (4, .int x4)] [] := by
  intro n
  induction n with
  | zero => intro S x1 x2 x3 x4 hf; cases hf
  | succ n ih =>
    intro S x1 x2 x3 x4 hf
    rw [f_X4_delayOf_L5] at hf
    refine x_iload C dX4_delayOf_5 4 rfl ?_
    refine x_iload_n C dX4_delayOf_7 rfl 2 rfl ?_
    refine x_aload_n C dX4_delayOf_8 rfl 0 rfl ?_
    refine x_iload_n C dX4_delayOf_9 rfl 1 rfl ?_
    obtain ⟨u1, h2, hf⟩ := x_bd hf
    refine x_callVi (As := [.int x1]) (st := [.int x2, .int x4]) C (c_X4_span l D cy ad S x1  h2) (cwV 1 C.2.2.2.2.1 gX4_delayOf_X4_span rfl rfl rfl (by decide +kernel) ⟨(by decide), (by decide)⟩) 0 (gM_root cy ad S) rfl rfl rfl rfl (Nat.le_of_ble_eq_true rfl) dX4_delayOf_10 ?_
    refine x_iadd C dX4_delayOf_13 ?_
    refine x_icmp_ge (tgt := 38) C dX4_delayOf_14 (by decide) (fun (c_3 : (x2 + u1) ≤ x4) => ?_) (fun (c_3 : ¬ ((x2 + u1) ≤ x4)) => ?_)
    · replace hf := x_ip c_3 hf
      refine x_sub [3] rfl ?_
      exact hk5 S x3  hf
    · replace hf := x_in c_3 hf
      refine x_iload_n C dX4_delayOf_17 rfl 3 rfl ?_
      refine x_aload_n C dX4_delayOf_18 rfl 0 rfl ?_
      refine x_get (v := .ref (ad 4)) C iX4_delayOf_X4 rfl 0 (gM_root cy ad S) 5 (by decide) (by decide +kernel) rfl rfl dX4_delayOf_19 ?_
      refine x_bipush (v := 36) C dX4_delayOf_22 (by decide) ?_
      refine x_iload_n C dX4_delayOf_24 rfl 1 rfl ?_
      refine x_imul C dX4_delayOf_25 ?_
      refine x_iload C dX4_delayOf_26 4 rfl ?_
      refine x_iadd C dX4_delayOf_28 ?_
      obtain ⟨g_4, hf⟩ := x_gd hf
      refine x_iald (f := S.1 5 0) C 4 0 (gM_delays cy ad S) rfl g_4 dX4_delayOf_29 ?_
      refine x_iadd C dX4_delayOf_30 ?_
      refine x_istore_n (lv2 := [(3, .int (x3 + (S.1 5 0 ((36 * x1) + x4).toNatClampNeg))), (0, .ref (ad 0)), (1, .int x1), (2, .int x2), (4, .int x4)]) C dX4_delayOf_31 rfl (by decide) rfl ?_
      refine x_iinc (v := x4 + 1) (lv2 := [(4, .int (x4 + 1)), (3, .int (x3 + (S.1 5 0 ((36 * x1) + x4).toNatClampNeg))), (0, .ref (ad 0)), (1, .int x1), (2, .int x2)]) C dX4_delayOf_32 (k0 := 4) rfl rfl (by decide) rfl ?_
      refine x_goto (tgt := 5) C dX4_delayOf_35 (by decide) ?_
      refine x_sub [2, 3, 4, 1, 0] rfl ?_
      exact ih S x1 x2 (x3 + (S.1 5 0 ((36 * x1) + x4).toNatClampNeg)) (x4 + 1)  hf
set_option maxHeartbeats 4000000 in
set_option maxRecDepth 100000 in
theorem c_X4_delayOf (l : Launch) (D : va_G) (cy : Nat → ClassId) (ad : Nat → Nat) (S : St) (a1 : Int32) (a2 : Int32) {r : Int32}  (hf : f_X4_delayOf S a1 a2 = some r) : XMi l D (wM cy ad) (xty cy) yX4_delayOf wsX4_delayOf ({ frames := 1, cells := 0, slots := 0, locals := 21 } : Room) [.ref (ad 0), .int a1, .int a2] S r S := by
  refine x_ofWi (cc := cX4_delayOf) (maxL := 5) (ret := some .int) (own := RX4) rfl (by decide) rfl (Nat.le_of_ble_eq_true rfl) rfl ?_
  intro p e s m args below meth c A C _
  unfold f_X4_delayOf at hf
  refine x_iconst (v := 0) C dX4_delayOf_0 (by decide) ?_
  refine x_istore_n (lv2 := [(3, .int 0), (0, .ref (ad 0)), (1, .int a1), (2, .int a2)]) C dX4_delayOf_1 rfl (by decide) rfl ?_
  refine x_iload_n C dX4_delayOf_2 rfl 3 rfl ?_
  refine x_istore (lv2 := [(4, .int a2), (3, .int 0), (0, .ref (ad 0)), (1, .int a1), (2, .int a2)]) C dX4_delayOf_3 (by decide) rfl ?_
  refine x_sub [2, 3, 4, 1, 0] rfl ?_
  refine t_X4_delayOf_L5 C  (fun S_5 x3_5  hf => ?_) 1000 S a1 a2 0 a2  hf
  refine x_iload_n C dX4_delayOf_38 rfl 0 rfl ?_
  have e9 := x_s1 hf; subst e9
  exact x_iret C dX4_delayOf_39
end DX4_delayOf
set_option maxRecDepth 20000 in
theorem iX4_beginMoves_X4 : ∀ w ∈ u_ws RX4 TX4 25, w ∈ wsX4_beginMoves := by decide +kernel
def f_X4_beginMoves_L2  (k2 : St → Option (St)) : Nat → St → Int32 → Option (St)
  | 0 => fun _ _ => none
  | n + 1 => fun S x1 => if (4 : Int32) ≤ x1 then (k2 S ) else (if x1 < 0 ∨ 4 ≤ x1.toNatClampNeg then none else (f_X4_beginMoves_L2  k2 n) (xI S 20 0 x1.toNatClampNeg (vp_nar .boolean 0)) (x1 + 1))
def f_X4_beginMoves (S : St)  : Option (St) := f_X4_beginMoves_L2  (fun S_3  => some S_3) 1000 S 0
section DX4_beginMoves
variable {p : Program} {l : Launch} {e : Env} {s : State} {m : MethodId} {args : Array Value} {below : List Frame} {meth : Method} {c : Code} {D : va_G} {cy : Nat → ClassId} {ad : Nat → Nat} {A : Nat → Prop}
set_option maxHeartbeats 4000000 in
set_option maxRecDepth 100000 in
theorem t_X4_beginMoves_L2 (C : XC p s m args meth c D A (xty cy) cX4_beginMoves 2 RX4 wsX4_beginMoves (none)) {S2 : St}   {k2 : St → Option (St)} (hk2 : ∀ (S : St) , k2 S  = some S2 → XJ p l e ({ frames := 0, cells := 0, slots := 0, locals := 0 } : Room) s m args below meth c D (wM cy ad) A 2 (QXv D (wM cy ad) A below args s S2) S 20 [] []) : ∀ (n : Nat), ∀ (S : St) (x1 : Int32), (f_X4_beginMoves_L2  k2 n) S x1 = some S2 → XJ p l e ({ frames := 0, cells := 0, slots := 0, locals := 0 } : Room) s m args below meth c D (wM cy ad) A 2 (QXv D (wM cy ad) A below args s S2) S 2 [(0, .ref (ad 0)), (1, .int x1)] [] := by
  intro n
  induction n with
  | zero => intro S x1 hf; cases hf
  | succ n ih =>
    intro S x1 hf
    rw [f_X4_beginMoves_L2] at hf
    refine x_iload_n C dX4_beginMoves_2 rfl 1 rfl ?_
    refine x_iconst (v := 4) C dX4_beginMoves_3 (by decide) ?_
    refine x_icmp_ge (tgt := 20) C dX4_beginMoves_4 (by decide) (fun (c_1 : (4 : Int32) ≤ x1) => ?_) (fun (c_1 : ¬ ((4 : Int32) ≤ x1)) => ?_)
    · replace hf := x_ip c_1 hf
      refine x_sub [] rfl ?_
      exact hk2 S   hf
    · replace hf := x_in c_1 hf
      refine x_aload_n C dX4_beginMoves_7 rfl 0 rfl ?_
      refine x_get (v := .ref (ad 19)) C iX4_beginMoves_X4 rfl 0 (gM_root cy ad S) 20 (by decide) (by decide +kernel) rfl rfl dX4_beginMoves_8 ?_
      refine x_iload_n C dX4_beginMoves_11 rfl 1 rfl ?_
      refine x_iconst (v := 0) C dX4_beginMoves_12 (by decide) ?_
      obtain ⟨g_2, hf⟩ := x_gd hf
      refine x_zast (S2 := (xI S 20 0 x1.toNatClampNeg (vp_nar .boolean 0))) C 19 5 (gM_movedNow cy ad S) rfl g_2 (sM_movedNow cy ad S x1.toNatClampNeg (vp_nar .boolean 0)) dX4_beginMoves_13 ?_
      refine x_iinc (v := x1 + 1) (lv2 := [(1, .int (x1 + 1)), (0, .ref (ad 0))]) C dX4_beginMoves_14 (k0 := 1) rfl rfl (by decide) rfl ?_
      refine x_goto (tgt := 2) C dX4_beginMoves_17 (by decide) ?_
      refine x_sub [1, 0] rfl ?_
      exact ih (xI S 20 0 x1.toNatClampNeg (vp_nar .boolean 0)) (x1 + 1)  hf
set_option maxHeartbeats 4000000 in
set_option maxRecDepth 100000 in
theorem c_X4_beginMoves (l : Launch) (D : va_G) (cy : Nat → ClassId) (ad : Nat → Nat) (S : St)  {S2 : St}  (hf : f_X4_beginMoves S  = some S2) : XMv l D (wM cy ad) (xty cy) yX4_beginMoves wsX4_beginMoves ({ frames := 0, cells := 0, slots := 0, locals := 0 } : Room) [.ref (ad 0)] S S2 := by
  refine x_ofWv (cc := cX4_beginMoves) (maxL := 2) (ret := none) (own := RX4) rfl (by decide) rfl (Nat.le_of_ble_eq_true rfl) rfl ?_
  intro p e s m args below meth c A C _
  unfold f_X4_beginMoves at hf
  refine x_iconst (v := 0) C dX4_beginMoves_0 (by decide) ?_
  refine x_istore_n (lv2 := [(1, .int 0), (0, .ref (ad 0))]) C dX4_beginMoves_1 rfl (by decide) rfl ?_
  refine x_sub [1, 0] rfl ?_
  refine t_X4_beginMoves_L2 C  (fun S_3   hf => ?_) 1000 S 0  hf
  have e9 := x_s1 hf; subst e9
  exact x_vret C dX4_beginMoves_20
end DX4_beginMoves
set_option maxRecDepth 20000 in
theorem iX4_move_X4 : ∀ w ∈ u_ws RX4 TX4 25, w ∈ wsX4_move := by decide +kernel
def f_X4_move (S : St) (a1 : Int32) (a2 : Int32) : Option (St) := if a1 < 0 ∨ 4 ≤ a1.toNatClampNeg then none else if (S.1 13 0 a1.toNatClampNeg) = a2 then (some S) else (if (200 : Int32) ≤ (S.1 21 0 0) then (some (xI (xI (xI (xI S 13 0 a1.toNatClampNeg a2) 20 0 a1.toNatClampNeg (vp_nar .boolean 1)) 12 0 a1.toNatClampNeg 0) 21 0 0 ((S.1 21 0 0) + 1))) else (if (S.1 21 0 0) < 0 ∨ 200 ≤ (S.1 21 0 0).toNatClampNeg then none else some (xI (xI (xI (xI (xI (xI S 13 0 a1.toNatClampNeg a2) 20 0 a1.toNatClampNeg (vp_nar .boolean 1)) 12 0 a1.toNatClampNeg 0) 22 0 ((S.1 21 0 0).toNatClampNeg) a1) 23 0 ((S.1 21 0 0).toNatClampNeg) a2) 21 0 0 ((S.1 21 0 0) + 1))))
section DX4_move
variable {p : Program} {l : Launch} {e : Env} {s : State} {m : MethodId} {args : Array Value} {below : List Frame} {meth : Method} {c : Code} {D : va_G} {cy : Nat → ClassId} {ad : Nat → Nat} {A : Nat → Prop}
set_option maxHeartbeats 4000000 in
set_option maxRecDepth 100000 in
theorem c_X4_move (l : Launch) (D : va_G) (cy : Nat → ClassId) (ad : Nat → Nat) (S : St) (a1 : Int32) (a2 : Int32) {S2 : St}  (hf : f_X4_move S a1 a2 = some S2) : XMv l D (wM cy ad) (xty cy) yX4_move wsX4_move ({ frames := 0, cells := 0, slots := 0, locals := 0 } : Room) [.ref (ad 0), .int a1, .int a2] S S2 := by
  refine x_ofWv (cc := cX4_move) (maxL := 3) (ret := none) (own := RX4) rfl (by decide) rfl (Nat.le_of_ble_eq_true rfl) rfl ?_
  intro p e s m args below meth c A C _
  unfold f_X4_move at hf
  refine x_aload_n C dX4_move_0 rfl 0 rfl ?_
  refine x_get (v := .ref (ad 12)) C iX4_move_X4 rfl 0 (gM_root cy ad S) 13 (by decide) (by decide +kernel) rfl rfl dX4_move_1 ?_
  refine x_iload_n C dX4_move_4 rfl 1 rfl ?_
  obtain ⟨g_1, hf⟩ := x_gd hf
  refine x_iald (f := S.1 13 0) C 12 0 (gM_starts cy ad S) rfl g_1 dX4_move_5 ?_
  refine x_iload_n C dX4_move_6 rfl 2 rfl ?_
  refine x_icmp_ne (tgt := 11) C dX4_move_7 (by decide) (fun (c_2 : ¬ ((S.1 13 0 a1.toNatClampNeg) = a2)) => ?_) (fun (c_2 : (S.1 13 0 a1.toNatClampNeg) = a2) => ?_)
  · replace hf := x_in c_2 hf
    refine x_aload_n C dX4_move_11 rfl 0 rfl ?_
    refine x_get (v := .ref (ad 12)) C iX4_move_X4 rfl 0 (gM_root cy ad S) 13 (by decide) (by decide +kernel) rfl rfl dX4_move_12 ?_
    refine x_iload_n C dX4_move_15 rfl 1 rfl ?_
    refine x_iload_n C dX4_move_16 rfl 2 rfl ?_
    refine x_iast (S2 := (xI S 13 0 a1.toNatClampNeg a2)) C 12 0 (gM_starts cy ad S) rfl g_1 (sM_starts cy ad S a1.toNatClampNeg a2) dX4_move_17 ?_
    refine x_aload_n C dX4_move_18 rfl 0 rfl ?_
    refine x_get (v := .ref (ad 19)) C iX4_move_X4 rfl 0 (gM_root cy ad (xI S 13 0 a1.toNatClampNeg a2)) 20 (by decide) (by decide +kernel) rfl rfl dX4_move_19 ?_
    refine x_iload_n C dX4_move_22 rfl 1 rfl ?_
    refine x_iconst (v := 1) C dX4_move_23 (by decide) ?_
    refine x_zast (S2 := (xI (xI S 13 0 a1.toNatClampNeg a2) 20 0 a1.toNatClampNeg (vp_nar .boolean 1))) C 19 5 (gM_movedNow cy ad (xI S 13 0 a1.toNatClampNeg a2)) rfl g_1 (sM_movedNow cy ad (xI S 13 0 a1.toNatClampNeg a2) a1.toNatClampNeg (vp_nar .boolean 1)) dX4_move_24 ?_
    refine x_aload_n C dX4_move_25 rfl 0 rfl ?_
    refine x_get (v := .ref (ad 11)) C iX4_move_X4 rfl 0 (gM_root cy ad (xI (xI S 13 0 a1.toNatClampNeg a2) 20 0 a1.toNatClampNeg (vp_nar .boolean 1))) 12 (by decide) (by decide +kernel) rfl rfl dX4_move_26 ?_
    refine x_iload_n C dX4_move_29 rfl 1 rfl ?_
    refine x_iconst (v := 0) C dX4_move_30 (by decide) ?_
    refine x_iast (S2 := (xI (xI (xI S 13 0 a1.toNatClampNeg a2) 20 0 a1.toNatClampNeg (vp_nar .boolean 1)) 12 0 a1.toNatClampNeg 0)) C 11 0 (gM_states cy ad (xI (xI S 13 0 a1.toNatClampNeg a2) 20 0 a1.toNatClampNeg (vp_nar .boolean 1))) rfl g_1 (sM_states cy ad (xI (xI S 13 0 a1.toNatClampNeg a2) 20 0 a1.toNatClampNeg (vp_nar .boolean 1)) a1.toNatClampNeg 0) dX4_move_31 ?_
    refine x_aload_n C dX4_move_32 rfl 0 rfl ?_
    refine x_get (v := .int (S.1 21 0 0)) C iX4_move_X4 rfl 0 (gM_root cy ad (xI (xI (xI S 13 0 a1.toNatClampNeg a2) 20 0 a1.toNatClampNeg (vp_nar .boolean 1)) 12 0 a1.toNatClampNeg 0)) 21 (by decide) (by decide +kernel) rfl rfl dX4_move_33 ?_
    refine x_sipush (v := 200) C dX4_move_36 (by decide) ?_
    refine x_icmp_ge (tgt := 62) C dX4_move_39 (by decide) (fun (c_3 : (200 : Int32) ≤ (S.1 21 0 0)) => ?_) (fun (c_3 : ¬ ((200 : Int32) ≤ (S.1 21 0 0))) => ?_)
    · replace hf := x_ip c_3 hf
      refine x_aload_n C dX4_move_62 rfl 0 rfl ?_
      refine x_dup C dX4_move_63 rfl ?_
      refine x_get (v := .int (S.1 21 0 0)) C iX4_move_X4 rfl 0 (gM_root cy ad (xI (xI (xI S 13 0 a1.toNatClampNeg a2) 20 0 a1.toNatClampNeg (vp_nar .boolean 1)) 12 0 a1.toNatClampNeg 0)) 21 (by decide) (by decide +kernel) rfl rfl dX4_move_64 ?_
      refine x_iconst (v := 1) C dX4_move_67 (by decide) ?_
      refine x_iadd C dX4_move_68 ?_
      refine x_put (v := .int ((S.1 21 0 0) + 1)) (ty := .int) (S2 := (xI (xI (xI (xI S 13 0 a1.toNatClampNeg a2) 20 0 a1.toNatClampNeg (vp_nar .boolean 1)) 12 0 a1.toNatClampNeg 0) 21 0 0 ((S.1 21 0 0) + 1))) C iX4_move_X4 tyX4 tyX4_ok nmX4 rfl 0 (gM_root cy ad (xI (xI (xI S 13 0 a1.toNatClampNeg a2) 20 0 a1.toNatClampNeg (vp_nar .boolean 1)) 12 0 a1.toNatClampNeg 0)) 21 (by decide) (by decide +kernel) rfl rfl (by decide +kernel) rfl rfl (Nat.le_of_ble_eq_true rfl) (sM_f_notices cy ad (xI (xI (xI S 13 0 a1.toNatClampNeg a2) 20 0 a1.toNatClampNeg (vp_nar .boolean 1)) 12 0 a1.toNatClampNeg 0) ((S.1 21 0 0) + 1)) dX4_move_69 ?_
      have e9 := x_s1 hf; subst e9
      exact x_vret C dX4_move_72
    · replace hf := x_in c_3 hf
      refine x_aload_n C dX4_move_42 rfl 0 rfl ?_
      refine x_get (v := .ref (ad 20)) C iX4_move_X4 rfl 0 (gM_root cy ad (xI (xI (xI S 13 0 a1.toNatClampNeg a2) 20 0 a1.toNatClampNeg (vp_nar .boolean 1)) 12 0 a1.toNatClampNeg 0)) 22 (by decide) (by decide +kernel) rfl rfl dX4_move_43 ?_
      refine x_aload_n C dX4_move_46 rfl 0 rfl ?_
      refine x_get (v := .int (S.1 21 0 0)) C iX4_move_X4 rfl 0 (gM_root cy ad (xI (xI (xI S 13 0 a1.toNatClampNeg a2) 20 0 a1.toNatClampNeg (vp_nar .boolean 1)) 12 0 a1.toNatClampNeg 0)) 21 (by decide) (by decide +kernel) rfl rfl dX4_move_47 ?_
      refine x_iload_n C dX4_move_50 rfl 1 rfl ?_
      obtain ⟨g_4, hf⟩ := x_gd hf
      refine x_iast (S2 := (xI (xI (xI (xI S 13 0 a1.toNatClampNeg a2) 20 0 a1.toNatClampNeg (vp_nar .boolean 1)) 12 0 a1.toNatClampNeg 0) 22 0 ((S.1 21 0 0).toNatClampNeg) a1)) C 20 0 (gM_noticeWork cy ad (xI (xI (xI S 13 0 a1.toNatClampNeg a2) 20 0 a1.toNatClampNeg (vp_nar .boolean 1)) 12 0 a1.toNatClampNeg 0)) rfl g_4 (sM_noticeWork cy ad (xI (xI (xI S 13 0 a1.toNatClampNeg a2) 20 0 a1.toNatClampNeg (vp_nar .boolean 1)) 12 0 a1.toNatClampNeg 0) ((S.1 21 0 0).toNatClampNeg) a1) dX4_move_51 ?_
      refine x_aload_n C dX4_move_52 rfl 0 rfl ?_
      refine x_get (v := .ref (ad 21)) C iX4_move_X4 rfl 0 (gM_root cy ad (xI (xI (xI (xI S 13 0 a1.toNatClampNeg a2) 20 0 a1.toNatClampNeg (vp_nar .boolean 1)) 12 0 a1.toNatClampNeg 0) 22 0 ((S.1 21 0 0).toNatClampNeg) a1)) 23 (by decide) (by decide +kernel) rfl rfl dX4_move_53 ?_
      refine x_aload_n C dX4_move_56 rfl 0 rfl ?_
      refine x_get (v := .int (S.1 21 0 0)) C iX4_move_X4 rfl 0 (gM_root cy ad (xI (xI (xI (xI S 13 0 a1.toNatClampNeg a2) 20 0 a1.toNatClampNeg (vp_nar .boolean 1)) 12 0 a1.toNatClampNeg 0) 22 0 ((S.1 21 0 0).toNatClampNeg) a1)) 21 (by decide) (by decide +kernel) rfl rfl dX4_move_57 ?_
      refine x_iload_n C dX4_move_60 rfl 2 rfl ?_
      refine x_iast (S2 := (xI (xI (xI (xI (xI S 13 0 a1.toNatClampNeg a2) 20 0 a1.toNatClampNeg (vp_nar .boolean 1)) 12 0 a1.toNatClampNeg 0) 22 0 ((S.1 21 0 0).toNatClampNeg) a1) 23 0 ((S.1 21 0 0).toNatClampNeg) a2)) C 21 0 (gM_noticeStart cy ad (xI (xI (xI (xI S 13 0 a1.toNatClampNeg a2) 20 0 a1.toNatClampNeg (vp_nar .boolean 1)) 12 0 a1.toNatClampNeg 0) 22 0 ((S.1 21 0 0).toNatClampNeg) a1)) rfl g_4 (sM_noticeStart cy ad (xI (xI (xI (xI S 13 0 a1.toNatClampNeg a2) 20 0 a1.toNatClampNeg (vp_nar .boolean 1)) 12 0 a1.toNatClampNeg 0) 22 0 ((S.1 21 0 0).toNatClampNeg) a1) ((S.1 21 0 0).toNatClampNeg) a2) dX4_move_61 ?_
      refine x_aload_n C dX4_move_62 rfl 0 rfl ?_
      refine x_dup C dX4_move_63 rfl ?_
      refine x_get (v := .int (S.1 21 0 0)) C iX4_move_X4 rfl 0 (gM_root cy ad (xI (xI (xI (xI (xI S 13 0 a1.toNatClampNeg a2) 20 0 a1.toNatClampNeg (vp_nar .boolean 1)) 12 0 a1.toNatClampNeg 0) 22 0 ((S.1 21 0 0).toNatClampNeg) a1) 23 0 ((S.1 21 0 0).toNatClampNeg) a2)) 21 (by decide) (by decide +kernel) rfl rfl dX4_move_64 ?_
      refine x_iconst (v := 1) C dX4_move_67 (by decide) ?_
      refine x_iadd C dX4_move_68 ?_
      refine x_put (v := .int ((S.1 21 0 0) + 1)) (ty := .int) (S2 := (xI (xI (xI (xI (xI (xI S 13 0 a1.toNatClampNeg a2) 20 0 a1.toNatClampNeg (vp_nar .boolean 1)) 12 0 a1.toNatClampNeg 0) 22 0 ((S.1 21 0 0).toNatClampNeg) a1) 23 0 ((S.1 21 0 0).toNatClampNeg) a2) 21 0 0 ((S.1 21 0 0) + 1))) C iX4_move_X4 tyX4 tyX4_ok nmX4 rfl 0 (gM_root cy ad (xI (xI (xI (xI (xI S 13 0 a1.toNatClampNeg a2) 20 0 a1.toNatClampNeg (vp_nar .boolean 1)) 12 0 a1.toNatClampNeg 0) 22 0 ((S.1 21 0 0).toNatClampNeg) a1) 23 0 ((S.1 21 0 0).toNatClampNeg) a2)) 21 (by decide) (by decide +kernel) rfl rfl (by decide +kernel) rfl rfl (Nat.le_of_ble_eq_true rfl) (sM_f_notices cy ad (xI (xI (xI (xI (xI S 13 0 a1.toNatClampNeg a2) 20 0 a1.toNatClampNeg (vp_nar .boolean 1)) 12 0 a1.toNatClampNeg 0) 22 0 ((S.1 21 0 0).toNatClampNeg) a1) 23 0 ((S.1 21 0 0).toNatClampNeg) a2) ((S.1 21 0 0) + 1)) dX4_move_69 ?_
      have e9 := x_s1 hf; subst e9
      exact x_vret C dX4_move_72
  · replace hf := x_ip c_2 hf
    have e9 := x_s1 hf; subst e9
    exact x_vret C dX4_move_10
end DX4_move
set_option maxRecDepth 20000 in
theorem iX4_run_X4 : ∀ w ∈ u_ws RX4 TX4 25, w ∈ wsX4_run := by decide +kernel
def f_X4_run_L56 (r26 : St → Int32 → Int32 → Int32 → Int32 → Option (Int32 × St)) (k26 : St → Int32 → Int32 → Int32 → Option (Int32 × St)) (S : St) (x1 : Int32) (x2 : Int32) (x4 : Int32) (x5 : Int32) (y0 : Int32) : Option (Int32 × St) := if x5 = 0 then (if x2 = (-1) then (r26 S x1 x4 y0 (x4 + 1)) else ((f_X4_delayOf S x1 x4).bind fun u13 => (f_X4_delayOf S x1 x2).bind fun u15 => if u15 ≤ u13 then (r26 S x1 x2 y0 (x4 + 1)) else (r26 S x1 x4 y0 (x4 + 1)))) else (r26 S x1 x2 y0 (x4 + 1))
def f_X4_run_L26  (k26 : St → Int32 → Int32 → Int32 → Option (Int32 × St)) : Nat → St → Int32 → Int32 → Int32 → Int32 → Option (Int32 × St)
  | 0 => fun _ _ _ _ _ => none
  | n + 1 => fun S x1 x2 x3 x4 => if (S.1 0 0 0) ≤ x4 then (k26 S x1 x2 x3) else ((f_X4_breaks S x1 x4).bind fun u8 => if u8 ≤ x3 then (f_X4_run_L56 (f_X4_run_L26  k26 n) k26 S x1 x2 x4 u8 x3) else (f_X4_run_L56 (f_X4_run_L26  k26 n) k26 S x1 x2 x4 u8 u8))
def f_X4_run (S : St) (a1 : Int32) : Option (Int32 × St) := (f_X4_isWork S a1).bind fun u1 => if u1 = 0 then (some ((-100), S)) else ((f_X4_isFixed S a1).bind fun u4 => if u4 = 0 then (f_X4_run_L26  (fun S_18 x1_18 x2_18 x3_18 => if x2_18 = (-1) then (some ((-1) - x3_18, S_18)) else ((f_X4_beginMoves S_18 ).bind fun u20 => (f_X4_move u20 x1_18 x2_18).bind fun u22 => some (x2_18, u22))) 1000 S a1 (-1) 0 0) else (some ((-100), S)))
section DX4_run
variable {p : Program} {l : Launch} {e : Env} {s : State} {m : MethodId} {args : Array Value} {below : List Frame} {meth : Method} {c : Code} {D : va_G} {cy : Nat → ClassId} {ad : Nat → Nat} {A : Nat → Prop}
set_option maxHeartbeats 4000000 in
set_option maxRecDepth 100000 in
theorem t_X4_run_L56 (C : XC p s m args meth c D A (xty cy) cX4_run 6 RX4 wsX4_run (some .int)) {r : Int32} {S2 : St} {r26 : St → Int32 → Int32 → Int32 → Int32 → Option (Int32 × St)} {k26 : St → Int32 → Int32 → Int32 → Option (Int32 × St)} (hr26 : ∀ (S : St) (x1 : Int32) (x2 : Int32) (x3 : Int32) (x4 : Int32), r26 S x1 x2 x3 x4 = some (r, S2) → XJ p l e ({ frames := 3, cells := 0, slots := 0, locals := 74 } : Room) s m args below meth c D (wM cy ad) A 6 (QXi D (wM cy ad) A below args s r S2) S 26 [(0, .ref (ad 0)), (1, .int x1), (2, .int x2), (3, .int x3), (4, .int x4)] []) (hk26 : ∀ (S : St) (x1 : Int32) (x2 : Int32) (x3 : Int32), k26 S x1 x2 x3 = some (r, S2) → XJ p l e ({ frames := 3, cells := 0, slots := 0, locals := 74 } : Room) s m args below meth c D (wM cy ad) A 6 (QXi D (wM cy ad) A below args s r S2) S 92 [(0, .ref (ad 0)), (1, .int x1), (2, .int x2), (3, .int x3)] []) (S : St) (x1 : Int32) (x2 : Int32) (x4 : Int32) (x5 : Int32) (y0 : Int32)  (hf : f_X4_run_L56 r26 k26 S x1 x2 x4 x5 y0 = some (r, S2)) : XJ p l e ({ frames := 3, cells := 0, slots := 0, locals := 74 } : Room) s m args below meth c D (wM cy ad) A 6 (QXi D (wM cy ad) A below args s r S2) S 56 [(0, .ref (ad 0)), (1, .int x1), (2, .int x2), (4, .int x4), (5, .int x5)] [.int y0] := by
  unfold f_X4_run_L56 at hf
  refine x_istore_n (lv2 := [(3, .int y0), (0, .ref (ad 0)), (1, .int x1), (2, .int x2), (4, .int x4), (5, .int x5)]) C dX4_run_56 rfl (by decide) rfl ?_
  refine x_iload C dX4_run_57 5 rfl ?_
  refine x_if_ne (tgt := 86) C dX4_run_59 (by decide) (fun (c_11 : ¬ (x5 = 0)) => ?_) (fun (c_11 : x5 = 0) => ?_)
  · replace hf := x_in c_11 hf
    refine x_iinc (v := x4 + 1) (lv2 := [(4, .int (x4 + 1)), (3, .int y0), (0, .ref (ad 0)), (1, .int x1), (2, .int x2), (5, .int x5)]) C dX4_run_86 (k0 := 4) rfl rfl (by decide) rfl ?_
    refine x_goto (tgt := 26) C dX4_run_89 (by decide) ?_
    refine x_sub [2, 3, 4, 1, 0] rfl ?_
    exact hr26 S x1 x2 y0 (x4 + 1)  hf
  · replace hf := x_ip c_11 hf
    refine x_iload_n C dX4_run_62 rfl 3 rfl ?_
    refine x_iconst (v := (-1)) C dX4_run_63 (by decide) ?_
    refine x_icmp_eq (tgt := 83) C dX4_run_64 (by decide) (fun (c_12 : x2 = (-1)) => ?_) (fun (c_12 : ¬ (x2 = (-1))) => ?_)
    · replace hf := x_ip c_12 hf
      refine x_iload C dX4_run_83 4 rfl ?_
      refine x_istore_n (lv2 := [(2, .int x4), (3, .int y0), (0, .ref (ad 0)), (1, .int x1), (4, .int x4), (5, .int x5)]) C dX4_run_85 rfl (by decide) rfl ?_
      refine x_iinc (v := x4 + 1) (lv2 := [(4, .int (x4 + 1)), (2, .int x4), (3, .int y0), (0, .ref (ad 0)), (1, .int x1), (5, .int x5)]) C dX4_run_86 (k0 := 4) rfl rfl (by decide) rfl ?_
      refine x_goto (tgt := 26) C dX4_run_89 (by decide) ?_
      refine x_sub [3, 4, 1, 2, 0] rfl ?_
      exact hr26 S x1 x4 y0 (x4 + 1)  hf
    · replace hf := x_in c_12 hf
      refine x_aload_n C dX4_run_67 rfl 1 rfl ?_
      refine x_iload_n C dX4_run_68 rfl 2 rfl ?_
      refine x_iload C dX4_run_69 4 rfl ?_
      obtain ⟨u13, h14, hf⟩ := x_bd hf
      refine x_callVi (As := [.int x1, .int x4]) (st := []) C (c_X4_delayOf l D cy ad S x1 x4  h14) (cwV 2 C.2.2.2.2.1 gX4_run_X4_delayOf rfl rfl rfl (by decide +kernel) ⟨(by decide), (by decide)⟩) 0 (gM_root cy ad S) rfl rfl rfl rfl (Nat.le_of_ble_eq_true rfl) dX4_run_71 ?_
      refine x_aload_n C dX4_run_74 rfl 1 rfl ?_
      refine x_iload_n C dX4_run_75 rfl 2 rfl ?_
      refine x_iload_n C dX4_run_76 rfl 3 rfl ?_
      obtain ⟨u15, h16, hf⟩ := x_bd hf
      refine x_callVi (As := [.int x1, .int x2]) (st := [.int u13]) C (c_X4_delayOf l D cy ad S x1 x2  h16) (cwV 2 C.2.2.2.2.1 gX4_run_X4_delayOf rfl rfl rfl (by decide +kernel) ⟨(by decide), (by decide)⟩) 0 (gM_root cy ad S) rfl rfl rfl rfl (Nat.le_of_ble_eq_true rfl) dX4_run_77 ?_
      refine x_icmp_ge (tgt := 86) C dX4_run_80 (by decide) (fun (c_17 : u15 ≤ u13) => ?_) (fun (c_17 : ¬ (u15 ≤ u13)) => ?_)
      · replace hf := x_ip c_17 hf
        refine x_iinc (v := x4 + 1) (lv2 := [(4, .int (x4 + 1)), (3, .int y0), (0, .ref (ad 0)), (1, .int x1), (2, .int x2), (5, .int x5)]) C dX4_run_86 (k0 := 4) rfl rfl (by decide) rfl ?_
        refine x_goto (tgt := 26) C dX4_run_89 (by decide) ?_
        refine x_sub [2, 3, 4, 1, 0] rfl ?_
        exact hr26 S x1 x2 y0 (x4 + 1)  hf
      · replace hf := x_in c_17 hf
        refine x_iload C dX4_run_83 4 rfl ?_
        refine x_istore_n (lv2 := [(2, .int x4), (3, .int y0), (0, .ref (ad 0)), (1, .int x1), (4, .int x4), (5, .int x5)]) C dX4_run_85 rfl (by decide) rfl ?_
        refine x_iinc (v := x4 + 1) (lv2 := [(4, .int (x4 + 1)), (2, .int x4), (3, .int y0), (0, .ref (ad 0)), (1, .int x1), (5, .int x5)]) C dX4_run_86 (k0 := 4) rfl rfl (by decide) rfl ?_
        refine x_goto (tgt := 26) C dX4_run_89 (by decide) ?_
        refine x_sub [3, 4, 1, 2, 0] rfl ?_
        exact hr26 S x1 x4 y0 (x4 + 1)  hf
set_option maxHeartbeats 4000000 in
set_option maxRecDepth 100000 in
theorem t_X4_run_L26 (C : XC p s m args meth c D A (xty cy) cX4_run 6 RX4 wsX4_run (some .int)) {r : Int32} {S2 : St}   {k26 : St → Int32 → Int32 → Int32 → Option (Int32 × St)} (hk26 : ∀ (S : St) (x1 : Int32) (x2 : Int32) (x3 : Int32), k26 S x1 x2 x3 = some (r, S2) → XJ p l e ({ frames := 3, cells := 0, slots := 0, locals := 74 } : Room) s m args below meth c D (wM cy ad) A 6 (QXi D (wM cy ad) A below args s r S2) S 92 [(0, .ref (ad 0)), (1, .int x1), (2, .int x2), (3, .int x3)] []) : ∀ (n : Nat), ∀ (S : St) (x1 : Int32) (x2 : Int32) (x3 : Int32) (x4 : Int32), (f_X4_run_L26  k26 n) S x1 x2 x3 x4 = some (r, S2) → XJ p l e ({ frames := 3, cells := 0, slots := 0, locals := 74 } : Room) s m args below meth c D (wM cy ad) A 6 (QXi D (wM cy ad) A below args s r S2) S 26 [(0, .ref (ad 0)), (1, .int x1), (2, .int x2), (3, .int x3), (4, .int x4)] [] := by
  intro n
  induction n with
  | zero => intro S x1 x2 x3 x4 hf; cases hf
  | succ n ih =>
    intro S x1 x2 x3 x4 hf
    rw [f_X4_run_L26] at hf
    refine x_iload C dX4_run_26 4 rfl ?_
    refine x_aload_n C dX4_run_28 rfl 0 rfl ?_
    refine x_get (v := .int (S.1 0 0 0)) C iX4_run_X4 rfl 0 (gM_root cy ad S) 0 (by decide) (by decide +kernel) rfl rfl dX4_run_29 ?_
    refine x_icmp_ge (tgt := 92) C dX4_run_32 (by decide) (fun (c_7 : (S.1 0 0 0) ≤ x4) => ?_) (fun (c_7 : ¬ ((S.1 0 0 0) ≤ x4)) => ?_)
    · replace hf := x_ip c_7 hf
      refine x_sub [0, 1, 2, 3] rfl ?_
      exact hk26 S x1 x2 x3  hf
    · replace hf := x_in c_7 hf
      refine x_aload_n C dX4_run_35 rfl 0 rfl ?_
      refine x_iload_n C dX4_run_36 rfl 1 rfl ?_
      refine x_iload C dX4_run_37 4 rfl ?_
      obtain ⟨u8, h9, hf⟩ := x_bd hf
      refine x_callVi (As := [.int x1, .int x4]) (st := []) C (c_X4_breaks l D cy ad S x1 x4  h9) (cwV 2 C.2.2.2.2.1 gX4_run_X4_breaks rfl rfl rfl (by decide +kernel) ⟨(by decide), (by decide)⟩) 0 (gM_root cy ad S) rfl rfl rfl rfl (Nat.le_of_ble_eq_true rfl) dX4_run_39 ?_
      refine x_istore (lv2 := [(5, .int u8), (0, .ref (ad 0)), (1, .int x1), (2, .int x2), (3, .int x3), (4, .int x4)]) C dX4_run_42 (by decide) rfl ?_
      refine x_iload C dX4_run_44 0 rfl ?_
      refine x_iload_n C dX4_run_46 rfl 4 rfl ?_
      refine x_icmp_le (tgt := 55) C dX4_run_47 (by decide) (fun (c_10 : u8 ≤ x3) => ?_) (fun (c_10 : ¬ (u8 ≤ x3)) => ?_)
      · replace hf := x_ip c_10 hf
        refine x_iload_n C dX4_run_55 rfl 4 rfl ?_
        refine x_sub [1, 2, 3, 5, 0] rfl ?_
        exact t_X4_run_L56 C ih hk26 S x1 x2 x4 u8 x3  hf
      · replace hf := x_in c_10 hf
        refine x_iload C dX4_run_50 0 rfl ?_
        refine x_goto (tgt := 56) C dX4_run_52 (by decide) ?_
        refine x_sub [1, 2, 3, 5, 0] rfl ?_
        exact t_X4_run_L56 C ih hk26 S x1 x2 x4 u8 u8  hf
set_option maxHeartbeats 4000000 in
set_option maxRecDepth 100000 in
theorem c_X4_run (l : Launch) (D : va_G) (cy : Nat → ClassId) (ad : Nat → Nat) (S : St) (a1 : Int32) {r : Int32} {S2 : St}  (hf : f_X4_run S a1 = some (r, S2)) : XMi l D (wM cy ad) (xty cy) yX4_run wsX4_run ({ frames := 3, cells := 0, slots := 0, locals := 74 } : Room) [.ref (ad 0), .int a1] S r S2 := by
  refine x_ofWi (cc := cX4_run) (maxL := 6) (ret := some .int) (own := RX4) rfl (by decide) rfl (Nat.le_of_ble_eq_true rfl) rfl ?_
  intro p e s m args below meth c A C _
  unfold f_X4_run at hf
  refine x_aload_n C dX4_run_0 rfl 0 rfl ?_
  refine x_iload_n C dX4_run_1 rfl 1 rfl ?_
  obtain ⟨u1, h2, hf⟩ := x_bd hf
  refine x_callVi (As := [.int a1]) (st := []) C (c_X4_isWork l D cy ad S a1  h2) (cwV 1 C.2.2.2.2.1 gX4_run_X4_isWork rfl rfl rfl (by decide +kernel) ⟨(by decide), (by decide)⟩) 0 (gM_root cy ad S) rfl rfl rfl rfl (Nat.le_of_ble_eq_true rfl) dX4_run_2 ?_
  refine x_if_eq (tgt := 16) C dX4_run_5 (by decide) (fun (c_3 : u1 = 0) => ?_) (fun (c_3 : ¬ (u1 = 0)) => ?_)
  · replace hf := x_ip c_3 hf
    refine x_bipush (v := (-100)) C dX4_run_16 (by decide) ?_
    obtain ⟨e9, e8⟩ := x_s2 hf; subst e9; subst e8
    exact x_iret C dX4_run_18
  · replace hf := x_in c_3 hf
    refine x_aload_n C dX4_run_8 rfl 0 rfl ?_
    refine x_iload_n C dX4_run_9 rfl 1 rfl ?_
    obtain ⟨u4, h5, hf⟩ := x_bd hf
    refine x_callVi (As := [.int a1]) (st := []) C (c_X4_isFixed l D cy ad S a1  h5) (cwV 1 C.2.2.2.2.1 gX4_run_X4_isFixed rfl rfl rfl (by decide +kernel) ⟨(by decide), (by decide)⟩) 0 (gM_root cy ad S) rfl rfl rfl rfl (Nat.le_of_ble_eq_true rfl) dX4_run_10 ?_
    refine x_if_eq (tgt := 19) C dX4_run_13 (by decide) (fun (c_6 : u4 = 0) => ?_) (fun (c_6 : ¬ (u4 = 0)) => ?_)
    · replace hf := x_ip c_6 hf
      refine x_iconst (v := (-1)) C dX4_run_19 (by decide) ?_
      refine x_istore_n (lv2 := [(2, .int (-1)), (0, .ref (ad 0)), (1, .int a1)]) C dX4_run_20 rfl (by decide) rfl ?_
      refine x_iconst (v := 0) C dX4_run_21 (by decide) ?_
      refine x_istore_n (lv2 := [(3, .int 0), (2, .int (-1)), (0, .ref (ad 0)), (1, .int a1)]) C dX4_run_22 rfl (by decide) rfl ?_
      refine x_iconst (v := 0) C dX4_run_23 (by decide) ?_
      refine x_istore (lv2 := [(4, .int 0), (3, .int 0), (2, .int (-1)), (0, .ref (ad 0)), (1, .int a1)]) C dX4_run_24 (by decide) rfl ?_
      refine x_sub [3, 4, 2, 1, 0] rfl ?_
      refine t_X4_run_L26 C  (fun S_18 x1_18 x2_18 x3_18  hf => ?_) 1000 S a1 (-1) 0 0  hf
      refine x_iload_n C dX4_run_92 rfl 2 rfl ?_
      refine x_iconst (v := (-1)) C dX4_run_93 (by decide) ?_
      refine x_icmp_ne (tgt := 101) C dX4_run_94 (by decide) (fun (c_19 : ¬ (x2_18 = (-1))) => ?_) (fun (c_19 : x2_18 = (-1)) => ?_)
      · replace hf := x_in c_19 hf
        refine x_aload_n C dX4_run_101 rfl 0 rfl ?_
        obtain ⟨u20, h21, hf⟩ := x_bd hf
        refine x_callVv (As := []) (st := []) C (c_X4_beginMoves l D cy ad S_18   h21) (cwV 0 C.2.2.2.2.1 gX4_run_X4_beginMoves rfl rfl rfl (by decide +kernel) ⟨(by decide), (by decide)⟩) 0 (gM_root cy ad S_18) rfl rfl rfl rfl (Nat.le_of_ble_eq_true rfl) dX4_run_102 ?_
        refine x_aload_n C dX4_run_105 rfl 0 rfl ?_
        refine x_iload_n C dX4_run_106 rfl 1 rfl ?_
        refine x_iload_n C dX4_run_107 rfl 2 rfl ?_
        obtain ⟨u22, h23, hf⟩ := x_bd hf
        refine x_callVv (As := [.int x1_18, .int x2_18]) (st := []) C (c_X4_move l D cy ad u20 x1_18 x2_18  h23) (cwV 2 C.2.2.2.2.1 gX4_run_X4_move rfl rfl rfl (by decide +kernel) ⟨(by decide), (by decide)⟩) 0 (gM_root cy ad u20) rfl rfl rfl rfl (Nat.le_of_ble_eq_true rfl) dX4_run_108 ?_
        refine x_iload_n C dX4_run_111 rfl 2 rfl ?_
        obtain ⟨e9, e8⟩ := x_s2 hf; subst e9; subst e8
        exact x_iret C dX4_run_112
      · replace hf := x_ip c_19 hf
        refine x_iconst (v := (-1)) C dX4_run_97 (by decide) ?_
        refine x_iload_n C dX4_run_98 rfl 3 rfl ?_
        refine x_isub C dX4_run_99 ?_
        obtain ⟨e9, e8⟩ := x_s2 hf; subst e9; subst e8
        exact x_iret C dX4_run_100
    · replace hf := x_in c_6 hf
      refine x_bipush (v := (-100)) C dX4_run_16 (by decide) ?_
      obtain ⟨e9, e8⟩ := x_s2 hf; subst e9; subst e8
      exact x_iret C dX4_run_18
end DX4_run
set_option maxRecDepth 20000 in
theorem iX4_drop_X4 : ∀ w ∈ u_ws RX4 TX4 25, w ∈ wsX4_drop := by decide +kernel
def f_X4_drop (S : St) (a1 : Int32) : Option (Int32 × St) := (f_X4_isWork S a1).bind fun u1 => if u1 = 0 then (some (0, S)) else (if a1 < 0 ∨ 4 ≤ a1.toNatClampNeg then none else if (S.1 13 0 a1.toNatClampNeg) = (-1) then (some (0, S)) else ((f_X4_isFixed S a1).bind fun u6 => if u6 = 0 then ((f_X4_beginMoves S ).bind fun u9 => (f_X4_move u9 a1 (-1)).bind fun u11 => some (1, u11)) else (some (0, S))))
section DX4_drop
variable {p : Program} {l : Launch} {e : Env} {s : State} {m : MethodId} {args : Array Value} {below : List Frame} {meth : Method} {c : Code} {D : va_G} {cy : Nat → ClassId} {ad : Nat → Nat} {A : Nat → Prop}
set_option maxHeartbeats 4000000 in
set_option maxRecDepth 100000 in
theorem c_X4_drop (l : Launch) (D : va_G) (cy : Nat → ClassId) (ad : Nat → Nat) (S : St) (a1 : Int32) {r : Int32} {S2 : St}  (hf : f_X4_drop S a1 = some (r, S2)) : XMi l D (wM cy ad) (xty cy) yX4_drop wsX4_drop ({ frames := 1, cells := 0, slots := 0, locals := 22 } : Room) [.ref (ad 0), .int a1] S r S2 := by
  refine x_ofWi (cc := cX4_drop) (maxL := 2) (ret := some .boolean) (own := RX4) rfl (by decide) rfl (Nat.le_of_ble_eq_true rfl) rfl ?_
  intro p e s m args below meth c A C _
  unfold f_X4_drop at hf
  refine x_aload_n C dX4_drop_0 rfl 0 rfl ?_
  refine x_iload_n C dX4_drop_1 rfl 1 rfl ?_
  obtain ⟨u1, h2, hf⟩ := x_bd hf
  refine x_callVi (As := [.int a1]) (st := []) C (c_X4_isWork l D cy ad S a1  h2) (cwV 1 C.2.2.2.2.1 gX4_drop_X4_isWork rfl rfl rfl (by decide +kernel) ⟨(by decide), (by decide)⟩) 0 (gM_root cy ad S) rfl rfl rfl rfl (Nat.le_of_ble_eq_true rfl) dX4_drop_2 ?_
  refine x_if_eq (tgt := 26) C dX4_drop_5 (by decide) (fun (c_3 : u1 = 0) => ?_) (fun (c_3 : ¬ (u1 = 0)) => ?_)
  · replace hf := x_ip c_3 hf
    refine x_iconst (v := 0) C dX4_drop_26 (by decide) ?_
    obtain ⟨e9, e8⟩ := x_s2 hf; subst e9; subst e8
    exact x_zret C rfl dX4_drop_27
  · replace hf := x_in c_3 hf
    refine x_aload_n C dX4_drop_8 rfl 0 rfl ?_
    refine x_get (v := .ref (ad 12)) C iX4_drop_X4 rfl 0 (gM_root cy ad S) 13 (by decide) (by decide +kernel) rfl rfl dX4_drop_9 ?_
    refine x_iload_n C dX4_drop_12 rfl 1 rfl ?_
    obtain ⟨g_4, hf⟩ := x_gd hf
    refine x_iald (f := S.1 13 0) C 12 0 (gM_starts cy ad S) rfl g_4 dX4_drop_13 ?_
    refine x_iconst (v := (-1)) C dX4_drop_14 (by decide) ?_
    refine x_icmp_eq (tgt := 26) C dX4_drop_15 (by decide) (fun (c_5 : (S.1 13 0 a1.toNatClampNeg) = (-1)) => ?_) (fun (c_5 : ¬ ((S.1 13 0 a1.toNatClampNeg) = (-1))) => ?_)
    · replace hf := x_ip c_5 hf
      refine x_iconst (v := 0) C dX4_drop_26 (by decide) ?_
      obtain ⟨e9, e8⟩ := x_s2 hf; subst e9; subst e8
      exact x_zret C rfl dX4_drop_27
    · replace hf := x_in c_5 hf
      refine x_aload_n C dX4_drop_18 rfl 0 rfl ?_
      refine x_iload_n C dX4_drop_19 rfl 1 rfl ?_
      obtain ⟨u6, h7, hf⟩ := x_bd hf
      refine x_callVi (As := [.int a1]) (st := []) C (c_X4_isFixed l D cy ad S a1  h7) (cwV 1 C.2.2.2.2.1 gX4_drop_X4_isFixed rfl rfl rfl (by decide +kernel) ⟨(by decide), (by decide)⟩) 0 (gM_root cy ad S) rfl rfl rfl rfl (Nat.le_of_ble_eq_true rfl) dX4_drop_20 ?_
      refine x_if_eq (tgt := 28) C dX4_drop_23 (by decide) (fun (c_8 : u6 = 0) => ?_) (fun (c_8 : ¬ (u6 = 0)) => ?_)
      · replace hf := x_ip c_8 hf
        refine x_aload_n C dX4_drop_28 rfl 0 rfl ?_
        obtain ⟨u9, h10, hf⟩ := x_bd hf
        refine x_callVv (As := []) (st := []) C (c_X4_beginMoves l D cy ad S   h10) (cwV 0 C.2.2.2.2.1 gX4_drop_X4_beginMoves rfl rfl rfl (by decide +kernel) ⟨(by decide), (by decide)⟩) 0 (gM_root cy ad S) rfl rfl rfl rfl (Nat.le_of_ble_eq_true rfl) dX4_drop_29 ?_
        refine x_aload_n C dX4_drop_32 rfl 0 rfl ?_
        refine x_iload_n C dX4_drop_33 rfl 1 rfl ?_
        refine x_iconst (v := (-1)) C dX4_drop_34 (by decide) ?_
        obtain ⟨u11, h12, hf⟩ := x_bd hf
        refine x_callVv (As := [.int a1, .int (-1)]) (st := []) C (c_X4_move l D cy ad u9 a1 (-1)  h12) (cwV 2 C.2.2.2.2.1 gX4_drop_X4_move rfl rfl rfl (by decide +kernel) ⟨(by decide), (by decide)⟩) 0 (gM_root cy ad u9) rfl rfl rfl rfl (Nat.le_of_ble_eq_true rfl) dX4_drop_35 ?_
        refine x_iconst (v := 1) C dX4_drop_38 (by decide) ?_
        obtain ⟨e9, e8⟩ := x_s2 hf; subst e9; subst e8
        exact x_zret C rfl dX4_drop_39
      · replace hf := x_in c_8 hf
        refine x_iconst (v := 0) C dX4_drop_26 (by decide) ?_
        obtain ⟨e9, e8⟩ := x_s2 hf; subst e9; subst e8
        exact x_zret C rfl dX4_drop_27
end DX4_drop
def f_X4_may (S : St) (a1 : Int32) (a2 : Int32) : Option (Int32) := (f_X4_isWork S a1).bind fun u1 => if u1 = 0 then (some 0) else ((f_X4_isHour S a2).bind fun u4 => if u4 = 0 then (some 0) else ((f_X4_breaks S a1 a2).bind fun u7 => if u7 = 0 then (some 1) else (some 0)))
section DX4_may
variable {p : Program} {l : Launch} {e : Env} {s : State} {m : MethodId} {args : Array Value} {below : List Frame} {meth : Method} {c : Code} {D : va_G} {cy : Nat → ClassId} {ad : Nat → Nat} {A : Nat → Prop}
set_option maxHeartbeats 4000000 in
set_option maxRecDepth 100000 in
theorem c_X4_may (l : Launch) (D : va_G) (cy : Nat → ClassId) (ad : Nat → Nat) (S : St) (a1 : Int32) (a2 : Int32) {r : Int32}  (hf : f_X4_may S a1 a2 = some r) : XMi l D (wM cy ad) (xty cy) yX4_may wsX4_may ({ frames := 3, cells := 0, slots := 0, locals := 74 } : Room) [.ref (ad 0), .int a1, .int a2] S r S := by
  refine x_ofWi (cc := cX4_may) (maxL := 3) (ret := some .boolean) (own := RX4) rfl (by decide) rfl (Nat.le_of_ble_eq_true rfl) rfl ?_
  intro p e s m args below meth c A C _
  unfold f_X4_may at hf
  refine x_aload_n C dX4_may_0 rfl 0 rfl ?_
  refine x_iload_n C dX4_may_1 rfl 1 rfl ?_
  obtain ⟨u1, h2, hf⟩ := x_bd hf
  refine x_callVi (As := [.int a1]) (st := []) C (c_X4_isWork l D cy ad S a1  h2) (cwV 1 C.2.2.2.2.1 gX4_may_X4_isWork rfl rfl rfl (by decide +kernel) ⟨(by decide), (by decide)⟩) 0 (gM_root cy ad S) rfl rfl rfl rfl (Nat.le_of_ble_eq_true rfl) dX4_may_2 ?_
  refine x_if_eq (tgt := 29) C dX4_may_5 (by decide) (fun (c_3 : u1 = 0) => ?_) (fun (c_3 : ¬ (u1 = 0)) => ?_)
  · replace hf := x_ip c_3 hf
    refine x_iconst (v := 0) C dX4_may_29 (by decide) ?_
    have e9 := x_s1 hf; subst e9
    exact x_zret C rfl dX4_may_30
  · replace hf := x_in c_3 hf
    refine x_aload_n C dX4_may_8 rfl 0 rfl ?_
    refine x_iload_n C dX4_may_9 rfl 2 rfl ?_
    obtain ⟨u4, h5, hf⟩ := x_bd hf
    refine x_callVi (As := [.int a2]) (st := []) C (c_X4_isHour l D cy ad S a2  h5) (cwV 1 C.2.2.2.2.1 gX4_may_X4_isHour rfl rfl rfl (by decide +kernel) ⟨(by decide), (by decide)⟩) 0 (gM_root cy ad S) rfl rfl rfl rfl (Nat.le_of_ble_eq_true rfl) dX4_may_10 ?_
    refine x_if_eq (tgt := 29) C dX4_may_13 (by decide) (fun (c_6 : u4 = 0) => ?_) (fun (c_6 : ¬ (u4 = 0)) => ?_)
    · replace hf := x_ip c_6 hf
      refine x_iconst (v := 0) C dX4_may_29 (by decide) ?_
      have e9 := x_s1 hf; subst e9
      exact x_zret C rfl dX4_may_30
    · replace hf := x_in c_6 hf
      refine x_aload_n C dX4_may_16 rfl 0 rfl ?_
      refine x_iload_n C dX4_may_17 rfl 1 rfl ?_
      refine x_iload_n C dX4_may_18 rfl 2 rfl ?_
      obtain ⟨u7, h8, hf⟩ := x_bd hf
      refine x_callVi (As := [.int a1, .int a2]) (st := []) C (c_X4_breaks l D cy ad S a1 a2  h8) (cwV 2 C.2.2.2.2.1 gX4_may_X4_breaks rfl rfl rfl (by decide +kernel) ⟨(by decide), (by decide)⟩) 0 (gM_root cy ad S) rfl rfl rfl rfl (Nat.le_of_ble_eq_true rfl) dX4_may_19 ?_
      refine x_if_ne (tgt := 29) C dX4_may_22 (by decide) (fun (c_9 : ¬ (u7 = 0)) => ?_) (fun (c_9 : u7 = 0) => ?_)
      · replace hf := x_in c_9 hf
        refine x_iconst (v := 0) C dX4_may_29 (by decide) ?_
        have e9 := x_s1 hf; subst e9
        exact x_zret C rfl dX4_may_30
      · replace hf := x_ip c_9 hf
        refine x_iconst (v := 1) C dX4_may_25 (by decide) ?_
        refine x_goto (tgt := 30) C dX4_may_26 (by decide) ?_
        have e9 := x_s1 hf; subst e9
        exact x_zret C rfl dX4_may_30
end DX4_may
set_option maxRecDepth 20000 in
theorem iX4_look_X4 : ∀ w ∈ u_ws RX4 TX4 25, w ∈ wsX4_look := by decide +kernel
def f_X4_look_L62 (r2 : St → Int32 → Option (St)) (k2 : St → Option (St)) (r12 : St → Int32 → Int32 → Option (St)) (k12 : St → Int32 → Option (St)) (S : St) (x1 : Int32) (x2 : Int32) (y0 : Int32) (y1 : Int32) : Option (St) := if y1 < 0 ∨ 144 ≤ y1.toNatClampNeg then none else if ((36 * x1) + x2) < 0 ∨ 144 ≤ ((36 * x1) + x2).toNatClampNeg then none else if ((xI S 18 0 y1.toNatClampNeg (vp_nar .boolean y0)).1 18 0 ((36 * x1) + x2).toNatClampNeg) = 0 then (r12 (xI (xI S 18 0 y1.toNatClampNeg (vp_nar .boolean y0)) 19 0 (((36 * x1) + x2).toNatClampNeg) 0) x1 (x2 + 1)) else ((f_X4_delayOf (xI S 18 0 y1.toNatClampNeg (vp_nar .boolean y0)) x1 x2).bind fun u9 => r12 (xI (xI S 18 0 y1.toNatClampNeg (vp_nar .boolean y0)) 19 0 (((36 * x1) + x2).toNatClampNeg) u9) x1 (x2 + 1))
def f_X4_look_L61 (r2 : St → Int32 → Option (St)) (k2 : St → Option (St)) (r12 : St → Int32 → Int32 → Option (St)) (k12 : St → Int32 → Option (St)) (S : St) (x1 : Int32) (x2 : Int32) (y0 : Int32) : Option (St) := f_X4_look_L62 r2 k2 r12 k12 S x1 x2 0 y0
def f_X4_look_L57 (r2 : St → Int32 → Option (St)) (k2 : St → Option (St)) (r12 : St → Int32 → Int32 → Option (St)) (k12 : St → Int32 → Option (St)) (S : St) (x1 : Int32) (x2 : Int32) (y0 : Int32) : Option (St) := f_X4_look_L62 r2 k2 r12 k12 S x1 x2 1 y0
def f_X4_look_L12 (r2 : St → Int32 → Option (St)) (k2 : St → Option (St)) (k12 : St → Int32 → Option (St)) : Nat → St → Int32 → Int32 → Option (St)
  | 0 => fun _ _ _ => none
  | n + 1 => fun S x1 x2 => if (S.1 0 0 0) ≤ x2 then (k12 S x1) else ((f_X4_breaksAlone S x1 x2).bind fun u3 => if u3 = 0 then ((f_X4_isFixed S x1).bind fun u11 => if u11 = 0 then (f_X4_look_L57 r2 k2 (f_X4_look_L12 r2 k2 k12 n) k12 S x1 x2 ((36 * x1) + x2)) else (if x1 < 0 ∨ 4 ≤ x1.toNatClampNeg then none else if x2 = (S.1 13 0 x1.toNatClampNeg) then (f_X4_look_L57 r2 k2 (f_X4_look_L12 r2 k2 k12 n) k12 S x1 x2 ((36 * x1) + x2)) else (f_X4_look_L61 r2 k2 (f_X4_look_L12 r2 k2 k12 n) k12 S x1 x2 ((36 * x1) + x2)))) else (f_X4_look_L61 r2 k2 (f_X4_look_L12 r2 k2 k12 n) k12 S x1 x2 ((36 * x1) + x2)))
def f_X4_look_L2  (k2 : St → Option (St)) : Nat → St → Int32 → Option (St)
  | 0 => fun _ _ => none
  | n + 1 => fun S x1 => if (S.1 1 0 0) ≤ x1 then (k2 S ) else (f_X4_look_L12 (f_X4_look_L2  k2 n) k2 (fun S_16 x1_16 => (f_X4_look_L2  k2 n) S_16 (x1_16 + 1)) 1000 S x1 0)
def f_X4_look (S : St)  : Option (St) := f_X4_look_L2  (fun S_17  => some S_17) 1000 S 0
section DX4_look
variable {p : Program} {l : Launch} {e : Env} {s : State} {m : MethodId} {args : Array Value} {below : List Frame} {meth : Method} {c : Code} {D : va_G} {cy : Nat → ClassId} {ad : Nat → Nat} {A : Nat → Prop}
set_option maxHeartbeats 4000000 in
set_option maxRecDepth 100000 in
theorem t_X4_look_L62 (C : XC p s m args meth c D A (xty cy) cX4_look 3 RX4 wsX4_look (none)) {S2 : St} {r2 : St → Int32 → Option (St)} {k2 : St → Option (St)} {r12 : St → Int32 → Int32 → Option (St)} {k12 : St → Int32 → Option (St)} (hr2 : ∀ (S : St) (x1 : Int32), r2 S x1 = some S2 → XJ p l e ({ frames := 2, cells := 0, slots := 0, locals := 48 } : Room) s m args below meth c D (wM cy ad) A 3 (QXv D (wM cy ad) A below args s S2) S 2 [(0, .ref (ad 0)), (1, .int x1)] []) (hk2 : ∀ (S : St) , k2 S  = some S2 → XJ p l e ({ frames := 2, cells := 0, slots := 0, locals := 48 } : Room) s m args below meth c D (wM cy ad) A 3 (QXv D (wM cy ad) A below args s S2) S 110 [] []) (hr12 : ∀ (S : St) (x1 : Int32) (x2 : Int32), r12 S x1 x2 = some S2 → XJ p l e ({ frames := 2, cells := 0, slots := 0, locals := 48 } : Room) s m args below meth c D (wM cy ad) A 3 (QXv D (wM cy ad) A below args s S2) S 12 [(0, .ref (ad 0)), (1, .int x1), (2, .int x2)] []) (hk12 : ∀ (S : St) (x1 : Int32), k12 S x1 = some S2 → XJ p l e ({ frames := 2, cells := 0, slots := 0, locals := 48 } : Room) s m args below meth c D (wM cy ad) A 3 (QXv D (wM cy ad) A below args s S2) S 104 [(0, .ref (ad 0)), (1, .int x1)] []) (S : St) (x1 : Int32) (x2 : Int32) (y0 : Int32) (y1 : Int32)  (hf : f_X4_look_L62 r2 k2 r12 k12 S x1 x2 y0 y1 = some S2) : XJ p l e ({ frames := 2, cells := 0, slots := 0, locals := 48 } : Room) s m args below meth c D (wM cy ad) A 3 (QXv D (wM cy ad) A below args s S2) S 62 [(0, .ref (ad 0)), (1, .int x1), (2, .int x2)] [.int y0, .int y1, .ref (ad 17)] := by
  unfold f_X4_look_L62 at hf
  obtain ⟨g_6, hf⟩ := x_gd hf
  refine x_zast (S2 := (xI S 18 0 y1.toNatClampNeg (vp_nar .boolean y0))) C 17 5 (gM_alone cy ad S) rfl g_6 (sM_alone cy ad S y1.toNatClampNeg (vp_nar .boolean y0)) dX4_look_62 ?_
  refine x_aload_n C dX4_look_63 rfl 0 rfl ?_
  refine x_get (v := .ref (ad 18)) C iX4_look_X4 rfl 0 (gM_root cy ad (xI S 18 0 y1.toNatClampNeg (vp_nar .boolean y0))) 19 (by decide) (by decide +kernel) rfl rfl dX4_look_64 ?_
  refine x_bipush (v := 36) C dX4_look_67 (by decide) ?_
  refine x_iload_n C dX4_look_69 rfl 1 rfl ?_
  refine x_imul C dX4_look_70 ?_
  refine x_iload_n C dX4_look_71 rfl 2 rfl ?_
  refine x_iadd C dX4_look_72 ?_
  refine x_aload_n C dX4_look_73 rfl 0 rfl ?_
  refine x_get (v := .ref (ad 17)) C iX4_look_X4 rfl 0 (gM_root cy ad (xI S 18 0 y1.toNatClampNeg (vp_nar .boolean y0))) 18 (by decide) (by decide +kernel) rfl rfl dX4_look_74 ?_
  refine x_bipush (v := 36) C dX4_look_77 (by decide) ?_
  refine x_iload_n C dX4_look_79 rfl 1 rfl ?_
  refine x_imul C dX4_look_80 ?_
  refine x_iload_n C dX4_look_81 rfl 2 rfl ?_
  refine x_iadd C dX4_look_82 ?_
  obtain ⟨g_7, hf⟩ := x_gd hf
  refine x_zald (f := (xI S 18 0 y1.toNatClampNeg (vp_nar .boolean y0)).1 18 0) C 17 5 (gM_alone cy ad (xI S 18 0 y1.toNatClampNeg (vp_nar .boolean y0))) rfl g_7 dX4_look_83 ?_
  refine x_if_eq (tgt := 96) C dX4_look_84 (by decide) (fun (c_8 : ((xI S 18 0 y1.toNatClampNeg (vp_nar .boolean y0)).1 18 0 ((36 * x1) + x2).toNatClampNeg) = 0) => ?_) (fun (c_8 : ¬ (((xI S 18 0 y1.toNatClampNeg (vp_nar .boolean y0)).1 18 0 ((36 * x1) + x2).toNatClampNeg) = 0)) => ?_)
  · replace hf := x_ip c_8 hf
    refine x_iconst (v := 0) C dX4_look_96 (by decide) ?_
    refine x_iast (S2 := (xI (xI S 18 0 y1.toNatClampNeg (vp_nar .boolean y0)) 19 0 (((36 * x1) + x2).toNatClampNeg) 0)) C 18 0 (gM_sums cy ad (xI S 18 0 y1.toNatClampNeg (vp_nar .boolean y0))) rfl g_7 (sM_sums cy ad (xI S 18 0 y1.toNatClampNeg (vp_nar .boolean y0)) (((36 * x1) + x2).toNatClampNeg) 0) dX4_look_97 ?_
    refine x_iinc (v := x2 + 1) (lv2 := [(2, .int (x2 + 1)), (0, .ref (ad 0)), (1, .int x1)]) C dX4_look_98 (k0 := 2) rfl rfl (by decide) rfl ?_
    refine x_goto (tgt := 12) C dX4_look_101 (by decide) ?_
    refine x_sub [1, 2, 0] rfl ?_
    exact hr12 (xI (xI S 18 0 y1.toNatClampNeg (vp_nar .boolean y0)) 19 0 (((36 * x1) + x2).toNatClampNeg) 0) x1 (x2 + 1)  hf
  · replace hf := x_in c_8 hf
    refine x_aload_n C dX4_look_87 rfl 0 rfl ?_
    refine x_iload_n C dX4_look_88 rfl 1 rfl ?_
    refine x_iload_n C dX4_look_89 rfl 2 rfl ?_
    obtain ⟨u9, h10, hf⟩ := x_bd hf
    refine x_callVi (As := [.int x1, .int x2]) (st := [.int ((36 * x1) + x2), .ref (ad 18)]) C (c_X4_delayOf l D cy ad (xI S 18 0 y1.toNatClampNeg (vp_nar .boolean y0)) x1 x2  h10) (cwV 2 C.2.2.2.2.1 gX4_look_X4_delayOf rfl rfl rfl (by decide +kernel) ⟨(by decide), (by decide)⟩) 0 (gM_root cy ad (xI S 18 0 y1.toNatClampNeg (vp_nar .boolean y0))) rfl rfl rfl rfl (Nat.le_of_ble_eq_true rfl) dX4_look_90 ?_
    refine x_goto (tgt := 97) C dX4_look_93 (by decide) ?_
    refine x_iast (S2 := (xI (xI S 18 0 y1.toNatClampNeg (vp_nar .boolean y0)) 19 0 (((36 * x1) + x2).toNatClampNeg) u9)) C 18 0 (gM_sums cy ad (xI S 18 0 y1.toNatClampNeg (vp_nar .boolean y0))) rfl g_7 (sM_sums cy ad (xI S 18 0 y1.toNatClampNeg (vp_nar .boolean y0)) (((36 * x1) + x2).toNatClampNeg) u9) dX4_look_97 ?_
    refine x_iinc (v := x2 + 1) (lv2 := [(2, .int (x2 + 1)), (0, .ref (ad 0)), (1, .int x1)]) C dX4_look_98 (k0 := 2) rfl rfl (by decide) rfl ?_
    refine x_goto (tgt := 12) C dX4_look_101 (by decide) ?_
    refine x_sub [1, 2, 0] rfl ?_
    exact hr12 (xI (xI S 18 0 y1.toNatClampNeg (vp_nar .boolean y0)) 19 0 (((36 * x1) + x2).toNatClampNeg) u9) x1 (x2 + 1)  hf
set_option maxHeartbeats 4000000 in
set_option maxRecDepth 100000 in
theorem t_X4_look_L61 (C : XC p s m args meth c D A (xty cy) cX4_look 3 RX4 wsX4_look (none)) {S2 : St} {r2 : St → Int32 → Option (St)} {k2 : St → Option (St)} {r12 : St → Int32 → Int32 → Option (St)} {k12 : St → Int32 → Option (St)} (hr2 : ∀ (S : St) (x1 : Int32), r2 S x1 = some S2 → XJ p l e ({ frames := 2, cells := 0, slots := 0, locals := 48 } : Room) s m args below meth c D (wM cy ad) A 3 (QXv D (wM cy ad) A below args s S2) S 2 [(0, .ref (ad 0)), (1, .int x1)] []) (hk2 : ∀ (S : St) , k2 S  = some S2 → XJ p l e ({ frames := 2, cells := 0, slots := 0, locals := 48 } : Room) s m args below meth c D (wM cy ad) A 3 (QXv D (wM cy ad) A below args s S2) S 110 [] []) (hr12 : ∀ (S : St) (x1 : Int32) (x2 : Int32), r12 S x1 x2 = some S2 → XJ p l e ({ frames := 2, cells := 0, slots := 0, locals := 48 } : Room) s m args below meth c D (wM cy ad) A 3 (QXv D (wM cy ad) A below args s S2) S 12 [(0, .ref (ad 0)), (1, .int x1), (2, .int x2)] []) (hk12 : ∀ (S : St) (x1 : Int32), k12 S x1 = some S2 → XJ p l e ({ frames := 2, cells := 0, slots := 0, locals := 48 } : Room) s m args below meth c D (wM cy ad) A 3 (QXv D (wM cy ad) A below args s S2) S 104 [(0, .ref (ad 0)), (1, .int x1)] []) (S : St) (x1 : Int32) (x2 : Int32) (y0 : Int32)  (hf : f_X4_look_L61 r2 k2 r12 k12 S x1 x2 y0 = some S2) : XJ p l e ({ frames := 2, cells := 0, slots := 0, locals := 48 } : Room) s m args below meth c D (wM cy ad) A 3 (QXv D (wM cy ad) A below args s S2) S 61 [(0, .ref (ad 0)), (1, .int x1), (2, .int x2)] [.int y0, .ref (ad 17)] := by
  unfold f_X4_look_L61 at hf
  refine x_iconst (v := 0) C dX4_look_61 (by decide) ?_
  exact t_X4_look_L62 C hr2 hk2 hr12 hk12 S x1 x2 0 y0  hf
set_option maxHeartbeats 4000000 in
set_option maxRecDepth 100000 in
theorem t_X4_look_L57 (C : XC p s m args meth c D A (xty cy) cX4_look 3 RX4 wsX4_look (none)) {S2 : St} {r2 : St → Int32 → Option (St)} {k2 : St → Option (St)} {r12 : St → Int32 → Int32 → Option (St)} {k12 : St → Int32 → Option (St)} (hr2 : ∀ (S : St) (x1 : Int32), r2 S x1 = some S2 → XJ p l e ({ frames := 2, cells := 0, slots := 0, locals := 48 } : Room) s m args below meth c D (wM cy ad) A 3 (QXv D (wM cy ad) A below args s S2) S 2 [(0, .ref (ad 0)), (1, .int x1)] []) (hk2 : ∀ (S : St) , k2 S  = some S2 → XJ p l e ({ frames := 2, cells := 0, slots := 0, locals := 48 } : Room) s m args below meth c D (wM cy ad) A 3 (QXv D (wM cy ad) A below args s S2) S 110 [] []) (hr12 : ∀ (S : St) (x1 : Int32) (x2 : Int32), r12 S x1 x2 = some S2 → XJ p l e ({ frames := 2, cells := 0, slots := 0, locals := 48 } : Room) s m args below meth c D (wM cy ad) A 3 (QXv D (wM cy ad) A below args s S2) S 12 [(0, .ref (ad 0)), (1, .int x1), (2, .int x2)] []) (hk12 : ∀ (S : St) (x1 : Int32), k12 S x1 = some S2 → XJ p l e ({ frames := 2, cells := 0, slots := 0, locals := 48 } : Room) s m args below meth c D (wM cy ad) A 3 (QXv D (wM cy ad) A below args s S2) S 104 [(0, .ref (ad 0)), (1, .int x1)] []) (S : St) (x1 : Int32) (x2 : Int32) (y0 : Int32)  (hf : f_X4_look_L57 r2 k2 r12 k12 S x1 x2 y0 = some S2) : XJ p l e ({ frames := 2, cells := 0, slots := 0, locals := 48 } : Room) s m args below meth c D (wM cy ad) A 3 (QXv D (wM cy ad) A below args s S2) S 57 [(0, .ref (ad 0)), (1, .int x1), (2, .int x2)] [.int y0, .ref (ad 17)] := by
  unfold f_X4_look_L57 at hf
  refine x_iconst (v := 1) C dX4_look_57 (by decide) ?_
  refine x_goto (tgt := 62) C dX4_look_58 (by decide) ?_
  exact t_X4_look_L62 C hr2 hk2 hr12 hk12 S x1 x2 1 y0  hf
set_option maxHeartbeats 4000000 in
set_option maxRecDepth 100000 in
theorem t_X4_look_L12 (C : XC p s m args meth c D A (xty cy) cX4_look 3 RX4 wsX4_look (none)) {S2 : St} {r2 : St → Int32 → Option (St)} {k2 : St → Option (St)} (hr2 : ∀ (S : St) (x1 : Int32), r2 S x1 = some S2 → XJ p l e ({ frames := 2, cells := 0, slots := 0, locals := 48 } : Room) s m args below meth c D (wM cy ad) A 3 (QXv D (wM cy ad) A below args s S2) S 2 [(0, .ref (ad 0)), (1, .int x1)] []) (hk2 : ∀ (S : St) , k2 S  = some S2 → XJ p l e ({ frames := 2, cells := 0, slots := 0, locals := 48 } : Room) s m args below meth c D (wM cy ad) A 3 (QXv D (wM cy ad) A below args s S2) S 110 [] []) {k12 : St → Int32 → Option (St)} (hk12 : ∀ (S : St) (x1 : Int32), k12 S x1 = some S2 → XJ p l e ({ frames := 2, cells := 0, slots := 0, locals := 48 } : Room) s m args below meth c D (wM cy ad) A 3 (QXv D (wM cy ad) A below args s S2) S 104 [(0, .ref (ad 0)), (1, .int x1)] []) : ∀ (n : Nat), ∀ (S : St) (x1 : Int32) (x2 : Int32), (f_X4_look_L12 r2 k2 k12 n) S x1 x2 = some S2 → XJ p l e ({ frames := 2, cells := 0, slots := 0, locals := 48 } : Room) s m args below meth c D (wM cy ad) A 3 (QXv D (wM cy ad) A below args s S2) S 12 [(0, .ref (ad 0)), (1, .int x1), (2, .int x2)] [] := by
  intro n
  induction n with
  | zero => intro S x1 x2 hf; cases hf
  | succ n ih =>
    intro S x1 x2 hf
    rw [f_X4_look_L12] at hf
    refine x_iload_n C dX4_look_12 rfl 2 rfl ?_
    refine x_aload_n C dX4_look_13 rfl 0 rfl ?_
    refine x_get (v := .int (S.1 0 0 0)) C iX4_look_X4 rfl 0 (gM_root cy ad S) 0 (by decide) (by decide +kernel) rfl rfl dX4_look_14 ?_
    refine x_icmp_ge (tgt := 104) C dX4_look_17 (by decide) (fun (c_2 : (S.1 0 0 0) ≤ x2) => ?_) (fun (c_2 : ¬ ((S.1 0 0 0) ≤ x2)) => ?_)
    · replace hf := x_ip c_2 hf
      refine x_sub [0, 1] rfl ?_
      exact hk12 S x1  hf
    · replace hf := x_in c_2 hf
      refine x_aload_n C dX4_look_20 rfl 0 rfl ?_
      refine x_get (v := .ref (ad 17)) C iX4_look_X4 rfl 0 (gM_root cy ad S) 18 (by decide) (by decide +kernel) rfl rfl dX4_look_21 ?_
      refine x_bipush (v := 36) C dX4_look_24 (by decide) ?_
      refine x_iload_n C dX4_look_26 rfl 1 rfl ?_
      refine x_imul C dX4_look_27 ?_
      refine x_iload_n C dX4_look_28 rfl 2 rfl ?_
      refine x_iadd C dX4_look_29 ?_
      refine x_aload_n C dX4_look_30 rfl 0 rfl ?_
      refine x_iload_n C dX4_look_31 rfl 1 rfl ?_
      refine x_iload_n C dX4_look_32 rfl 2 rfl ?_
      obtain ⟨u3, h4, hf⟩ := x_bd hf
      refine x_callVi (As := [.int x1, .int x2]) (st := [.int ((36 * x1) + x2), .ref (ad 17)]) C (c_X4_breaksAlone l D cy ad S x1 x2  h4) (cwV 2 C.2.2.2.2.1 gX4_look_X4_breaksAlone rfl rfl rfl (by decide +kernel) ⟨(by decide), (by decide)⟩) 0 (gM_root cy ad S) rfl rfl rfl rfl (Nat.le_of_ble_eq_true rfl) dX4_look_33 ?_
      refine x_if_ne (tgt := 61) C dX4_look_36 (by decide) (fun (c_5 : ¬ (u3 = 0)) => ?_) (fun (c_5 : u3 = 0) => ?_)
      · replace hf := x_in c_5 hf
        exact t_X4_look_L61 C hr2 hk2 ih hk12 S x1 x2 ((36 * x1) + x2)  hf
      · replace hf := x_ip c_5 hf
        refine x_aload_n C dX4_look_39 rfl 0 rfl ?_
        refine x_iload_n C dX4_look_40 rfl 1 rfl ?_
        obtain ⟨u11, h12, hf⟩ := x_bd hf
        refine x_callVi (As := [.int x1]) (st := [.int ((36 * x1) + x2), .ref (ad 17)]) C (c_X4_isFixed l D cy ad S x1  h12) (cwV 1 C.2.2.2.2.1 gX4_look_X4_isFixed rfl rfl rfl (by decide +kernel) ⟨(by decide), (by decide)⟩) 0 (gM_root cy ad S) rfl rfl rfl rfl (Nat.le_of_ble_eq_true rfl) dX4_look_41 ?_
        refine x_if_eq (tgt := 57) C dX4_look_44 (by decide) (fun (c_13 : u11 = 0) => ?_) (fun (c_13 : ¬ (u11 = 0)) => ?_)
        · replace hf := x_ip c_13 hf
          exact t_X4_look_L57 C hr2 hk2 ih hk12 S x1 x2 ((36 * x1) + x2)  hf
        · replace hf := x_in c_13 hf
          refine x_iload_n C dX4_look_47 rfl 2 rfl ?_
          refine x_aload_n C dX4_look_48 rfl 0 rfl ?_
          refine x_get (v := .ref (ad 12)) C iX4_look_X4 rfl 0 (gM_root cy ad S) 13 (by decide) (by decide +kernel) rfl rfl dX4_look_49 ?_
          refine x_iload_n C dX4_look_52 rfl 1 rfl ?_
          obtain ⟨g_14, hf⟩ := x_gd hf
          refine x_iald (f := S.1 13 0) C 12 0 (gM_starts cy ad S) rfl g_14 dX4_look_53 ?_
          refine x_icmp_ne (tgt := 61) C dX4_look_54 (by decide) (fun (c_15 : ¬ (x2 = (S.1 13 0 x1.toNatClampNeg))) => ?_) (fun (c_15 : x2 = (S.1 13 0 x1.toNatClampNeg)) => ?_)
          · replace hf := x_in c_15 hf
            exact t_X4_look_L61 C hr2 hk2 ih hk12 S x1 x2 ((36 * x1) + x2)  hf
          · replace hf := x_ip c_15 hf
            exact t_X4_look_L57 C hr2 hk2 ih hk12 S x1 x2 ((36 * x1) + x2)  hf
set_option maxHeartbeats 4000000 in
set_option maxRecDepth 100000 in
theorem t_X4_look_L2 (C : XC p s m args meth c D A (xty cy) cX4_look 3 RX4 wsX4_look (none)) {S2 : St}   {k2 : St → Option (St)} (hk2 : ∀ (S : St) , k2 S  = some S2 → XJ p l e ({ frames := 2, cells := 0, slots := 0, locals := 48 } : Room) s m args below meth c D (wM cy ad) A 3 (QXv D (wM cy ad) A below args s S2) S 110 [] []) : ∀ (n : Nat), ∀ (S : St) (x1 : Int32), (f_X4_look_L2  k2 n) S x1 = some S2 → XJ p l e ({ frames := 2, cells := 0, slots := 0, locals := 48 } : Room) s m args below meth c D (wM cy ad) A 3 (QXv D (wM cy ad) A below args s S2) S 2 [(0, .ref (ad 0)), (1, .int x1)] [] := by
  intro n
  induction n with
  | zero => intro S x1 hf; cases hf
  | succ n ih =>
    intro S x1 hf
    rw [f_X4_look_L2] at hf
    refine x_iload_n C dX4_look_2 rfl 1 rfl ?_
    refine x_aload_n C dX4_look_3 rfl 0 rfl ?_
    refine x_get (v := .int (S.1 1 0 0)) C iX4_look_X4 rfl 0 (gM_root cy ad S) 1 (by decide) (by decide +kernel) rfl rfl dX4_look_4 ?_
    refine x_icmp_ge (tgt := 110) C dX4_look_7 (by decide) (fun (c_1 : (S.1 1 0 0) ≤ x1) => ?_) (fun (c_1 : ¬ ((S.1 1 0 0) ≤ x1)) => ?_)
    · replace hf := x_ip c_1 hf
      refine x_sub [] rfl ?_
      exact hk2 S   hf
    · replace hf := x_in c_1 hf
      refine x_iconst (v := 0) C dX4_look_10 (by decide) ?_
      refine x_istore_n (lv2 := [(2, .int 0), (0, .ref (ad 0)), (1, .int x1)]) C dX4_look_11 rfl (by decide) rfl ?_
      refine x_sub [1, 2, 0] rfl ?_
      refine t_X4_look_L12 C ih hk2 (fun S_16 x1_16  hf => ?_) 1000 S x1 0  hf
      refine x_iinc (v := x1_16 + 1) (lv2 := [(1, .int (x1_16 + 1)), (0, .ref (ad 0))]) C dX4_look_104 (k0 := 1) rfl rfl (by decide) rfl ?_
      refine x_goto (tgt := 2) C dX4_look_107 (by decide) ?_
      refine x_sub [1, 0] rfl ?_
      exact ih S_16 (x1_16 + 1)  hf
set_option maxHeartbeats 4000000 in
set_option maxRecDepth 100000 in
theorem c_X4_look (l : Launch) (D : va_G) (cy : Nat → ClassId) (ad : Nat → Nat) (S : St)  {S2 : St}  (hf : f_X4_look S  = some S2) : XMv l D (wM cy ad) (xty cy) yX4_look wsX4_look ({ frames := 2, cells := 0, slots := 0, locals := 48 } : Room) [.ref (ad 0)] S S2 := by
  refine x_ofWv (cc := cX4_look) (maxL := 3) (ret := none) (own := RX4) rfl (by decide) rfl (Nat.le_of_ble_eq_true rfl) rfl ?_
  intro p e s m args below meth c A C _
  unfold f_X4_look at hf
  refine x_iconst (v := 0) C dX4_look_0 (by decide) ?_
  refine x_istore_n (lv2 := [(1, .int 0), (0, .ref (ad 0))]) C dX4_look_1 rfl (by decide) rfl ?_
  refine x_sub [1, 0] rfl ?_
  refine t_X4_look_L2 C  (fun S_17   hf => ?_) 1000 S 0  hf
  have e9 := x_s1 hf; subst e9
  exact x_vret C dX4_look_110
end DX4_look
