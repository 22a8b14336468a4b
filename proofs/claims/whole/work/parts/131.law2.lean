def v0L (L : Nat) (xs : Nat → Int32) : Int32 := if nI L ≤ 0 then 0 else xs (0 : Int32).toNatClampNeg
set_option maxHeartbeats 4000000 in
set_option maxRecDepth 100000 in
/-- cell(script, 0) -/
theorem c_L_cell (l : Launch) (b L : Nat) (xs : Nat → Int32) (sz : Nat) (hL : L ≤ 2049) : Met l yL_cell wsL_cell ({ frames := 0, cells := 0, slots := 0, locals := 0 }) (va_Pc [.ref b, .int 0] (fun U => U.heap.size = sz ∧ b < sz ∧ va_X b L xs U U.heap)) (va_Qi (fun (r : Int32) (_ : Unit) => r = v0L L xs) (fun _ _ => True) (fun q : Nat => sz ≤ q)) 0 0 (fun q : Nat => sz ≤ q) := by
  refine Met.ofW (cc := cL_cell) (maxL := 2) (ret := (some .int)) (by decide) rfl ?_
  intro p e s m args below meth c s₁ B hml hv
  obtain ⟨rfl, rfl, hbl, hX⟩ := hv
  have hx := B.exec
  have hb := B.bytes
  have hr := B.returns
  have hlocks := B.notSynchronized
  have hS : va_S (fun q : Nat => s.heap.size ≤ q) s.heap s.heap [] := va_S.rf
  have hl := lv_entry ([.ref b, .int 0]) (n := 2) (Nat.le_of_ble_eq_true rfl)
  rw [lg_entry_eq]
  generalize (lg_sl ([.ref b, .int 0]) ++ List.replicate (2 - (lg_sl ([.ref b, .int 0])).length) Slot.unset).toArray = ls at hl ⊢
  have hl : lv_has ls 2 [(0, .ref b), (1, .int 0)] := hl
  refine lv_iload_n hx hb dL_cell_0 rfl (lv_at hl 1 rfl) ?_
  refine lv_aload_n hx hb dL_cell_1 rfl (lv_at hl 0 rfl) ?_
  refine va_slen hx hb hX hbl (Nat.not_le.mpr hbl) hS dL_cell_2 ?_
  refine lv_icmp_ge (tgt := 12) hx hb dL_cell_3 (by decide) (fun c_1 => ?_) (fun c_1 => ?_)
  · refine lv_iconst (v := 0) hx hb dL_cell_12 (by decide) ?_
    exact W.iret (v := 0) hx hb hr (fun t ht hW => ⟨⟨0, (), rfl, (if_pos c_1).symm, trivial⟩, hS.F ht⟩) hS.2.2 dL_cell_13
  · refine lv_aload_n hx hb dL_cell_6 rfl (lv_at hl 0 rfl) ?_
    refine lv_iload_n hx hb dL_cell_7 rfl (lv_at hl 1 rfl) ?_
    have hin : vp_in (0 : Int32) L := by
      have h0 : (0 : Int32).toNatClampNeg = 0 := by decide
      intro h
      rcases h with h | h
      · exact absurd h (by decide)
      · rw [h0] at h
        exact c_1 (by rw [show L = 0 by omega]; decide)
    refine va_sld hx hb hX hbl (Nat.not_le.mpr hbl) hS hin dL_cell_8 ?_
    refine lv_goto (tgt := 13) hx hb dL_cell_9 (by decide) ?_
    exact W.iret (v := xs (0 : Int32).toNatClampNeg) hx hb hr (fun t ht hW => ⟨⟨_, (), rfl, (if_neg c_1).symm, trivial⟩, hS.F ht⟩) hS.2.2 dL_cell_13
set_option maxHeartbeats 8000000 in
set_option maxRecDepth 100000 in
/-- the law's loop -/
theorem law_loop {p : Program} {l : Launch} {e : Env} {s : State} {m : MethodId} {b : Nat} {below : List Frame} {meth : Method} {c : Code} {D : va_G} {cy : Nat → ClassId} {aC aM tz : Nat → Nat} {L : Nat} {xs : Nat → Int32} (hL : L ≤ 2049) (hrt : meth.sig.returnType = ret) (hlocks : meth.locks = false) (C : LC p s m c D cy aC aM tz b L xs) {Rel : Nat → St → St → Prop} (hm : LSm Rel) (h_work : LS_work Rel) (h_near : LS_near Rel) (h_delay : LS_delay Rel) (h_night : LS_night Rel) (h_event : LS_event Rel) (h_noise : LS_noise Rel) (h_crew : LS_crew Rel) (h_rest : LS_rest Rel) (h_run : LS_run Rel) (h_drop : LS_drop Rel) (h_may : LS_may Rel) (h_all : LS_all Rel) (h_late : LS_late Rel) (h_moved : LS_moved Rel) (h_start : LS_start Rel) (h_least : LS_least Rel) (h_act : LS_act Rel) (h_state : LS_state Rel) (h_notice : LS_notice Rel) (h_rate : LS_rate Rel) (h_paid : LS_paid Rel) (h_open : LS_open Rel) (h_holds : LS_holds Rel) (h_count : LS_count Rel) : ∀ (k n : Nat) (S T : St) (x3 : Int32), 512 - n < k → n ≤ 512 → x3 = nI (1 + 4 * n) → Rel n S T → LJ p l e s m b below meth c D cy aC aM 61 2038 (lw_Z below #[Value.ref b] s) S T 28 [(0, .ref b), (1, .ref (aC 0)), (2, .ref (aM 0)), (3, .int x3)] [] := by
  intro k
  induction k with
  | zero => intro n S T x3 h; omega
  | succ k ih =>
    intro n S T x3 hk hn512 ex hR
    refine l_iload_n C dL_law_28 rfl 3 rfl ?_
    refine l_aload_n C dL_law_29 rfl 0 rfl ?_
    refine l_slen C dL_law_30 ?_
    refine l_iconst (v := 4) C dL_law_31 (by decide) ?_
    refine l_isub C dL_law_32 ?_
    have eT : (nI L - 4).toInt = (L : Int) - 4 := pk_sub_toInt (a := L) (b := 4) (by omega) (by omega)
    have eX : x3.toInt = ((1 + 4 * n : Nat) : Int) := by rw [ex]; exact nI_toInt (by omega)
    refine l_icmp_gt (tgt := 909) C dL_law_33 (by decide) (fun c9 => ?_) (fun c9 => ?_)
    · refine l_iconst (v := 1) C dL_law_909 (by decide) ?_
      intro H locs ls hP hQ hS hl
      refine va_forget hS.2.2 ?_
      refine W.widen (k := 600000) (n := 7302250) (by omega) (by omega) ?_
      exact lw_ret C.1 C.2.1 hrt hlocks dL_law_910
    rw [Int32.lt_iff_toInt_lt, eT, eX] at c9
    have hle : 4 * n + 5 ≤ L := by omega
    have hn : n < 512 := by omega
    have hi : ∀ j : Nat, j < 4 → ¬ (nI (1 + 4 * n + j) < 0 ∨ L ≤ (nI (1 + 4 * n + j)).toNatClampNeg) := fun j hj => nI_in (by omega) (by omega)
    have hi0 : ¬ (x3 < 0 ∨ L ≤ x3.toNatClampNeg) := by rw [ex]; exact hi 0 (by omega)
    have hi1 : ¬ (x3 + 1 < 0 ∨ L ≤ (x3 + 1).toNatClampNeg) := by
      have e1 : x3 + 1 = nI (1 + 4 * n + 1) := by rw [ex]; exact nI_add _ 1
      rw [e1]; exact hi 1 (by omega)
    have hi2 : ¬ (x3 + 2 < 0 ∨ L ≤ (x3 + 2).toNatClampNeg) := by
      have e1 : x3 + 2 = nI (1 + 4 * n + 2) := by rw [ex]; exact nI_add _ 2
      rw [e1]; exact hi 2 (by omega)
    have hi3 : ¬ (x3 + 3 < 0 ∨ L ≤ (x3 + 3).toNatClampNeg) := by
      have e1 : x3 + 3 = nI (1 + 4 * n + 3) := by rw [ex]; exact nI_add _ 3
      rw [e1]; exact hi 3 (by omega)
    have hnext : ∀ S2 T2 : St, Rel (n + 1) S2 T2 → LJ p l e s m b below meth c D cy aC aM 61 2038 (lw_Z below #[Value.ref b] s) S2 T2 903 [(0, .ref b), (1, .ref (aC 0)), (2, .ref (aM 0)), (3, .int x3)] [] := fun S2 T2 hR2 => by
      refine l_iinc (v := x3 + 4) (lv2 := [(3, .int (x3 + 4)), (0, .ref b), (1, .ref (aC 0)), (2, .ref (aM 0))]) C dL_law_903 (k0 := 3) rfl rfl (by decide) rfl ?_
      refine l_goto (tgt := 28) C dL_law_906 (by decide) ?_
      refine l_sub [1, 2, 3, 0] rfl ?_
      exact ih (n + 1) S2 T2 (x3 + 4) (by omega) (by omega) (by rw [ex]; exact nI_add _ 4) hR2
    refine l_aload_n C dL_law_36 rfl 0 rfl ?_
    refine l_iload_n C dL_law_37 rfl 3 rfl ?_
    refine l_sld C hi0 dL_law_38 ?_
    refine l_bipush (v := 31) C dL_law_39 (by decide) ?_
    refine l_iand C dL_law_41 ?_
    by_cases c0 : xs x3.toNatClampNeg &&& 31 = 0
    · refine l_tabIn (tgt := 152) C dL_law_42 (by rw [c0]; decide) (by rw [c0]; decide) (by rw [c0]; rfl) (by decide) ?_
      exact lw_work C h_work hm hn hR hi1 hi2 hi3 (by decide) (by decide) hnext
    by_cases c1 : xs x3.toNatClampNeg &&& 31 = 1
    · refine l_tabIn (tgt := 185) C dL_law_42 (by rw [c1]; decide) (by rw [c1]; decide) (by rw [c1]; rfl) (by decide) ?_
      exact lw_near C h_near hm hn hR hi1 hi2 hi3 (by decide) (by decide) hnext
    by_cases c2 : xs x3.toNatClampNeg &&& 31 = 2
    · refine l_tabIn (tgt := 244) C dL_law_42 (by rw [c2]; decide) (by rw [c2]; decide) (by rw [c2]; rfl) (by decide) ?_
      exact lw_delay C h_delay hm hn hR hi1 hi2 hi3 (by decide) (by decide) hnext
    by_cases c3 : xs x3.toNatClampNeg &&& 31 = 3
    · refine l_tabIn (tgt := 287) C dL_law_42 (by rw [c3]; decide) (by rw [c3]; decide) (by rw [c3]; rfl) (by decide) ?_
      exact lw_night C h_night hm hn hR hi1 hi2 hi3 (by decide) (by decide) hnext
    by_cases c4 : xs x3.toNatClampNeg &&& 31 = 4
    · refine l_tabIn (tgt := 336) C dL_law_42 (by rw [c4]; decide) (by rw [c4]; decide) (by rw [c4]; rfl) (by decide) ?_
      exact lw_event C h_event hm hn hR hi1 hi2 hi3 (by decide) (by decide) hnext
    by_cases c5 : xs x3.toNatClampNeg &&& 31 = 5
    · refine l_tabIn (tgt := 395) C dL_law_42 (by rw [c5]; decide) (by rw [c5]; decide) (by rw [c5]; rfl) (by decide) ?_
      exact lw_noise C h_noise hm hn hR hi1 hi2 hi3 (by decide) (by decide) hnext
    by_cases c6 : xs x3.toNatClampNeg &&& 31 = 6
    · refine l_tabIn (tgt := 438) C dL_law_42 (by rw [c6]; decide) (by rw [c6]; decide) (by rw [c6]; rfl) (by decide) ?_
      exact lw_crew C h_crew hm hn hR hi1 hi2 hi3 (by decide) (by decide) hnext
    by_cases c7 : xs x3.toNatClampNeg &&& 31 = 7
    · refine l_tabIn (tgt := 471) C dL_law_42 (by rw [c7]; decide) (by rw [c7]; decide) (by rw [c7]; rfl) (by decide) ?_
      exact lw_rest C h_rest hm hn hR hi1 hi2 hi3 (by decide) (by decide) hnext
    by_cases c8 : xs x3.toNatClampNeg &&& 31 = 8
    · refine l_tabIn (tgt := 504) C dL_law_42 (by rw [c8]; decide) (by rw [c8]; decide) (by rw [c8]; rfl) (by decide) ?_
      exact lw_run C h_run hm hn hR hi1 hi2 hi3 (by decide) (by decide) hnext
    by_cases c9 : xs x3.toNatClampNeg &&& 31 = 9
    · refine l_tabIn (tgt := 527) C dL_law_42 (by rw [c9]; decide) (by rw [c9]; decide) (by rw [c9]; rfl) (by decide) ?_
      exact lw_drop C h_drop hm hn hR hi1 hi2 hi3 (by decide) (by decide) hnext
    by_cases c10 : xs x3.toNatClampNeg &&& 31 = 10
    · refine l_tabIn (tgt := 550) C dL_law_42 (by rw [c10]; decide) (by rw [c10]; decide) (by rw [c10]; rfl) (by decide) ?_
      exact lw_may C h_may hm hn hR hi1 hi2 hi3 (by decide) (by decide) hnext
    by_cases c11 : xs x3.toNatClampNeg &&& 31 = 11
    · refine l_tabIn (tgt := 583) C dL_law_42 (by rw [c11]; decide) (by rw [c11]; decide) (by rw [c11]; rfl) (by decide) ?_
      exact lw_all C h_all hm hn hR hi1 hi2 hi3 (by decide) (by decide) hnext
    by_cases c12 : xs x3.toNatClampNeg &&& 31 = 12
    · refine l_tabIn (tgt := 596) C dL_law_42 (by rw [c12]; decide) (by rw [c12]; decide) (by rw [c12]; rfl) (by decide) ?_
      exact lw_late C h_late hm hn hR hi1 hi2 hi3 (by decide) (by decide) hnext
    by_cases c13 : xs x3.toNatClampNeg &&& 31 = 13
    · refine l_tabIn (tgt := 629) C dL_law_42 (by rw [c13]; decide) (by rw [c13]; decide) (by rw [c13]; rfl) (by decide) ?_
      exact lw_moved C h_moved hm hn hR hi1 hi2 hi3 (by decide) (by decide) hnext
    by_cases c14 : xs x3.toNatClampNeg &&& 31 = 14
    · refine l_tabIn (tgt := 652) C dL_law_42 (by rw [c14]; decide) (by rw [c14]; decide) (by rw [c14]; rfl) (by decide) ?_
      exact lw_start C h_start hm hn hR hi1 hi2 hi3 (by decide) (by decide) hnext
    by_cases c15 : xs x3.toNatClampNeg &&& 31 = 15
    · refine l_tabIn (tgt := 675) C dL_law_42 (by rw [c15]; decide) (by rw [c15]; decide) (by rw [c15]; rfl) (by decide) ?_
      exact lw_least C h_least hm hn hR hi1 hi2 hi3 (by decide) (by decide) hnext
    by_cases c16 : xs x3.toNatClampNeg &&& 31 = 16
    · refine l_tabIn (tgt := 698) C dL_law_42 (by rw [c16]; decide) (by rw [c16]; decide) (by rw [c16]; rfl) (by decide) ?_
      exact lw_act C h_act hm hn hR hi1 hi2 hi3 (by decide) (by decide) hnext
    by_cases c17 : xs x3.toNatClampNeg &&& 31 = 17
    · refine l_tabIn (tgt := 741) C dL_law_42 (by rw [c17]; decide) (by rw [c17]; decide) (by rw [c17]; rfl) (by decide) ?_
      exact lw_state C h_state hm hn hR hi1 hi2 hi3 (by decide) (by decide) hnext
    by_cases c18 : xs x3.toNatClampNeg &&& 31 = 18
    · refine l_tabIn (tgt := 764) C dL_law_42 (by rw [c18]; decide) (by rw [c18]; decide) (by rw [c18]; rfl) (by decide) ?_
      exact lw_notice C h_notice hm hn hR hi1 hi2 hi3 (by decide) (by decide) hnext
    by_cases c19 : xs x3.toNatClampNeg &&& 31 = 19
    · refine l_tabIn (tgt := 797) C dL_law_42 (by rw [c19]; decide) (by rw [c19]; decide) (by rw [c19]; rfl) (by decide) ?_
      exact lw_rate C h_rate hm hn hR hi1 hi2 hi3 (by decide) (by decide) hnext
    by_cases c20 : xs x3.toNatClampNeg &&& 31 = 20
    · refine l_tabIn (tgt := 820) C dL_law_42 (by rw [c20]; decide) (by rw [c20]; decide) (by rw [c20]; rfl) (by decide) ?_
      exact lw_paid C h_paid hm hn hR hi1 hi2 hi3 (by decide) (by decide) hnext
    by_cases c21 : xs x3.toNatClampNeg &&& 31 = 21
    · refine l_tabIn (tgt := 844) C dL_law_42 (by rw [c21]; decide) (by rw [c21]; decide) (by rw [c21]; rfl) (by decide) ?_
      exact lw_open C h_open hm hn hR hi1 hi2 hi3 (by decide) (by decide) hnext
    by_cases c22 : xs x3.toNatClampNeg &&& 31 = 22
    · refine l_tabIn (tgt := 867) C dL_law_42 (by rw [c22]; decide) (by rw [c22]; decide) (by rw [c22]; rfl) (by decide) ?_
      exact lw_holds C h_holds hm hn hR hi1 hi2 hi3 (by decide) (by decide) hnext
    by_cases c23 : xs x3.toNatClampNeg &&& 31 = 23
    · refine l_tabIn (tgt := 880) C dL_law_42 (by rw [c23]; decide) (by rw [c23]; decide) (by rw [c23]; rfl) (by decide) ?_
      exact lw_count C h_count hm hn hR hi1 hi2 hi3 (by decide) (by decide) hnext
    refine l_tabOut (tgt := 903) C dL_law_42 (by have q0 := lv_neT (a := 0) c0 rfl; have q1 := lv_neT (a := 1) c1 rfl; have q2 := lv_neT (a := 2) c2 rfl; have q3 := lv_neT (a := 3) c3 rfl; have q4 := lv_neT (a := 4) c4 rfl; have q5 := lv_neT (a := 5) c5 rfl; have q6 := lv_neT (a := 6) c6 rfl; have q7 := lv_neT (a := 7) c7 rfl; have q8 := lv_neT (a := 8) c8 rfl; have q9 := lv_neT (a := 9) c9 rfl; have q10 := lv_neT (a := 10) c10 rfl; have q11 := lv_neT (a := 11) c11 rfl; have q12 := lv_neT (a := 12) c12 rfl; have q13 := lv_neT (a := 13) c13 rfl; have q14 := lv_neT (a := 14) c14 rfl; have q15 := lv_neT (a := 15) c15 rfl; have q16 := lv_neT (a := 16) c16 rfl; have q17 := lv_neT (a := 17) c17 rfl; have q18 := lv_neT (a := 18) c18 rfl; have q19 := lv_neT (a := 19) c19 rfl; have q20 := lv_neT (a := 20) c20 rfl; have q21 := lv_neT (a := 21) c21 rfl; have q22 := lv_neT (a := 22) c22 rfl; have q23 := lv_neT (a := 23) c23 rfl; omega) (by decide) ?_
    exact hnext S T (hm n S T hR)
theorem wl_xnw : ∀ w ∈ xnw, w ∈ lw_tbl := by decide +kernel
set_option maxHeartbeats 8000000 in
set_option maxRecDepth 100000 in
/-- THE LAW, from its entry, over a relation that its steps keep -/
theorem law_entry {p : Program} {e : Env} {s : State} {m : MethodId} {below : List Frame} {meth : Method} {c : Code} (l : Launch) {b L : Nat} {xs : Nat → Int32} (hL : L ≤ 2049) (C0 : lw_At p s m meth c b L xs) {Rel : Nat → St → St → Prop} (hm : LSm Rel) (h0 : ∀ a : Int32, Rel 0 (S0C a) (S0M (hrM a))) (h_work : LS_work Rel) (h_near : LS_near Rel) (h_delay : LS_delay Rel) (h_night : LS_night Rel) (h_event : LS_event Rel) (h_noise : LS_noise Rel) (h_crew : LS_crew Rel) (h_rest : LS_rest Rel) (h_run : LS_run Rel) (h_drop : LS_drop Rel) (h_may : LS_may Rel) (h_all : LS_all Rel) (h_late : LS_late Rel) (h_moved : LS_moved Rel) (h_start : LS_start Rel) (h_least : LS_least Rel) (h_act : LS_act Rel) (h_state : LS_state Rel) (h_notice : LS_notice Rel) (h_rate : LS_rate Rel) (h_paid : LS_paid Rel) (h_open : LS_open Rel) (h_holds : LS_holds Rel) (h_count : LS_count Rel) : W p l e room_1 s m #[Value.ref b] below meth c s.heap [] 0 0 (lw_Z below #[Value.ref b] s) (entryFrame m ([Value.ref b] : List Value).toArray 4) := by
  obtain ⟨hx, hb, hr, hml, hown, hts0, hX, hbl, hlocks, hgv⟩ := id C0
  have hb : c.code = cL_law := hb
  have hown : s.vm.findClass RL = some m.cls := hown
  have hts : ∀ w ∈ wsL_law, w.before #[Value.ref b] s = true := fun w h => hts0 w (wsL_law_in w h)
  have hA : ∀ q : Nat, s.heap.size ≤ q → (fun q : Nat => s.heap.size ≤ q) q := fun _ h => h
  have hbA : ¬ (fun q : Nat => s.heap.size ≤ q) b := Nat.not_le.mpr hbl
  have hout : ∀ a : Nat, a < s.heap.size → ¬ (fun q : Nat => s.heap.size ≤ q) a := fun a h => Nat.not_le.mpr h
  obtain ⟨c0, iS0, hKn0⟩ := u_known (C := RX0) (T := TX0) (N := 3) (n := 3) hts inlX0 (hts (.instantiable RX0 3) (by decide +kernel))
  obtain ⟨c1, iS1, hKn1⟩ := u_known (C := RX1) (T := TX1) (N := 10) (n := 10) hts inlX1 (hts (.instantiable RX1 10) (by decide +kernel))
  obtain ⟨c2, iS2, hKn2⟩ := u_known (C := RX2) (T := TX2) (N := 10) (n := 10) hts inlX2 (hts (.instantiable RX2 10) (by decide +kernel))
  obtain ⟨c3, iS3, hKn3⟩ := u_known (C := RX3) (T := TX3) (N := 8) (n := 8) hts inlX3 (hts (.instantiable RX3 8) (by decide +kernel))
  obtain ⟨c4, iS4, hKn4⟩ := u_known (C := RX4) (T := TX4) (N := 25) (n := 25) hts inlX4 (hts (.instantiable RX4 25) (by decide +kernel))
  obtain ⟨y0, k0, m0, a1, a2, a3⟩ := Cond.arrayClass_spec (hts0 (.arrayClass .int) (by decide +kernel))
  obtain ⟨y1, k1, m1, b1, b2, b3⟩ := Cond.arrayClass_spec (hts0 (.arrayClass .long) (by decide +kernel))
  obtain ⟨y5, k5, m5, f1, f2, f3⟩ := Cond.arrayClass_spec (hts0 (.arrayClass .boolean) (by decide +kernel))
  have w2 := hts0 (.arrayOver (.object "ClosureHours$Work")) (by decide +kernel)
  have w3 := hts0 (.arrayOver (.array .int)) (by decide +kernel)
  have w4 := hts0 (.arrayOver (.array .long)) (by decide +kernel)
  obtain ⟨m2, y2, k2, d1, -, d2, d3, d4⟩ := Cond.arrayOver_spec w2
  obtain ⟨m3, y3, k3, g1, -, g2, g3, g4⟩ := Jvm.Stand.arrayOver_specB w3
  obtain ⟨m4, y4, k4, i1, -, i2, i3, i4⟩ := Jvm.Stand.arrayOver_specB w4
  obtain ⟨dC, dI, cy, e0, e1, e2, e3, e4, e5, hKc⟩ : ∃ (dC : Nat → ClassId) (dI : Nat → Nat → Nat) (cy : Nat → ClassId), cy 0 = y0 ∧ cy 1 = y1 ∧ cy 2 = y2 ∧ cy 3 = y3 ∧ cy 4 = y4 ∧ cy 5 = y5 ∧ ∀ (k : Nat) (q : vw_C), vwCl[k]? = some q → u_Kn s q.1 q.2.1 q.2.2 (dC k) (dI k) := by
    refine ⟨fun k => if k = 0 then c0 else if k = 1 then c1 else if k = 2 then c2 else if k = 3 then c3 else c4, fun k => if k = 0 then iS0 else if k = 1 then iS1 else if k = 2 then iS2 else if k = 3 then iS3 else iS4, fun k => if k = 0 then y0 else if k = 1 then y1 else if k = 2 then y2 else if k = 3 then y3 else if k = 4 then y4 else y5, rfl, rfl, rfl, rfl, rfl, rfl, ?_⟩
    intro k q hq
    match k, hq with
    | 0, hq => cases hq; exact hKn0
    | 1, hq => cases hq; exact hKn1
    | 2, hq => cases hq; exact hKn2
    | 3, hq => cases hq; exact hKn3
    | 4, hq => cases hq; exact hKn4
    | k + 5, hq => simp [vwCl] at hq
  have hK : va_K (dC, dI) vwCl (xty cy) s := ⟨hKc, fun k q hq => by
    match k, hq with
    | 0, hq => cases hq; rw [e0]; exact ⟨fun n z => ⟨fun k h => (by cases h), k0, a2, m0, a3⟩, a1⟩
    | 1, hq => cases hq; rw [e1]; exact ⟨fun n z => ⟨fun k h => (by cases h), k1, b2, m1, b3⟩, b1⟩
    | 2, hq => cases hq; rw [e2]; exact ⟨fun n z => ⟨fun k h => (by cases h), k2, d2, m2, d3⟩, k2, m2, d2, d3, d1, d4⟩
    | 3, hq => cases hq; rw [e3]; exact ⟨fun n z => ⟨fun k h => (by cases h), k3, g2, m3, g3⟩, g4⟩
    | 4, hq => cases hq; rw [e4]; exact ⟨fun n z => ⟨fun k h => (by cases h), k4, i2, m4, i3⟩, i4⟩
    | 5, hq => cases hq; rw [e5]; exact ⟨fun n z => ⟨fun k h => (by cases h), k5, f2, m5, f3⟩, f1⟩
    | k + 6, hq => simp [xty] at hq⟩
  have hN : XN s := fun w hw => va_Nw.of (xnk_tab (xnk_all w hw)) (hts0 w (wl_xnw w hw))
  have hYX : YX s := ⟨hN, va_AO.of w2, va_AOA.of w3, va_AOA.of w4⟩
  have hs := flat_of_before _ hgv
  obtain ⟨t1, z1, T1⟩ := va_Tof (s := s) (args := #[Value.ref b]) (tm := .static "ClosureHours" "EVENT_BY" "[I") (ty := .int) (N := 6) (f := fun j => .int (evB j)) (A := fun q : Nat => s.heap.size ≤ q) (by decide) (hs _ (by decide +kernel)) (va_eqt (z := 6) (hs _ (by decide +kernel))) (fun j hj => by rcases (show j = 0 ∨ j = 1 ∨ j = 2 ∨ j = 3 ∨ j = 4 ∨ j = 5 by omega) with rfl | rfl | rfl | rfl | rfl | rfl <;> exact va_eqt (hs _ (by decide +kernel))) hout
  obtain ⟨t2, z2, T2⟩ := va_Tof (s := s) (args := #[Value.ref b]) (tm := .static "ClosureHours" "EVENT_FROM" "[I") (ty := .int) (N := 6) (f := fun j => .int (evF j)) (A := fun q : Nat => s.heap.size ≤ q) (by decide) (hs _ (by decide +kernel)) (va_eqt (z := 6) (hs _ (by decide +kernel))) (fun j hj => by rcases (show j = 0 ∨ j = 1 ∨ j = 2 ∨ j = 3 ∨ j = 4 ∨ j = 5 by omega) with rfl | rfl | rfl | rfl | rfl | rfl <;> exact va_eqt (hs _ (by decide +kernel))) hout
  obtain ⟨t3, z3, T3⟩ := va_Tof (s := s) (args := #[Value.ref b]) (tm := .static "ClosureHours" "EVENT_TO" "[I") (ty := .int) (N := 6) (f := fun j => .int (evT j)) (A := fun q : Nat => s.heap.size ≤ q) (by decide) (hs _ (by decide +kernel)) (va_eqt (z := 6) (hs _ (by decide +kernel))) (fun j hj => by rcases (show j = 0 ∨ j = 1 ∨ j = 2 ∨ j = 3 ∨ j = 4 ∨ j = 5 by omega) with rfl | rfl | rfl | rfl | rfl | rfl <;> exact va_eqt (hs _ (by decide +kernel))) hout
  have hin3 := hts (.initialized RX3) (by decide +kernel)
  have hZ : ZS (fun k => if k = 1 then t1 else if k = 2 then t2 else t3) (fun q : Nat => s.heap.size ≤ q) s s.heap := ⟨va_Zof (hts0 (.laysStatic "ClosureHours" "EVENT_BY" "[I") (by decide +kernel)) hin3 z1 hout, T1, va_Zof (hts0 (.laysStatic "ClosureHours" "EVENT_FROM" "[I") (by decide +kernel)) hin3 z2 hout, T2, va_Zof (hts0 (.laysStatic "ClosureHours" "EVENT_TO" "[I") (by decide +kernel)) hin3 z3 hout, T3⟩
  have hS : va_S (fun q : Nat => s.heap.size ≤ q) s.heap s.heap [] := va_S.rf
  have hP : va_P (dC, dI) vwCl [] s.heap := fun k q h => by simp at h
  have hD : va_D (fun q : Nat => s.heap.size ≤ q) [] := ⟨fun i j p q h => by simp at h, fun k q h => by simp at h⟩
  have hl := lv_entry ([.ref b]) (n := 4) (Nat.le_of_ble_eq_true rfl)
  rw [lg_entry_eq]
  generalize (lg_sl ([.ref b]) ++ List.replicate (4 - (lg_sl ([.ref b])).length) Slot.unset).toArray = ls at hl ⊢
  have hl : lv_has ls 4 [(0, .ref b)] := hl
  refine va_new (ci := 3) (fs := [.int 0, .null, .null, .null, .null, .int 0, .int 0, .int 0]) (C := RX3) (T := TX3) (N := 8) hx hb hts inlX3 tyX3 tyX3_ok hown (hts (.classLink RL 7 RX3) (by decide +kernel)) (hts (.instantiable RX3 8) (by decide +kernel)) (hts (.initialized RX3) (by decide +kernel)) hK hP hD hS hA rfl (fun j hj => by rcases (show j = 0 ∨ j = 1 ∨ j = 2 ∨ j = 3 ∨ j = 4 ∨ j = 5 ∨ j = 6 ∨ j = 7 by omega) with rfl | rfl | rfl | rfl | rfl | rfl | rfl | rfl <;> rfl) (by decide) (by decide) dL_law_0 (fun q0 H hP hD hS => ?_)
  have hP : va_P (dC, dI) vwCl [(q0, .inr (3, [.int 0, .null, .null, .null, .null, .int 0, .int 0, .int 0]))] H := hP
  have hD : va_D (fun q : Nat => s.heap.size ≤ q) [(q0, .inr (3, [.int 0, .null, .null, .null, .null, .int 0, .int 0, .int 0]))] := hD
  refine lv_dup hx hb dL_law_3 rfl ?_
  refine lv_aload_n hx hb dL_law_4 rfl (lv_at hl 0 rfl) ?_
  refine lv_iconst (v := 0) hx hb dL_law_5 (by decide) ?_
  have hXH : va_X b L xs s H := hX.kept (hS.2.1 b hbl hbA)
  refine va_calli (va_runS (As := [.ref b, .int 0]) (rest := [.ref q0, .ref q0]) ⟨hx, hb, hml, hown, hts⟩ (c_L_cell l b L xs H.size hL) (va_cwS 2 hts gL_law_L_cell rfl rfl rfl (by decide +kernel) ⟨by decide, by decide⟩) ⟨fun a U g mk q => ⟨q.1, q.2.1, q.2.2.1, va_X.moved (u := U) (U := U.calling g mk a) (Vm.Alike.refl U.vm) q.2.2.2⟩, fun U hU hW => ⟨rfl, by rw [hU], Nat.lt_of_lt_of_le hbl hS.1, by rw [hU]; exact va_X.moved hW.alike hXH⟩⟩ rfl rfl hl.1 rfl (lv_room (Nat.le_of_ble_eq_true rfl)) dL_law_6 ⟨by decide, by decide⟩) hS (fun q h1 h2 => absurd h2 (Nat.not_le.mpr h1)) (fun q h => Nat.le_trans hS.1 h) (fun r u t H1 locs1 ht hvm hw hB hz1 hk1 hS => ?_)
  have hP : va_P (dC, dI) vwCl [(q0, .inr (3, [.int 0, .null, .null, .null, .null, .int 0, .int 0, .int 0]))] H1 := hP.kept (fun k q hq => hk1 q.1 (hP k q hq).lt (Nat.not_le.mpr (hP k q hq).lt))
  generalize H1 = H at hP hS ⊢
  have hFc := va_free (wc := [(q0, .inr (3, [.int 0, .null, .null, .null, .null, .int 0, .int 0, .int 0]))]) hD hS hA [0] rfl
  refine va_callv (va_runI (As := [.int r]) (rest := [.ref q0]) ⟨hx, hb, hml, hown, hts⟩ (c_X3_init l (dC, dI) cy q0 r H.size) (cwI 1 hts gL_law_X3_init rfl rfl rfl hin3 (hts (.methodLink RL 15 yX3_init) (by decide +kernel)) (hts (.instanceMethod yX3_init) (by decide +kernel)) rfl (by decide +kernel) ⟨by decide, by decide⟩) ⟨YP.blind, fun U hU hW => ⟨rfl, by rw [hU], by rw [hU]; exact hP, va_K.moved hW.alike hK, hD.weaken (fun _ _ _ _ => trivial), YX.warm hW hYX⟩⟩ rfl rfl hl.1 rfl (lv_room (Nat.le_of_ble_eq_true rfl)) dL_law_9 ⟨by decide, by decide⟩) hS (fun q _ h => hFc q h) hFc (fun aC t H1 locs1 ht hvm hw3 hB hz1 hk1 hS => ?_)
  obtain ⟨hP1, hD1⟩ := hB
  rw [ht] at hP1
  have hw3 : aC 0 = q0 := hw3
  subst hw3
  have hP2 : va_P (dC, dI) vwCl (wC cy aC (S0C r)) H1 := hP1
  have hD2 : va_D (fun q : Nat => s.heap.size ≤ q) (wC cy aC (S0C r)) := hD1.weaken (fun _ q _ h => hFc q.1 h)
  clear hP hD
  have hP := hP2
  have hD := hD2
  clear hP2 hD2 hP1 hD1 hFc hk1 hz1
  generalize H1 = H at hP hS ⊢
  refine lv_astore_n (lv' := [(1, .ref (aC 0)), (0, .ref b)]) hx hb dL_law_12 rfl hl (by decide) rfl (fun ls hl => ?_)
  refine va_new (ci := 4) (fs := [.int 0, .int 0, .null, .null, .null, .null, .null, .null, .null, .null, .null, .null, .null, .null, .null, .null, .null, .null, .null, .null, .null, .int 0, .null, .null, .long 0]) (C := RX4) (T := TX4) (N := 25) hx hb hts inlX4 tyX4 tyX4_ok hown (hts (.classLink RL 18 RX4) (by decide +kernel)) (hts (.instantiable RX4 25) (by decide +kernel)) (hts (.initialized RX4) (by decide +kernel)) hK hP hD hS hA rfl (fun j hj => by rcases (show j = 0 ∨ j = 1 ∨ j = 2 ∨ j = 3 ∨ j = 4 ∨ j = 5 ∨ j = 6 ∨ j = 7 ∨ j = 8 ∨ j = 9 ∨ j = 10 ∨ j = 11 ∨ j = 12 ∨ j = 13 ∨ j = 14 ∨ j = 15 ∨ j = 16 ∨ j = 17 ∨ j = 18 ∨ j = 19 ∨ j = 20 ∨ j = 21 ∨ j = 22 ∨ j = 23 ∨ j = 24 by omega) with rfl | rfl | rfl | rfl | rfl | rfl | rfl | rfl | rfl | rfl | rfl | rfl | rfl | rfl | rfl | rfl | rfl | rfl | rfl | rfl | rfl | rfl | rfl | rfl | rfl <;> rfl) (by decide) (by decide) dL_law_13 (fun q1 H hP hD hS => ?_)
  refine lv_dup hx hb dL_law_16 rfl ?_
  refine lv_aload_n hx hb dL_law_17 rfl (lv_at hl 1 rfl) ?_
  refine lv_iconst (v := 0) hx hb dL_law_18 (by decide) ?_
  have hXH : va_X b L xs s H := hX.kept (hS.2.1 b hbl hbA)
  refine va_calli (va_runS (As := [.ref b, .int 0]) (rest := [.ref q1, .ref q1]) ⟨hx, hb, hml, hown, hts⟩ (c_L_cell l b L xs H.size hL) (va_cwS 2 hts gL_law_L_cell rfl rfl rfl (by decide +kernel) ⟨by decide, by decide⟩) ⟨fun a U g mk q => ⟨q.1, q.2.1, q.2.2.1, va_X.moved (u := U) (U := U.calling g mk a) (Vm.Alike.refl U.vm) q.2.2.2⟩, fun U hU hW => ⟨rfl, by rw [hU], Nat.lt_of_lt_of_le hbl hS.1, by rw [hU]; exact va_X.moved hW.alike hXH⟩⟩ rfl rfl hl.1 rfl (lv_room (Nat.le_of_ble_eq_true rfl)) dL_law_19 ⟨by decide, by decide⟩) hS (fun q h1 h2 => absurd h2 (Nat.not_le.mpr h1)) (fun q h => Nat.le_trans hS.1 h) (fun r2 u t H1 locs1 ht hvm hw2 hB hz1 hk1 hS => ?_)
  have hP : va_P (dC, dI) vwCl (wC cy aC (S0C r) ++ [(q1, .inr (4, [.int 0, .int 0, .null, .null, .null, .null, .null, .null, .null, .null, .null, .null, .null, .null, .null, .null, .null, .null, .null, .null, .null, .int 0, .null, .null, .long 0]))]) H1 := hP.kept (fun k q hq => hk1 q.1 (hP k q hq).lt (Nat.not_le.mpr (hP k q hq).lt))
  generalize H1 = H at hP hS ⊢
  have er : r2 = r := hw2.trans hw.symm
  subst er
  have hPc : va_P (dC, dI) vwCl [(q1, .inr (4, [.int 0, .int 0, .null, .null, .null, .null, .null, .null, .null, .null, .null, .null, .null, .null, .null, .null, .null, .null, .null, .null, .null, .int 0, .null, .null, .long 0]))] H := hP.sub [39] rfl
  have hDc : va_D (fun q : Nat => s.heap.size ≤ q) [(q1, .inr (4, [.int 0, .int 0, .null, .null, .null, .null, .null, .null, .null, .null, .null, .null, .null, .null, .null, .null, .null, .null, .null, .null, .null, .int 0, .null, .null, .long 0]))] := hD.sub [39] (by decide) rfl
  have hFc := va_free (wc := [(q1, .inr (4, [.int 0, .int 0, .null, .null, .null, .null, .null, .null, .null, .null, .null, .null, .null, .null, .null, .null, .null, .null, .null, .null, .null, .int 0, .null, .null, .long 0]))]) hD hS hA [39] rfl
  refine va_callv (va_runI (As := [.int r2]) (rest := [.ref q1]) ⟨hx, hb, hml, hown, hts⟩ (c_X4_init l (dC, dI) cy q1 r2 H.size) (cwI 1 hts gL_law_X4_init rfl rfl rfl (hts (.initialized RX4) (by decide +kernel)) (hts (.methodLink RL 20 yX4_init) (by decide +kernel)) (hts (.instanceMethod yX4_init) (by decide +kernel)) rfl (by decide +kernel) ⟨by decide, by decide⟩) ⟨YP.blind, fun U hU hW => ⟨rfl, by rw [hU], by rw [hU]; exact hPc, va_K.moved hW.alike hK, hDc.weaken (fun _ _ _ _ => trivial), YX.warm hW hYX⟩⟩ rfl rfl hl.1 rfl (lv_room (Nat.le_of_ble_eq_true rfl)) dL_law_22 ⟨by decide, by decide⟩) hS (fun q _ h => hFc q h) hFc (fun aM t H1 locs1 ht hvm hw4 hB hz1 hk1 hS => ?_)
  obtain ⟨hP1, hD1⟩ := hB
  rw [ht] at hP1
  obtain ⟨hP7, hD7⟩ := va_join (wr := wC cy aC (S0C r2)) (w1 := wM cy aM (S0M (hrM r2))) hP hD [39] (List.range 39) rfl rfl (by decide) (by decide) hk1 hFc hP1 hD1
  have hw4 : aM 0 = q1 := hw4
  subst hw4
  refine lv_astore_n (lv' := [(2, .ref (aM 0)), (1, .ref (aC 0)), (0, .ref b)]) hx hb dL_law_25 rfl hl (by decide) rfl (fun ls hl => ?_)
  refine lv_iconst (v := 1) hx hb dL_law_26 (by decide) ?_
  refine lv_istore_n (lv' := [(3, .int 1), (2, .ref (aM 0)), (1, .ref (aC 0)), (0, .ref b)]) hx hb dL_law_27 rfl hl (by decide) rfl (fun ls hl => ?_)
  have hPC : va_P (dC, dI) vwCl (wC cy aC (S0C r2)) H1 := fun k q hq => hP7 k q (by rw [List.getElem?_append_left (List.getElem?_eq_some_iff.mp hq).1]; exact hq)
  have C : LC p s m c (dC, dI) cy aC aM (fun k => if k = 1 then t1 else if k = 2 then t2 else t3) b L xs := ⟨hx, hb, hml, hown, hts, hK, hN, hX, hbl, fun S T => va_D_congr (wCM_fst cy aC aM _ _ S T) hD7, hZ⟩
  exact law_loop hL hr hlocks C hm h_work h_near h_delay h_night h_event h_noise h_crew h_rest h_run h_drop h_may h_all h_late h_moved h_start h_least h_act h_state h_notice h_rate h_paid h_open h_holds h_count 513 0 _ _ 1 (by omega) (by omega) rfl (h0 r2) H1 locs1 ls hPC hP1 hS (lv_sub hl [3, 2, 1, 0] rfl)
