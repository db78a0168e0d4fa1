set_option maxHeartbeats 4000000 in
set_option maxRecDepth 100000 in
theorem c_L_isLineSo (l : Launch) (E : ET) (b : Nat → Nat → Nat) (sz : Nat) (v : XV) (n : Fin 256) (r : Nat) (hro : r < 4) (hJ : JW v.1) : Met l yL_isLineSo wsL_isLineSo ({ frames := 6, cells := 0, slots := 0, locals := 137 }) (mPc E [.ref (b 0 0), .int (nI (n).val), .int (nI (r))] sz (wX E b v)) (mQi E (bI (true)) (wX E b v) (wX E b (X_ls v n r)) sz) 0 0 (va_A (wX E b v) sz) := by
  refine v_start (cc := cL_isLineSo) (maxL := 12) (ret := (some .boolean)) (by decide) rfl (Nat.le_of_ble_eq_true rfl) rfl ?_
  intro p e s m args below meth c hsz hr hX
  have hX : Xc p s m args meth c E 12 (va_A (wX E b v) sz) cL_isLineSo RL wsL_isLineSo := hX
  have hlt_n := n.isLt
  have hJ2 := hJ
  obtain ⟨B, hB, hI, hP, hT⟩ := hJ2
  refine v_aload_n hX dL_isLineSo_0 rfl ?_
  refine v_iload_n hX dL_isLineSo_1 rfl ?_
  refine v_iconst (x := (2 : Int32)) hX dL_isLineSo_2 (by decide) ?_
  refine v_callVi (r := X_line v (nI (n).val) (2 : Int32)) (rest := []) (ws' := wX E b v) hX (fun sz => c_X5_line l E b sz v (nI (n).val) (2 : Int32)) (cwV 2 hX.2.2.2.2.1 gL_isLineSo_X5_line rfl rfl rfl (by decide +kernel) ⟨Nat.le_of_ble_eq_true rfl, Nat.le_of_ble_eq_true rfl⟩) ([]) ([]) ((List.append_nil _).symm) ((List.append_nil _).symm).symm (wX_fst E b _ _) (ci := 5) (q0 := 0) rfl rfl rfl rfl rfl (Nat.le_of_ble_eq_true rfl) dL_isLineSo_3 ?_
  rw [o_line2 v n]
  refine v_istore_n (lv' := [.ref (b 0 0), .int (nI (n).val), .int (nI (r)), .int ((M_holders v.1 n))]) hX dL_isLineSo_6 (Nat.le_of_ble_eq_true rfl) (Nat.le_of_ble_eq_true rfl) rfl rfl ?_
  refine v_aload_n hX dL_isLineSo_7 rfl ?_
  refine v_iload_n hX dL_isLineSo_8 rfl ?_
  refine v_iconst (x := (3 : Int32)) hX dL_isLineSo_9 (by decide) ?_
  refine v_callVi (r := X_line v (nI (n).val) (3 : Int32)) (rest := []) (ws' := wX E b v) hX (fun sz => c_X5_line l E b sz v (nI (n).val) (3 : Int32)) (cwV 2 hX.2.2.2.2.1 gL_isLineSo_X5_line rfl rfl rfl (by decide +kernel) ⟨Nat.le_of_ble_eq_true rfl, Nat.le_of_ble_eq_true rfl⟩) ([]) ([]) ((List.append_nil _).symm) ((List.append_nil _).symm).symm (wX_fst E b _ _) (ci := 5) (q0 := 0) rfl rfl rfl rfl rfl (Nat.le_of_ble_eq_true rfl) dL_isLineSo_10 ?_
  rw [o_line3 v n]
  refine v_istore (lv' := [.ref (b 0 0), .int (nI (n).val), .int (nI (r)), .int ((M_holders v.1 n)), .int ((M_mays v.1 n))]) hX dL_isLineSo_13 (Nat.le_of_ble_eq_true rfl) (Nat.le_of_ble_eq_true rfl) rfl rfl ?_
  refine v_iconst (x := (0 : Int32)) hX dL_isLineSo_15 (by decide) ?_
  refine v_istore (lv' := [.ref (b 0 0), .int (nI (n).val), .int (nI (r)), .int ((M_holders v.1 n)), .int ((M_mays v.1 n)), .int ((0 : Int32))]) hX dL_isLineSo_16 (Nat.le_of_ble_eq_true rfl) (Nat.le_of_ble_eq_true rfl) rfl rfl ?_
  refine v_iconst (x := (0 : Int32)) hX dL_isLineSo_18 (by decide) ?_
  refine v_istore (lv' := [.ref (b 0 0), .int (nI (n).val), .int (nI (r)), .int ((M_holders v.1 n)), .int ((M_mays v.1 n)), .int ((0 : Int32)), .int ((0 : Int32))]) hX dL_isLineSo_19 (Nat.le_of_ble_eq_true rfl) (Nat.le_of_ble_eq_true rfl) rfl rfl ?_
  refine v_iload_n hX dL_isLineSo_21 rfl ?_
  refine v_iload hX dL_isLineSo_22 rfl ?_
  refine v_iconst (x := (-1 : Int32)) hX dL_isLineSo_24 (by decide) ?_
  refine v_ixor (z := ((M_mays v.1 n) ^^^ (-1 : Int32))) hX dL_isLineSo_25 (rfl) ?_
  refine v_iand (z := ((M_holders v.1 n) &&& ((M_mays v.1 n) ^^^ (-1 : Int32)))) hX dL_isLineSo_26 (rfl) ?_
  refine v_if_ne (tgt := 65) hX dL_isLineSo_27 (by decide) (fun c1 => ?_) (fun c1 => ?_)
  · exact (c1 (hold_sub hI n)).elim
  · have c1t := eq_true c1
    refine v_aload_n hX dL_isLineSo_30 rfl ?_
    refine v_iload_n hX dL_isLineSo_31 rfl ?_
    refine v_iconst (x := (4 : Int32)) hX dL_isLineSo_32 (by decide) ?_
    refine v_callVi (r := X_line v (nI (n).val) (4 : Int32)) (rest := []) (ws' := wX E b v) hX (fun sz => c_X5_line l E b sz v (nI (n).val) (4 : Int32)) (cwV 2 hX.2.2.2.2.1 gL_isLineSo_X5_line rfl rfl rfl (by decide +kernel) ⟨Nat.le_of_ble_eq_true rfl, Nat.le_of_ble_eq_true rfl⟩) ([]) ([]) ((List.append_nil _).symm) ((List.append_nil _).symm).symm (wX_fst E b _ _) (ci := 5) (q0 := 0) rfl rfl rfl rfl rfl (Nat.le_of_ble_eq_true rfl) dL_isLineSo_33 ?_
    refine v_iload_n hX dL_isLineSo_36 rfl ?_
    refine v_bipush (x := (24 : Int32)) hX dL_isLineSo_37 (by decide) ?_
    refine v_irem (z := nI (((n).val) % 24)) hX dL_isLineSo_39 (by decide) (rem_c ((n).val) 24 (by omega) (by decide) (by decide)) ?_
    refine v_icmp_ne (tgt := 65) hX dL_isLineSo_40 (by decide) (fun c2 => ?_) (fun c2 => ?_)
    · exact (c2 (o_line4 v n)).elim
    · have c2t := eq_true c2
      refine v_aload_n hX dL_isLineSo_43 rfl ?_
      refine v_iload_n hX dL_isLineSo_44 rfl ?_
      refine v_iconst (x := (5 : Int32)) hX dL_isLineSo_45 (by decide) ?_
      refine v_callVi (r := X_line v (nI (n).val) (5 : Int32)) (rest := []) (ws' := wX E b v) hX (fun sz => c_X5_line l E b sz v (nI (n).val) (5 : Int32)) (cwV 2 hX.2.2.2.2.1 gL_isLineSo_X5_line rfl rfl rfl (by decide +kernel) ⟨Nat.le_of_ble_eq_true rfl, Nat.le_of_ble_eq_true rfl⟩) ([]) ([]) ((List.append_nil _).symm) ((List.append_nil _).symm).symm (wX_fst E b _ _) (ci := 5) (q0 := 0) rfl rfl rfl rfl rfl (Nat.le_of_ble_eq_true rfl) dL_isLineSo_46 ?_
      refine v_bipush (x := (7 : Int32)) hX dL_isLineSo_49 (by decide) ?_
      refine v_iload_n hX dL_isLineSo_51 rfl ?_
      refine v_imul (z := nI (7 * ((n).val))) hX dL_isLineSo_52 (pk_mul 7 ((n).val)) ?_
      refine v_iconst (x := (5 : Int32)) hX dL_isLineSo_53 (by decide) ?_
      refine v_iadd (z := nI ((7 * ((n).val)) + 5)) hX dL_isLineSo_54 (nI_add (7 * ((n).val)) 5) ?_
      refine v_bipush (x := (24 : Int32)) hX dL_isLineSo_55 (by decide) ?_
      refine v_irem (z := nI (((7 * ((n).val)) + 5) % 24)) hX dL_isLineSo_57 (by decide) (rem_c ((7 * ((n).val)) + 5) 24 (by omega) (by decide) (by decide)) ?_
      refine v_icmp_ne (tgt := 65) hX dL_isLineSo_58 (by decide) (fun c3 => ?_) (fun c3 => ?_)
      · exact (c3 (o_line5 v n)).elim
      · have c3t := eq_true c3
        refine v_iconst (x := (1 : Int32)) hX dL_isLineSo_61 (by decide) ?_
        refine v_goto (tgt := 66) hX dL_isLineSo_62 (by decide) ?_
        refine v_istore (lv' := [.ref (b 0 0), .int (nI (n).val), .int (nI (r)), .int ((M_holders v.1 n)), .int ((M_mays v.1 n)), .int ((0 : Int32)), .int ((0 : Int32)), .int ((1 : Int32))]) hX dL_isLineSo_66 (Nat.le_of_ble_eq_true rfl) (Nat.le_of_ble_eq_true rfl) rfl rfl ?_
        refine v_iconst (x := (0 : Int32)) hX dL_isLineSo_68 (by decide) ?_
        refine v_istore (lv' := [.ref (b 0 0), .int (nI (n).val), .int (nI (r)), .int ((M_holders v.1 n)), .int ((M_mays v.1 n)), .int ((0 : Int32)), .int ((0 : Int32)), .int ((1 : Int32)), .int ((0 : Int32))]) hX dL_isLineSo_69 (Nat.le_of_ble_eq_true rfl) (Nat.le_of_ble_eq_true rfl) rfl rfl ?_
        have loop_71 : ∀ (fu i : Nat), i + fu = 4 → V p l e ({ frames := 6, cells := 0, slots := 0, locals := 137 } : Room) s m args below meth c E 12 (va_A (wX E b v) sz) (MQ below (mQi E (bI (true)) (wX E b v) (wX E b (X_ls v n r)) sz) args s 0 0 (va_A (wX E b v) sz)) (wX E b v) [.ref (b 0 0), .int (nI (n).val), .int (nI (r)), .int ((M_holders v.1 n)), .int ((M_mays v.1 n)), .int (nI (cn (cm v.1 r n) i)), .int (nI (cn (vm v.1 r n) i)), .int ((1 : Int32)), .int (nI (i))] 71 [] := by
          intro fu
          induction fu with
          | zero =>
            intro i  hin 
            have hi0 : i = 4 := by omega
            subst hi0
            refine v_iload hX dL_isLineSo_71 rfl ?_
            refine v_iconst (x := (4 : Int32)) hX dL_isLineSo_73 (by decide) ?_
            refine v_icmp_ge (tgt := 278) hX dL_isLineSo_74 (by decide) (fun c4 => ?_) (fun c4 => ?_)
            · replace c4 := (nI_leI (a := 4) (b := 4) (by omega) (by omega)).mp c4
              rcases kh_cases (v.1.2.1 r) n with hk | ⟨hk, hkd⟩ | ⟨hk, hkd⟩
              · have hcm := cn_le (cm v.1 r n) 4
                have hvm := cn_le (vm v.1 r n) 4
                refine v_iload_n hX dL_isLineSo_278 rfl ?_
                refine v_iload_n hX dL_isLineSo_279 rfl ?_
                refine v_ishr (z := ((M_holders v.1 n) >>> (nI (r) &&& 31))) hX dL_isLineSo_280 (rfl) ?_
                refine v_iconst (x := (1 : Int32)) hX dL_isLineSo_281 (by decide) ?_
                refine v_iand (z := (((M_holders v.1 n) >>> (nI (r) &&& 31)) &&& (1 : Int32))) hX dL_isLineSo_282 (rfl) ?_
                rw [hold_b0 (m := v.1) (i := r) (n := n) hro hk]
                refine v_iconst (x := (1 : Int32)) hX dL_isLineSo_283 (by decide) ?_
                refine v_icmp_ne (tgt := 291) hX dL_isLineSo_284 (by decide) (fun c5 => ?_) (fun c5 => ?_)
                · replace c5 := (not_congr (nI_eq (a := 0) (b := 1) (by omega) (by omega))).mp c5
                  refine v_iconst (x := (0 : Int32)) hX dL_isLineSo_291 (by decide) ?_
                  refine v_istore (lv' := [.ref (b 0 0), .int (nI (n).val), .int (nI (r)), .int ((M_holders v.1 n)), .int ((M_mays v.1 n)), .int (nI (cn (cm v.1 r n) 4)), .int (nI (cn (vm v.1 r n) 4)), .int ((1 : Int32)), .int ((0 : Int32))]) hX dL_isLineSo_292 (Nat.le_of_ble_eq_true rfl) (Nat.le_of_ble_eq_true rfl) rfl rfl ?_
                  refine v_iload hX dL_isLineSo_294 rfl ?_
                  refine v_if_eq (tgt := 317) hX dL_isLineSo_296 (by decide) (fun c6 => ?_) (fun c6 => ?_)
                  · replace c6 := (nI_eq (a := 0) (b := 0) (by omega) (by omega)).mp c6
                    have c6t := eq_true c6
                    refine v_iconst (x := (0 : Int32)) hX dL_isLineSo_317 (by decide) ?_
                    refine v_istore (lv' := [.ref (b 0 0), .int (nI (n).val), .int (nI (r)), .int ((M_holders v.1 n)), .int ((M_mays v.1 n)), .int (nI (cn (cm v.1 r n) 4)), .int (nI (cn (vm v.1 r n) 4)), .int ((1 : Int32)), .int ((0 : Int32)), .int ((0 : Int32))]) hX dL_isLineSo_318 (Nat.le_of_ble_eq_true rfl) (Nat.le_of_ble_eq_true rfl) rfl rfl ?_
                    refine v_iload hX dL_isLineSo_320 rfl ?_
                    refine v_if_eq (tgt := 451) hX dL_isLineSo_322 (by decide) (fun c7 => ?_) (fun c7 => ?_)
                    · replace c7 := (nI_eq (a := 1) (b := 0) (by omega) (by omega)).mp c7
                      have c7t := eq_true c7
                      first | (exfalso; omega) | exact absurd c7 (by decide) | exact absurd (by decide) c7
                    · replace c7 := (not_congr (nI_eq (a := 1) (b := 0) (by omega) (by omega))).mp c7
                      refine v_aload_n hX dL_isLineSo_325 rfl ?_
                      refine v_iload_n hX dL_isLineSo_326 rfl ?_
                      refine v_iload_n hX dL_isLineSo_327 rfl ?_
                      refine v_iconst (x := (0 : Int32)) hX dL_isLineSo_328 (by decide) ?_
                      refine v_iconst (x := (0 : Int32)) hX dL_isLineSo_329 (by decide) ?_
                      obtain ⟨v8, hv8⟩ : ∃ z_ : XV, z_ = (X_cost v (nI (r)) (nI (n).val) false (0 : Int32)).2 := ⟨_, rfl⟩
                      refine v_callVi (r := (X_cost v (nI (r)) (nI (n).val) false (0 : Int32)).1) (rest := []) (ws' := wX E b v8) hX (fun sz => c_X5_cost l E b sz v (nI (r)) (nI (n).val) false (0 : Int32)) (cwV 4 hX.2.2.2.2.1 gL_isLineSo_X5_cost rfl rfl rfl (by decide +kernel) ⟨Nat.le_of_ble_eq_true rfl, Nat.le_of_ble_eq_true rfl⟩) ([]) ([]) ((List.append_nil _).symm) (by rw [hv8]; exact List.append_nil _) (wX_fst E b _ _) (ci := 5) (q0 := 0) rfl rfl rfl rfl rfl (Nat.le_of_ble_eq_true rfl) dL_isLineSo_330 ?_
                      have hn_v8 : v8.1 = v.1 := by rw [hv8]; exact (cost_now _ _ _ _ _).trans (rfl : v.1 = v.1)
                      rw [cost_r0 (rfl : v.1 = v.1) ⟨hI, hP, hT⟩ n hro, if_neg (by rw [hk]; decide)]
                      refine v_iload hX dL_isLineSo_333 rfl ?_
                      refine v_if_eq (tgt := 342) hX dL_isLineSo_335 (by decide) (fun c9 => ?_) (fun c9 => ?_)
                      · replace c9 := (nI_eq (a := 0) (b := 0) (by omega) (by omega)).mp c9
                        have c9t := eq_true c9
                        refine v_iload hX dL_isLineSo_342 rfl ?_
                        refine v_icmp_ne (tgt := 451) hX dL_isLineSo_344 (by decide) (fun c10 => ?_) (fun c10 => ?_)
                        · replace c10 := (not_congr (nI_eq (a := cn (cm v.1 r n) 4) (b := cn (cm v.1 r n) 4) (by omega) (by omega))).mp c10
                          first | (exfalso; omega) | exact absurd c10 (by decide) | exact absurd (by decide) c10
                        · replace c10 := (nI_eq (a := cn (cm v.1 r n) 4) (b := cn (cm v.1 r n) 4) (by omega) (by omega)).mp c10
                          have c10t := eq_true c10
                          refine v_aload_n hX dL_isLineSo_347 rfl ?_
                          refine v_iload_n hX dL_isLineSo_348 rfl ?_
                          refine v_iload_n hX dL_isLineSo_349 rfl ?_
                          refine v_iconst (x := (0 : Int32)) hX dL_isLineSo_350 (by decide) ?_
                          refine v_iconst (x := (1 : Int32)) hX dL_isLineSo_351 (by decide) ?_
                          obtain ⟨v11, hv11⟩ : ∃ z_ : XV, z_ = (X_cost v8 (nI (r)) (nI (n).val) false (1 : Int32)).2 := ⟨_, rfl⟩
                          refine v_callVi (r := (X_cost v8 (nI (r)) (nI (n).val) false (1 : Int32)).1) (rest := []) (ws' := wX E b v11) hX (fun sz => c_X5_cost l E b sz v8 (nI (r)) (nI (n).val) false (1 : Int32)) (cwV 4 hX.2.2.2.2.1 gL_isLineSo_X5_cost rfl rfl rfl (by decide +kernel) ⟨Nat.le_of_ble_eq_true rfl, Nat.le_of_ble_eq_true rfl⟩) ([]) ([]) ((List.append_nil _).symm) (by rw [hv11]; exact List.append_nil _) (wX_fst E b _ _) (ci := 5) (q0 := 0) rfl rfl rfl rfl rfl (Nat.le_of_ble_eq_true rfl) dL_isLineSo_352 ?_
                          have hn_v11 : v11.1 = v.1 := by rw [hv11]; exact (cost_now _ _ _ _ _).trans hn_v8
                          rw [cost_r1 hn_v8 ⟨hI, hP, hT⟩ n hro, if_neg (by rw [hk]; decide)]
                          refine v_iload hX dL_isLineSo_355 rfl ?_
                          refine v_if_eq (tgt := 364) hX dL_isLineSo_357 (by decide) (fun c12 => ?_) (fun c12 => ?_)
                          · replace c12 := (nI_eq (a := 0) (b := 0) (by omega) (by omega)).mp c12
                            have c12t := eq_true c12
                            refine v_iload hX dL_isLineSo_364 rfl ?_
                            refine v_icmp_ne (tgt := 451) hX dL_isLineSo_366 (by decide) (fun c13 => ?_) (fun c13 => ?_)
                            · replace c13 := (not_congr (nI_eq (a := cn (vm v.1 r n) 4) (b := cn (vm v.1 r n) 4) (by omega) (by omega))).mp c13
                              first | (exfalso; omega) | exact absurd c13 (by decide) | exact absurd (by decide) c13
                            · replace c13 := (nI_eq (a := cn (vm v.1 r n) 4) (b := cn (vm v.1 r n) 4) (by omega) (by omega)).mp c13
                              have c13t := eq_true c13
                              refine v_aload_n hX dL_isLineSo_369 rfl ?_
                              refine v_iload_n hX dL_isLineSo_370 rfl ?_
                              refine v_iload_n hX dL_isLineSo_371 rfl ?_
                              refine v_iconst (x := (1 : Int32)) hX dL_isLineSo_372 (by decide) ?_
                              refine v_iconst (x := (0 : Int32)) hX dL_isLineSo_373 (by decide) ?_
                              obtain ⟨v14, hv14⟩ : ∃ z_ : XV, z_ = (X_cost v11 (nI (r)) (nI (n).val) true (0 : Int32)).2 := ⟨_, rfl⟩
                              refine v_callVi (r := (X_cost v11 (nI (r)) (nI (n).val) true (0 : Int32)).1) (rest := []) (ws' := wX E b v14) hX (fun sz => c_X5_cost l E b sz v11 (nI (r)) (nI (n).val) true (0 : Int32)) (cwV 4 hX.2.2.2.2.1 gL_isLineSo_X5_cost rfl rfl rfl (by decide +kernel) ⟨Nat.le_of_ble_eq_true rfl, Nat.le_of_ble_eq_true rfl⟩) ([]) ([]) ((List.append_nil _).symm) (by rw [hv14]; exact List.append_nil _) (wX_fst E b _ _) (ci := 5) (q0 := 0) rfl rfl rfl rfl rfl (Nat.le_of_ble_eq_true rfl) dL_isLineSo_374 ?_
                              have hn_v14 : v14.1 = v.1 := by rw [hv14]; exact (cost_now _ _ _ _ _).trans hn_v11
                              rw [cost_w0 hn_v11 ⟨hI, hP, hT⟩ n hro, if_neg (by rw [hd_no hk]; decide)]
                              refine v_iload hX dL_isLineSo_377 rfl ?_
                              refine v_if_eq (tgt := 386) hX dL_isLineSo_379 (by decide) (fun c15 => ?_) (fun c15 => ?_)
                              · replace c15 := (nI_eq (a := 0) (b := 0) (by omega) (by omega)).mp c15
                                have c15t := eq_true c15
                                refine v_iload hX dL_isLineSo_386 rfl ?_
                                refine v_icmp_ne (tgt := 451) hX dL_isLineSo_388 (by decide) (fun c16 => ?_) (fun c16 => ?_)
                                · replace c16 := (not_congr (nI_eq (a := cn (cm v.1 r n) 4) (b := cn (cm v.1 r n) 4) (by omega) (by omega))).mp c16
                                  first | (exfalso; omega) | exact absurd c16 (by decide) | exact absurd (by decide) c16
                                · replace c16 := (nI_eq (a := cn (cm v.1 r n) 4) (b := cn (cm v.1 r n) 4) (by omega) (by omega)).mp c16
                                  have c16t := eq_true c16
                                  refine v_aload_n hX dL_isLineSo_391 rfl ?_
                                  refine v_iload_n hX dL_isLineSo_392 rfl ?_
                                  refine v_iload_n hX dL_isLineSo_393 rfl ?_
                                  refine v_iconst (x := (1 : Int32)) hX dL_isLineSo_394 (by decide) ?_
                                  refine v_iconst (x := (1 : Int32)) hX dL_isLineSo_395 (by decide) ?_
                                  obtain ⟨v17, hv17⟩ : ∃ z_ : XV, z_ = (X_cost v14 (nI (r)) (nI (n).val) true (1 : Int32)).2 := ⟨_, rfl⟩
                                  refine v_callVi (r := (X_cost v14 (nI (r)) (nI (n).val) true (1 : Int32)).1) (rest := []) (ws' := wX E b v17) hX (fun sz => c_X5_cost l E b sz v14 (nI (r)) (nI (n).val) true (1 : Int32)) (cwV 4 hX.2.2.2.2.1 gL_isLineSo_X5_cost rfl rfl rfl (by decide +kernel) ⟨Nat.le_of_ble_eq_true rfl, Nat.le_of_ble_eq_true rfl⟩) ([]) ([]) ((List.append_nil _).symm) (by rw [hv17]; exact List.append_nil _) (wX_fst E b _ _) (ci := 5) (q0 := 0) rfl rfl rfl rfl rfl (Nat.le_of_ble_eq_true rfl) dL_isLineSo_396 ?_
                                  have hn_v17 : v17.1 = v.1 := by rw [hv17]; exact (cost_now _ _ _ _ _).trans hn_v14
                                  rw [cost_w1 hn_v14 ⟨hI, hP, hT⟩ n hro, if_neg (by rw [hd_no hk]; decide)]
                                  refine v_iload hX dL_isLineSo_399 rfl ?_
                                  refine v_if_eq (tgt := 408) hX dL_isLineSo_401 (by decide) (fun c18 => ?_) (fun c18 => ?_)
                                  · replace c18 := (nI_eq (a := 0) (b := 0) (by omega) (by omega)).mp c18
                                    have c18t := eq_true c18
                                    refine v_iload hX dL_isLineSo_408 rfl ?_
                                    refine v_icmp_ne (tgt := 451) hX dL_isLineSo_410 (by decide) (fun c19 => ?_) (fun c19 => ?_)
                                    · replace c19 := (not_congr (nI_eq (a := cn (vm v.1 r n) 4) (b := cn (vm v.1 r n) 4) (by omega) (by omega))).mp c19
                                      first | (exfalso; omega) | exact absurd c19 (by decide) | exact absurd (by decide) c19
                                    · replace c19 := (nI_eq (a := cn (vm v.1 r n) 4) (b := cn (vm v.1 r n) 4) (by omega) (by omega)).mp c19
                                      have c19t := eq_true c19
                                      refine v_iload hX dL_isLineSo_413 rfl ?_
                                      refine v_if_eq (tgt := 447) hX dL_isLineSo_415 (by decide) (fun c20 => ?_) (fun c20 => ?_)
                                      · replace c20 := (nI_eq (a := 0) (b := 0) (by omega) (by omega)).mp c20
                                        have c20t := eq_true c20
                                        refine v_iconst (x := (1 : Int32)) hX dL_isLineSo_447 (by decide) ?_
                                        refine v_goto (tgt := 452) hX dL_isLineSo_448 (by decide) ?_
                                        refine v_istore (lv' := [.ref (b 0 0), .int (nI (n).val), .int (nI (r)), .int ((M_holders v.1 n)), .int ((M_mays v.1 n)), .int (nI (cn (cm v.1 r n) 4)), .int (nI (cn (vm v.1 r n) 4)), .int ((1 : Int32)), .int ((0 : Int32)), .int ((0 : Int32))]) hX dL_isLineSo_452 (Nat.le_of_ble_eq_true rfl) (Nat.le_of_ble_eq_true rfl) rfl rfl ?_
                                        refine v_aload_n hX dL_isLineSo_454 rfl ?_
                                        refine v_iload_n hX dL_isLineSo_455 rfl ?_
                                        refine v_iconst (x := (1 : Int32)) hX dL_isLineSo_456 (by decide) ?_
                                        refine v_callVi (r := X_line v17 (nI (n).val) (1 : Int32)) (rest := []) (ws' := wX E b v17) hX (fun sz => c_X5_line l E b sz v17 (nI (n).val) (1 : Int32)) (cwV 2 hX.2.2.2.2.1 gL_isLineSo_X5_line rfl rfl rfl (by decide +kernel) ⟨Nat.le_of_ble_eq_true rfl, Nat.le_of_ble_eq_true rfl⟩) ([]) ([]) ((List.append_nil _).symm) ((List.append_nil _).symm).symm (wX_fst E b _ _) (ci := 5) (q0 := 0) rfl rfl rfl rfl rfl (Nat.le_of_ble_eq_true rfl) dL_isLineSo_457 ?_
                                        rw [show X_line v17 (nI (n).val) (1 : Int32) = M_vfr v.1 n from (o_line1 _ n).trans (by rw [hn_v17])]
                                        refine v_istore (lv' := [.ref (b 0 0), .int (nI (n).val), .int (nI (r)), .int ((M_holders v.1 n)), .int ((M_mays v.1 n)), .int (nI (cn (cm v.1 r n) 4)), .int (nI (cn (vm v.1 r n) 4)), .int ((1 : Int32)), .int ((0 : Int32)), .int ((0 : Int32)), .int ((M_vfr v.1 n))]) hX dL_isLineSo_460 (Nat.le_of_ble_eq_true rfl) (Nat.le_of_ble_eq_true rfl) rfl rfl ?_
                                        refine v_aload_n hX dL_isLineSo_462 rfl ?_
                                        refine v_bipush (x := (12 : Int32)) hX dL_isLineSo_463 (by decide) ?_
                                        refine v_callVi (r := X_count v17 (12 : Int32)) (rest := []) (ws' := wX E b v17) hX (fun sz => c_X5_count l E b sz v17 (12 : Int32)) (cwV 1 hX.2.2.2.2.1 gL_isLineSo_X5_count rfl rfl rfl (by decide +kernel) ⟨Nat.le_of_ble_eq_true rfl, Nat.le_of_ble_eq_true rfl⟩) ([]) ([]) ((List.append_nil _).symm) ((List.append_nil _).symm).symm (wX_fst E b _ _) (ci := 5) (q0 := 0) rfl rfl rfl rfl rfl (Nat.le_of_ble_eq_true rfl) dL_isLineSo_465 ?_
                                        have hsz5 := (v17.2.2.2.1.2.2).isLt
                                        rw [o_size v17]
                                        refine v_istore (lv' := [.ref (b 0 0), .int (nI (n).val), .int (nI (r)), .int ((M_holders v.1 n)), .int ((M_mays v.1 n)), .int (nI (cn (cm v.1 r n) 4)), .int (nI (cn (vm v.1 r n) 4)), .int ((1 : Int32)), .int ((0 : Int32)), .int ((0 : Int32)), .int ((M_vfr v.1 n)), .int (nI (v17.2.2.2.1.2.2.val))]) hX dL_isLineSo_468 (Nat.le_of_ble_eq_true rfl) (Nat.le_of_ble_eq_true rfl) rfl rfl ?_
                                        refine v_iload hX dL_isLineSo_470 rfl ?_
                                        refine v_if_eq (tgt := 519) hX dL_isLineSo_472 (by decide) (fun c21 => ?_) (fun c21 => ?_)
                                        · replace c21 := (nI_eq (a := 1) (b := 0) (by omega) (by omega)).mp c21
                                          have c21t := eq_true c21
                                          exfalso; omega
                                        · replace c21 := (not_congr (nI_eq (a := 1) (b := 0) (by omega) (by omega))).mp c21
                                          refine v_aload_n hX dL_isLineSo_475 rfl ?_
                                          refine v_iload_n hX dL_isLineSo_476 rfl ?_
                                          refine v_iload_n hX dL_isLineSo_477 rfl ?_
                                          obtain ⟨v22, hv22⟩ : ∃ z_ : XV, z_ = (X_read v17 (nI (r)) (nI (n).val)).2 := ⟨_, rfl⟩
                                          refine v_callVi (r := (X_read v17 (nI (r)) (nI (n).val)).1) (rest := []) (ws' := wX E b v22) hX (fun sz => c_X5_read l E b sz v17 (nI (r)) (nI (n).val)) (cwV 2 hX.2.2.2.2.1 gL_isLineSo_X5_read rfl rfl rfl (by decide +kernel) ⟨Nat.le_of_ble_eq_true rfl, Nat.le_of_ble_eq_true rfl⟩) ([]) ([]) ((List.append_nil _).symm) (by rw [hv22]; exact List.append_nil _) (wX_fst E b _ _) (ci := 5) (q0 := 0) rfl rfl rfl rfl rfl (Nat.le_of_ble_eq_true rfl) dL_isLineSo_478 ?_
                                          rw [read_ans hn_v17 hI n hro]
                                          refine v_iload hX dL_isLineSo_481 rfl ?_
                                          refine v_icmp_ne (tgt := 519) hX dL_isLineSo_483 (by decide) (fun c23 => ?_) (fun c23 => ?_)
                                          · exact (c23 (rfl)).elim
                                          · have c23t := eq_true c23
                                            refine v_aload_n hX dL_isLineSo_486 rfl ?_
                                            obtain ⟨v24, hv24⟩ : ∃ z_ : XV, z_ = (X_undo v22).2 := ⟨_, rfl⟩
                                            refine v_callVi (r := (X_undo v22).1) (rest := []) (ws' := wX E b v24) hX (fun sz => c_X5_undo l E b sz v22 ) (cwV 0 hX.2.2.2.2.1 gL_isLineSo_X5_undo rfl rfl rfl (by decide +kernel) ⟨Nat.le_of_ble_eq_true rfl, Nat.le_of_ble_eq_true rfl⟩) ([]) ([]) ((List.append_nil _).symm) (by rw [hv24]; exact List.append_nil _) (wX_fst E b _ _) (ci := 5) (q0 := 0) rfl rfl rfl rfl rfl (Nat.le_of_ble_eq_true rfl) dL_isLineSo_487 ?_
                                            have hn_v24 : v24.1 = v.1 := (undo_read n hro hv22 hv24).2.trans hn_v17
                                            rw [(undo_read n hro hv22 hv24).1]
                                            by_cases h4 : v17.2.2.2.1.2.2.val = 4
                                            · rw [if_pos h4]
                                              refine v_iload hX dL_isLineSo_490 rfl ?_
                                              refine v_iconst (x := (4 : Int32)) hX dL_isLineSo_492 (by decide) ?_
                                              refine v_icmp_ne (tgt := 500) hX dL_isLineSo_493 (by decide) (fun c25 => ?_) (fun c25 => ?_)
                                              · replace c25 := (not_congr (nI_eq (a := v17.2.2.2.1.2.2.val) (b := 4) (by omega) (by omega))).mp c25
                                                first | (exfalso; omega) | exact absurd c25 (by decide) | exact absurd (by decide) c25
                                              · replace c25 := (nI_eq (a := v17.2.2.2.1.2.2.val) (b := 4) (by omega) (by omega)).mp c25
                                                have c25t := eq_true c25
                                                refine v_iconst (x := (3 : Int32)) hX dL_isLineSo_496 (by decide) ?_
                                                refine v_goto (tgt := 502) hX dL_isLineSo_497 (by decide) ?_
                                                refine v_icmp_ne (tgt := 519) hX dL_isLineSo_502 (by decide) (fun c26 => ?_) (fun c26 => ?_)
                                                · replace c26 := (not_congr (nI_eq (a := 3) (b := 3) (by omega) (by omega))).mp c26
                                                  first | (exfalso; omega) | exact absurd c26 (by decide) | exact absurd (by decide) c26
                                                · replace c26 := (nI_eq (a := 3) (b := 3) (by omega) (by omega)).mp c26
                                                  have c26t := eq_true c26
                                                  refine v_aload_n hX dL_isLineSo_505 rfl ?_
                                                  refine v_iload_n hX dL_isLineSo_506 rfl ?_
                                                  refine v_iconst (x := (2 : Int32)) hX dL_isLineSo_507 (by decide) ?_
                                                  refine v_callVi (r := X_line v24 (nI (n).val) (2 : Int32)) (rest := []) (ws' := wX E b v24) hX (fun sz => c_X5_line l E b sz v24 (nI (n).val) (2 : Int32)) (cwV 2 hX.2.2.2.2.1 gL_isLineSo_X5_line rfl rfl rfl (by decide +kernel) ⟨Nat.le_of_ble_eq_true rfl, Nat.le_of_ble_eq_true rfl⟩) ([]) ([]) ((List.append_nil _).symm) ((List.append_nil _).symm).symm (wX_fst E b _ _) (ci := 5) (q0 := 0) rfl rfl rfl rfl rfl (Nat.le_of_ble_eq_true rfl) dL_isLineSo_508 ?_
                                                  rw [show X_line v24 (nI (n).val) (2 : Int32) = M_holders v.1 n from (o_line2 _ n).trans (by rw [hn_v24])]
                                                  refine v_iload_n hX dL_isLineSo_511 rfl ?_
                                                  refine v_icmp_ne (tgt := 519) hX dL_isLineSo_512 (by decide) (fun c27 => ?_) (fun c27 => ?_)
                                                  · exact (c27 (rfl)).elim
                                                  · have c27t := eq_true c27
                                                    refine v_iconst (x := (1 : Int32)) hX dL_isLineSo_515 (by decide) ?_
                                                    refine v_goto (tgt := 520) hX dL_isLineSo_516 (by decide) ?_
                                                    exact v_zret hX hr hsz dL_isLineSo_520 rfl rfl (bI_narrow (true)) (congrArg bI (by (subst hv24; subst hv22; subst hv17; subst hv14; subst hv11; subst hv8; first | (simp only [c1t, c2t, c3t, c4, c5, c6t, c7, c9t, c10t, c12t, c13t, c15t, c16t, c18t, c19t, c20t, c21, c23t, c25t, c26t, c27t, if_true, if_false, reduceIte, Bool.false_eq_true, reduceCtorEq, decide_true, decide_false, Bool.and_true, Bool.and_false, Bool.true_and, Bool.false_and, Bool.or_true, Bool.or_false, Bool.true_or, Bool.false_or, not_true_eq_false, not_false_eq_true, Bool.not_true, Bool.not_false, eq_self, Nat.reduceEqDiff]; done) | rfl | (simp only [c1t, c2t, c3t, c4, c5, c6t, c7, c9t, c10t, c12t, c13t, c15t, c16t, c18t, c19t, c20t, c21, c23t, c25t, c26t, c27t, if_true, if_false, reduceIte, Bool.false_eq_true, reduceCtorEq, decide_true, decide_false, Bool.and_true, Bool.and_false, Bool.true_and, Bool.false_and, Bool.or_true, Bool.or_false, Bool.true_or, Bool.false_or, not_true_eq_false, not_false_eq_true, Bool.not_true, Bool.not_false, eq_self, Nat.reduceEqDiff]; rfl) | contradiction | (exfalso; omega)) : true = true)) (by (subst hv24; subst hv22; subst hv17; subst hv14; subst hv11; subst hv8; unfold X_ls; rw [if_neg (by rw [hk]; decide)]; rfl))
                                            · rw [if_neg h4]
                                              refine v_iload hX dL_isLineSo_490 rfl ?_
                                              refine v_iconst (x := (4 : Int32)) hX dL_isLineSo_492 (by decide) ?_
                                              refine v_icmp_ne (tgt := 500) hX dL_isLineSo_493 (by decide) (fun c28 => ?_) (fun c28 => ?_)
                                              · replace c28 := (not_congr (nI_eq (a := v17.2.2.2.1.2.2.val) (b := 4) (by omega) (by omega))).mp c28
                                                refine v_iload hX dL_isLineSo_500 rfl ?_
                                                refine v_icmp_ne (tgt := 519) hX dL_isLineSo_502 (by decide) (fun c29 => ?_) (fun c29 => ?_)
                                                · replace c29 := (not_congr (nI_eq (a := v17.2.2.2.1.2.2.val) (b := v17.2.2.2.1.2.2.val) (by omega) (by omega))).mp c29
                                                  first | (exfalso; omega) | exact absurd c29 (by decide) | exact absurd (by decide) c29
                                                · replace c29 := (nI_eq (a := v17.2.2.2.1.2.2.val) (b := v17.2.2.2.1.2.2.val) (by omega) (by omega)).mp c29
                                                  have c29t := eq_true c29
                                                  refine v_aload_n hX dL_isLineSo_505 rfl ?_
                                                  refine v_iload_n hX dL_isLineSo_506 rfl ?_
                                                  refine v_iconst (x := (2 : Int32)) hX dL_isLineSo_507 (by decide) ?_
                                                  refine v_callVi (r := X_line v24 (nI (n).val) (2 : Int32)) (rest := []) (ws' := wX E b v24) hX (fun sz => c_X5_line l E b sz v24 (nI (n).val) (2 : Int32)) (cwV 2 hX.2.2.2.2.1 gL_isLineSo_X5_line rfl rfl rfl (by decide +kernel) ⟨Nat.le_of_ble_eq_true rfl, Nat.le_of_ble_eq_true rfl⟩) ([]) ([]) ((List.append_nil _).symm) ((List.append_nil _).symm).symm (wX_fst E b _ _) (ci := 5) (q0 := 0) rfl rfl rfl rfl rfl (Nat.le_of_ble_eq_true rfl) dL_isLineSo_508 ?_
                                                  rw [show X_line v24 (nI (n).val) (2 : Int32) = M_holders v.1 n from (o_line2 _ n).trans (by rw [hn_v24])]
                                                  refine v_iload_n hX dL_isLineSo_511 rfl ?_
                                                  refine v_icmp_ne (tgt := 519) hX dL_isLineSo_512 (by decide) (fun c30 => ?_) (fun c30 => ?_)
                                                  · exact (c30 (rfl)).elim
                                                  · have c30t := eq_true c30
                                                    refine v_iconst (x := (1 : Int32)) hX dL_isLineSo_515 (by decide) ?_
                                                    refine v_goto (tgt := 520) hX dL_isLineSo_516 (by decide) ?_
                                                    exact v_zret hX hr hsz dL_isLineSo_520 rfl rfl (bI_narrow (true)) (congrArg bI (by (subst hv24; subst hv22; subst hv17; subst hv14; subst hv11; subst hv8; first | (simp only [c1t, c2t, c3t, c4, c5, c6t, c7, c9t, c10t, c12t, c13t, c15t, c16t, c18t, c19t, c20t, c21, c23t, c28, c29t, c30t, if_true, if_false, reduceIte, Bool.false_eq_true, reduceCtorEq, decide_true, decide_false, Bool.and_true, Bool.and_false, Bool.true_and, Bool.false_and, Bool.or_true, Bool.or_false, Bool.true_or, Bool.false_or, not_true_eq_false, not_false_eq_true, Bool.not_true, Bool.not_false, eq_self, Nat.reduceEqDiff]; done) | rfl | (simp only [c1t, c2t, c3t, c4, c5, c6t, c7, c9t, c10t, c12t, c13t, c15t, c16t, c18t, c19t, c20t, c21, c23t, c28, c29t, c30t, if_true, if_false, reduceIte, Bool.false_eq_true, reduceCtorEq, decide_true, decide_false, Bool.and_true, Bool.and_false, Bool.true_and, Bool.false_and, Bool.or_true, Bool.or_false, Bool.true_or, Bool.false_or, not_true_eq_false, not_false_eq_true, Bool.not_true, Bool.not_false, eq_self, Nat.reduceEqDiff]; rfl) | contradiction | (exfalso; omega)) : true = true)) (by (subst hv24; subst hv22; subst hv17; subst hv14; subst hv11; subst hv8; unfold X_ls; rw [if_neg (by rw [hk]; decide)]; rfl))
                                              · replace c28 := (nI_eq (a := v17.2.2.2.1.2.2.val) (b := 4) (by omega) (by omega)).mp c28
                                                have c28t := eq_true c28
                                                first | (exfalso; omega) | exact absurd c28 (by decide) | exact absurd (by decide) c28
                                      · replace c20 := (not_congr (nI_eq (a := 0) (b := 0) (by omega) (by omega))).mp c20
                                        exfalso; omega
                                  · replace c18 := (not_congr (nI_eq (a := 0) (b := 0) (by omega) (by omega))).mp c18
                                    exfalso; omega
                              · replace c15 := (not_congr (nI_eq (a := 0) (b := 0) (by omega) (by omega))).mp c15
                                exfalso; omega
                          · replace c12 := (not_congr (nI_eq (a := 0) (b := 0) (by omega) (by omega))).mp c12
                            exfalso; omega
                      · replace c9 := (not_congr (nI_eq (a := 0) (b := 0) (by omega) (by omega))).mp c9
                        exfalso; omega
                  · replace c6 := (not_congr (nI_eq (a := 0) (b := 0) (by omega) (by omega))).mp c6
                    first | (exfalso; omega) | exact absurd c6 (by decide) | exact absurd (by decide) c6
                · replace c5 := (nI_eq (a := 0) (b := 1) (by omega) (by omega)).mp c5
                  have c5t := eq_true c5
                  first | (exfalso; omega) | exact absurd c5 (by decide) | exact absurd (by decide) c5
              · have hcm := cn_le (cm v.1 r n) 4
                have hvm := cn_le (vm v.1 r n) 4
                refine v_iload_n hX dL_isLineSo_278 rfl ?_
                refine v_iload_n hX dL_isLineSo_279 rfl ?_
                refine v_ishr (z := ((M_holders v.1 n) >>> (nI (r) &&& 31))) hX dL_isLineSo_280 (rfl) ?_
                refine v_iconst (x := (1 : Int32)) hX dL_isLineSo_281 (by decide) ?_
                refine v_iand (z := (((M_holders v.1 n) >>> (nI (r) &&& 31)) &&& (1 : Int32))) hX dL_isLineSo_282 (rfl) ?_
                rw [hold_b1 (m := v.1) (i := r) (n := n) hro hk]
                refine v_iconst (x := (1 : Int32)) hX dL_isLineSo_283 (by decide) ?_
                refine v_icmp_ne (tgt := 291) hX dL_isLineSo_284 (by decide) (fun c31 => ?_) (fun c31 => ?_)
                · replace c31 := (not_congr (nI_eq (a := 1) (b := 1) (by omega) (by omega))).mp c31
                  first | (exfalso; omega) | exact absurd c31 (by decide) | exact absurd (by decide) c31
                · replace c31 := (nI_eq (a := 1) (b := 1) (by omega) (by omega)).mp c31
                  have c31t := eq_true c31
                  refine v_iconst (x := (1 : Int32)) hX dL_isLineSo_287 (by decide) ?_
                  refine v_goto (tgt := 292) hX dL_isLineSo_288 (by decide) ?_
                  refine v_istore (lv' := [.ref (b 0 0), .int (nI (n).val), .int (nI (r)), .int ((M_holders v.1 n)), .int ((M_mays v.1 n)), .int (nI (cn (cm v.1 r n) 4)), .int (nI (cn (vm v.1 r n) 4)), .int ((1 : Int32)), .int ((1 : Int32))]) hX dL_isLineSo_292 (Nat.le_of_ble_eq_true rfl) (Nat.le_of_ble_eq_true rfl) rfl rfl ?_
                  refine v_iload hX dL_isLineSo_294 rfl ?_
                  refine v_if_eq (tgt := 317) hX dL_isLineSo_296 (by decide) (fun c32 => ?_) (fun c32 => ?_)
                  · replace c32 := (nI_eq (a := 1) (b := 0) (by omega) (by omega)).mp c32
                    have c32t := eq_true c32
                    exfalso; omega
                  · replace c32 := (not_congr (nI_eq (a := 1) (b := 0) (by omega) (by omega))).mp c32
                    refine v_aload_n hX dL_isLineSo_299 rfl ?_
                    refine v_iload_n hX dL_isLineSo_300 rfl ?_
                    refine v_iload_n hX dL_isLineSo_301 rfl ?_
                    refine v_bipush (x := (8 : Int32)) hX dL_isLineSo_302 (by decide) ?_
                    refine v_irem (z := nI (((n).val) % 8)) hX dL_isLineSo_304 (by decide) (rem_c ((n).val) 8 (by omega) (by decide) (by decide)) ?_
                    refine v_iconst (x := (2 : Int32)) hX dL_isLineSo_305 (by decide) ?_
                    refine v_callVi (r := X_held v (nI (r)) (nI (((n).val) % 8)) (2 : Int32)) (rest := []) (ws' := wX E b v) hX (fun sz => c_X5_held l E b sz v (nI (r)) (nI (((n).val) % 8)) (2 : Int32)) (cwV 3 hX.2.2.2.2.1 gL_isLineSo_X5_held rfl rfl rfl (by decide +kernel) ⟨Nat.le_of_ble_eq_true rfl, Nat.le_of_ble_eq_true rfl⟩) ([]) ([]) ((List.append_nil _).symm) ((List.append_nil _).symm).symm (wX_fst E b _ _) (ci := 5) (q0 := 0) rfl rfl rfl rfl rfl (Nat.le_of_ble_eq_true rfl) dL_isLineSo_306 ?_
                    rw [held_d0 v hro hk hkd]
                    refine v_iconst (x := (1 : Int32)) hX dL_isLineSo_309 (by decide) ?_
                    refine v_icmp_ne (tgt := 317) hX dL_isLineSo_310 (by decide) (fun c33 => ?_) (fun c33 => ?_)
                    · replace c33 := (not_congr (nI_eq (a := 0) (b := 1) (by omega) (by omega))).mp c33
                      refine v_iconst (x := (0 : Int32)) hX dL_isLineSo_317 (by decide) ?_
                      refine v_istore (lv' := [.ref (b 0 0), .int (nI (n).val), .int (nI (r)), .int ((M_holders v.1 n)), .int ((M_mays v.1 n)), .int (nI (cn (cm v.1 r n) 4)), .int (nI (cn (vm v.1 r n) 4)), .int ((1 : Int32)), .int ((1 : Int32)), .int ((0 : Int32))]) hX dL_isLineSo_318 (Nat.le_of_ble_eq_true rfl) (Nat.le_of_ble_eq_true rfl) rfl rfl ?_
                      refine v_iload hX dL_isLineSo_320 rfl ?_
                      refine v_if_eq (tgt := 451) hX dL_isLineSo_322 (by decide) (fun c34 => ?_) (fun c34 => ?_)
                      · replace c34 := (nI_eq (a := 1) (b := 0) (by omega) (by omega)).mp c34
                        have c34t := eq_true c34
                        exfalso; omega
                      · replace c34 := (not_congr (nI_eq (a := 1) (b := 0) (by omega) (by omega))).mp c34
                        refine v_aload_n hX dL_isLineSo_325 rfl ?_
                        refine v_iload_n hX dL_isLineSo_326 rfl ?_
                        refine v_iload_n hX dL_isLineSo_327 rfl ?_
                        refine v_iconst (x := (0 : Int32)) hX dL_isLineSo_328 (by decide) ?_
                        refine v_iconst (x := (0 : Int32)) hX dL_isLineSo_329 (by decide) ?_
                        obtain ⟨v35, hv35⟩ : ∃ z_ : XV, z_ = (X_cost v (nI (r)) (nI (n).val) false (0 : Int32)).2 := ⟨_, rfl⟩
                        refine v_callVi (r := (X_cost v (nI (r)) (nI (n).val) false (0 : Int32)).1) (rest := []) (ws' := wX E b v35) hX (fun sz => c_X5_cost l E b sz v (nI (r)) (nI (n).val) false (0 : Int32)) (cwV 4 hX.2.2.2.2.1 gL_isLineSo_X5_cost rfl rfl rfl (by decide +kernel) ⟨Nat.le_of_ble_eq_true rfl, Nat.le_of_ble_eq_true rfl⟩) ([]) ([]) ((List.append_nil _).symm) (by rw [hv35]; exact List.append_nil _) (wX_fst E b _ _) (ci := 5) (q0 := 0) rfl rfl rfl rfl rfl (Nat.le_of_ble_eq_true rfl) dL_isLineSo_330 ?_
                        have hn_v35 : v35.1 = v.1 := by rw [hv35]; exact (cost_now _ _ _ _ _).trans (rfl : v.1 = v.1)
                        rw [cost_r0 (rfl : v.1 = v.1) ⟨hI, hP, hT⟩ n hro, if_pos hk]
                        refine v_iload hX dL_isLineSo_333 rfl ?_
                        refine v_if_eq (tgt := 342) hX dL_isLineSo_335 (by decide) (fun c36 => ?_) (fun c36 => ?_)
                        · replace c36 := (nI_eq (a := 1) (b := 0) (by omega) (by omega)).mp c36
                          have c36t := eq_true c36
                          exfalso; omega
                        · replace c36 := (not_congr (nI_eq (a := 1) (b := 0) (by omega) (by omega))).mp c36
                          refine v_iconst (x := (0 : Int32)) hX dL_isLineSo_338 (by decide) ?_
                          refine v_goto (tgt := 344) hX dL_isLineSo_339 (by decide) ?_
                          refine v_icmp_ne (tgt := 451) hX dL_isLineSo_344 (by decide) (fun c37 => ?_) (fun c37 => ?_)
                          · replace c37 := (not_congr (nI_eq (a := 0) (b := 0) (by omega) (by omega))).mp c37
                            first | (exfalso; omega) | exact absurd c37 (by decide) | exact absurd (by decide) c37
                          · replace c37 := (nI_eq (a := 0) (b := 0) (by omega) (by omega)).mp c37
                            have c37t := eq_true c37
                            refine v_aload_n hX dL_isLineSo_347 rfl ?_
                            refine v_iload_n hX dL_isLineSo_348 rfl ?_
                            refine v_iload_n hX dL_isLineSo_349 rfl ?_
                            refine v_iconst (x := (0 : Int32)) hX dL_isLineSo_350 (by decide) ?_
                            refine v_iconst (x := (1 : Int32)) hX dL_isLineSo_351 (by decide) ?_
                            obtain ⟨v38, hv38⟩ : ∃ z_ : XV, z_ = (X_cost v35 (nI (r)) (nI (n).val) false (1 : Int32)).2 := ⟨_, rfl⟩
                            refine v_callVi (r := (X_cost v35 (nI (r)) (nI (n).val) false (1 : Int32)).1) (rest := []) (ws' := wX E b v38) hX (fun sz => c_X5_cost l E b sz v35 (nI (r)) (nI (n).val) false (1 : Int32)) (cwV 4 hX.2.2.2.2.1 gL_isLineSo_X5_cost rfl rfl rfl (by decide +kernel) ⟨Nat.le_of_ble_eq_true rfl, Nat.le_of_ble_eq_true rfl⟩) ([]) ([]) ((List.append_nil _).symm) (by rw [hv38]; exact List.append_nil _) (wX_fst E b _ _) (ci := 5) (q0 := 0) rfl rfl rfl rfl rfl (Nat.le_of_ble_eq_true rfl) dL_isLineSo_352 ?_
                            have hn_v38 : v38.1 = v.1 := by rw [hv38]; exact (cost_now _ _ _ _ _).trans hn_v35
                            rw [cost_r1 hn_v35 ⟨hI, hP, hT⟩ n hro, if_pos hk]
                            refine v_iload hX dL_isLineSo_355 rfl ?_
                            refine v_if_eq (tgt := 364) hX dL_isLineSo_357 (by decide) (fun c39 => ?_) (fun c39 => ?_)
                            · replace c39 := (nI_eq (a := 1) (b := 0) (by omega) (by omega)).mp c39
                              have c39t := eq_true c39
                              exfalso; omega
                            · replace c39 := (not_congr (nI_eq (a := 1) (b := 0) (by omega) (by omega))).mp c39
                              refine v_iconst (x := (0 : Int32)) hX dL_isLineSo_360 (by decide) ?_
                              refine v_goto (tgt := 366) hX dL_isLineSo_361 (by decide) ?_
                              refine v_icmp_ne (tgt := 451) hX dL_isLineSo_366 (by decide) (fun c40 => ?_) (fun c40 => ?_)
                              · replace c40 := (not_congr (nI_eq (a := 0) (b := 0) (by omega) (by omega))).mp c40
                                exfalso; omega
                              · replace c40 := (nI_eq (a := 0) (b := 0) (by omega) (by omega)).mp c40
                                have c40t := eq_true c40
                                refine v_aload_n hX dL_isLineSo_369 rfl ?_
                                refine v_iload_n hX dL_isLineSo_370 rfl ?_
                                refine v_iload_n hX dL_isLineSo_371 rfl ?_
                                refine v_iconst (x := (1 : Int32)) hX dL_isLineSo_372 (by decide) ?_
                                refine v_iconst (x := (0 : Int32)) hX dL_isLineSo_373 (by decide) ?_
                                obtain ⟨v41, hv41⟩ : ∃ z_ : XV, z_ = (X_cost v38 (nI (r)) (nI (n).val) true (0 : Int32)).2 := ⟨_, rfl⟩
                                refine v_callVi (r := (X_cost v38 (nI (r)) (nI (n).val) true (0 : Int32)).1) (rest := []) (ws' := wX E b v41) hX (fun sz => c_X5_cost l E b sz v38 (nI (r)) (nI (n).val) true (0 : Int32)) (cwV 4 hX.2.2.2.2.1 gL_isLineSo_X5_cost rfl rfl rfl (by decide +kernel) ⟨Nat.le_of_ble_eq_true rfl, Nat.le_of_ble_eq_true rfl⟩) ([]) ([]) ((List.append_nil _).symm) (by rw [hv41]; exact List.append_nil _) (wX_fst E b _ _) (ci := 5) (q0 := 0) rfl rfl rfl rfl rfl (Nat.le_of_ble_eq_true rfl) dL_isLineSo_374 ?_
                                have hn_v41 : v41.1 = v.1 := by rw [hv41]; exact (cost_now _ _ _ _ _).trans hn_v38
                                rw [cost_w0 hn_v38 ⟨hI, hP, hT⟩ n hro, if_neg (by rw [hd_d hk hkd]; decide)]
                                refine v_iload hX dL_isLineSo_377 rfl ?_
                                refine v_if_eq (tgt := 386) hX dL_isLineSo_379 (by decide) (fun c42 => ?_) (fun c42 => ?_)
                                · replace c42 := (nI_eq (a := 0) (b := 0) (by omega) (by omega)).mp c42
                                  have c42t := eq_true c42
                                  refine v_iload hX dL_isLineSo_386 rfl ?_
                                  refine v_icmp_ne (tgt := 451) hX dL_isLineSo_388 (by decide) (fun c43 => ?_) (fun c43 => ?_)
                                  · replace c43 := (not_congr (nI_eq (a := cn (cm v.1 r n) 4) (b := cn (cm v.1 r n) 4) (by omega) (by omega))).mp c43
                                    first | (exfalso; omega) | exact absurd c43 (by decide) | exact absurd (by decide) c43
                                  · replace c43 := (nI_eq (a := cn (cm v.1 r n) 4) (b := cn (cm v.1 r n) 4) (by omega) (by omega)).mp c43
                                    have c43t := eq_true c43
                                    refine v_aload_n hX dL_isLineSo_391 rfl ?_
                                    refine v_iload_n hX dL_isLineSo_392 rfl ?_
                                    refine v_iload_n hX dL_isLineSo_393 rfl ?_
                                    refine v_iconst (x := (1 : Int32)) hX dL_isLineSo_394 (by decide) ?_
                                    refine v_iconst (x := (1 : Int32)) hX dL_isLineSo_395 (by decide) ?_
                                    obtain ⟨v44, hv44⟩ : ∃ z_ : XV, z_ = (X_cost v41 (nI (r)) (nI (n).val) true (1 : Int32)).2 := ⟨_, rfl⟩
                                    refine v_callVi (r := (X_cost v41 (nI (r)) (nI (n).val) true (1 : Int32)).1) (rest := []) (ws' := wX E b v44) hX (fun sz => c_X5_cost l E b sz v41 (nI (r)) (nI (n).val) true (1 : Int32)) (cwV 4 hX.2.2.2.2.1 gL_isLineSo_X5_cost rfl rfl rfl (by decide +kernel) ⟨Nat.le_of_ble_eq_true rfl, Nat.le_of_ble_eq_true rfl⟩) ([]) ([]) ((List.append_nil _).symm) (by rw [hv44]; exact List.append_nil _) (wX_fst E b _ _) (ci := 5) (q0 := 0) rfl rfl rfl rfl rfl (Nat.le_of_ble_eq_true rfl) dL_isLineSo_396 ?_
                                    have hn_v44 : v44.1 = v.1 := by rw [hv44]; exact (cost_now _ _ _ _ _).trans hn_v41
                                    rw [cost_w1 hn_v41 ⟨hI, hP, hT⟩ n hro, if_neg (by rw [hd_d hk hkd]; decide)]
                                    refine v_iload hX dL_isLineSo_399 rfl ?_
                                    refine v_if_eq (tgt := 408) hX dL_isLineSo_401 (by decide) (fun c45 => ?_) (fun c45 => ?_)
                                    · replace c45 := (nI_eq (a := 0) (b := 0) (by omega) (by omega)).mp c45
                                      have c45t := eq_true c45
                                      refine v_iload hX dL_isLineSo_408 rfl ?_
                                      refine v_icmp_ne (tgt := 451) hX dL_isLineSo_410 (by decide) (fun c46 => ?_) (fun c46 => ?_)
                                      · replace c46 := (not_congr (nI_eq (a := cn (vm v.1 r n) 4) (b := cn (vm v.1 r n) 4) (by omega) (by omega))).mp c46
                                        first | (exfalso; omega) | exact absurd c46 (by decide) | exact absurd (by decide) c46
                                      · replace c46 := (nI_eq (a := cn (vm v.1 r n) 4) (b := cn (vm v.1 r n) 4) (by omega) (by omega)).mp c46
                                        have c46t := eq_true c46
                                        refine v_iload hX dL_isLineSo_413 rfl ?_
                                        refine v_if_eq (tgt := 447) hX dL_isLineSo_415 (by decide) (fun c47 => ?_) (fun c47 => ?_)
                                        · replace c47 := (nI_eq (a := 1) (b := 0) (by omega) (by omega)).mp c47
                                          have c47t := eq_true c47
                                          exfalso; omega
                                        · replace c47 := (not_congr (nI_eq (a := 1) (b := 0) (by omega) (by omega))).mp c47
                                          refine v_aload_n hX dL_isLineSo_418 rfl ?_
                                          refine v_iload_n hX dL_isLineSo_419 rfl ?_
                                          refine v_iload_n hX dL_isLineSo_420 rfl ?_
                                          refine v_iconst (x := (0 : Int32)) hX dL_isLineSo_421 (by decide) ?_
                                          refine v_iconst (x := (2 : Int32)) hX dL_isLineSo_422 (by decide) ?_
                                          obtain ⟨v48, hv48⟩ : ∃ z_ : XV, z_ = (X_cost v44 (nI (r)) (nI (n).val) false (2 : Int32)).2 := ⟨_, rfl⟩
                                          refine v_callVi (r := (X_cost v44 (nI (r)) (nI (n).val) false (2 : Int32)).1) (rest := []) (ws' := wX E b v48) hX (fun sz => c_X5_cost l E b sz v44 (nI (r)) (nI (n).val) false (2 : Int32)) (cwV 4 hX.2.2.2.2.1 gL_isLineSo_X5_cost rfl rfl rfl (by decide +kernel) ⟨Nat.le_of_ble_eq_true rfl, Nat.le_of_ble_eq_true rfl⟩) ([]) ([]) ((List.append_nil _).symm) (by rw [hv48]; exact List.append_nil _) (wX_fst E b _ _) (ci := 5) (q0 := 0) rfl rfl rfl rfl rfl (Nat.le_of_ble_eq_true rfl) dL_isLineSo_423 ?_
                                          have hn_v48 : v48.1 = v.1 := by rw [hv48]; exact (cost_now _ _ _ _ _).trans hn_v44
                                          rw [cost_r2 hn_v44 n hro hk]
                                          refine v_aload_n hX dL_isLineSo_426 rfl ?_
                                          refine v_iload_n hX dL_isLineSo_427 rfl ?_
                                          refine v_iload_n hX dL_isLineSo_428 rfl ?_
                                          refine v_iconst (x := (0 : Int32)) hX dL_isLineSo_429 (by decide) ?_
                                          refine v_iconst (x := (3 : Int32)) hX dL_isLineSo_430 (by decide) ?_
                                          obtain ⟨v49, hv49⟩ : ∃ z_ : XV, z_ = (X_cost v48 (nI (r)) (nI (n).val) false (3 : Int32)).2 := ⟨_, rfl⟩
                                          refine v_callVi (r := (X_cost v48 (nI (r)) (nI (n).val) false (3 : Int32)).1) (rest := [.int ((0 : Int32))]) (ws' := wX E b v49) hX (fun sz => c_X5_cost l E b sz v48 (nI (r)) (nI (n).val) false (3 : Int32)) (cwV 4 hX.2.2.2.2.1 gL_isLineSo_X5_cost rfl rfl rfl (by decide +kernel) ⟨Nat.le_of_ble_eq_true rfl, Nat.le_of_ble_eq_true rfl⟩) ([]) ([]) ((List.append_nil _).symm) (by rw [hv49]; exact List.append_nil _) (wX_fst E b _ _) (ci := 5) (q0 := 0) rfl rfl rfl rfl rfl (Nat.le_of_ble_eq_true rfl) dL_isLineSo_431 ?_
                                          have hn_v49 : v49.1 = v.1 := by rw [hv49]; exact (cost_now _ _ _ _ _).trans hn_v48
                                          rw [cost_r3 hn_v48 n hro hk]
                                          refine v_iadd (z := nI (0 + 0)) hX dL_isLineSo_434 (nI_add 0 0) ?_
                                          refine v_aload_n hX dL_isLineSo_435 rfl ?_
                                          refine v_iload_n hX dL_isLineSo_436 rfl ?_
                                          refine v_iload_n hX dL_isLineSo_437 rfl ?_
                                          refine v_iconst (x := (1 : Int32)) hX dL_isLineSo_438 (by decide) ?_
                                          refine v_iconst (x := (3 : Int32)) hX dL_isLineSo_439 (by decide) ?_
                                          obtain ⟨v50, hv50⟩ : ∃ z_ : XV, z_ = (X_cost v49 (nI (r)) (nI (n).val) true (3 : Int32)).2 := ⟨_, rfl⟩
                                          refine v_callVi (r := (X_cost v49 (nI (r)) (nI (n).val) true (3 : Int32)).1) (rest := [.int (nI (0 + 0))]) (ws' := wX E b v50) hX (fun sz => c_X5_cost l E b sz v49 (nI (r)) (nI (n).val) true (3 : Int32)) (cwV 4 hX.2.2.2.2.1 gL_isLineSo_X5_cost rfl rfl rfl (by decide +kernel) ⟨Nat.le_of_ble_eq_true rfl, Nat.le_of_ble_eq_true rfl⟩) ([]) ([]) ((List.append_nil _).symm) (by rw [hv50]; exact List.append_nil _) (wX_fst E b _ _) (ci := 5) (q0 := 0) rfl rfl rfl rfl rfl (Nat.le_of_ble_eq_true rfl) dL_isLineSo_440 ?_
                                          have hn_v50 : v50.1 = v.1 := by rw [hv50]; exact (cost_now _ _ _ _ _).trans hn_v49
                                          rw [cost_w3 hn_v49 n hro hk]
                                          refine v_iadd (z := nI ((0 + 0) + 0)) hX dL_isLineSo_443 (nI_add (0 + 0) 0) ?_
                                          refine v_if_ne (tgt := 451) hX dL_isLineSo_444 (by decide) (fun c51 => ?_) (fun c51 => ?_)
                                          · replace c51 := (not_congr (nI_eq (a := (0 + 0) + 0) (b := 0) (by omega) (by omega))).mp c51
                                            first | (exfalso; omega) | exact absurd c51 (by decide) | exact absurd (by decide) c51
                                          · replace c51 := (nI_eq (a := (0 + 0) + 0) (b := 0) (by omega) (by omega)).mp c51
                                            have c51t := eq_true c51
                                            refine v_iconst (x := (1 : Int32)) hX dL_isLineSo_447 (by decide) ?_
                                            refine v_goto (tgt := 452) hX dL_isLineSo_448 (by decide) ?_
                                            refine v_istore (lv' := [.ref (b 0 0), .int (nI (n).val), .int (nI (r)), .int ((M_holders v.1 n)), .int ((M_mays v.1 n)), .int (nI (cn (cm v.1 r n) 4)), .int (nI (cn (vm v.1 r n) 4)), .int ((1 : Int32)), .int ((1 : Int32)), .int ((0 : Int32))]) hX dL_isLineSo_452 (Nat.le_of_ble_eq_true rfl) (Nat.le_of_ble_eq_true rfl) rfl rfl ?_
                                            refine v_aload_n hX dL_isLineSo_454 rfl ?_
                                            refine v_iload_n hX dL_isLineSo_455 rfl ?_
                                            refine v_iconst (x := (1 : Int32)) hX dL_isLineSo_456 (by decide) ?_
                                            refine v_callVi (r := X_line v50 (nI (n).val) (1 : Int32)) (rest := []) (ws' := wX E b v50) hX (fun sz => c_X5_line l E b sz v50 (nI (n).val) (1 : Int32)) (cwV 2 hX.2.2.2.2.1 gL_isLineSo_X5_line rfl rfl rfl (by decide +kernel) ⟨Nat.le_of_ble_eq_true rfl, Nat.le_of_ble_eq_true rfl⟩) ([]) ([]) ((List.append_nil _).symm) ((List.append_nil _).symm).symm (wX_fst E b _ _) (ci := 5) (q0 := 0) rfl rfl rfl rfl rfl (Nat.le_of_ble_eq_true rfl) dL_isLineSo_457 ?_
                                            rw [show X_line v50 (nI (n).val) (1 : Int32) = M_vfr v.1 n from (o_line1 _ n).trans (by rw [hn_v50])]
                                            refine v_istore (lv' := [.ref (b 0 0), .int (nI (n).val), .int (nI (r)), .int ((M_holders v.1 n)), .int ((M_mays v.1 n)), .int (nI (cn (cm v.1 r n) 4)), .int (nI (cn (vm v.1 r n) 4)), .int ((1 : Int32)), .int ((1 : Int32)), .int ((0 : Int32)), .int ((M_vfr v.1 n))]) hX dL_isLineSo_460 (Nat.le_of_ble_eq_true rfl) (Nat.le_of_ble_eq_true rfl) rfl rfl ?_
                                            refine v_aload_n hX dL_isLineSo_462 rfl ?_
                                            refine v_bipush (x := (12 : Int32)) hX dL_isLineSo_463 (by decide) ?_
                                            refine v_callVi (r := X_count v50 (12 : Int32)) (rest := []) (ws' := wX E b v50) hX (fun sz => c_X5_count l E b sz v50 (12 : Int32)) (cwV 1 hX.2.2.2.2.1 gL_isLineSo_X5_count rfl rfl rfl (by decide +kernel) ⟨Nat.le_of_ble_eq_true rfl, Nat.le_of_ble_eq_true rfl⟩) ([]) ([]) ((List.append_nil _).symm) ((List.append_nil _).symm).symm (wX_fst E b _ _) (ci := 5) (q0 := 0) rfl rfl rfl rfl rfl (Nat.le_of_ble_eq_true rfl) dL_isLineSo_465 ?_
                                            have hsz5 := (v50.2.2.2.1.2.2).isLt
                                            rw [o_size v50]
                                            refine v_istore (lv' := [.ref (b 0 0), .int (nI (n).val), .int (nI (r)), .int ((M_holders v.1 n)), .int ((M_mays v.1 n)), .int (nI (cn (cm v.1 r n) 4)), .int (nI (cn (vm v.1 r n) 4)), .int ((1 : Int32)), .int ((1 : Int32)), .int ((0 : Int32)), .int ((M_vfr v.1 n)), .int (nI (v50.2.2.2.1.2.2.val))]) hX dL_isLineSo_468 (Nat.le_of_ble_eq_true rfl) (Nat.le_of_ble_eq_true rfl) rfl rfl ?_
                                            refine v_iload hX dL_isLineSo_470 rfl ?_
                                            refine v_if_eq (tgt := 519) hX dL_isLineSo_472 (by decide) (fun c52 => ?_) (fun c52 => ?_)
                                            · replace c52 := (nI_eq (a := 1) (b := 0) (by omega) (by omega)).mp c52
                                              have c52t := eq_true c52
                                              exfalso; omega
                                            · replace c52 := (not_congr (nI_eq (a := 1) (b := 0) (by omega) (by omega))).mp c52
                                              refine v_aload_n hX dL_isLineSo_475 rfl ?_
                                              refine v_iload_n hX dL_isLineSo_476 rfl ?_
                                              refine v_iload_n hX dL_isLineSo_477 rfl ?_
                                              obtain ⟨v53, hv53⟩ : ∃ z_ : XV, z_ = (X_read v50 (nI (r)) (nI (n).val)).2 := ⟨_, rfl⟩
                                              refine v_callVi (r := (X_read v50 (nI (r)) (nI (n).val)).1) (rest := []) (ws' := wX E b v53) hX (fun sz => c_X5_read l E b sz v50 (nI (r)) (nI (n).val)) (cwV 2 hX.2.2.2.2.1 gL_isLineSo_X5_read rfl rfl rfl (by decide +kernel) ⟨Nat.le_of_ble_eq_true rfl, Nat.le_of_ble_eq_true rfl⟩) ([]) ([]) ((List.append_nil _).symm) (by rw [hv53]; exact List.append_nil _) (wX_fst E b _ _) (ci := 5) (q0 := 0) rfl rfl rfl rfl rfl (Nat.le_of_ble_eq_true rfl) dL_isLineSo_478 ?_
                                              rw [read_ans hn_v50 hI n hro]
                                              refine v_iload hX dL_isLineSo_481 rfl ?_
                                              refine v_icmp_ne (tgt := 519) hX dL_isLineSo_483 (by decide) (fun c54 => ?_) (fun c54 => ?_)
                                              · exact (c54 (rfl)).elim
                                              · have c54t := eq_true c54
                                                refine v_aload_n hX dL_isLineSo_486 rfl ?_
                                                obtain ⟨v55, hv55⟩ : ∃ z_ : XV, z_ = (X_undo v53).2 := ⟨_, rfl⟩
                                                refine v_callVi (r := (X_undo v53).1) (rest := []) (ws' := wX E b v55) hX (fun sz => c_X5_undo l E b sz v53 ) (cwV 0 hX.2.2.2.2.1 gL_isLineSo_X5_undo rfl rfl rfl (by decide +kernel) ⟨Nat.le_of_ble_eq_true rfl, Nat.le_of_ble_eq_true rfl⟩) ([]) ([]) ((List.append_nil _).symm) (by rw [hv55]; exact List.append_nil _) (wX_fst E b _ _) (ci := 5) (q0 := 0) rfl rfl rfl rfl rfl (Nat.le_of_ble_eq_true rfl) dL_isLineSo_487 ?_
                                                have hn_v55 : v55.1 = v.1 := (undo_read n hro hv53 hv55).2.trans hn_v50
                                                rw [(undo_read n hro hv53 hv55).1]
                                                by_cases h4 : v50.2.2.2.1.2.2.val = 4
                                                · rw [if_pos h4]
                                                  refine v_iload hX dL_isLineSo_490 rfl ?_
                                                  refine v_iconst (x := (4 : Int32)) hX dL_isLineSo_492 (by decide) ?_
                                                  refine v_icmp_ne (tgt := 500) hX dL_isLineSo_493 (by decide) (fun c56 => ?_) (fun c56 => ?_)
                                                  · replace c56 := (not_congr (nI_eq (a := v50.2.2.2.1.2.2.val) (b := 4) (by omega) (by omega))).mp c56
                                                    first | (exfalso; omega) | exact absurd c56 (by decide) | exact absurd (by decide) c56
                                                  · replace c56 := (nI_eq (a := v50.2.2.2.1.2.2.val) (b := 4) (by omega) (by omega)).mp c56
                                                    have c56t := eq_true c56
                                                    refine v_iconst (x := (3 : Int32)) hX dL_isLineSo_496 (by decide) ?_
                                                    refine v_goto (tgt := 502) hX dL_isLineSo_497 (by decide) ?_
                                                    refine v_icmp_ne (tgt := 519) hX dL_isLineSo_502 (by decide) (fun c57 => ?_) (fun c57 => ?_)
                                                    · replace c57 := (not_congr (nI_eq (a := 3) (b := 3) (by omega) (by omega))).mp c57
                                                      first | (exfalso; omega) | exact absurd c57 (by decide) | exact absurd (by decide) c57
                                                    · replace c57 := (nI_eq (a := 3) (b := 3) (by omega) (by omega)).mp c57
                                                      have c57t := eq_true c57
                                                      refine v_aload_n hX dL_isLineSo_505 rfl ?_
                                                      refine v_iload_n hX dL_isLineSo_506 rfl ?_
                                                      refine v_iconst (x := (2 : Int32)) hX dL_isLineSo_507 (by decide) ?_
                                                      refine v_callVi (r := X_line v55 (nI (n).val) (2 : Int32)) (rest := []) (ws' := wX E b v55) hX (fun sz => c_X5_line l E b sz v55 (nI (n).val) (2 : Int32)) (cwV 2 hX.2.2.2.2.1 gL_isLineSo_X5_line rfl rfl rfl (by decide +kernel) ⟨Nat.le_of_ble_eq_true rfl, Nat.le_of_ble_eq_true rfl⟩) ([]) ([]) ((List.append_nil _).symm) ((List.append_nil _).symm).symm (wX_fst E b _ _) (ci := 5) (q0 := 0) rfl rfl rfl rfl rfl (Nat.le_of_ble_eq_true rfl) dL_isLineSo_508 ?_
                                                      rw [show X_line v55 (nI (n).val) (2 : Int32) = M_holders v.1 n from (o_line2 _ n).trans (by rw [hn_v55])]
                                                      refine v_iload_n hX dL_isLineSo_511 rfl ?_
                                                      refine v_icmp_ne (tgt := 519) hX dL_isLineSo_512 (by decide) (fun c58 => ?_) (fun c58 => ?_)
                                                      · exact (c58 (rfl)).elim
                                                      · have c58t := eq_true c58
                                                        refine v_iconst (x := (1 : Int32)) hX dL_isLineSo_515 (by decide) ?_
                                                        refine v_goto (tgt := 520) hX dL_isLineSo_516 (by decide) ?_
                                                        exact v_zret hX hr hsz dL_isLineSo_520 rfl rfl (bI_narrow (true)) (congrArg bI (by (subst hv55; subst hv53; subst hv50; subst hv49; subst hv48; subst hv44; subst hv41; subst hv38; subst hv35; first | (simp only [c1t, c2t, c3t, c4, c31t, c32, c33, c34, c36, c37t, c39, c40t, c42t, c43t, c45t, c46t, c47, c51t, c52, c54t, c56t, c57t, c58t, if_true, if_false, reduceIte, Bool.false_eq_true, reduceCtorEq, decide_true, decide_false, Bool.and_true, Bool.and_false, Bool.true_and, Bool.false_and, Bool.or_true, Bool.or_false, Bool.true_or, Bool.false_or, not_true_eq_false, not_false_eq_true, Bool.not_true, Bool.not_false, eq_self, Nat.reduceEqDiff]; done) | rfl | (simp only [c1t, c2t, c3t, c4, c31t, c32, c33, c34, c36, c37t, c39, c40t, c42t, c43t, c45t, c46t, c47, c51t, c52, c54t, c56t, c57t, c58t, if_true, if_false, reduceIte, Bool.false_eq_true, reduceCtorEq, decide_true, decide_false, Bool.and_true, Bool.and_false, Bool.true_and, Bool.false_and, Bool.or_true, Bool.or_false, Bool.true_or, Bool.false_or, not_true_eq_false, not_false_eq_true, Bool.not_true, Bool.not_false, eq_self, Nat.reduceEqDiff]; rfl) | contradiction | (exfalso; omega)) : true = true)) (by (subst hv55; subst hv53; subst hv50; subst hv49; subst hv48; subst hv44; subst hv41; subst hv38; subst hv35; unfold X_ls; rw [if_pos hk]; rfl))
                                                · rw [if_neg h4]
                                                  refine v_iload hX dL_isLineSo_490 rfl ?_
                                                  refine v_iconst (x := (4 : Int32)) hX dL_isLineSo_492 (by decide) ?_
                                                  refine v_icmp_ne (tgt := 500) hX dL_isLineSo_493 (by decide) (fun c59 => ?_) (fun c59 => ?_)
                                                  · replace c59 := (not_congr (nI_eq (a := v50.2.2.2.1.2.2.val) (b := 4) (by omega) (by omega))).mp c59
                                                    refine v_iload hX dL_isLineSo_500 rfl ?_
                                                    refine v_icmp_ne (tgt := 519) hX dL_isLineSo_502 (by decide) (fun c60 => ?_) (fun c60 => ?_)
                                                    · replace c60 := (not_congr (nI_eq (a := v50.2.2.2.1.2.2.val) (b := v50.2.2.2.1.2.2.val) (by omega) (by omega))).mp c60
                                                      first | (exfalso; omega) | exact absurd c60 (by decide) | exact absurd (by decide) c60
                                                    · replace c60 := (nI_eq (a := v50.2.2.2.1.2.2.val) (b := v50.2.2.2.1.2.2.val) (by omega) (by omega)).mp c60
                                                      have c60t := eq_true c60
                                                      refine v_aload_n hX dL_isLineSo_505 rfl ?_
                                                      refine v_iload_n hX dL_isLineSo_506 rfl ?_
                                                      refine v_iconst (x := (2 : Int32)) hX dL_isLineSo_507 (by decide) ?_
                                                      refine v_callVi (r := X_line v55 (nI (n).val) (2 : Int32)) (rest := []) (ws' := wX E b v55) hX (fun sz => c_X5_line l E b sz v55 (nI (n).val) (2 : Int32)) (cwV 2 hX.2.2.2.2.1 gL_isLineSo_X5_line rfl rfl rfl (by decide +kernel) ⟨Nat.le_of_ble_eq_true rfl, Nat.le_of_ble_eq_true rfl⟩) ([]) ([]) ((List.append_nil _).symm) ((List.append_nil _).symm).symm (wX_fst E b _ _) (ci := 5) (q0 := 0) rfl rfl rfl rfl rfl (Nat.le_of_ble_eq_true rfl) dL_isLineSo_508 ?_
                                                      rw [show X_line v55 (nI (n).val) (2 : Int32) = M_holders v.1 n from (o_line2 _ n).trans (by rw [hn_v55])]
                                                      refine v_iload_n hX dL_isLineSo_511 rfl ?_
                                                      refine v_icmp_ne (tgt := 519) hX dL_isLineSo_512 (by decide) (fun c61 => ?_) (fun c61 => ?_)
                                                      · exact (c61 (rfl)).elim
                                                      · have c61t := eq_true c61
                                                        refine v_iconst (x := (1 : Int32)) hX dL_isLineSo_515 (by decide) ?_
                                                        refine v_goto (tgt := 520) hX dL_isLineSo_516 (by decide) ?_
                                                        exact v_zret hX hr hsz dL_isLineSo_520 rfl rfl (bI_narrow (true)) (congrArg bI (by (subst hv55; subst hv53; subst hv50; subst hv49; subst hv48; subst hv44; subst hv41; subst hv38; subst hv35; first | (simp only [c1t, c2t, c3t, c4, c31t, c32, c33, c34, c36, c37t, c39, c40t, c42t, c43t, c45t, c46t, c47, c51t, c52, c54t, c59, c60t, c61t, if_true, if_false, reduceIte, Bool.false_eq_true, reduceCtorEq, decide_true, decide_false, Bool.and_true, Bool.and_false, Bool.true_and, Bool.false_and, Bool.or_true, Bool.or_false, Bool.true_or, Bool.false_or, not_true_eq_false, not_false_eq_true, Bool.not_true, Bool.not_false, eq_self, Nat.reduceEqDiff]; done) | rfl | (simp only [c1t, c2t, c3t, c4, c31t, c32, c33, c34, c36, c37t, c39, c40t, c42t, c43t, c45t, c46t, c47, c51t, c52, c54t, c59, c60t, c61t, if_true, if_false, reduceIte, Bool.false_eq_true, reduceCtorEq, decide_true, decide_false, Bool.and_true, Bool.and_false, Bool.true_and, Bool.false_and, Bool.or_true, Bool.or_false, Bool.true_or, Bool.false_or, not_true_eq_false, not_false_eq_true, Bool.not_true, Bool.not_false, eq_self, Nat.reduceEqDiff]; rfl) | contradiction | (exfalso; omega)) : true = true)) (by (subst hv55; subst hv53; subst hv50; subst hv49; subst hv48; subst hv44; subst hv41; subst hv38; subst hv35; unfold X_ls; rw [if_pos hk]; rfl))
                                                  · replace c59 := (nI_eq (a := v50.2.2.2.1.2.2.val) (b := 4) (by omega) (by omega)).mp c59
                                                    have c59t := eq_true c59
                                                    first | (exfalso; omega) | exact absurd c59 (by decide) | exact absurd (by decide) c59
                                    · replace c45 := (not_congr (nI_eq (a := 0) (b := 0) (by omega) (by omega))).mp c45
                                      exfalso; omega
                                · replace c42 := (not_congr (nI_eq (a := 0) (b := 0) (by omega) (by omega))).mp c42
                                  exfalso; omega
                    · replace c33 := (nI_eq (a := 0) (b := 1) (by omega) (by omega)).mp c33
                      have c33t := eq_true c33
                      first | (exfalso; omega) | exact absurd c33 (by decide) | exact absurd (by decide) c33
              · have hcm := cn_le (cm v.1 r n) 4
                have hvm := cn_le (vm v.1 r n) 4
                refine v_iload_n hX dL_isLineSo_278 rfl ?_
                refine v_iload_n hX dL_isLineSo_279 rfl ?_
                refine v_ishr (z := ((M_holders v.1 n) >>> (nI (r) &&& 31))) hX dL_isLineSo_280 (rfl) ?_
                refine v_iconst (x := (1 : Int32)) hX dL_isLineSo_281 (by decide) ?_
                refine v_iand (z := (((M_holders v.1 n) >>> (nI (r) &&& 31)) &&& (1 : Int32))) hX dL_isLineSo_282 (rfl) ?_
                rw [hold_b1 (m := v.1) (i := r) (n := n) hro hk]
                refine v_iconst (x := (1 : Int32)) hX dL_isLineSo_283 (by decide) ?_
                refine v_icmp_ne (tgt := 291) hX dL_isLineSo_284 (by decide) (fun c62 => ?_) (fun c62 => ?_)
                · replace c62 := (not_congr (nI_eq (a := 1) (b := 1) (by omega) (by omega))).mp c62
                  first | (exfalso; omega) | exact absurd c62 (by decide) | exact absurd (by decide) c62
                · replace c62 := (nI_eq (a := 1) (b := 1) (by omega) (by omega)).mp c62
                  have c62t := eq_true c62
                  refine v_iconst (x := (1 : Int32)) hX dL_isLineSo_287 (by decide) ?_
                  refine v_goto (tgt := 292) hX dL_isLineSo_288 (by decide) ?_
                  refine v_istore (lv' := [.ref (b 0 0), .int (nI (n).val), .int (nI (r)), .int ((M_holders v.1 n)), .int ((M_mays v.1 n)), .int (nI (cn (cm v.1 r n) 4)), .int (nI (cn (vm v.1 r n) 4)), .int ((1 : Int32)), .int ((1 : Int32))]) hX dL_isLineSo_292 (Nat.le_of_ble_eq_true rfl) (Nat.le_of_ble_eq_true rfl) rfl rfl ?_
                  refine v_iload hX dL_isLineSo_294 rfl ?_
                  refine v_if_eq (tgt := 317) hX dL_isLineSo_296 (by decide) (fun c63 => ?_) (fun c63 => ?_)
                  · replace c63 := (nI_eq (a := 1) (b := 0) (by omega) (by omega)).mp c63
                    have c63t := eq_true c63
                    exfalso; omega
                  · replace c63 := (not_congr (nI_eq (a := 1) (b := 0) (by omega) (by omega))).mp c63
                    refine v_aload_n hX dL_isLineSo_299 rfl ?_
                    refine v_iload_n hX dL_isLineSo_300 rfl ?_
                    refine v_iload_n hX dL_isLineSo_301 rfl ?_
                    refine v_bipush (x := (8 : Int32)) hX dL_isLineSo_302 (by decide) ?_
                    refine v_irem (z := nI (((n).val) % 8)) hX dL_isLineSo_304 (by decide) (rem_c ((n).val) 8 (by omega) (by decide) (by decide)) ?_
                    refine v_iconst (x := (2 : Int32)) hX dL_isLineSo_305 (by decide) ?_
                    refine v_callVi (r := X_held v (nI (r)) (nI (((n).val) % 8)) (2 : Int32)) (rest := []) (ws' := wX E b v) hX (fun sz => c_X5_held l E b sz v (nI (r)) (nI (((n).val) % 8)) (2 : Int32)) (cwV 3 hX.2.2.2.2.1 gL_isLineSo_X5_held rfl rfl rfl (by decide +kernel) ⟨Nat.le_of_ble_eq_true rfl, Nat.le_of_ble_eq_true rfl⟩) ([]) ([]) ((List.append_nil _).symm) ((List.append_nil _).symm).symm (wX_fst E b _ _) (ci := 5) (q0 := 0) rfl rfl rfl rfl rfl (Nat.le_of_ble_eq_true rfl) dL_isLineSo_306 ?_
                    rw [held_d1 v hro hk hkd]
                    refine v_iconst (x := (1 : Int32)) hX dL_isLineSo_309 (by decide) ?_
                    refine v_icmp_ne (tgt := 317) hX dL_isLineSo_310 (by decide) (fun c64 => ?_) (fun c64 => ?_)
                    · replace c64 := (not_congr (nI_eq (a := 1) (b := 1) (by omega) (by omega))).mp c64
                      exfalso; omega
                    · replace c64 := (nI_eq (a := 1) (b := 1) (by omega) (by omega)).mp c64
                      have c64t := eq_true c64
                      refine v_iconst (x := (1 : Int32)) hX dL_isLineSo_313 (by decide) ?_
                      refine v_goto (tgt := 318) hX dL_isLineSo_314 (by decide) ?_
                      refine v_istore (lv' := [.ref (b 0 0), .int (nI (n).val), .int (nI (r)), .int ((M_holders v.1 n)), .int ((M_mays v.1 n)), .int (nI (cn (cm v.1 r n) 4)), .int (nI (cn (vm v.1 r n) 4)), .int ((1 : Int32)), .int ((1 : Int32)), .int ((1 : Int32))]) hX dL_isLineSo_318 (Nat.le_of_ble_eq_true rfl) (Nat.le_of_ble_eq_true rfl) rfl rfl ?_
                      refine v_iload hX dL_isLineSo_320 rfl ?_
                      refine v_if_eq (tgt := 451) hX dL_isLineSo_322 (by decide) (fun c65 => ?_) (fun c65 => ?_)
                      · replace c65 := (nI_eq (a := 1) (b := 0) (by omega) (by omega)).mp c65
                        have c65t := eq_true c65
                        exfalso; omega
                      · replace c65 := (not_congr (nI_eq (a := 1) (b := 0) (by omega) (by omega))).mp c65
                        refine v_aload_n hX dL_isLineSo_325 rfl ?_
                        refine v_iload_n hX dL_isLineSo_326 rfl ?_
                        refine v_iload_n hX dL_isLineSo_327 rfl ?_
                        refine v_iconst (x := (0 : Int32)) hX dL_isLineSo_328 (by decide) ?_
                        refine v_iconst (x := (0 : Int32)) hX dL_isLineSo_329 (by decide) ?_
                        obtain ⟨v66, hv66⟩ : ∃ z_ : XV, z_ = (X_cost v (nI (r)) (nI (n).val) false (0 : Int32)).2 := ⟨_, rfl⟩
                        refine v_callVi (r := (X_cost v (nI (r)) (nI (n).val) false (0 : Int32)).1) (rest := []) (ws' := wX E b v66) hX (fun sz => c_X5_cost l E b sz v (nI (r)) (nI (n).val) false (0 : Int32)) (cwV 4 hX.2.2.2.2.1 gL_isLineSo_X5_cost rfl rfl rfl (by decide +kernel) ⟨Nat.le_of_ble_eq_true rfl, Nat.le_of_ble_eq_true rfl⟩) ([]) ([]) ((List.append_nil _).symm) (by rw [hv66]; exact List.append_nil _) (wX_fst E b _ _) (ci := 5) (q0 := 0) rfl rfl rfl rfl rfl (Nat.le_of_ble_eq_true rfl) dL_isLineSo_330 ?_
                        have hn_v66 : v66.1 = v.1 := by rw [hv66]; exact (cost_now _ _ _ _ _).trans (rfl : v.1 = v.1)
                        rw [cost_r0 (rfl : v.1 = v.1) ⟨hI, hP, hT⟩ n hro, if_pos hk]
                        refine v_iload hX dL_isLineSo_333 rfl ?_
                        refine v_if_eq (tgt := 342) hX dL_isLineSo_335 (by decide) (fun c67 => ?_) (fun c67 => ?_)
                        · replace c67 := (nI_eq (a := 1) (b := 0) (by omega) (by omega)).mp c67
                          have c67t := eq_true c67
                          exfalso; omega
                        · replace c67 := (not_congr (nI_eq (a := 1) (b := 0) (by omega) (by omega))).mp c67
                          refine v_iconst (x := (0 : Int32)) hX dL_isLineSo_338 (by decide) ?_
                          refine v_goto (tgt := 344) hX dL_isLineSo_339 (by decide) ?_
                          refine v_icmp_ne (tgt := 451) hX dL_isLineSo_344 (by decide) (fun c68 => ?_) (fun c68 => ?_)
                          · replace c68 := (not_congr (nI_eq (a := 0) (b := 0) (by omega) (by omega))).mp c68
                            first | (exfalso; omega) | exact absurd c68 (by decide) | exact absurd (by decide) c68
                          · replace c68 := (nI_eq (a := 0) (b := 0) (by omega) (by omega)).mp c68
                            have c68t := eq_true c68
                            refine v_aload_n hX dL_isLineSo_347 rfl ?_
                            refine v_iload_n hX dL_isLineSo_348 rfl ?_
                            refine v_iload_n hX dL_isLineSo_349 rfl ?_
                            refine v_iconst (x := (0 : Int32)) hX dL_isLineSo_350 (by decide) ?_
                            refine v_iconst (x := (1 : Int32)) hX dL_isLineSo_351 (by decide) ?_
                            obtain ⟨v69, hv69⟩ : ∃ z_ : XV, z_ = (X_cost v66 (nI (r)) (nI (n).val) false (1 : Int32)).2 := ⟨_, rfl⟩
                            refine v_callVi (r := (X_cost v66 (nI (r)) (nI (n).val) false (1 : Int32)).1) (rest := []) (ws' := wX E b v69) hX (fun sz => c_X5_cost l E b sz v66 (nI (r)) (nI (n).val) false (1 : Int32)) (cwV 4 hX.2.2.2.2.1 gL_isLineSo_X5_cost rfl rfl rfl (by decide +kernel) ⟨Nat.le_of_ble_eq_true rfl, Nat.le_of_ble_eq_true rfl⟩) ([]) ([]) ((List.append_nil _).symm) (by rw [hv69]; exact List.append_nil _) (wX_fst E b _ _) (ci := 5) (q0 := 0) rfl rfl rfl rfl rfl (Nat.le_of_ble_eq_true rfl) dL_isLineSo_352 ?_
                            have hn_v69 : v69.1 = v.1 := by rw [hv69]; exact (cost_now _ _ _ _ _).trans hn_v66
                            rw [cost_r1 hn_v66 ⟨hI, hP, hT⟩ n hro, if_pos hk]
                            refine v_iload hX dL_isLineSo_355 rfl ?_
                            refine v_if_eq (tgt := 364) hX dL_isLineSo_357 (by decide) (fun c70 => ?_) (fun c70 => ?_)
                            · replace c70 := (nI_eq (a := 1) (b := 0) (by omega) (by omega)).mp c70
                              have c70t := eq_true c70
                              exfalso; omega
                            · replace c70 := (not_congr (nI_eq (a := 1) (b := 0) (by omega) (by omega))).mp c70
                              refine v_iconst (x := (0 : Int32)) hX dL_isLineSo_360 (by decide) ?_
                              refine v_goto (tgt := 366) hX dL_isLineSo_361 (by decide) ?_
                              refine v_icmp_ne (tgt := 451) hX dL_isLineSo_366 (by decide) (fun c71 => ?_) (fun c71 => ?_)
                              · replace c71 := (not_congr (nI_eq (a := 0) (b := 0) (by omega) (by omega))).mp c71
                                exfalso; omega
                              · replace c71 := (nI_eq (a := 0) (b := 0) (by omega) (by omega)).mp c71
                                have c71t := eq_true c71
                                refine v_aload_n hX dL_isLineSo_369 rfl ?_
                                refine v_iload_n hX dL_isLineSo_370 rfl ?_
                                refine v_iload_n hX dL_isLineSo_371 rfl ?_
                                refine v_iconst (x := (1 : Int32)) hX dL_isLineSo_372 (by decide) ?_
                                refine v_iconst (x := (0 : Int32)) hX dL_isLineSo_373 (by decide) ?_
                                obtain ⟨v72, hv72⟩ : ∃ z_ : XV, z_ = (X_cost v69 (nI (r)) (nI (n).val) true (0 : Int32)).2 := ⟨_, rfl⟩
                                refine v_callVi (r := (X_cost v69 (nI (r)) (nI (n).val) true (0 : Int32)).1) (rest := []) (ws' := wX E b v72) hX (fun sz => c_X5_cost l E b sz v69 (nI (r)) (nI (n).val) true (0 : Int32)) (cwV 4 hX.2.2.2.2.1 gL_isLineSo_X5_cost rfl rfl rfl (by decide +kernel) ⟨Nat.le_of_ble_eq_true rfl, Nat.le_of_ble_eq_true rfl⟩) ([]) ([]) ((List.append_nil _).symm) (by rw [hv72]; exact List.append_nil _) (wX_fst E b _ _) (ci := 5) (q0 := 0) rfl rfl rfl rfl rfl (Nat.le_of_ble_eq_true rfl) dL_isLineSo_374 ?_
                                have hn_v72 : v72.1 = v.1 := by rw [hv72]; exact (cost_now _ _ _ _ _).trans hn_v69
                                rw [cost_w0 hn_v69 ⟨hI, hP, hT⟩ n hro, if_pos (hd_d hk hkd)]
                                refine v_iload hX dL_isLineSo_377 rfl ?_
                                refine v_if_eq (tgt := 386) hX dL_isLineSo_379 (by decide) (fun c73 => ?_) (fun c73 => ?_)
                                · replace c73 := (nI_eq (a := 1) (b := 0) (by omega) (by omega)).mp c73
                                  have c73t := eq_true c73
                                  exfalso; omega
                                · replace c73 := (not_congr (nI_eq (a := 1) (b := 0) (by omega) (by omega))).mp c73
                                  refine v_iconst (x := (0 : Int32)) hX dL_isLineSo_382 (by decide) ?_
                                  refine v_goto (tgt := 388) hX dL_isLineSo_383 (by decide) ?_
                                  refine v_icmp_ne (tgt := 451) hX dL_isLineSo_388 (by decide) (fun c74 => ?_) (fun c74 => ?_)
                                  · replace c74 := (not_congr (nI_eq (a := 0) (b := 0) (by omega) (by omega))).mp c74
                                    exfalso; omega
                                  · replace c74 := (nI_eq (a := 0) (b := 0) (by omega) (by omega)).mp c74
                                    have c74t := eq_true c74
                                    refine v_aload_n hX dL_isLineSo_391 rfl ?_
                                    refine v_iload_n hX dL_isLineSo_392 rfl ?_
                                    refine v_iload_n hX dL_isLineSo_393 rfl ?_
                                    refine v_iconst (x := (1 : Int32)) hX dL_isLineSo_394 (by decide) ?_
                                    refine v_iconst (x := (1 : Int32)) hX dL_isLineSo_395 (by decide) ?_
                                    obtain ⟨v75, hv75⟩ : ∃ z_ : XV, z_ = (X_cost v72 (nI (r)) (nI (n).val) true (1 : Int32)).2 := ⟨_, rfl⟩
                                    refine v_callVi (r := (X_cost v72 (nI (r)) (nI (n).val) true (1 : Int32)).1) (rest := []) (ws' := wX E b v75) hX (fun sz => c_X5_cost l E b sz v72 (nI (r)) (nI (n).val) true (1 : Int32)) (cwV 4 hX.2.2.2.2.1 gL_isLineSo_X5_cost rfl rfl rfl (by decide +kernel) ⟨Nat.le_of_ble_eq_true rfl, Nat.le_of_ble_eq_true rfl⟩) ([]) ([]) ((List.append_nil _).symm) (by rw [hv75]; exact List.append_nil _) (wX_fst E b _ _) (ci := 5) (q0 := 0) rfl rfl rfl rfl rfl (Nat.le_of_ble_eq_true rfl) dL_isLineSo_396 ?_
                                    have hn_v75 : v75.1 = v.1 := by rw [hv75]; exact (cost_now _ _ _ _ _).trans hn_v72
                                    rw [cost_w1 hn_v72 ⟨hI, hP, hT⟩ n hro, if_pos (hd_d hk hkd)]
                                    refine v_iload hX dL_isLineSo_399 rfl ?_
                                    refine v_if_eq (tgt := 408) hX dL_isLineSo_401 (by decide) (fun c76 => ?_) (fun c76 => ?_)
                                    · replace c76 := (nI_eq (a := 1) (b := 0) (by omega) (by omega)).mp c76
                                      have c76t := eq_true c76
                                      exfalso; omega
                                    · replace c76 := (not_congr (nI_eq (a := 1) (b := 0) (by omega) (by omega))).mp c76
                                      refine v_iconst (x := (0 : Int32)) hX dL_isLineSo_404 (by decide) ?_
                                      refine v_goto (tgt := 410) hX dL_isLineSo_405 (by decide) ?_
                                      refine v_icmp_ne (tgt := 451) hX dL_isLineSo_410 (by decide) (fun c77 => ?_) (fun c77 => ?_)
                                      · replace c77 := (not_congr (nI_eq (a := 0) (b := 0) (by omega) (by omega))).mp c77
                                        exfalso; omega
                                      · replace c77 := (nI_eq (a := 0) (b := 0) (by omega) (by omega)).mp c77
                                        have c77t := eq_true c77
                                        refine v_iload hX dL_isLineSo_413 rfl ?_
                                        refine v_if_eq (tgt := 447) hX dL_isLineSo_415 (by decide) (fun c78 => ?_) (fun c78 => ?_)
                                        · replace c78 := (nI_eq (a := 1) (b := 0) (by omega) (by omega)).mp c78
                                          have c78t := eq_true c78
                                          exfalso; omega
                                        · replace c78 := (not_congr (nI_eq (a := 1) (b := 0) (by omega) (by omega))).mp c78
                                          refine v_aload_n hX dL_isLineSo_418 rfl ?_
                                          refine v_iload_n hX dL_isLineSo_419 rfl ?_
                                          refine v_iload_n hX dL_isLineSo_420 rfl ?_
                                          refine v_iconst (x := (0 : Int32)) hX dL_isLineSo_421 (by decide) ?_
                                          refine v_iconst (x := (2 : Int32)) hX dL_isLineSo_422 (by decide) ?_
                                          obtain ⟨v79, hv79⟩ : ∃ z_ : XV, z_ = (X_cost v75 (nI (r)) (nI (n).val) false (2 : Int32)).2 := ⟨_, rfl⟩
                                          refine v_callVi (r := (X_cost v75 (nI (r)) (nI (n).val) false (2 : Int32)).1) (rest := []) (ws' := wX E b v79) hX (fun sz => c_X5_cost l E b sz v75 (nI (r)) (nI (n).val) false (2 : Int32)) (cwV 4 hX.2.2.2.2.1 gL_isLineSo_X5_cost rfl rfl rfl (by decide +kernel) ⟨Nat.le_of_ble_eq_true rfl, Nat.le_of_ble_eq_true rfl⟩) ([]) ([]) ((List.append_nil _).symm) (by rw [hv79]; exact List.append_nil _) (wX_fst E b _ _) (ci := 5) (q0 := 0) rfl rfl rfl rfl rfl (Nat.le_of_ble_eq_true rfl) dL_isLineSo_423 ?_
                                          have hn_v79 : v79.1 = v.1 := by rw [hv79]; exact (cost_now _ _ _ _ _).trans hn_v75
                                          rw [cost_r2 hn_v75 n hro hk]
                                          refine v_aload_n hX dL_isLineSo_426 rfl ?_
                                          refine v_iload_n hX dL_isLineSo_427 rfl ?_
                                          refine v_iload_n hX dL_isLineSo_428 rfl ?_
                                          refine v_iconst (x := (0 : Int32)) hX dL_isLineSo_429 (by decide) ?_
                                          refine v_iconst (x := (3 : Int32)) hX dL_isLineSo_430 (by decide) ?_
                                          obtain ⟨v80, hv80⟩ : ∃ z_ : XV, z_ = (X_cost v79 (nI (r)) (nI (n).val) false (3 : Int32)).2 := ⟨_, rfl⟩
                                          refine v_callVi (r := (X_cost v79 (nI (r)) (nI (n).val) false (3 : Int32)).1) (rest := [.int ((0 : Int32))]) (ws' := wX E b v80) hX (fun sz => c_X5_cost l E b sz v79 (nI (r)) (nI (n).val) false (3 : Int32)) (cwV 4 hX.2.2.2.2.1 gL_isLineSo_X5_cost rfl rfl rfl (by decide +kernel) ⟨Nat.le_of_ble_eq_true rfl, Nat.le_of_ble_eq_true rfl⟩) ([]) ([]) ((List.append_nil _).symm) (by rw [hv80]; exact List.append_nil _) (wX_fst E b _ _) (ci := 5) (q0 := 0) rfl rfl rfl rfl rfl (Nat.le_of_ble_eq_true rfl) dL_isLineSo_431 ?_
                                          have hn_v80 : v80.1 = v.1 := by rw [hv80]; exact (cost_now _ _ _ _ _).trans hn_v79
                                          rw [cost_r3 hn_v79 n hro hk]
                                          refine v_iadd (z := nI (0 + 0)) hX dL_isLineSo_434 (nI_add 0 0) ?_
                                          refine v_aload_n hX dL_isLineSo_435 rfl ?_
                                          refine v_iload_n hX dL_isLineSo_436 rfl ?_
                                          refine v_iload_n hX dL_isLineSo_437 rfl ?_
                                          refine v_iconst (x := (1 : Int32)) hX dL_isLineSo_438 (by decide) ?_
                                          refine v_iconst (x := (3 : Int32)) hX dL_isLineSo_439 (by decide) ?_
                                          obtain ⟨v81, hv81⟩ : ∃ z_ : XV, z_ = (X_cost v80 (nI (r)) (nI (n).val) true (3 : Int32)).2 := ⟨_, rfl⟩
                                          refine v_callVi (r := (X_cost v80 (nI (r)) (nI (n).val) true (3 : Int32)).1) (rest := [.int (nI (0 + 0))]) (ws' := wX E b v81) hX (fun sz => c_X5_cost l E b sz v80 (nI (r)) (nI (n).val) true (3 : Int32)) (cwV 4 hX.2.2.2.2.1 gL_isLineSo_X5_cost rfl rfl rfl (by decide +kernel) ⟨Nat.le_of_ble_eq_true rfl, Nat.le_of_ble_eq_true rfl⟩) ([]) ([]) ((List.append_nil _).symm) (by rw [hv81]; exact List.append_nil _) (wX_fst E b _ _) (ci := 5) (q0 := 0) rfl rfl rfl rfl rfl (Nat.le_of_ble_eq_true rfl) dL_isLineSo_440 ?_
                                          have hn_v81 : v81.1 = v.1 := by rw [hv81]; exact (cost_now _ _ _ _ _).trans hn_v80
                                          rw [cost_w3 hn_v80 n hro hk]
                                          refine v_iadd (z := nI ((0 + 0) + 0)) hX dL_isLineSo_443 (nI_add (0 + 0) 0) ?_
                                          refine v_if_ne (tgt := 451) hX dL_isLineSo_444 (by decide) (fun c82 => ?_) (fun c82 => ?_)
                                          · replace c82 := (not_congr (nI_eq (a := (0 + 0) + 0) (b := 0) (by omega) (by omega))).mp c82
                                            first | (exfalso; omega) | exact absurd c82 (by decide) | exact absurd (by decide) c82
                                          · replace c82 := (nI_eq (a := (0 + 0) + 0) (b := 0) (by omega) (by omega)).mp c82
                                            have c82t := eq_true c82
                                            refine v_iconst (x := (1 : Int32)) hX dL_isLineSo_447 (by decide) ?_
                                            refine v_goto (tgt := 452) hX dL_isLineSo_448 (by decide) ?_
                                            refine v_istore (lv' := [.ref (b 0 0), .int (nI (n).val), .int (nI (r)), .int ((M_holders v.1 n)), .int ((M_mays v.1 n)), .int (nI (cn (cm v.1 r n) 4)), .int (nI (cn (vm v.1 r n) 4)), .int ((1 : Int32)), .int ((1 : Int32)), .int ((1 : Int32))]) hX dL_isLineSo_452 (Nat.le_of_ble_eq_true rfl) (Nat.le_of_ble_eq_true rfl) rfl rfl ?_
                                            refine v_aload_n hX dL_isLineSo_454 rfl ?_
                                            refine v_iload_n hX dL_isLineSo_455 rfl ?_
                                            refine v_iconst (x := (1 : Int32)) hX dL_isLineSo_456 (by decide) ?_
                                            refine v_callVi (r := X_line v81 (nI (n).val) (1 : Int32)) (rest := []) (ws' := wX E b v81) hX (fun sz => c_X5_line l E b sz v81 (nI (n).val) (1 : Int32)) (cwV 2 hX.2.2.2.2.1 gL_isLineSo_X5_line rfl rfl rfl (by decide +kernel) ⟨Nat.le_of_ble_eq_true rfl, Nat.le_of_ble_eq_true rfl⟩) ([]) ([]) ((List.append_nil _).symm) ((List.append_nil _).symm).symm (wX_fst E b _ _) (ci := 5) (q0 := 0) rfl rfl rfl rfl rfl (Nat.le_of_ble_eq_true rfl) dL_isLineSo_457 ?_
                                            rw [show X_line v81 (nI (n).val) (1 : Int32) = M_vfr v.1 n from (o_line1 _ n).trans (by rw [hn_v81])]
                                            refine v_istore (lv' := [.ref (b 0 0), .int (nI (n).val), .int (nI (r)), .int ((M_holders v.1 n)), .int ((M_mays v.1 n)), .int (nI (cn (cm v.1 r n) 4)), .int (nI (cn (vm v.1 r n) 4)), .int ((1 : Int32)), .int ((1 : Int32)), .int ((1 : Int32)), .int ((M_vfr v.1 n))]) hX dL_isLineSo_460 (Nat.le_of_ble_eq_true rfl) (Nat.le_of_ble_eq_true rfl) rfl rfl ?_
                                            refine v_aload_n hX dL_isLineSo_462 rfl ?_
                                            refine v_bipush (x := (12 : Int32)) hX dL_isLineSo_463 (by decide) ?_
                                            refine v_callVi (r := X_count v81 (12 : Int32)) (rest := []) (ws' := wX E b v81) hX (fun sz => c_X5_count l E b sz v81 (12 : Int32)) (cwV 1 hX.2.2.2.2.1 gL_isLineSo_X5_count rfl rfl rfl (by decide +kernel) ⟨Nat.le_of_ble_eq_true rfl, Nat.le_of_ble_eq_true rfl⟩) ([]) ([]) ((List.append_nil _).symm) ((List.append_nil _).symm).symm (wX_fst E b _ _) (ci := 5) (q0 := 0) rfl rfl rfl rfl rfl (Nat.le_of_ble_eq_true rfl) dL_isLineSo_465 ?_
                                            have hsz5 := (v81.2.2.2.1.2.2).isLt
                                            rw [o_size v81]
                                            refine v_istore (lv' := [.ref (b 0 0), .int (nI (n).val), .int (nI (r)), .int ((M_holders v.1 n)), .int ((M_mays v.1 n)), .int (nI (cn (cm v.1 r n) 4)), .int (nI (cn (vm v.1 r n) 4)), .int ((1 : Int32)), .int ((1 : Int32)), .int ((1 : Int32)), .int ((M_vfr v.1 n)), .int (nI (v81.2.2.2.1.2.2.val))]) hX dL_isLineSo_468 (Nat.le_of_ble_eq_true rfl) (Nat.le_of_ble_eq_true rfl) rfl rfl ?_
                                            refine v_iload hX dL_isLineSo_470 rfl ?_
                                            refine v_if_eq (tgt := 519) hX dL_isLineSo_472 (by decide) (fun c83 => ?_) (fun c83 => ?_)
                                            · replace c83 := (nI_eq (a := 1) (b := 0) (by omega) (by omega)).mp c83
                                              have c83t := eq_true c83
                                              exfalso; omega
                                            · replace c83 := (not_congr (nI_eq (a := 1) (b := 0) (by omega) (by omega))).mp c83
                                              refine v_aload_n hX dL_isLineSo_475 rfl ?_
                                              refine v_iload_n hX dL_isLineSo_476 rfl ?_
                                              refine v_iload_n hX dL_isLineSo_477 rfl ?_
                                              obtain ⟨v84, hv84⟩ : ∃ z_ : XV, z_ = (X_read v81 (nI (r)) (nI (n).val)).2 := ⟨_, rfl⟩
                                              refine v_callVi (r := (X_read v81 (nI (r)) (nI (n).val)).1) (rest := []) (ws' := wX E b v84) hX (fun sz => c_X5_read l E b sz v81 (nI (r)) (nI (n).val)) (cwV 2 hX.2.2.2.2.1 gL_isLineSo_X5_read rfl rfl rfl (by decide +kernel) ⟨Nat.le_of_ble_eq_true rfl, Nat.le_of_ble_eq_true rfl⟩) ([]) ([]) ((List.append_nil _).symm) (by rw [hv84]; exact List.append_nil _) (wX_fst E b _ _) (ci := 5) (q0 := 0) rfl rfl rfl rfl rfl (Nat.le_of_ble_eq_true rfl) dL_isLineSo_478 ?_
                                              rw [read_ans hn_v81 hI n hro]
                                              refine v_iload hX dL_isLineSo_481 rfl ?_
                                              refine v_icmp_ne (tgt := 519) hX dL_isLineSo_483 (by decide) (fun c85 => ?_) (fun c85 => ?_)
                                              · exact (c85 (rfl)).elim
                                              · have c85t := eq_true c85
                                                refine v_aload_n hX dL_isLineSo_486 rfl ?_
                                                obtain ⟨v86, hv86⟩ : ∃ z_ : XV, z_ = (X_undo v84).2 := ⟨_, rfl⟩
                                                refine v_callVi (r := (X_undo v84).1) (rest := []) (ws' := wX E b v86) hX (fun sz => c_X5_undo l E b sz v84 ) (cwV 0 hX.2.2.2.2.1 gL_isLineSo_X5_undo rfl rfl rfl (by decide +kernel) ⟨Nat.le_of_ble_eq_true rfl, Nat.le_of_ble_eq_true rfl⟩) ([]) ([]) ((List.append_nil _).symm) (by rw [hv86]; exact List.append_nil _) (wX_fst E b _ _) (ci := 5) (q0 := 0) rfl rfl rfl rfl rfl (Nat.le_of_ble_eq_true rfl) dL_isLineSo_487 ?_
                                                have hn_v86 : v86.1 = v.1 := (undo_read n hro hv84 hv86).2.trans hn_v81
                                                rw [(undo_read n hro hv84 hv86).1]
                                                by_cases h4 : v81.2.2.2.1.2.2.val = 4
                                                · rw [if_pos h4]
                                                  refine v_iload hX dL_isLineSo_490 rfl ?_
                                                  refine v_iconst (x := (4 : Int32)) hX dL_isLineSo_492 (by decide) ?_
                                                  refine v_icmp_ne (tgt := 500) hX dL_isLineSo_493 (by decide) (fun c87 => ?_) (fun c87 => ?_)
                                                  · replace c87 := (not_congr (nI_eq (a := v81.2.2.2.1.2.2.val) (b := 4) (by omega) (by omega))).mp c87
                                                    first | (exfalso; omega) | exact absurd c87 (by decide) | exact absurd (by decide) c87
                                                  · replace c87 := (nI_eq (a := v81.2.2.2.1.2.2.val) (b := 4) (by omega) (by omega)).mp c87
                                                    have c87t := eq_true c87
                                                    refine v_iconst (x := (3 : Int32)) hX dL_isLineSo_496 (by decide) ?_
                                                    refine v_goto (tgt := 502) hX dL_isLineSo_497 (by decide) ?_
                                                    refine v_icmp_ne (tgt := 519) hX dL_isLineSo_502 (by decide) (fun c88 => ?_) (fun c88 => ?_)
                                                    · replace c88 := (not_congr (nI_eq (a := 3) (b := 3) (by omega) (by omega))).mp c88
                                                      first | (exfalso; omega) | exact absurd c88 (by decide) | exact absurd (by decide) c88
                                                    · replace c88 := (nI_eq (a := 3) (b := 3) (by omega) (by omega)).mp c88
                                                      have c88t := eq_true c88
                                                      refine v_aload_n hX dL_isLineSo_505 rfl ?_
                                                      refine v_iload_n hX dL_isLineSo_506 rfl ?_
                                                      refine v_iconst (x := (2 : Int32)) hX dL_isLineSo_507 (by decide) ?_
                                                      refine v_callVi (r := X_line v86 (nI (n).val) (2 : Int32)) (rest := []) (ws' := wX E b v86) hX (fun sz => c_X5_line l E b sz v86 (nI (n).val) (2 : Int32)) (cwV 2 hX.2.2.2.2.1 gL_isLineSo_X5_line rfl rfl rfl (by decide +kernel) ⟨Nat.le_of_ble_eq_true rfl, Nat.le_of_ble_eq_true rfl⟩) ([]) ([]) ((List.append_nil _).symm) ((List.append_nil _).symm).symm (wX_fst E b _ _) (ci := 5) (q0 := 0) rfl rfl rfl rfl rfl (Nat.le_of_ble_eq_true rfl) dL_isLineSo_508 ?_
                                                      rw [show X_line v86 (nI (n).val) (2 : Int32) = M_holders v.1 n from (o_line2 _ n).trans (by rw [hn_v86])]
                                                      refine v_iload_n hX dL_isLineSo_511 rfl ?_
                                                      refine v_icmp_ne (tgt := 519) hX dL_isLineSo_512 (by decide) (fun c89 => ?_) (fun c89 => ?_)
                                                      · exact (c89 (rfl)).elim
                                                      · have c89t := eq_true c89
                                                        refine v_iconst (x := (1 : Int32)) hX dL_isLineSo_515 (by decide) ?_
                                                        refine v_goto (tgt := 520) hX dL_isLineSo_516 (by decide) ?_
                                                        exact v_zret hX hr hsz dL_isLineSo_520 rfl rfl (bI_narrow (true)) (congrArg bI (by (subst hv86; subst hv84; subst hv81; subst hv80; subst hv79; subst hv75; subst hv72; subst hv69; subst hv66; first | (simp only [c1t, c2t, c3t, c4, c62t, c63, c64t, c65, c67, c68t, c70, c71t, c73, c74t, c76, c77t, c78, c82t, c83, c85t, c87t, c88t, c89t, if_true, if_false, reduceIte, Bool.false_eq_true, reduceCtorEq, decide_true, decide_false, Bool.and_true, Bool.and_false, Bool.true_and, Bool.false_and, Bool.or_true, Bool.or_false, Bool.true_or, Bool.false_or, not_true_eq_false, not_false_eq_true, Bool.not_true, Bool.not_false, eq_self, Nat.reduceEqDiff]; done) | rfl | (simp only [c1t, c2t, c3t, c4, c62t, c63, c64t, c65, c67, c68t, c70, c71t, c73, c74t, c76, c77t, c78, c82t, c83, c85t, c87t, c88t, c89t, if_true, if_false, reduceIte, Bool.false_eq_true, reduceCtorEq, decide_true, decide_false, Bool.and_true, Bool.and_false, Bool.true_and, Bool.false_and, Bool.or_true, Bool.or_false, Bool.true_or, Bool.false_or, not_true_eq_false, not_false_eq_true, Bool.not_true, Bool.not_false, eq_self, Nat.reduceEqDiff]; rfl) | contradiction | (exfalso; omega)) : true = true)) (by (subst hv86; subst hv84; subst hv81; subst hv80; subst hv79; subst hv75; subst hv72; subst hv69; subst hv66; unfold X_ls; rw [if_pos hk]; rfl))
                                                · rw [if_neg h4]
                                                  refine v_iload hX dL_isLineSo_490 rfl ?_
                                                  refine v_iconst (x := (4 : Int32)) hX dL_isLineSo_492 (by decide) ?_
                                                  refine v_icmp_ne (tgt := 500) hX dL_isLineSo_493 (by decide) (fun c90 => ?_) (fun c90 => ?_)
                                                  · replace c90 := (not_congr (nI_eq (a := v81.2.2.2.1.2.2.val) (b := 4) (by omega) (by omega))).mp c90
                                                    refine v_iload hX dL_isLineSo_500 rfl ?_
                                                    refine v_icmp_ne (tgt := 519) hX dL_isLineSo_502 (by decide) (fun c91 => ?_) (fun c91 => ?_)
                                                    · replace c91 := (not_congr (nI_eq (a := v81.2.2.2.1.2.2.val) (b := v81.2.2.2.1.2.2.val) (by omega) (by omega))).mp c91
                                                      first | (exfalso; omega) | exact absurd c91 (by decide) | exact absurd (by decide) c91
                                                    · replace c91 := (nI_eq (a := v81.2.2.2.1.2.2.val) (b := v81.2.2.2.1.2.2.val) (by omega) (by omega)).mp c91
                                                      have c91t := eq_true c91
                                                      refine v_aload_n hX dL_isLineSo_505 rfl ?_
                                                      refine v_iload_n hX dL_isLineSo_506 rfl ?_
                                                      refine v_iconst (x := (2 : Int32)) hX dL_isLineSo_507 (by decide) ?_
                                                      refine v_callVi (r := X_line v86 (nI (n).val) (2 : Int32)) (rest := []) (ws' := wX E b v86) hX (fun sz => c_X5_line l E b sz v86 (nI (n).val) (2 : Int32)) (cwV 2 hX.2.2.2.2.1 gL_isLineSo_X5_line rfl rfl rfl (by decide +kernel) ⟨Nat.le_of_ble_eq_true rfl, Nat.le_of_ble_eq_true rfl⟩) ([]) ([]) ((List.append_nil _).symm) ((List.append_nil _).symm).symm (wX_fst E b _ _) (ci := 5) (q0 := 0) rfl rfl rfl rfl rfl (Nat.le_of_ble_eq_true rfl) dL_isLineSo_508 ?_
                                                      rw [show X_line v86 (nI (n).val) (2 : Int32) = M_holders v.1 n from (o_line2 _ n).trans (by rw [hn_v86])]
                                                      refine v_iload_n hX dL_isLineSo_511 rfl ?_
                                                      refine v_icmp_ne (tgt := 519) hX dL_isLineSo_512 (by decide) (fun c92 => ?_) (fun c92 => ?_)
                                                      · exact (c92 (rfl)).elim
                                                      · have c92t := eq_true c92
                                                        refine v_iconst (x := (1 : Int32)) hX dL_isLineSo_515 (by decide) ?_
                                                        refine v_goto (tgt := 520) hX dL_isLineSo_516 (by decide) ?_
                                                        exact v_zret hX hr hsz dL_isLineSo_520 rfl rfl (bI_narrow (true)) (congrArg bI (by (subst hv86; subst hv84; subst hv81; subst hv80; subst hv79; subst hv75; subst hv72; subst hv69; subst hv66; first | (simp only [c1t, c2t, c3t, c4, c62t, c63, c64t, c65, c67, c68t, c70, c71t, c73, c74t, c76, c77t, c78, c82t, c83, c85t, c90, c91t, c92t, if_true, if_false, reduceIte, Bool.false_eq_true, reduceCtorEq, decide_true, decide_false, Bool.and_true, Bool.and_false, Bool.true_and, Bool.false_and, Bool.or_true, Bool.or_false, Bool.true_or, Bool.false_or, not_true_eq_false, not_false_eq_true, Bool.not_true, Bool.not_false, eq_self, Nat.reduceEqDiff]; done) | rfl | (simp only [c1t, c2t, c3t, c4, c62t, c63, c64t, c65, c67, c68t, c70, c71t, c73, c74t, c76, c77t, c78, c82t, c83, c85t, c90, c91t, c92t, if_true, if_false, reduceIte, Bool.false_eq_true, reduceCtorEq, decide_true, decide_false, Bool.and_true, Bool.and_false, Bool.true_and, Bool.false_and, Bool.or_true, Bool.or_false, Bool.true_or, Bool.false_or, not_true_eq_false, not_false_eq_true, Bool.not_true, Bool.not_false, eq_self, Nat.reduceEqDiff]; rfl) | contradiction | (exfalso; omega)) : true = true)) (by (subst hv86; subst hv84; subst hv81; subst hv80; subst hv79; subst hv75; subst hv72; subst hv69; subst hv66; unfold X_ls; rw [if_pos hk]; rfl))
                                                  · replace c90 := (nI_eq (a := v81.2.2.2.1.2.2.val) (b := 4) (by omega) (by omega)).mp c90
                                                    have c90t := eq_true c90
                                                    first | (exfalso; omega) | exact absurd c90 (by decide) | exact absurd (by decide) c90
            · replace c4 := (not_congr (nI_leI (a := 4) (b := 4) (by omega) (by omega))).mp c4
              first | (exfalso; omega) | exact absurd c4 (by decide) | exact absurd (by decide) c4
          | succ fu ih =>
            intro i  hin 
            refine v_iload hX dL_isLineSo_71 rfl ?_
            refine v_iconst (x := (4 : Int32)) hX dL_isLineSo_73 (by decide) ?_
            refine v_icmp_ge (tgt := 278) hX dL_isLineSo_74 (by decide) (fun c93 => ?_) (fun c93 => ?_)
            · replace c93 := (nI_leI (a := 4) (b := i) (by omega) (by omega)).mp c93
              first | (exfalso; omega) | exact absurd c93 (by decide) | exact absurd (by decide) c93
            · replace c93 := (not_congr (nI_leI (a := 4) (b := i) (by omega) (by omega))).mp c93
              refine v_aload_n hX dL_isLineSo_77 rfl ?_
              refine v_iload hX dL_isLineSo_78 rfl ?_
              refine v_iload_n hX dL_isLineSo_80 rfl ?_
              refine v_callVi (r := X_reason v (nI (i)) (nI (n).val)) (rest := []) (ws' := wX E b v) hX (fun sz => c_X5_reason l E b sz v (nI (i)) (nI (n).val)) (cwV 2 hX.2.2.2.2.1 gL_isLineSo_X5_reason rfl rfl rfl (by decide +kernel) ⟨Nat.le_of_ble_eq_true rfl, Nat.le_of_ble_eq_true rfl⟩) ([]) ([]) ((List.append_nil _).symm) ((List.append_nil _).symm).symm (wX_fst E b _ _) (ci := 5) (q0 := 0) rfl rfl rfl rfl rfl (Nat.le_of_ble_eq_true rfl) dL_isLineSo_81 ?_
              rcases rs_cases hI i n with ⟨hh, hm, hbb⟩ | ⟨hh, hm, hbb⟩ | ⟨hh, hm, hbb⟩ | ⟨hh, hm, hbb⟩
              · rw [reason_0 v (by omega) hh]
                by_cases hir : i = r
                · skip
                  refine v_istore (lv' := [.ref (b 0 0), .int (nI (n).val), .int (nI (r)), .int ((M_holders v.1 n)), .int ((M_mays v.1 n)), .int (nI (cn (cm v.1 r n) i)), .int (nI (cn (vm v.1 r n) i)), .int ((1 : Int32)), .int (nI (i)), .int ((0 : Int32))]) hX dL_isLineSo_84 (Nat.le_of_ble_eq_true rfl) (Nat.le_of_ble_eq_true rfl) rfl rfl ?_
                  refine v_iload hX dL_isLineSo_86 rfl ?_
                  refine v_iload hX dL_isLineSo_88 rfl ?_
                  refine v_ishr (z := ((M_mays v.1 n) >>> (nI (i) &&& 31))) hX dL_isLineSo_90 (rfl) ?_
                  refine v_iconst (x := (1 : Int32)) hX dL_isLineSo_91 (by decide) ?_
                  refine v_iand (z := (((M_mays v.1 n) >>> (nI (i) &&& 31)) &&& (1 : Int32))) hX dL_isLineSo_92 (rfl) ?_
                  rw [may_b1 (m := v.1) (i := i) (n := n) (by omega) hm]
                  refine v_iconst (x := (1 : Int32)) hX dL_isLineSo_93 (by decide) ?_
                  refine v_icmp_ne (tgt := 101) hX dL_isLineSo_94 (by decide) (fun c94 => ?_) (fun c94 => ?_)
                  · replace c94 := (not_congr (nI_eq (a := 1) (b := 1) (by omega) (by omega))).mp c94
                    first | (exfalso; omega) | exact absurd c94 (by decide) | exact absurd (by decide) c94
                  · replace c94 := (nI_eq (a := 1) (b := 1) (by omega) (by omega)).mp c94
                    have c94t := eq_true c94
                    refine v_iconst (x := (1 : Int32)) hX dL_isLineSo_97 (by decide) ?_
                    refine v_goto (tgt := 102) hX dL_isLineSo_98 (by decide) ?_
                    refine v_istore (lv' := [.ref (b 0 0), .int (nI (n).val), .int (nI (r)), .int ((M_holders v.1 n)), .int ((M_mays v.1 n)), .int (nI (cn (cm v.1 r n) i)), .int (nI (cn (vm v.1 r n) i)), .int ((1 : Int32)), .int (nI (i)), .int ((0 : Int32)), .int ((1 : Int32))]) hX dL_isLineSo_102 (Nat.le_of_ble_eq_true rfl) (Nat.le_of_ble_eq_true rfl) rfl rfl ?_
                    refine v_iload hX dL_isLineSo_104 rfl ?_
                    refine v_if_eq (tgt := 226) hX dL_isLineSo_106 (by decide) (fun c95 => ?_) (fun c95 => ?_)
                    · replace c95 := (nI_eq (a := 1) (b := 0) (by omega) (by omega)).mp c95
                      have c95t := eq_true c95
                      exfalso; omega
                    · replace c95 := (not_congr (nI_eq (a := 1) (b := 0) (by omega) (by omega))).mp c95
                      refine v_iload hX dL_isLineSo_109 rfl ?_
                      refine v_iconst (x := (2 : Int32)) hX dL_isLineSo_111 (by decide) ?_
                      refine v_icmp_ge (tgt := 119) hX dL_isLineSo_112 (by decide) (fun c96 => ?_) (fun c96 => ?_)
                      · replace c96 := (nI_leI (a := 2) (b := 0) (by omega) (by omega)).mp c96
                        first | (exfalso; omega) | exact absurd c96 (by decide) | exact absurd (by decide) c96
                      · replace c96 := (not_congr (nI_leI (a := 2) (b := 0) (by omega) (by omega))).mp c96
                        refine v_iconst (x := (1 : Int32)) hX dL_isLineSo_115 (by decide) ?_
                        refine v_goto (tgt := 120) hX dL_isLineSo_116 (by decide) ?_
                        refine v_iload hX dL_isLineSo_120 rfl ?_
                        refine v_icmp_ne (tgt := 226) hX dL_isLineSo_122 (by decide) (fun c97 => ?_) (fun c97 => ?_)
                        · replace c97 := (not_congr (nI_eq (a := 1) (b := 1) (by omega) (by omega))).mp c97
                          exfalso; omega
                        · replace c97 := (nI_eq (a := 1) (b := 1) (by omega) (by omega)).mp c97
                          have c97t := eq_true c97
                          refine v_iload hX dL_isLineSo_125 rfl ?_
                          refine v_if_ne (tgt := 134) hX dL_isLineSo_127 (by decide) (fun c98 => ?_) (fun c98 => ?_)
                          · replace c98 := (not_congr (nI_eq (a := 0) (b := 0) (by omega) (by omega))).mp c98
                            first | (exfalso; omega) | exact absurd c98 (by decide) | exact absurd (by decide) c98
                          · replace c98 := (nI_eq (a := 0) (b := 0) (by omega) (by omega)).mp c98
                            have c98t := eq_true c98
                            refine v_iconst (x := (1 : Int32)) hX dL_isLineSo_130 (by decide) ?_
                            refine v_goto (tgt := 135) hX dL_isLineSo_131 (by decide) ?_
                            refine v_iload_n hX dL_isLineSo_135 rfl ?_
                            refine v_iload hX dL_isLineSo_136 rfl ?_
                            refine v_ishr (z := ((M_holders v.1 n) >>> (nI (i) &&& 31))) hX dL_isLineSo_138 (rfl) ?_
                            refine v_iconst (x := (1 : Int32)) hX dL_isLineSo_139 (by decide) ?_
                            refine v_iand (z := (((M_holders v.1 n) >>> (nI (i) &&& 31)) &&& (1 : Int32))) hX dL_isLineSo_140 (rfl) ?_
                            rw [hold_b1 (m := v.1) (i := i) (n := n) (by omega) hh]
                            refine v_iconst (x := (1 : Int32)) hX dL_isLineSo_141 (by decide) ?_
                            refine v_icmp_ne (tgt := 149) hX dL_isLineSo_142 (by decide) (fun c99 => ?_) (fun c99 => ?_)
                            · replace c99 := (not_congr (nI_eq (a := 1) (b := 1) (by omega) (by omega))).mp c99
                              exfalso; omega
                            · replace c99 := (nI_eq (a := 1) (b := 1) (by omega) (by omega)).mp c99
                              have c99t := eq_true c99
                              refine v_iconst (x := (1 : Int32)) hX dL_isLineSo_145 (by decide) ?_
                              refine v_goto (tgt := 150) hX dL_isLineSo_146 (by decide) ?_
                              refine v_icmp_ne (tgt := 226) hX dL_isLineSo_150 (by decide) (fun c100 => ?_) (fun c100 => ?_)
                              · replace c100 := (not_congr (nI_eq (a := 1) (b := 1) (by omega) (by omega))).mp c100
                                exfalso; omega
                              · replace c100 := (nI_eq (a := 1) (b := 1) (by omega) (by omega)).mp c100
                                have c100t := eq_true c100
                                refine v_iload hX dL_isLineSo_153 rfl ?_
                                refine v_iconst (x := (2 : Int32)) hX dL_isLineSo_155 (by decide) ?_
                                refine v_icmp_ne (tgt := 163) hX dL_isLineSo_156 (by decide) (fun c101 => ?_) (fun c101 => ?_)
                                · replace c101 := (not_congr (nI_eq (a := 0) (b := 2) (by omega) (by omega))).mp c101
                                  refine v_iconst (x := (0 : Int32)) hX dL_isLineSo_163 (by decide) ?_
                                  refine v_aload_n hX dL_isLineSo_164 rfl ?_
                                  refine v_iload hX dL_isLineSo_165 rfl ?_
                                  refine v_iload_n hX dL_isLineSo_167 rfl ?_
                                  refine v_bipush (x := (16 : Int32)) hX dL_isLineSo_168 (by decide) ?_
                                  refine v_idiv (z := nI (((n).val) / 16)) hX dL_isLineSo_170 (by decide) (div_c ((n).val) 16 (by omega) (by decide) (by decide)) ?_
                                  refine v_callVi (r := X_bit v (nI (i)) (nI (((n).val) / 16))) (rest := [.int ((0 : Int32))]) (ws' := wX E b v) hX (fun sz => c_X5_bit l E b sz v (nI (i)) (nI (((n).val) / 16))) (cwV 2 hX.2.2.2.2.1 gL_isLineSo_X5_bit rfl rfl rfl (by decide +kernel) ⟨Nat.le_of_ble_eq_true rfl, Nat.le_of_ble_eq_true rfl⟩) ([]) ([]) ((List.append_nil _).symm) ((List.append_nil _).symm).symm (wX_fst E b _ _) (ci := 5) (q0 := 0) rfl rfl rfl rfl rfl (Nat.le_of_ble_eq_true rfl) dL_isLineSo_171 ?_
                                  rw [bit_1 v (i := i) (n := n) (by omega) hbb]
                                  refine v_if_ne (tgt := 181) hX dL_isLineSo_174 (by decide) (fun c102 => ?_) (fun c102 => ?_)
                                  · replace c102 := (not_congr (nI_eq (a := 1) (b := 0) (by omega) (by omega))).mp c102
                                    refine v_iconst (x := (0 : Int32)) hX dL_isLineSo_181 (by decide) ?_
                                    refine v_icmp_ne (tgt := 226) hX dL_isLineSo_182 (by decide) (fun c103 => ?_) (fun c103 => ?_)
                                    · replace c103 := (not_congr (nI_eq (a := 0) (b := 0) (by omega) (by omega))).mp c103
                                      exfalso; omega
                                    · replace c103 := (nI_eq (a := 0) (b := 0) (by omega) (by omega)).mp c103
                                      have c103t := eq_true c103
                                      refine v_iload hX dL_isLineSo_185 rfl ?_
                                      refine v_iconst (x := (3 : Int32)) hX dL_isLineSo_187 (by decide) ?_
                                      refine v_icmp_ne (tgt := 222) hX dL_isLineSo_188 (by decide) (fun c104 => ?_) (fun c104 => ?_)
                                      · replace c104 := (not_congr (nI_eq (a := 0) (b := 3) (by omega) (by omega))).mp c104
                                        refine v_iconst (x := (1 : Int32)) hX dL_isLineSo_222 (by decide) ?_
                                        refine v_goto (tgt := 227) hX dL_isLineSo_223 (by decide) ?_
                                        refine v_istore (lv' := [.ref (b 0 0), .int (nI (n).val), .int (nI (r)), .int ((M_holders v.1 n)), .int ((M_mays v.1 n)), .int (nI (cn (cm v.1 r n) i)), .int (nI (cn (vm v.1 r n) i)), .int ((1 : Int32)), .int (nI (i)), .int ((0 : Int32)), .int ((1 : Int32))]) hX dL_isLineSo_227 (Nat.le_of_ble_eq_true rfl) (Nat.le_of_ble_eq_true rfl) rfl rfl ?_
                                        refine v_iload hX dL_isLineSo_229 rfl ?_
                                        refine v_iload hX dL_isLineSo_231 rfl ?_
                                        refine v_if_eq (tgt := 246) hX dL_isLineSo_233 (by decide) (fun c105 => ?_) (fun c105 => ?_)
                                        · replace c105 := (nI_eq (a := 1) (b := 0) (by omega) (by omega)).mp c105
                                          have c105t := eq_true c105
                                          exfalso; omega
                                        · replace c105 := (not_congr (nI_eq (a := 1) (b := 0) (by omega) (by omega))).mp c105
                                          refine v_iload hX dL_isLineSo_236 rfl ?_
                                          refine v_iload_n hX dL_isLineSo_238 rfl ?_
                                          refine v_icmp_eq (tgt := 246) hX dL_isLineSo_239 (by decide) (fun c106 => ?_) (fun c106 => ?_)
                                          · replace c106 := (nI_eq (a := i) (b := r) (by omega) (by omega)).mp c106
                                            have c106t := eq_true c106
                                            refine v_iconst (x := (0 : Int32)) hX dL_isLineSo_246 (by decide) ?_
                                            refine v_iadd (z := nI ((cn (cm v.1 r n) i) + 0)) hX dL_isLineSo_247 (nI_add (cn (cm v.1 r n) i) 0) ?_
                                            refine v_istore (lv' := [.ref (b 0 0), .int (nI (n).val), .int (nI (r)), .int ((M_holders v.1 n)), .int ((M_mays v.1 n)), .int (nI ((cn (cm v.1 r n) i) + 0)), .int (nI (cn (vm v.1 r n) i)), .int ((1 : Int32)), .int (nI (i)), .int ((0 : Int32)), .int ((1 : Int32))]) hX dL_isLineSo_248 (Nat.le_of_ble_eq_true rfl) (Nat.le_of_ble_eq_true rfl) rfl rfl ?_
                                            refine v_iload hX dL_isLineSo_250 rfl ?_
                                            refine v_iload hX dL_isLineSo_252 rfl ?_
                                            refine v_iconst (x := (1 : Int32)) hX dL_isLineSo_254 (by decide) ?_
                                            refine v_icmp_ne (tgt := 268) hX dL_isLineSo_255 (by decide) (fun c107 => ?_) (fun c107 => ?_)
                                            · replace c107 := (not_congr (nI_eq (a := 0) (b := 1) (by omega) (by omega))).mp c107
                                              refine v_iconst (x := (0 : Int32)) hX dL_isLineSo_268 (by decide) ?_
                                              refine v_iadd (z := nI ((cn (vm v.1 r n) i) + 0)) hX dL_isLineSo_269 (nI_add (cn (vm v.1 r n) i) 0) ?_
                                              refine v_istore (lv' := [.ref (b 0 0), .int (nI (n).val), .int (nI (r)), .int ((M_holders v.1 n)), .int ((M_mays v.1 n)), .int (nI ((cn (cm v.1 r n) i) + 0)), .int (nI ((cn (vm v.1 r n) i) + 0)), .int ((1 : Int32)), .int (nI (i)), .int ((0 : Int32)), .int ((1 : Int32))]) hX dL_isLineSo_270 (Nat.le_of_ble_eq_true rfl) (Nat.le_of_ble_eq_true rfl) rfl rfl ?_
                                              refine v_iinc (y := nI (i + 1)) (lv' := [.ref (b 0 0), .int (nI (n).val), .int (nI (r)), .int ((M_holders v.1 n)), .int ((M_mays v.1 n)), .int (nI ((cn (cm v.1 r n) i) + 0)), .int (nI ((cn (vm v.1 r n) i) + 0)), .int ((1 : Int32)), .int (nI (i + 1)), .int ((0 : Int32)), .int ((1 : Int32))]) hX dL_isLineSo_272 rfl (nI_inc _) (Nat.le_of_ble_eq_true rfl) (Nat.le_of_ble_eq_true rfl) rfl rfl ?_
                                              refine v_goto (tgt := 71) hX dL_isLineSo_275 (by decide) ?_
                                              have e108 : (cn (cm v.1 r n) i) + 0 = cn (cm v.1 r n) (i + 1) := by first | (rw [cn_s, cm_1 (m := v.1) (r := r) (n := n) hm hir]; done) | (rw [cn_s, cm_m (m := v.1) (r := r) (n := n) hm]; done) | (rw [cn_s, cm_r (m := v.1) (r := r) (n := n) hir]; done) | (rw [cn_s, vm_1 (m := v.1) (r := r) (n := n) hm hh hir]; done) | (rw [cn_s, vm_m (m := v.1) (r := r) (n := n) hm]; done) | (rw [cn_s, vm_h (m := v.1) (r := r) (n := n) hh]; done) | (rw [cn_s, vm_r (m := v.1) (r := r) (n := n) hir]; done)
                                              rw [e108]
                                              have e109 : (cn (vm v.1 r n) i) + 0 = cn (vm v.1 r n) (i + 1) := by first | (rw [cn_s, cm_1 (m := v.1) (r := r) (n := n) hm hir]; done) | (rw [cn_s, cm_m (m := v.1) (r := r) (n := n) hm]; done) | (rw [cn_s, cm_r (m := v.1) (r := r) (n := n) hir]; done) | (rw [cn_s, vm_1 (m := v.1) (r := r) (n := n) hm hh hir]; done) | (rw [cn_s, vm_m (m := v.1) (r := r) (n := n) hm]; done) | (rw [cn_s, vm_h (m := v.1) (r := r) (n := n) hh]; done) | (rw [cn_s, vm_r (m := v.1) (r := r) (n := n) hir]; done)
                                              rw [e109]
                                              exact v_fewer 9 rfl (ih (i + 1)  (by omega) )
                                            · replace c107 := (nI_eq (a := 0) (b := 1) (by omega) (by omega)).mp c107
                                              have c107t := eq_true c107
                                              exfalso; omega
                                          · replace c106 := (not_congr (nI_eq (a := i) (b := r) (by omega) (by omega))).mp c106
                                            first | (exfalso; omega) | exact absurd c106 (by decide) | exact absurd (by decide) c106
                                      · replace c104 := (nI_eq (a := 0) (b := 3) (by omega) (by omega)).mp c104
                                        have c104t := eq_true c104
                                        exfalso; omega
                                  · replace c102 := (nI_eq (a := 1) (b := 0) (by omega) (by omega)).mp c102
                                    have c102t := eq_true c102
                                    exfalso; omega
                                · replace c101 := (nI_eq (a := 0) (b := 2) (by omega) (by omega)).mp c101
                                  have c101t := eq_true c101
                                  exfalso; omega
                · skip
                  refine v_istore (lv' := [.ref (b 0 0), .int (nI (n).val), .int (nI (r)), .int ((M_holders v.1 n)), .int ((M_mays v.1 n)), .int (nI (cn (cm v.1 r n) i)), .int (nI (cn (vm v.1 r n) i)), .int ((1 : Int32)), .int (nI (i)), .int ((0 : Int32))]) hX dL_isLineSo_84 (Nat.le_of_ble_eq_true rfl) (Nat.le_of_ble_eq_true rfl) rfl rfl ?_
                  refine v_iload hX dL_isLineSo_86 rfl ?_
                  refine v_iload hX dL_isLineSo_88 rfl ?_
                  refine v_ishr (z := ((M_mays v.1 n) >>> (nI (i) &&& 31))) hX dL_isLineSo_90 (rfl) ?_
                  refine v_iconst (x := (1 : Int32)) hX dL_isLineSo_91 (by decide) ?_
                  refine v_iand (z := (((M_mays v.1 n) >>> (nI (i) &&& 31)) &&& (1 : Int32))) hX dL_isLineSo_92 (rfl) ?_
                  rw [may_b1 (m := v.1) (i := i) (n := n) (by omega) hm]
                  refine v_iconst (x := (1 : Int32)) hX dL_isLineSo_93 (by decide) ?_
                  refine v_icmp_ne (tgt := 101) hX dL_isLineSo_94 (by decide) (fun c110 => ?_) (fun c110 => ?_)
                  · replace c110 := (not_congr (nI_eq (a := 1) (b := 1) (by omega) (by omega))).mp c110
                    first | (exfalso; omega) | exact absurd c110 (by decide) | exact absurd (by decide) c110
                  · replace c110 := (nI_eq (a := 1) (b := 1) (by omega) (by omega)).mp c110
                    have c110t := eq_true c110
                    refine v_iconst (x := (1 : Int32)) hX dL_isLineSo_97 (by decide) ?_
                    refine v_goto (tgt := 102) hX dL_isLineSo_98 (by decide) ?_
                    refine v_istore (lv' := [.ref (b 0 0), .int (nI (n).val), .int (nI (r)), .int ((M_holders v.1 n)), .int ((M_mays v.1 n)), .int (nI (cn (cm v.1 r n) i)), .int (nI (cn (vm v.1 r n) i)), .int ((1 : Int32)), .int (nI (i)), .int ((0 : Int32)), .int ((1 : Int32))]) hX dL_isLineSo_102 (Nat.le_of_ble_eq_true rfl) (Nat.le_of_ble_eq_true rfl) rfl rfl ?_
                    refine v_iload hX dL_isLineSo_104 rfl ?_
                    refine v_if_eq (tgt := 226) hX dL_isLineSo_106 (by decide) (fun c111 => ?_) (fun c111 => ?_)
                    · replace c111 := (nI_eq (a := 1) (b := 0) (by omega) (by omega)).mp c111
                      have c111t := eq_true c111
                      exfalso; omega
                    · replace c111 := (not_congr (nI_eq (a := 1) (b := 0) (by omega) (by omega))).mp c111
                      refine v_iload hX dL_isLineSo_109 rfl ?_
                      refine v_iconst (x := (2 : Int32)) hX dL_isLineSo_111 (by decide) ?_
                      refine v_icmp_ge (tgt := 119) hX dL_isLineSo_112 (by decide) (fun c112 => ?_) (fun c112 => ?_)
                      · replace c112 := (nI_leI (a := 2) (b := 0) (by omega) (by omega)).mp c112
                        first | (exfalso; omega) | exact absurd c112 (by decide) | exact absurd (by decide) c112
                      · replace c112 := (not_congr (nI_leI (a := 2) (b := 0) (by omega) (by omega))).mp c112
                        refine v_iconst (x := (1 : Int32)) hX dL_isLineSo_115 (by decide) ?_
                        refine v_goto (tgt := 120) hX dL_isLineSo_116 (by decide) ?_
                        refine v_iload hX dL_isLineSo_120 rfl ?_
                        refine v_icmp_ne (tgt := 226) hX dL_isLineSo_122 (by decide) (fun c113 => ?_) (fun c113 => ?_)
                        · replace c113 := (not_congr (nI_eq (a := 1) (b := 1) (by omega) (by omega))).mp c113
                          exfalso; omega
                        · replace c113 := (nI_eq (a := 1) (b := 1) (by omega) (by omega)).mp c113
                          have c113t := eq_true c113
                          refine v_iload hX dL_isLineSo_125 rfl ?_
                          refine v_if_ne (tgt := 134) hX dL_isLineSo_127 (by decide) (fun c114 => ?_) (fun c114 => ?_)
                          · replace c114 := (not_congr (nI_eq (a := 0) (b := 0) (by omega) (by omega))).mp c114
                            first | (exfalso; omega) | exact absurd c114 (by decide) | exact absurd (by decide) c114
                          · replace c114 := (nI_eq (a := 0) (b := 0) (by omega) (by omega)).mp c114
                            have c114t := eq_true c114
                            refine v_iconst (x := (1 : Int32)) hX dL_isLineSo_130 (by decide) ?_
                            refine v_goto (tgt := 135) hX dL_isLineSo_131 (by decide) ?_
                            refine v_iload_n hX dL_isLineSo_135 rfl ?_
                            refine v_iload hX dL_isLineSo_136 rfl ?_
                            refine v_ishr (z := ((M_holders v.1 n) >>> (nI (i) &&& 31))) hX dL_isLineSo_138 (rfl) ?_
                            refine v_iconst (x := (1 : Int32)) hX dL_isLineSo_139 (by decide) ?_
                            refine v_iand (z := (((M_holders v.1 n) >>> (nI (i) &&& 31)) &&& (1 : Int32))) hX dL_isLineSo_140 (rfl) ?_
                            rw [hold_b1 (m := v.1) (i := i) (n := n) (by omega) hh]
                            refine v_iconst (x := (1 : Int32)) hX dL_isLineSo_141 (by decide) ?_
                            refine v_icmp_ne (tgt := 149) hX dL_isLineSo_142 (by decide) (fun c115 => ?_) (fun c115 => ?_)
                            · replace c115 := (not_congr (nI_eq (a := 1) (b := 1) (by omega) (by omega))).mp c115
                              exfalso; omega
                            · replace c115 := (nI_eq (a := 1) (b := 1) (by omega) (by omega)).mp c115
                              have c115t := eq_true c115
                              refine v_iconst (x := (1 : Int32)) hX dL_isLineSo_145 (by decide) ?_
                              refine v_goto (tgt := 150) hX dL_isLineSo_146 (by decide) ?_
                              refine v_icmp_ne (tgt := 226) hX dL_isLineSo_150 (by decide) (fun c116 => ?_) (fun c116 => ?_)
                              · replace c116 := (not_congr (nI_eq (a := 1) (b := 1) (by omega) (by omega))).mp c116
                                exfalso; omega
                              · replace c116 := (nI_eq (a := 1) (b := 1) (by omega) (by omega)).mp c116
                                have c116t := eq_true c116
                                refine v_iload hX dL_isLineSo_153 rfl ?_
                                refine v_iconst (x := (2 : Int32)) hX dL_isLineSo_155 (by decide) ?_
                                refine v_icmp_ne (tgt := 163) hX dL_isLineSo_156 (by decide) (fun c117 => ?_) (fun c117 => ?_)
                                · replace c117 := (not_congr (nI_eq (a := 0) (b := 2) (by omega) (by omega))).mp c117
                                  refine v_iconst (x := (0 : Int32)) hX dL_isLineSo_163 (by decide) ?_
                                  refine v_aload_n hX dL_isLineSo_164 rfl ?_
                                  refine v_iload hX dL_isLineSo_165 rfl ?_
                                  refine v_iload_n hX dL_isLineSo_167 rfl ?_
                                  refine v_bipush (x := (16 : Int32)) hX dL_isLineSo_168 (by decide) ?_
                                  refine v_idiv (z := nI (((n).val) / 16)) hX dL_isLineSo_170 (by decide) (div_c ((n).val) 16 (by omega) (by decide) (by decide)) ?_
                                  refine v_callVi (r := X_bit v (nI (i)) (nI (((n).val) / 16))) (rest := [.int ((0 : Int32))]) (ws' := wX E b v) hX (fun sz => c_X5_bit l E b sz v (nI (i)) (nI (((n).val) / 16))) (cwV 2 hX.2.2.2.2.1 gL_isLineSo_X5_bit rfl rfl rfl (by decide +kernel) ⟨Nat.le_of_ble_eq_true rfl, Nat.le_of_ble_eq_true rfl⟩) ([]) ([]) ((List.append_nil _).symm) ((List.append_nil _).symm).symm (wX_fst E b _ _) (ci := 5) (q0 := 0) rfl rfl rfl rfl rfl (Nat.le_of_ble_eq_true rfl) dL_isLineSo_171 ?_
                                  rw [bit_1 v (i := i) (n := n) (by omega) hbb]
                                  refine v_if_ne (tgt := 181) hX dL_isLineSo_174 (by decide) (fun c118 => ?_) (fun c118 => ?_)
                                  · replace c118 := (not_congr (nI_eq (a := 1) (b := 0) (by omega) (by omega))).mp c118
                                    refine v_iconst (x := (0 : Int32)) hX dL_isLineSo_181 (by decide) ?_
                                    refine v_icmp_ne (tgt := 226) hX dL_isLineSo_182 (by decide) (fun c119 => ?_) (fun c119 => ?_)
                                    · replace c119 := (not_congr (nI_eq (a := 0) (b := 0) (by omega) (by omega))).mp c119
                                      exfalso; omega
                                    · replace c119 := (nI_eq (a := 0) (b := 0) (by omega) (by omega)).mp c119
                                      have c119t := eq_true c119
                                      refine v_iload hX dL_isLineSo_185 rfl ?_
                                      refine v_iconst (x := (3 : Int32)) hX dL_isLineSo_187 (by decide) ?_
                                      refine v_icmp_ne (tgt := 222) hX dL_isLineSo_188 (by decide) (fun c120 => ?_) (fun c120 => ?_)
                                      · replace c120 := (not_congr (nI_eq (a := 0) (b := 3) (by omega) (by omega))).mp c120
                                        refine v_iconst (x := (1 : Int32)) hX dL_isLineSo_222 (by decide) ?_
                                        refine v_goto (tgt := 227) hX dL_isLineSo_223 (by decide) ?_
                                        refine v_istore (lv' := [.ref (b 0 0), .int (nI (n).val), .int (nI (r)), .int ((M_holders v.1 n)), .int ((M_mays v.1 n)), .int (nI (cn (cm v.1 r n) i)), .int (nI (cn (vm v.1 r n) i)), .int ((1 : Int32)), .int (nI (i)), .int ((0 : Int32)), .int ((1 : Int32))]) hX dL_isLineSo_227 (Nat.le_of_ble_eq_true rfl) (Nat.le_of_ble_eq_true rfl) rfl rfl ?_
                                        refine v_iload hX dL_isLineSo_229 rfl ?_
                                        refine v_iload hX dL_isLineSo_231 rfl ?_
                                        refine v_if_eq (tgt := 246) hX dL_isLineSo_233 (by decide) (fun c121 => ?_) (fun c121 => ?_)
                                        · replace c121 := (nI_eq (a := 1) (b := 0) (by omega) (by omega)).mp c121
                                          have c121t := eq_true c121
                                          exfalso; omega
                                        · replace c121 := (not_congr (nI_eq (a := 1) (b := 0) (by omega) (by omega))).mp c121
                                          refine v_iload hX dL_isLineSo_236 rfl ?_
                                          refine v_iload_n hX dL_isLineSo_238 rfl ?_
                                          refine v_icmp_eq (tgt := 246) hX dL_isLineSo_239 (by decide) (fun c122 => ?_) (fun c122 => ?_)
                                          · replace c122 := (nI_eq (a := i) (b := r) (by omega) (by omega)).mp c122
                                            have c122t := eq_true c122
                                            first | (exfalso; omega) | exact absurd c122 (by decide) | exact absurd (by decide) c122
                                          · replace c122 := (not_congr (nI_eq (a := i) (b := r) (by omega) (by omega))).mp c122
                                            refine v_iconst (x := (1 : Int32)) hX dL_isLineSo_242 (by decide) ?_
                                            refine v_goto (tgt := 247) hX dL_isLineSo_243 (by decide) ?_
                                            refine v_iadd (z := nI ((cn (cm v.1 r n) i) + 1)) hX dL_isLineSo_247 (nI_add (cn (cm v.1 r n) i) 1) ?_
                                            refine v_istore (lv' := [.ref (b 0 0), .int (nI (n).val), .int (nI (r)), .int ((M_holders v.1 n)), .int ((M_mays v.1 n)), .int (nI ((cn (cm v.1 r n) i) + 1)), .int (nI (cn (vm v.1 r n) i)), .int ((1 : Int32)), .int (nI (i)), .int ((0 : Int32)), .int ((1 : Int32))]) hX dL_isLineSo_248 (Nat.le_of_ble_eq_true rfl) (Nat.le_of_ble_eq_true rfl) rfl rfl ?_
                                            refine v_iload hX dL_isLineSo_250 rfl ?_
                                            refine v_iload hX dL_isLineSo_252 rfl ?_
                                            refine v_iconst (x := (1 : Int32)) hX dL_isLineSo_254 (by decide) ?_
                                            refine v_icmp_ne (tgt := 268) hX dL_isLineSo_255 (by decide) (fun c123 => ?_) (fun c123 => ?_)
                                            · replace c123 := (not_congr (nI_eq (a := 0) (b := 1) (by omega) (by omega))).mp c123
                                              refine v_iconst (x := (0 : Int32)) hX dL_isLineSo_268 (by decide) ?_
                                              refine v_iadd (z := nI ((cn (vm v.1 r n) i) + 0)) hX dL_isLineSo_269 (nI_add (cn (vm v.1 r n) i) 0) ?_
                                              refine v_istore (lv' := [.ref (b 0 0), .int (nI (n).val), .int (nI (r)), .int ((M_holders v.1 n)), .int ((M_mays v.1 n)), .int (nI ((cn (cm v.1 r n) i) + 1)), .int (nI ((cn (vm v.1 r n) i) + 0)), .int ((1 : Int32)), .int (nI (i)), .int ((0 : Int32)), .int ((1 : Int32))]) hX dL_isLineSo_270 (Nat.le_of_ble_eq_true rfl) (Nat.le_of_ble_eq_true rfl) rfl rfl ?_
                                              refine v_iinc (y := nI (i + 1)) (lv' := [.ref (b 0 0), .int (nI (n).val), .int (nI (r)), .int ((M_holders v.1 n)), .int ((M_mays v.1 n)), .int (nI ((cn (cm v.1 r n) i) + 1)), .int (nI ((cn (vm v.1 r n) i) + 0)), .int ((1 : Int32)), .int (nI (i + 1)), .int ((0 : Int32)), .int ((1 : Int32))]) hX dL_isLineSo_272 rfl (nI_inc _) (Nat.le_of_ble_eq_true rfl) (Nat.le_of_ble_eq_true rfl) rfl rfl ?_
                                              refine v_goto (tgt := 71) hX dL_isLineSo_275 (by decide) ?_
                                              have e124 : (cn (cm v.1 r n) i) + 1 = cn (cm v.1 r n) (i + 1) := by first | (rw [cn_s, cm_1 (m := v.1) (r := r) (n := n) hm hir]; done) | (rw [cn_s, cm_m (m := v.1) (r := r) (n := n) hm]; done) | (rw [cn_s, cm_r (m := v.1) (r := r) (n := n) hir]; done) | (rw [cn_s, vm_1 (m := v.1) (r := r) (n := n) hm hh hir]; done) | (rw [cn_s, vm_m (m := v.1) (r := r) (n := n) hm]; done) | (rw [cn_s, vm_h (m := v.1) (r := r) (n := n) hh]; done) | (rw [cn_s, vm_r (m := v.1) (r := r) (n := n) hir]; done)
                                              rw [e124]
                                              have e125 : (cn (vm v.1 r n) i) + 0 = cn (vm v.1 r n) (i + 1) := by first | (rw [cn_s, cm_1 (m := v.1) (r := r) (n := n) hm hir]; done) | (rw [cn_s, cm_m (m := v.1) (r := r) (n := n) hm]; done) | (rw [cn_s, cm_r (m := v.1) (r := r) (n := n) hir]; done) | (rw [cn_s, vm_1 (m := v.1) (r := r) (n := n) hm hh hir]; done) | (rw [cn_s, vm_m (m := v.1) (r := r) (n := n) hm]; done) | (rw [cn_s, vm_h (m := v.1) (r := r) (n := n) hh]; done) | (rw [cn_s, vm_r (m := v.1) (r := r) (n := n) hir]; done)
                                              rw [e125]
                                              exact v_fewer 9 rfl (ih (i + 1)  (by omega) )
                                            · replace c123 := (nI_eq (a := 0) (b := 1) (by omega) (by omega)).mp c123
                                              have c123t := eq_true c123
                                              exfalso; omega
                                      · replace c120 := (nI_eq (a := 0) (b := 3) (by omega) (by omega)).mp c120
                                        have c120t := eq_true c120
                                        exfalso; omega
                                  · replace c118 := (nI_eq (a := 1) (b := 0) (by omega) (by omega)).mp c118
                                    have c118t := eq_true c118
                                    exfalso; omega
                                · replace c117 := (nI_eq (a := 0) (b := 2) (by omega) (by omega)).mp c117
                                  have c117t := eq_true c117
                                  exfalso; omega
              · rw [reason_1 v (by omega) hh hm]
                by_cases hir : i = r
                · skip
                  refine v_istore (lv' := [.ref (b 0 0), .int (nI (n).val), .int (nI (r)), .int ((M_holders v.1 n)), .int ((M_mays v.1 n)), .int (nI (cn (cm v.1 r n) i)), .int (nI (cn (vm v.1 r n) i)), .int ((1 : Int32)), .int (nI (i)), .int ((1 : Int32))]) hX dL_isLineSo_84 (Nat.le_of_ble_eq_true rfl) (Nat.le_of_ble_eq_true rfl) rfl rfl ?_
                  refine v_iload hX dL_isLineSo_86 rfl ?_
                  refine v_iload hX dL_isLineSo_88 rfl ?_
                  refine v_ishr (z := ((M_mays v.1 n) >>> (nI (i) &&& 31))) hX dL_isLineSo_90 (rfl) ?_
                  refine v_iconst (x := (1 : Int32)) hX dL_isLineSo_91 (by decide) ?_
                  refine v_iand (z := (((M_mays v.1 n) >>> (nI (i) &&& 31)) &&& (1 : Int32))) hX dL_isLineSo_92 (rfl) ?_
                  rw [may_b1 (m := v.1) (i := i) (n := n) (by omega) hm]
                  refine v_iconst (x := (1 : Int32)) hX dL_isLineSo_93 (by decide) ?_
                  refine v_icmp_ne (tgt := 101) hX dL_isLineSo_94 (by decide) (fun c126 => ?_) (fun c126 => ?_)
                  · replace c126 := (not_congr (nI_eq (a := 1) (b := 1) (by omega) (by omega))).mp c126
                    first | (exfalso; omega) | exact absurd c126 (by decide) | exact absurd (by decide) c126
                  · replace c126 := (nI_eq (a := 1) (b := 1) (by omega) (by omega)).mp c126
                    have c126t := eq_true c126
                    refine v_iconst (x := (1 : Int32)) hX dL_isLineSo_97 (by decide) ?_
                    refine v_goto (tgt := 102) hX dL_isLineSo_98 (by decide) ?_
                    refine v_istore (lv' := [.ref (b 0 0), .int (nI (n).val), .int (nI (r)), .int ((M_holders v.1 n)), .int ((M_mays v.1 n)), .int (nI (cn (cm v.1 r n) i)), .int (nI (cn (vm v.1 r n) i)), .int ((1 : Int32)), .int (nI (i)), .int ((1 : Int32)), .int ((1 : Int32))]) hX dL_isLineSo_102 (Nat.le_of_ble_eq_true rfl) (Nat.le_of_ble_eq_true rfl) rfl rfl ?_
                    refine v_iload hX dL_isLineSo_104 rfl ?_
                    refine v_if_eq (tgt := 226) hX dL_isLineSo_106 (by decide) (fun c127 => ?_) (fun c127 => ?_)
                    · replace c127 := (nI_eq (a := 1) (b := 0) (by omega) (by omega)).mp c127
                      have c127t := eq_true c127
                      exfalso; omega
                    · replace c127 := (not_congr (nI_eq (a := 1) (b := 0) (by omega) (by omega))).mp c127
                      refine v_iload hX dL_isLineSo_109 rfl ?_
                      refine v_iconst (x := (2 : Int32)) hX dL_isLineSo_111 (by decide) ?_
                      refine v_icmp_ge (tgt := 119) hX dL_isLineSo_112 (by decide) (fun c128 => ?_) (fun c128 => ?_)
                      · replace c128 := (nI_leI (a := 2) (b := 1) (by omega) (by omega)).mp c128
                        first | (exfalso; omega) | exact absurd c128 (by decide) | exact absurd (by decide) c128
                      · replace c128 := (not_congr (nI_leI (a := 2) (b := 1) (by omega) (by omega))).mp c128
                        refine v_iconst (x := (1 : Int32)) hX dL_isLineSo_115 (by decide) ?_
                        refine v_goto (tgt := 120) hX dL_isLineSo_116 (by decide) ?_
                        refine v_iload hX dL_isLineSo_120 rfl ?_
                        refine v_icmp_ne (tgt := 226) hX dL_isLineSo_122 (by decide) (fun c129 => ?_) (fun c129 => ?_)
                        · replace c129 := (not_congr (nI_eq (a := 1) (b := 1) (by omega) (by omega))).mp c129
                          exfalso; omega
                        · replace c129 := (nI_eq (a := 1) (b := 1) (by omega) (by omega)).mp c129
                          have c129t := eq_true c129
                          refine v_iload hX dL_isLineSo_125 rfl ?_
                          refine v_if_ne (tgt := 134) hX dL_isLineSo_127 (by decide) (fun c130 => ?_) (fun c130 => ?_)
                          · replace c130 := (not_congr (nI_eq (a := 1) (b := 0) (by omega) (by omega))).mp c130
                            refine v_iconst (x := (0 : Int32)) hX dL_isLineSo_134 (by decide) ?_
                            refine v_iload_n hX dL_isLineSo_135 rfl ?_
                            refine v_iload hX dL_isLineSo_136 rfl ?_
                            refine v_ishr (z := ((M_holders v.1 n) >>> (nI (i) &&& 31))) hX dL_isLineSo_138 (rfl) ?_
                            refine v_iconst (x := (1 : Int32)) hX dL_isLineSo_139 (by decide) ?_
                            refine v_iand (z := (((M_holders v.1 n) >>> (nI (i) &&& 31)) &&& (1 : Int32))) hX dL_isLineSo_140 (rfl) ?_
                            rw [hold_b0 (m := v.1) (i := i) (n := n) (by omega) hh]
                            refine v_iconst (x := (1 : Int32)) hX dL_isLineSo_141 (by decide) ?_
                            refine v_icmp_ne (tgt := 149) hX dL_isLineSo_142 (by decide) (fun c131 => ?_) (fun c131 => ?_)
                            · replace c131 := (not_congr (nI_eq (a := 0) (b := 1) (by omega) (by omega))).mp c131
                              refine v_iconst (x := (0 : Int32)) hX dL_isLineSo_149 (by decide) ?_
                              refine v_icmp_ne (tgt := 226) hX dL_isLineSo_150 (by decide) (fun c132 => ?_) (fun c132 => ?_)
                              · replace c132 := (not_congr (nI_eq (a := 0) (b := 0) (by omega) (by omega))).mp c132
                                first | (exfalso; omega) | exact absurd c132 (by decide) | exact absurd (by decide) c132
                              · replace c132 := (nI_eq (a := 0) (b := 0) (by omega) (by omega)).mp c132
                                have c132t := eq_true c132
                                refine v_iload hX dL_isLineSo_153 rfl ?_
                                refine v_iconst (x := (2 : Int32)) hX dL_isLineSo_155 (by decide) ?_
                                refine v_icmp_ne (tgt := 163) hX dL_isLineSo_156 (by decide) (fun c133 => ?_) (fun c133 => ?_)
                                · replace c133 := (not_congr (nI_eq (a := 1) (b := 2) (by omega) (by omega))).mp c133
                                  refine v_iconst (x := (0 : Int32)) hX dL_isLineSo_163 (by decide) ?_
                                  refine v_aload_n hX dL_isLineSo_164 rfl ?_
                                  refine v_iload hX dL_isLineSo_165 rfl ?_
                                  refine v_iload_n hX dL_isLineSo_167 rfl ?_
                                  refine v_bipush (x := (16 : Int32)) hX dL_isLineSo_168 (by decide) ?_
                                  refine v_idiv (z := nI (((n).val) / 16)) hX dL_isLineSo_170 (by decide) (div_c ((n).val) 16 (by omega) (by decide) (by decide)) ?_
                                  refine v_callVi (r := X_bit v (nI (i)) (nI (((n).val) / 16))) (rest := [.int ((0 : Int32))]) (ws' := wX E b v) hX (fun sz => c_X5_bit l E b sz v (nI (i)) (nI (((n).val) / 16))) (cwV 2 hX.2.2.2.2.1 gL_isLineSo_X5_bit rfl rfl rfl (by decide +kernel) ⟨Nat.le_of_ble_eq_true rfl, Nat.le_of_ble_eq_true rfl⟩) ([]) ([]) ((List.append_nil _).symm) ((List.append_nil _).symm).symm (wX_fst E b _ _) (ci := 5) (q0 := 0) rfl rfl rfl rfl rfl (Nat.le_of_ble_eq_true rfl) dL_isLineSo_171 ?_
                                  rw [bit_1 v (i := i) (n := n) (by omega) hbb]
                                  refine v_if_ne (tgt := 181) hX dL_isLineSo_174 (by decide) (fun c134 => ?_) (fun c134 => ?_)
                                  · replace c134 := (not_congr (nI_eq (a := 1) (b := 0) (by omega) (by omega))).mp c134
                                    refine v_iconst (x := (0 : Int32)) hX dL_isLineSo_181 (by decide) ?_
                                    refine v_icmp_ne (tgt := 226) hX dL_isLineSo_182 (by decide) (fun c135 => ?_) (fun c135 => ?_)
                                    · replace c135 := (not_congr (nI_eq (a := 0) (b := 0) (by omega) (by omega))).mp c135
                                      exfalso; omega
                                    · replace c135 := (nI_eq (a := 0) (b := 0) (by omega) (by omega)).mp c135
                                      have c135t := eq_true c135
                                      refine v_iload hX dL_isLineSo_185 rfl ?_
                                      refine v_iconst (x := (3 : Int32)) hX dL_isLineSo_187 (by decide) ?_
                                      refine v_icmp_ne (tgt := 222) hX dL_isLineSo_188 (by decide) (fun c136 => ?_) (fun c136 => ?_)
                                      · replace c136 := (not_congr (nI_eq (a := 1) (b := 3) (by omega) (by omega))).mp c136
                                        refine v_iconst (x := (1 : Int32)) hX dL_isLineSo_222 (by decide) ?_
                                        refine v_goto (tgt := 227) hX dL_isLineSo_223 (by decide) ?_
                                        refine v_istore (lv' := [.ref (b 0 0), .int (nI (n).val), .int (nI (r)), .int ((M_holders v.1 n)), .int ((M_mays v.1 n)), .int (nI (cn (cm v.1 r n) i)), .int (nI (cn (vm v.1 r n) i)), .int ((1 : Int32)), .int (nI (i)), .int ((1 : Int32)), .int ((1 : Int32))]) hX dL_isLineSo_227 (Nat.le_of_ble_eq_true rfl) (Nat.le_of_ble_eq_true rfl) rfl rfl ?_
                                        refine v_iload hX dL_isLineSo_229 rfl ?_
                                        refine v_iload hX dL_isLineSo_231 rfl ?_
                                        refine v_if_eq (tgt := 246) hX dL_isLineSo_233 (by decide) (fun c137 => ?_) (fun c137 => ?_)
                                        · replace c137 := (nI_eq (a := 1) (b := 0) (by omega) (by omega)).mp c137
                                          have c137t := eq_true c137
                                          exfalso; omega
                                        · replace c137 := (not_congr (nI_eq (a := 1) (b := 0) (by omega) (by omega))).mp c137
                                          refine v_iload hX dL_isLineSo_236 rfl ?_
                                          refine v_iload_n hX dL_isLineSo_238 rfl ?_
                                          refine v_icmp_eq (tgt := 246) hX dL_isLineSo_239 (by decide) (fun c138 => ?_) (fun c138 => ?_)
                                          · replace c138 := (nI_eq (a := i) (b := r) (by omega) (by omega)).mp c138
                                            have c138t := eq_true c138
                                            refine v_iconst (x := (0 : Int32)) hX dL_isLineSo_246 (by decide) ?_
                                            refine v_iadd (z := nI ((cn (cm v.1 r n) i) + 0)) hX dL_isLineSo_247 (nI_add (cn (cm v.1 r n) i) 0) ?_
                                            refine v_istore (lv' := [.ref (b 0 0), .int (nI (n).val), .int (nI (r)), .int ((M_holders v.1 n)), .int ((M_mays v.1 n)), .int (nI ((cn (cm v.1 r n) i) + 0)), .int (nI (cn (vm v.1 r n) i)), .int ((1 : Int32)), .int (nI (i)), .int ((1 : Int32)), .int ((1 : Int32))]) hX dL_isLineSo_248 (Nat.le_of_ble_eq_true rfl) (Nat.le_of_ble_eq_true rfl) rfl rfl ?_
                                            refine v_iload hX dL_isLineSo_250 rfl ?_
                                            refine v_iload hX dL_isLineSo_252 rfl ?_
                                            refine v_iconst (x := (1 : Int32)) hX dL_isLineSo_254 (by decide) ?_
                                            refine v_icmp_ne (tgt := 268) hX dL_isLineSo_255 (by decide) (fun c139 => ?_) (fun c139 => ?_)
                                            · replace c139 := (not_congr (nI_eq (a := 1) (b := 1) (by omega) (by omega))).mp c139
                                              exfalso; omega
                                            · replace c139 := (nI_eq (a := 1) (b := 1) (by omega) (by omega)).mp c139
                                              have c139t := eq_true c139
                                              refine v_iload hX dL_isLineSo_258 rfl ?_
                                              refine v_iload_n hX dL_isLineSo_260 rfl ?_
                                              refine v_icmp_eq (tgt := 268) hX dL_isLineSo_261 (by decide) (fun c140 => ?_) (fun c140 => ?_)
                                              · replace c140 := (nI_eq (a := i) (b := r) (by omega) (by omega)).mp c140
                                                have c140t := eq_true c140
                                                refine v_iconst (x := (0 : Int32)) hX dL_isLineSo_268 (by decide) ?_
                                                refine v_iadd (z := nI ((cn (vm v.1 r n) i) + 0)) hX dL_isLineSo_269 (nI_add (cn (vm v.1 r n) i) 0) ?_
                                                refine v_istore (lv' := [.ref (b 0 0), .int (nI (n).val), .int (nI (r)), .int ((M_holders v.1 n)), .int ((M_mays v.1 n)), .int (nI ((cn (cm v.1 r n) i) + 0)), .int (nI ((cn (vm v.1 r n) i) + 0)), .int ((1 : Int32)), .int (nI (i)), .int ((1 : Int32)), .int ((1 : Int32))]) hX dL_isLineSo_270 (Nat.le_of_ble_eq_true rfl) (Nat.le_of_ble_eq_true rfl) rfl rfl ?_
                                                refine v_iinc (y := nI (i + 1)) (lv' := [.ref (b 0 0), .int (nI (n).val), .int (nI (r)), .int ((M_holders v.1 n)), .int ((M_mays v.1 n)), .int (nI ((cn (cm v.1 r n) i) + 0)), .int (nI ((cn (vm v.1 r n) i) + 0)), .int ((1 : Int32)), .int (nI (i + 1)), .int ((1 : Int32)), .int ((1 : Int32))]) hX dL_isLineSo_272 rfl (nI_inc _) (Nat.le_of_ble_eq_true rfl) (Nat.le_of_ble_eq_true rfl) rfl rfl ?_
                                                refine v_goto (tgt := 71) hX dL_isLineSo_275 (by decide) ?_
                                                have e141 : (cn (cm v.1 r n) i) + 0 = cn (cm v.1 r n) (i + 1) := by first | (rw [cn_s, cm_1 (m := v.1) (r := r) (n := n) hm hir]; done) | (rw [cn_s, cm_m (m := v.1) (r := r) (n := n) hm]; done) | (rw [cn_s, cm_r (m := v.1) (r := r) (n := n) hir]; done) | (rw [cn_s, vm_1 (m := v.1) (r := r) (n := n) hm hh hir]; done) | (rw [cn_s, vm_m (m := v.1) (r := r) (n := n) hm]; done) | (rw [cn_s, vm_h (m := v.1) (r := r) (n := n) hh]; done) | (rw [cn_s, vm_r (m := v.1) (r := r) (n := n) hir]; done)
                                                rw [e141]
                                                have e142 : (cn (vm v.1 r n) i) + 0 = cn (vm v.1 r n) (i + 1) := by first | (rw [cn_s, cm_1 (m := v.1) (r := r) (n := n) hm hir]; done) | (rw [cn_s, cm_m (m := v.1) (r := r) (n := n) hm]; done) | (rw [cn_s, cm_r (m := v.1) (r := r) (n := n) hir]; done) | (rw [cn_s, vm_1 (m := v.1) (r := r) (n := n) hm hh hir]; done) | (rw [cn_s, vm_m (m := v.1) (r := r) (n := n) hm]; done) | (rw [cn_s, vm_h (m := v.1) (r := r) (n := n) hh]; done) | (rw [cn_s, vm_r (m := v.1) (r := r) (n := n) hir]; done)
                                                rw [e142]
                                                exact v_fewer 9 rfl (ih (i + 1)  (by omega) )
                                              · replace c140 := (not_congr (nI_eq (a := i) (b := r) (by omega) (by omega))).mp c140
                                                first | (exfalso; omega) | exact absurd c140 (by decide) | exact absurd (by decide) c140
                                          · replace c138 := (not_congr (nI_eq (a := i) (b := r) (by omega) (by omega))).mp c138
                                            first | (exfalso; omega) | exact absurd c138 (by decide) | exact absurd (by decide) c138
                                      · replace c136 := (nI_eq (a := 1) (b := 3) (by omega) (by omega)).mp c136
                                        have c136t := eq_true c136
                                        exfalso; omega
                                  · replace c134 := (nI_eq (a := 1) (b := 0) (by omega) (by omega)).mp c134
                                    have c134t := eq_true c134
                                    exfalso; omega
                                · replace c133 := (nI_eq (a := 1) (b := 2) (by omega) (by omega)).mp c133
                                  have c133t := eq_true c133
                                  exfalso; omega
                            · replace c131 := (nI_eq (a := 0) (b := 1) (by omega) (by omega)).mp c131
                              have c131t := eq_true c131
                              first | (exfalso; omega) | exact absurd c131 (by decide) | exact absurd (by decide) c131
                          · replace c130 := (nI_eq (a := 1) (b := 0) (by omega) (by omega)).mp c130
                            have c130t := eq_true c130
                            exfalso; omega
                · skip
                  refine v_istore (lv' := [.ref (b 0 0), .int (nI (n).val), .int (nI (r)), .int ((M_holders v.1 n)), .int ((M_mays v.1 n)), .int (nI (cn (cm v.1 r n) i)), .int (nI (cn (vm v.1 r n) i)), .int ((1 : Int32)), .int (nI (i)), .int ((1 : Int32))]) hX dL_isLineSo_84 (Nat.le_of_ble_eq_true rfl) (Nat.le_of_ble_eq_true rfl) rfl rfl ?_
                  refine v_iload hX dL_isLineSo_86 rfl ?_
                  refine v_iload hX dL_isLineSo_88 rfl ?_
                  refine v_ishr (z := ((M_mays v.1 n) >>> (nI (i) &&& 31))) hX dL_isLineSo_90 (rfl) ?_
                  refine v_iconst (x := (1 : Int32)) hX dL_isLineSo_91 (by decide) ?_
                  refine v_iand (z := (((M_mays v.1 n) >>> (nI (i) &&& 31)) &&& (1 : Int32))) hX dL_isLineSo_92 (rfl) ?_
                  rw [may_b1 (m := v.1) (i := i) (n := n) (by omega) hm]
                  refine v_iconst (x := (1 : Int32)) hX dL_isLineSo_93 (by decide) ?_
                  refine v_icmp_ne (tgt := 101) hX dL_isLineSo_94 (by decide) (fun c143 => ?_) (fun c143 => ?_)
                  · replace c143 := (not_congr (nI_eq (a := 1) (b := 1) (by omega) (by omega))).mp c143
                    first | (exfalso; omega) | exact absurd c143 (by decide) | exact absurd (by decide) c143
                  · replace c143 := (nI_eq (a := 1) (b := 1) (by omega) (by omega)).mp c143
                    have c143t := eq_true c143
                    refine v_iconst (x := (1 : Int32)) hX dL_isLineSo_97 (by decide) ?_
                    refine v_goto (tgt := 102) hX dL_isLineSo_98 (by decide) ?_
                    refine v_istore (lv' := [.ref (b 0 0), .int (nI (n).val), .int (nI (r)), .int ((M_holders v.1 n)), .int ((M_mays v.1 n)), .int (nI (cn (cm v.1 r n) i)), .int (nI (cn (vm v.1 r n) i)), .int ((1 : Int32)), .int (nI (i)), .int ((1 : Int32)), .int ((1 : Int32))]) hX dL_isLineSo_102 (Nat.le_of_ble_eq_true rfl) (Nat.le_of_ble_eq_true rfl) rfl rfl ?_
                    refine v_iload hX dL_isLineSo_104 rfl ?_
                    refine v_if_eq (tgt := 226) hX dL_isLineSo_106 (by decide) (fun c144 => ?_) (fun c144 => ?_)
                    · replace c144 := (nI_eq (a := 1) (b := 0) (by omega) (by omega)).mp c144
                      have c144t := eq_true c144
                      exfalso; omega
                    · replace c144 := (not_congr (nI_eq (a := 1) (b := 0) (by omega) (by omega))).mp c144
                      refine v_iload hX dL_isLineSo_109 rfl ?_
                      refine v_iconst (x := (2 : Int32)) hX dL_isLineSo_111 (by decide) ?_
                      refine v_icmp_ge (tgt := 119) hX dL_isLineSo_112 (by decide) (fun c145 => ?_) (fun c145 => ?_)
                      · replace c145 := (nI_leI (a := 2) (b := 1) (by omega) (by omega)).mp c145
                        first | (exfalso; omega) | exact absurd c145 (by decide) | exact absurd (by decide) c145
                      · replace c145 := (not_congr (nI_leI (a := 2) (b := 1) (by omega) (by omega))).mp c145
                        refine v_iconst (x := (1 : Int32)) hX dL_isLineSo_115 (by decide) ?_
                        refine v_goto (tgt := 120) hX dL_isLineSo_116 (by decide) ?_
                        refine v_iload hX dL_isLineSo_120 rfl ?_
                        refine v_icmp_ne (tgt := 226) hX dL_isLineSo_122 (by decide) (fun c146 => ?_) (fun c146 => ?_)
                        · replace c146 := (not_congr (nI_eq (a := 1) (b := 1) (by omega) (by omega))).mp c146
                          exfalso; omega
                        · replace c146 := (nI_eq (a := 1) (b := 1) (by omega) (by omega)).mp c146
                          have c146t := eq_true c146
                          refine v_iload hX dL_isLineSo_125 rfl ?_
                          refine v_if_ne (tgt := 134) hX dL_isLineSo_127 (by decide) (fun c147 => ?_) (fun c147 => ?_)
                          · replace c147 := (not_congr (nI_eq (a := 1) (b := 0) (by omega) (by omega))).mp c147
                            refine v_iconst (x := (0 : Int32)) hX dL_isLineSo_134 (by decide) ?_
                            refine v_iload_n hX dL_isLineSo_135 rfl ?_
                            refine v_iload hX dL_isLineSo_136 rfl ?_
                            refine v_ishr (z := ((M_holders v.1 n) >>> (nI (i) &&& 31))) hX dL_isLineSo_138 (rfl) ?_
                            refine v_iconst (x := (1 : Int32)) hX dL_isLineSo_139 (by decide) ?_
                            refine v_iand (z := (((M_holders v.1 n) >>> (nI (i) &&& 31)) &&& (1 : Int32))) hX dL_isLineSo_140 (rfl) ?_
                            rw [hold_b0 (m := v.1) (i := i) (n := n) (by omega) hh]
                            refine v_iconst (x := (1 : Int32)) hX dL_isLineSo_141 (by decide) ?_
                            refine v_icmp_ne (tgt := 149) hX dL_isLineSo_142 (by decide) (fun c148 => ?_) (fun c148 => ?_)
                            · replace c148 := (not_congr (nI_eq (a := 0) (b := 1) (by omega) (by omega))).mp c148
                              refine v_iconst (x := (0 : Int32)) hX dL_isLineSo_149 (by decide) ?_
                              refine v_icmp_ne (tgt := 226) hX dL_isLineSo_150 (by decide) (fun c149 => ?_) (fun c149 => ?_)
                              · replace c149 := (not_congr (nI_eq (a := 0) (b := 0) (by omega) (by omega))).mp c149
                                first | (exfalso; omega) | exact absurd c149 (by decide) | exact absurd (by decide) c149
                              · replace c149 := (nI_eq (a := 0) (b := 0) (by omega) (by omega)).mp c149
                                have c149t := eq_true c149
                                refine v_iload hX dL_isLineSo_153 rfl ?_
                                refine v_iconst (x := (2 : Int32)) hX dL_isLineSo_155 (by decide) ?_
                                refine v_icmp_ne (tgt := 163) hX dL_isLineSo_156 (by decide) (fun c150 => ?_) (fun c150 => ?_)
                                · replace c150 := (not_congr (nI_eq (a := 1) (b := 2) (by omega) (by omega))).mp c150
                                  refine v_iconst (x := (0 : Int32)) hX dL_isLineSo_163 (by decide) ?_
                                  refine v_aload_n hX dL_isLineSo_164 rfl ?_
                                  refine v_iload hX dL_isLineSo_165 rfl ?_
                                  refine v_iload_n hX dL_isLineSo_167 rfl ?_
                                  refine v_bipush (x := (16 : Int32)) hX dL_isLineSo_168 (by decide) ?_
                                  refine v_idiv (z := nI (((n).val) / 16)) hX dL_isLineSo_170 (by decide) (div_c ((n).val) 16 (by omega) (by decide) (by decide)) ?_
                                  refine v_callVi (r := X_bit v (nI (i)) (nI (((n).val) / 16))) (rest := [.int ((0 : Int32))]) (ws' := wX E b v) hX (fun sz => c_X5_bit l E b sz v (nI (i)) (nI (((n).val) / 16))) (cwV 2 hX.2.2.2.2.1 gL_isLineSo_X5_bit rfl rfl rfl (by decide +kernel) ⟨Nat.le_of_ble_eq_true rfl, Nat.le_of_ble_eq_true rfl⟩) ([]) ([]) ((List.append_nil _).symm) ((List.append_nil _).symm).symm (wX_fst E b _ _) (ci := 5) (q0 := 0) rfl rfl rfl rfl rfl (Nat.le_of_ble_eq_true rfl) dL_isLineSo_171 ?_
                                  rw [bit_1 v (i := i) (n := n) (by omega) hbb]
                                  refine v_if_ne (tgt := 181) hX dL_isLineSo_174 (by decide) (fun c151 => ?_) (fun c151 => ?_)
                                  · replace c151 := (not_congr (nI_eq (a := 1) (b := 0) (by omega) (by omega))).mp c151
                                    refine v_iconst (x := (0 : Int32)) hX dL_isLineSo_181 (by decide) ?_
                                    refine v_icmp_ne (tgt := 226) hX dL_isLineSo_182 (by decide) (fun c152 => ?_) (fun c152 => ?_)
                                    · replace c152 := (not_congr (nI_eq (a := 0) (b := 0) (by omega) (by omega))).mp c152
                                      exfalso; omega
                                    · replace c152 := (nI_eq (a := 0) (b := 0) (by omega) (by omega)).mp c152
                                      have c152t := eq_true c152
                                      refine v_iload hX dL_isLineSo_185 rfl ?_
                                      refine v_iconst (x := (3 : Int32)) hX dL_isLineSo_187 (by decide) ?_
                                      refine v_icmp_ne (tgt := 222) hX dL_isLineSo_188 (by decide) (fun c153 => ?_) (fun c153 => ?_)
                                      · replace c153 := (not_congr (nI_eq (a := 1) (b := 3) (by omega) (by omega))).mp c153
                                        refine v_iconst (x := (1 : Int32)) hX dL_isLineSo_222 (by decide) ?_
                                        refine v_goto (tgt := 227) hX dL_isLineSo_223 (by decide) ?_
                                        refine v_istore (lv' := [.ref (b 0 0), .int (nI (n).val), .int (nI (r)), .int ((M_holders v.1 n)), .int ((M_mays v.1 n)), .int (nI (cn (cm v.1 r n) i)), .int (nI (cn (vm v.1 r n) i)), .int ((1 : Int32)), .int (nI (i)), .int ((1 : Int32)), .int ((1 : Int32))]) hX dL_isLineSo_227 (Nat.le_of_ble_eq_true rfl) (Nat.le_of_ble_eq_true rfl) rfl rfl ?_
                                        refine v_iload hX dL_isLineSo_229 rfl ?_
                                        refine v_iload hX dL_isLineSo_231 rfl ?_
                                        refine v_if_eq (tgt := 246) hX dL_isLineSo_233 (by decide) (fun c154 => ?_) (fun c154 => ?_)
                                        · replace c154 := (nI_eq (a := 1) (b := 0) (by omega) (by omega)).mp c154
                                          have c154t := eq_true c154
                                          exfalso; omega
                                        · replace c154 := (not_congr (nI_eq (a := 1) (b := 0) (by omega) (by omega))).mp c154
                                          refine v_iload hX dL_isLineSo_236 rfl ?_
                                          refine v_iload_n hX dL_isLineSo_238 rfl ?_
                                          refine v_icmp_eq (tgt := 246) hX dL_isLineSo_239 (by decide) (fun c155 => ?_) (fun c155 => ?_)
                                          · replace c155 := (nI_eq (a := i) (b := r) (by omega) (by omega)).mp c155
                                            have c155t := eq_true c155
                                            first | (exfalso; omega) | exact absurd c155 (by decide) | exact absurd (by decide) c155
                                          · replace c155 := (not_congr (nI_eq (a := i) (b := r) (by omega) (by omega))).mp c155
                                            refine v_iconst (x := (1 : Int32)) hX dL_isLineSo_242 (by decide) ?_
                                            refine v_goto (tgt := 247) hX dL_isLineSo_243 (by decide) ?_
                                            refine v_iadd (z := nI ((cn (cm v.1 r n) i) + 1)) hX dL_isLineSo_247 (nI_add (cn (cm v.1 r n) i) 1) ?_
                                            refine v_istore (lv' := [.ref (b 0 0), .int (nI (n).val), .int (nI (r)), .int ((M_holders v.1 n)), .int ((M_mays v.1 n)), .int (nI ((cn (cm v.1 r n) i) + 1)), .int (nI (cn (vm v.1 r n) i)), .int ((1 : Int32)), .int (nI (i)), .int ((1 : Int32)), .int ((1 : Int32))]) hX dL_isLineSo_248 (Nat.le_of_ble_eq_true rfl) (Nat.le_of_ble_eq_true rfl) rfl rfl ?_
                                            refine v_iload hX dL_isLineSo_250 rfl ?_
                                            refine v_iload hX dL_isLineSo_252 rfl ?_
                                            refine v_iconst (x := (1 : Int32)) hX dL_isLineSo_254 (by decide) ?_
                                            refine v_icmp_ne (tgt := 268) hX dL_isLineSo_255 (by decide) (fun c156 => ?_) (fun c156 => ?_)
                                            · replace c156 := (not_congr (nI_eq (a := 1) (b := 1) (by omega) (by omega))).mp c156
                                              exfalso; omega
                                            · replace c156 := (nI_eq (a := 1) (b := 1) (by omega) (by omega)).mp c156
                                              have c156t := eq_true c156
                                              refine v_iload hX dL_isLineSo_258 rfl ?_
                                              refine v_iload_n hX dL_isLineSo_260 rfl ?_
                                              refine v_icmp_eq (tgt := 268) hX dL_isLineSo_261 (by decide) (fun c157 => ?_) (fun c157 => ?_)
                                              · replace c157 := (nI_eq (a := i) (b := r) (by omega) (by omega)).mp c157
                                                have c157t := eq_true c157
                                                first | (exfalso; omega) | exact absurd c157 (by decide) | exact absurd (by decide) c157
                                              · replace c157 := (not_congr (nI_eq (a := i) (b := r) (by omega) (by omega))).mp c157
                                                refine v_iconst (x := (1 : Int32)) hX dL_isLineSo_264 (by decide) ?_
                                                refine v_goto (tgt := 269) hX dL_isLineSo_265 (by decide) ?_
                                                refine v_iadd (z := nI ((cn (vm v.1 r n) i) + 1)) hX dL_isLineSo_269 (nI_add (cn (vm v.1 r n) i) 1) ?_
                                                refine v_istore (lv' := [.ref (b 0 0), .int (nI (n).val), .int (nI (r)), .int ((M_holders v.1 n)), .int ((M_mays v.1 n)), .int (nI ((cn (cm v.1 r n) i) + 1)), .int (nI ((cn (vm v.1 r n) i) + 1)), .int ((1 : Int32)), .int (nI (i)), .int ((1 : Int32)), .int ((1 : Int32))]) hX dL_isLineSo_270 (Nat.le_of_ble_eq_true rfl) (Nat.le_of_ble_eq_true rfl) rfl rfl ?_
                                                refine v_iinc (y := nI (i + 1)) (lv' := [.ref (b 0 0), .int (nI (n).val), .int (nI (r)), .int ((M_holders v.1 n)), .int ((M_mays v.1 n)), .int (nI ((cn (cm v.1 r n) i) + 1)), .int (nI ((cn (vm v.1 r n) i) + 1)), .int ((1 : Int32)), .int (nI (i + 1)), .int ((1 : Int32)), .int ((1 : Int32))]) hX dL_isLineSo_272 rfl (nI_inc _) (Nat.le_of_ble_eq_true rfl) (Nat.le_of_ble_eq_true rfl) rfl rfl ?_
                                                refine v_goto (tgt := 71) hX dL_isLineSo_275 (by decide) ?_
                                                have e158 : (cn (cm v.1 r n) i) + 1 = cn (cm v.1 r n) (i + 1) := by first | (rw [cn_s, cm_1 (m := v.1) (r := r) (n := n) hm hir]; done) | (rw [cn_s, cm_m (m := v.1) (r := r) (n := n) hm]; done) | (rw [cn_s, cm_r (m := v.1) (r := r) (n := n) hir]; done) | (rw [cn_s, vm_1 (m := v.1) (r := r) (n := n) hm hh hir]; done) | (rw [cn_s, vm_m (m := v.1) (r := r) (n := n) hm]; done) | (rw [cn_s, vm_h (m := v.1) (r := r) (n := n) hh]; done) | (rw [cn_s, vm_r (m := v.1) (r := r) (n := n) hir]; done)
                                                rw [e158]
                                                have e159 : (cn (vm v.1 r n) i) + 1 = cn (vm v.1 r n) (i + 1) := by first | (rw [cn_s, cm_1 (m := v.1) (r := r) (n := n) hm hir]; done) | (rw [cn_s, cm_m (m := v.1) (r := r) (n := n) hm]; done) | (rw [cn_s, cm_r (m := v.1) (r := r) (n := n) hir]; done) | (rw [cn_s, vm_1 (m := v.1) (r := r) (n := n) hm hh hir]; done) | (rw [cn_s, vm_m (m := v.1) (r := r) (n := n) hm]; done) | (rw [cn_s, vm_h (m := v.1) (r := r) (n := n) hh]; done) | (rw [cn_s, vm_r (m := v.1) (r := r) (n := n) hir]; done)
                                                rw [e159]
                                                exact v_fewer 9 rfl (ih (i + 1)  (by omega) )
                                      · replace c153 := (nI_eq (a := 1) (b := 3) (by omega) (by omega)).mp c153
                                        have c153t := eq_true c153
                                        exfalso; omega
                                  · replace c151 := (nI_eq (a := 1) (b := 0) (by omega) (by omega)).mp c151
                                    have c151t := eq_true c151
                                    exfalso; omega
                                · replace c150 := (nI_eq (a := 1) (b := 2) (by omega) (by omega)).mp c150
                                  have c150t := eq_true c150
                                  exfalso; omega
                            · replace c148 := (nI_eq (a := 0) (b := 1) (by omega) (by omega)).mp c148
                              have c148t := eq_true c148
                              first | (exfalso; omega) | exact absurd c148 (by decide) | exact absurd (by decide) c148
                          · replace c147 := (nI_eq (a := 1) (b := 0) (by omega) (by omega)).mp c147
                            have c147t := eq_true c147
                            exfalso; omega
              · rw [reason_3 v (by omega) hh hm hbb]
                by_cases hir : i = r
                · skip
                  refine v_istore (lv' := [.ref (b 0 0), .int (nI (n).val), .int (nI (r)), .int ((M_holders v.1 n)), .int ((M_mays v.1 n)), .int (nI (cn (cm v.1 r n) i)), .int (nI (cn (vm v.1 r n) i)), .int ((1 : Int32)), .int (nI (i)), .int ((3 : Int32))]) hX dL_isLineSo_84 (Nat.le_of_ble_eq_true rfl) (Nat.le_of_ble_eq_true rfl) rfl rfl ?_
                  refine v_iload hX dL_isLineSo_86 rfl ?_
                  refine v_iload hX dL_isLineSo_88 rfl ?_
                  refine v_ishr (z := ((M_mays v.1 n) >>> (nI (i) &&& 31))) hX dL_isLineSo_90 (rfl) ?_
                  refine v_iconst (x := (1 : Int32)) hX dL_isLineSo_91 (by decide) ?_
                  refine v_iand (z := (((M_mays v.1 n) >>> (nI (i) &&& 31)) &&& (1 : Int32))) hX dL_isLineSo_92 (rfl) ?_
                  rw [may_b0 (m := v.1) (i := i) (n := n) (by omega) hm]
                  refine v_iconst (x := (1 : Int32)) hX dL_isLineSo_93 (by decide) ?_
                  refine v_icmp_ne (tgt := 101) hX dL_isLineSo_94 (by decide) (fun c160 => ?_) (fun c160 => ?_)
                  · replace c160 := (not_congr (nI_eq (a := 0) (b := 1) (by omega) (by omega))).mp c160
                    refine v_iconst (x := (0 : Int32)) hX dL_isLineSo_101 (by decide) ?_
                    refine v_istore (lv' := [.ref (b 0 0), .int (nI (n).val), .int (nI (r)), .int ((M_holders v.1 n)), .int ((M_mays v.1 n)), .int (nI (cn (cm v.1 r n) i)), .int (nI (cn (vm v.1 r n) i)), .int ((1 : Int32)), .int (nI (i)), .int ((3 : Int32)), .int ((0 : Int32))]) hX dL_isLineSo_102 (Nat.le_of_ble_eq_true rfl) (Nat.le_of_ble_eq_true rfl) rfl rfl ?_
                    refine v_iload hX dL_isLineSo_104 rfl ?_
                    refine v_if_eq (tgt := 226) hX dL_isLineSo_106 (by decide) (fun c161 => ?_) (fun c161 => ?_)
                    · replace c161 := (nI_eq (a := 1) (b := 0) (by omega) (by omega)).mp c161
                      have c161t := eq_true c161
                      first | (exfalso; omega) | exact absurd c161 (by decide) | exact absurd (by decide) c161
                    · replace c161 := (not_congr (nI_eq (a := 1) (b := 0) (by omega) (by omega))).mp c161
                      refine v_iload hX dL_isLineSo_109 rfl ?_
                      refine v_iconst (x := (2 : Int32)) hX dL_isLineSo_111 (by decide) ?_
                      refine v_icmp_ge (tgt := 119) hX dL_isLineSo_112 (by decide) (fun c162 => ?_) (fun c162 => ?_)
                      · replace c162 := (nI_leI (a := 2) (b := 3) (by omega) (by omega)).mp c162
                        refine v_iconst (x := (0 : Int32)) hX dL_isLineSo_119 (by decide) ?_
                        refine v_iload hX dL_isLineSo_120 rfl ?_
                        refine v_icmp_ne (tgt := 226) hX dL_isLineSo_122 (by decide) (fun c163 => ?_) (fun c163 => ?_)
                        · replace c163 := (not_congr (nI_eq (a := 0) (b := 0) (by omega) (by omega))).mp c163
                          first | (exfalso; omega) | exact absurd c163 (by decide) | exact absurd (by decide) c163
                        · replace c163 := (nI_eq (a := 0) (b := 0) (by omega) (by omega)).mp c163
                          have c163t := eq_true c163
                          refine v_iload hX dL_isLineSo_125 rfl ?_
                          refine v_if_ne (tgt := 134) hX dL_isLineSo_127 (by decide) (fun c164 => ?_) (fun c164 => ?_)
                          · replace c164 := (not_congr (nI_eq (a := 3) (b := 0) (by omega) (by omega))).mp c164
                            refine v_iconst (x := (0 : Int32)) hX dL_isLineSo_134 (by decide) ?_
                            refine v_iload_n hX dL_isLineSo_135 rfl ?_
                            refine v_iload hX dL_isLineSo_136 rfl ?_
                            refine v_ishr (z := ((M_holders v.1 n) >>> (nI (i) &&& 31))) hX dL_isLineSo_138 (rfl) ?_
                            refine v_iconst (x := (1 : Int32)) hX dL_isLineSo_139 (by decide) ?_
                            refine v_iand (z := (((M_holders v.1 n) >>> (nI (i) &&& 31)) &&& (1 : Int32))) hX dL_isLineSo_140 (rfl) ?_
                            rw [hold_b0 (m := v.1) (i := i) (n := n) (by omega) hh]
                            refine v_iconst (x := (1 : Int32)) hX dL_isLineSo_141 (by decide) ?_
                            refine v_icmp_ne (tgt := 149) hX dL_isLineSo_142 (by decide) (fun c165 => ?_) (fun c165 => ?_)
                            · replace c165 := (not_congr (nI_eq (a := 0) (b := 1) (by omega) (by omega))).mp c165
                              refine v_iconst (x := (0 : Int32)) hX dL_isLineSo_149 (by decide) ?_
                              refine v_icmp_ne (tgt := 226) hX dL_isLineSo_150 (by decide) (fun c166 => ?_) (fun c166 => ?_)
                              · replace c166 := (not_congr (nI_eq (a := 0) (b := 0) (by omega) (by omega))).mp c166
                                exfalso; omega
                              · replace c166 := (nI_eq (a := 0) (b := 0) (by omega) (by omega)).mp c166
                                have c166t := eq_true c166
                                refine v_iload hX dL_isLineSo_153 rfl ?_
                                refine v_iconst (x := (2 : Int32)) hX dL_isLineSo_155 (by decide) ?_
                                refine v_icmp_ne (tgt := 163) hX dL_isLineSo_156 (by decide) (fun c167 => ?_) (fun c167 => ?_)
                                · replace c167 := (not_congr (nI_eq (a := 3) (b := 2) (by omega) (by omega))).mp c167
                                  refine v_iconst (x := (0 : Int32)) hX dL_isLineSo_163 (by decide) ?_
                                  refine v_aload_n hX dL_isLineSo_164 rfl ?_
                                  refine v_iload hX dL_isLineSo_165 rfl ?_
                                  refine v_iload_n hX dL_isLineSo_167 rfl ?_
                                  refine v_bipush (x := (16 : Int32)) hX dL_isLineSo_168 (by decide) ?_
                                  refine v_idiv (z := nI (((n).val) / 16)) hX dL_isLineSo_170 (by decide) (div_c ((n).val) 16 (by omega) (by decide) (by decide)) ?_
                                  refine v_callVi (r := X_bit v (nI (i)) (nI (((n).val) / 16))) (rest := [.int ((0 : Int32))]) (ws' := wX E b v) hX (fun sz => c_X5_bit l E b sz v (nI (i)) (nI (((n).val) / 16))) (cwV 2 hX.2.2.2.2.1 gL_isLineSo_X5_bit rfl rfl rfl (by decide +kernel) ⟨Nat.le_of_ble_eq_true rfl, Nat.le_of_ble_eq_true rfl⟩) ([]) ([]) ((List.append_nil _).symm) ((List.append_nil _).symm).symm (wX_fst E b _ _) (ci := 5) (q0 := 0) rfl rfl rfl rfl rfl (Nat.le_of_ble_eq_true rfl) dL_isLineSo_171 ?_
                                  rw [bit_1 v (i := i) (n := n) (by omega) hbb]
                                  refine v_if_ne (tgt := 181) hX dL_isLineSo_174 (by decide) (fun c168 => ?_) (fun c168 => ?_)
                                  · replace c168 := (not_congr (nI_eq (a := 1) (b := 0) (by omega) (by omega))).mp c168
                                    refine v_iconst (x := (0 : Int32)) hX dL_isLineSo_181 (by decide) ?_
                                    refine v_icmp_ne (tgt := 226) hX dL_isLineSo_182 (by decide) (fun c169 => ?_) (fun c169 => ?_)
                                    · replace c169 := (not_congr (nI_eq (a := 0) (b := 0) (by omega) (by omega))).mp c169
                                      exfalso; omega
                                    · replace c169 := (nI_eq (a := 0) (b := 0) (by omega) (by omega)).mp c169
                                      have c169t := eq_true c169
                                      refine v_iload hX dL_isLineSo_185 rfl ?_
                                      refine v_iconst (x := (3 : Int32)) hX dL_isLineSo_187 (by decide) ?_
                                      refine v_icmp_ne (tgt := 222) hX dL_isLineSo_188 (by decide) (fun c170 => ?_) (fun c170 => ?_)
                                      · replace c170 := (not_congr (nI_eq (a := 3) (b := 3) (by omega) (by omega))).mp c170
                                        first | (exfalso; omega) | exact absurd c170 (by decide) | exact absurd (by decide) c170
                                      · replace c170 := (nI_eq (a := 3) (b := 3) (by omega) (by omega)).mp c170
                                        have c170t := eq_true c170
                                        refine v_aload_n hX dL_isLineSo_191 rfl ?_
                                        refine v_iload hX dL_isLineSo_192 rfl ?_
                                        refine v_iload_n hX dL_isLineSo_194 rfl ?_
                                        refine v_bipush (x := (24 : Int32)) hX dL_isLineSo_195 (by decide) ?_
                                        refine v_irem (z := nI (((n).val) % 24)) hX dL_isLineSo_197 (by decide) (rem_c ((n).val) 24 (by omega) (by decide) (by decide)) ?_
                                        refine v_callVi (r := X_counter v (nI (i)) (nI (((n).val) % 24))) (rest := []) (ws' := wX E b v) hX (fun sz => c_X5_counter l E b sz v (nI (i)) (nI (((n).val) % 24))) (cwV 2 hX.2.2.2.2.1 gL_isLineSo_X5_counter rfl rfl rfl (by decide +kernel) ⟨Nat.le_of_ble_eq_true rfl, Nat.le_of_ble_eq_true rfl⟩) ([]) ([]) ((List.append_nil _).symm) ((List.append_nil _).symm).symm (wX_fst E b _ _) (ci := 5) (q0 := 0) rfl rfl rfl rfl rfl (Nat.le_of_ble_eq_true rfl) dL_isLineSo_198 ?_
                                        refine v_if_eq (tgt := 222) hX dL_isLineSo_201 (by decide) (fun c171 => ?_) (fun c171 => ?_)
                                        · have c171t := eq_true c171
                                          refine v_iconst (x := (1 : Int32)) hX dL_isLineSo_222 (by decide) ?_
                                          refine v_goto (tgt := 227) hX dL_isLineSo_223 (by decide) ?_
                                          refine v_istore (lv' := [.ref (b 0 0), .int (nI (n).val), .int (nI (r)), .int ((M_holders v.1 n)), .int ((M_mays v.1 n)), .int (nI (cn (cm v.1 r n) i)), .int (nI (cn (vm v.1 r n) i)), .int ((1 : Int32)), .int (nI (i)), .int ((3 : Int32)), .int ((0 : Int32))]) hX dL_isLineSo_227 (Nat.le_of_ble_eq_true rfl) (Nat.le_of_ble_eq_true rfl) rfl rfl ?_
                                          refine v_iload hX dL_isLineSo_229 rfl ?_
                                          refine v_iload hX dL_isLineSo_231 rfl ?_
                                          refine v_if_eq (tgt := 246) hX dL_isLineSo_233 (by decide) (fun c172 => ?_) (fun c172 => ?_)
                                          · replace c172 := (nI_eq (a := 0) (b := 0) (by omega) (by omega)).mp c172
                                            have c172t := eq_true c172
                                            refine v_iconst (x := (0 : Int32)) hX dL_isLineSo_246 (by decide) ?_
                                            refine v_iadd (z := nI ((cn (cm v.1 r n) i) + 0)) hX dL_isLineSo_247 (nI_add (cn (cm v.1 r n) i) 0) ?_
                                            refine v_istore (lv' := [.ref (b 0 0), .int (nI (n).val), .int (nI (r)), .int ((M_holders v.1 n)), .int ((M_mays v.1 n)), .int (nI ((cn (cm v.1 r n) i) + 0)), .int (nI (cn (vm v.1 r n) i)), .int ((1 : Int32)), .int (nI (i)), .int ((3 : Int32)), .int ((0 : Int32))]) hX dL_isLineSo_248 (Nat.le_of_ble_eq_true rfl) (Nat.le_of_ble_eq_true rfl) rfl rfl ?_
                                            refine v_iload hX dL_isLineSo_250 rfl ?_
                                            refine v_iload hX dL_isLineSo_252 rfl ?_
                                            refine v_iconst (x := (1 : Int32)) hX dL_isLineSo_254 (by decide) ?_
                                            refine v_icmp_ne (tgt := 268) hX dL_isLineSo_255 (by decide) (fun c173 => ?_) (fun c173 => ?_)
                                            · replace c173 := (not_congr (nI_eq (a := 3) (b := 1) (by omega) (by omega))).mp c173
                                              refine v_iconst (x := (0 : Int32)) hX dL_isLineSo_268 (by decide) ?_
                                              refine v_iadd (z := nI ((cn (vm v.1 r n) i) + 0)) hX dL_isLineSo_269 (nI_add (cn (vm v.1 r n) i) 0) ?_
                                              refine v_istore (lv' := [.ref (b 0 0), .int (nI (n).val), .int (nI (r)), .int ((M_holders v.1 n)), .int ((M_mays v.1 n)), .int (nI ((cn (cm v.1 r n) i) + 0)), .int (nI ((cn (vm v.1 r n) i) + 0)), .int ((1 : Int32)), .int (nI (i)), .int ((3 : Int32)), .int ((0 : Int32))]) hX dL_isLineSo_270 (Nat.le_of_ble_eq_true rfl) (Nat.le_of_ble_eq_true rfl) rfl rfl ?_
                                              refine v_iinc (y := nI (i + 1)) (lv' := [.ref (b 0 0), .int (nI (n).val), .int (nI (r)), .int ((M_holders v.1 n)), .int ((M_mays v.1 n)), .int (nI ((cn (cm v.1 r n) i) + 0)), .int (nI ((cn (vm v.1 r n) i) + 0)), .int ((1 : Int32)), .int (nI (i + 1)), .int ((3 : Int32)), .int ((0 : Int32))]) hX dL_isLineSo_272 rfl (nI_inc _) (Nat.le_of_ble_eq_true rfl) (Nat.le_of_ble_eq_true rfl) rfl rfl ?_
                                              refine v_goto (tgt := 71) hX dL_isLineSo_275 (by decide) ?_
                                              have e174 : (cn (cm v.1 r n) i) + 0 = cn (cm v.1 r n) (i + 1) := by first | (rw [cn_s, cm_1 (m := v.1) (r := r) (n := n) hm hir]; done) | (rw [cn_s, cm_m (m := v.1) (r := r) (n := n) hm]; done) | (rw [cn_s, cm_r (m := v.1) (r := r) (n := n) hir]; done) | (rw [cn_s, vm_1 (m := v.1) (r := r) (n := n) hm hh hir]; done) | (rw [cn_s, vm_m (m := v.1) (r := r) (n := n) hm]; done) | (rw [cn_s, vm_h (m := v.1) (r := r) (n := n) hh]; done) | (rw [cn_s, vm_r (m := v.1) (r := r) (n := n) hir]; done)
                                              rw [e174]
                                              have e175 : (cn (vm v.1 r n) i) + 0 = cn (vm v.1 r n) (i + 1) := by first | (rw [cn_s, cm_1 (m := v.1) (r := r) (n := n) hm hir]; done) | (rw [cn_s, cm_m (m := v.1) (r := r) (n := n) hm]; done) | (rw [cn_s, cm_r (m := v.1) (r := r) (n := n) hir]; done) | (rw [cn_s, vm_1 (m := v.1) (r := r) (n := n) hm hh hir]; done) | (rw [cn_s, vm_m (m := v.1) (r := r) (n := n) hm]; done) | (rw [cn_s, vm_h (m := v.1) (r := r) (n := n) hh]; done) | (rw [cn_s, vm_r (m := v.1) (r := r) (n := n) hir]; done)
                                              rw [e175]
                                              exact v_fewer 9 rfl (ih (i + 1)  (by omega) )
                                            · replace c173 := (nI_eq (a := 3) (b := 1) (by omega) (by omega)).mp c173
                                              have c173t := eq_true c173
                                              exfalso; omega
                                          · replace c172 := (not_congr (nI_eq (a := 0) (b := 0) (by omega) (by omega))).mp c172
                                            exfalso; omega
                                        · refine v_aload_n hX dL_isLineSo_204 rfl ?_
                                          refine v_iload hX dL_isLineSo_205 rfl ?_
                                          refine v_bipush (x := (7 : Int32)) hX dL_isLineSo_207 (by decide) ?_
                                          refine v_iload_n hX dL_isLineSo_209 rfl ?_
                                          refine v_imul (z := nI (7 * ((n).val))) hX dL_isLineSo_210 (pk_mul 7 ((n).val)) ?_
                                          refine v_iconst (x := (5 : Int32)) hX dL_isLineSo_211 (by decide) ?_
                                          refine v_iadd (z := nI ((7 * ((n).val)) + 5)) hX dL_isLineSo_212 (nI_add (7 * ((n).val)) 5) ?_
                                          refine v_bipush (x := (24 : Int32)) hX dL_isLineSo_213 (by decide) ?_
                                          refine v_irem (z := nI (((7 * ((n).val)) + 5) % 24)) hX dL_isLineSo_215 (by decide) (rem_c ((7 * ((n).val)) + 5) 24 (by omega) (by decide) (by decide)) ?_
                                          refine v_callVi (r := X_counter v (nI (i)) (nI (((7 * ((n).val)) + 5) % 24))) (rest := []) (ws' := wX E b v) hX (fun sz => c_X5_counter l E b sz v (nI (i)) (nI (((7 * ((n).val)) + 5) % 24))) (cwV 2 hX.2.2.2.2.1 gL_isLineSo_X5_counter rfl rfl rfl (by decide +kernel) ⟨Nat.le_of_ble_eq_true rfl, Nat.le_of_ble_eq_true rfl⟩) ([]) ([]) ((List.append_nil _).symm) ((List.append_nil _).symm).symm (wX_fst E b _ _) (ci := 5) (q0 := 0) rfl rfl rfl rfl rfl (Nat.le_of_ble_eq_true rfl) dL_isLineSo_216 ?_
                                          refine v_if_ne (tgt := 226) hX dL_isLineSo_219 (by decide) (fun c176 => ?_) (fun c176 => ?_)
                                          · exact (c176 (cnt_off v hI (by omega) hm hbb (by assumption))).elim
                                          · have c176t := eq_true c176
                                            refine v_iconst (x := (1 : Int32)) hX dL_isLineSo_222 (by decide) ?_
                                            refine v_goto (tgt := 227) hX dL_isLineSo_223 (by decide) ?_
                                            refine v_istore (lv' := [.ref (b 0 0), .int (nI (n).val), .int (nI (r)), .int ((M_holders v.1 n)), .int ((M_mays v.1 n)), .int (nI (cn (cm v.1 r n) i)), .int (nI (cn (vm v.1 r n) i)), .int ((1 : Int32)), .int (nI (i)), .int ((3 : Int32)), .int ((0 : Int32))]) hX dL_isLineSo_227 (Nat.le_of_ble_eq_true rfl) (Nat.le_of_ble_eq_true rfl) rfl rfl ?_
                                            refine v_iload hX dL_isLineSo_229 rfl ?_
                                            refine v_iload hX dL_isLineSo_231 rfl ?_
                                            refine v_if_eq (tgt := 246) hX dL_isLineSo_233 (by decide) (fun c177 => ?_) (fun c177 => ?_)
                                            · replace c177 := (nI_eq (a := 0) (b := 0) (by omega) (by omega)).mp c177
                                              have c177t := eq_true c177
                                              refine v_iconst (x := (0 : Int32)) hX dL_isLineSo_246 (by decide) ?_
                                              refine v_iadd (z := nI ((cn (cm v.1 r n) i) + 0)) hX dL_isLineSo_247 (nI_add (cn (cm v.1 r n) i) 0) ?_
                                              refine v_istore (lv' := [.ref (b 0 0), .int (nI (n).val), .int (nI (r)), .int ((M_holders v.1 n)), .int ((M_mays v.1 n)), .int (nI ((cn (cm v.1 r n) i) + 0)), .int (nI (cn (vm v.1 r n) i)), .int ((1 : Int32)), .int (nI (i)), .int ((3 : Int32)), .int ((0 : Int32))]) hX dL_isLineSo_248 (Nat.le_of_ble_eq_true rfl) (Nat.le_of_ble_eq_true rfl) rfl rfl ?_
                                              refine v_iload hX dL_isLineSo_250 rfl ?_
                                              refine v_iload hX dL_isLineSo_252 rfl ?_
                                              refine v_iconst (x := (1 : Int32)) hX dL_isLineSo_254 (by decide) ?_
                                              refine v_icmp_ne (tgt := 268) hX dL_isLineSo_255 (by decide) (fun c178 => ?_) (fun c178 => ?_)
                                              · replace c178 := (not_congr (nI_eq (a := 3) (b := 1) (by omega) (by omega))).mp c178
                                                refine v_iconst (x := (0 : Int32)) hX dL_isLineSo_268 (by decide) ?_
                                                refine v_iadd (z := nI ((cn (vm v.1 r n) i) + 0)) hX dL_isLineSo_269 (nI_add (cn (vm v.1 r n) i) 0) ?_
                                                refine v_istore (lv' := [.ref (b 0 0), .int (nI (n).val), .int (nI (r)), .int ((M_holders v.1 n)), .int ((M_mays v.1 n)), .int (nI ((cn (cm v.1 r n) i) + 0)), .int (nI ((cn (vm v.1 r n) i) + 0)), .int ((1 : Int32)), .int (nI (i)), .int ((3 : Int32)), .int ((0 : Int32))]) hX dL_isLineSo_270 (Nat.le_of_ble_eq_true rfl) (Nat.le_of_ble_eq_true rfl) rfl rfl ?_
                                                refine v_iinc (y := nI (i + 1)) (lv' := [.ref (b 0 0), .int (nI (n).val), .int (nI (r)), .int ((M_holders v.1 n)), .int ((M_mays v.1 n)), .int (nI ((cn (cm v.1 r n) i) + 0)), .int (nI ((cn (vm v.1 r n) i) + 0)), .int ((1 : Int32)), .int (nI (i + 1)), .int ((3 : Int32)), .int ((0 : Int32))]) hX dL_isLineSo_272 rfl (nI_inc _) (Nat.le_of_ble_eq_true rfl) (Nat.le_of_ble_eq_true rfl) rfl rfl ?_
                                                refine v_goto (tgt := 71) hX dL_isLineSo_275 (by decide) ?_
                                                have e179 : (cn (cm v.1 r n) i) + 0 = cn (cm v.1 r n) (i + 1) := by first | (rw [cn_s, cm_1 (m := v.1) (r := r) (n := n) hm hir]; done) | (rw [cn_s, cm_m (m := v.1) (r := r) (n := n) hm]; done) | (rw [cn_s, cm_r (m := v.1) (r := r) (n := n) hir]; done) | (rw [cn_s, vm_1 (m := v.1) (r := r) (n := n) hm hh hir]; done) | (rw [cn_s, vm_m (m := v.1) (r := r) (n := n) hm]; done) | (rw [cn_s, vm_h (m := v.1) (r := r) (n := n) hh]; done) | (rw [cn_s, vm_r (m := v.1) (r := r) (n := n) hir]; done)
                                                rw [e179]
                                                have e180 : (cn (vm v.1 r n) i) + 0 = cn (vm v.1 r n) (i + 1) := by first | (rw [cn_s, cm_1 (m := v.1) (r := r) (n := n) hm hir]; done) | (rw [cn_s, cm_m (m := v.1) (r := r) (n := n) hm]; done) | (rw [cn_s, cm_r (m := v.1) (r := r) (n := n) hir]; done) | (rw [cn_s, vm_1 (m := v.1) (r := r) (n := n) hm hh hir]; done) | (rw [cn_s, vm_m (m := v.1) (r := r) (n := n) hm]; done) | (rw [cn_s, vm_h (m := v.1) (r := r) (n := n) hh]; done) | (rw [cn_s, vm_r (m := v.1) (r := r) (n := n) hir]; done)
                                                rw [e180]
                                                exact v_fewer 9 rfl (ih (i + 1)  (by omega) )
                                              · replace c178 := (nI_eq (a := 3) (b := 1) (by omega) (by omega)).mp c178
                                                have c178t := eq_true c178
                                                exfalso; omega
                                            · replace c177 := (not_congr (nI_eq (a := 0) (b := 0) (by omega) (by omega))).mp c177
                                              exfalso; omega
                                  · replace c168 := (nI_eq (a := 1) (b := 0) (by omega) (by omega)).mp c168
                                    have c168t := eq_true c168
                                    exfalso; omega
                                · replace c167 := (nI_eq (a := 3) (b := 2) (by omega) (by omega)).mp c167
                                  have c167t := eq_true c167
                                  first | (exfalso; omega) | exact absurd c167 (by decide) | exact absurd (by decide) c167
                            · replace c165 := (nI_eq (a := 0) (b := 1) (by omega) (by omega)).mp c165
                              have c165t := eq_true c165
                              exfalso; omega
                          · replace c164 := (nI_eq (a := 3) (b := 0) (by omega) (by omega)).mp c164
                            have c164t := eq_true c164
                            first | (exfalso; omega) | exact absurd c164 (by decide) | exact absurd (by decide) c164
                      · replace c162 := (not_congr (nI_leI (a := 2) (b := 3) (by omega) (by omega))).mp c162
                        first | (exfalso; omega) | exact absurd c162 (by decide) | exact absurd (by decide) c162
                  · replace c160 := (nI_eq (a := 0) (b := 1) (by omega) (by omega)).mp c160
                    have c160t := eq_true c160
                    first | (exfalso; omega) | exact absurd c160 (by decide) | exact absurd (by decide) c160
                · skip
                  refine v_istore (lv' := [.ref (b 0 0), .int (nI (n).val), .int (nI (r)), .int ((M_holders v.1 n)), .int ((M_mays v.1 n)), .int (nI (cn (cm v.1 r n) i)), .int (nI (cn (vm v.1 r n) i)), .int ((1 : Int32)), .int (nI (i)), .int ((3 : Int32))]) hX dL_isLineSo_84 (Nat.le_of_ble_eq_true rfl) (Nat.le_of_ble_eq_true rfl) rfl rfl ?_
                  refine v_iload hX dL_isLineSo_86 rfl ?_
                  refine v_iload hX dL_isLineSo_88 rfl ?_
                  refine v_ishr (z := ((M_mays v.1 n) >>> (nI (i) &&& 31))) hX dL_isLineSo_90 (rfl) ?_
                  refine v_iconst (x := (1 : Int32)) hX dL_isLineSo_91 (by decide) ?_
                  refine v_iand (z := (((M_mays v.1 n) >>> (nI (i) &&& 31)) &&& (1 : Int32))) hX dL_isLineSo_92 (rfl) ?_
                  rw [may_b0 (m := v.1) (i := i) (n := n) (by omega) hm]
                  refine v_iconst (x := (1 : Int32)) hX dL_isLineSo_93 (by decide) ?_
                  refine v_icmp_ne (tgt := 101) hX dL_isLineSo_94 (by decide) (fun c181 => ?_) (fun c181 => ?_)
                  · replace c181 := (not_congr (nI_eq (a := 0) (b := 1) (by omega) (by omega))).mp c181
                    refine v_iconst (x := (0 : Int32)) hX dL_isLineSo_101 (by decide) ?_
                    refine v_istore (lv' := [.ref (b 0 0), .int (nI (n).val), .int (nI (r)), .int ((M_holders v.1 n)), .int ((M_mays v.1 n)), .int (nI (cn (cm v.1 r n) i)), .int (nI (cn (vm v.1 r n) i)), .int ((1 : Int32)), .int (nI (i)), .int ((3 : Int32)), .int ((0 : Int32))]) hX dL_isLineSo_102 (Nat.le_of_ble_eq_true rfl) (Nat.le_of_ble_eq_true rfl) rfl rfl ?_
                    refine v_iload hX dL_isLineSo_104 rfl ?_
                    refine v_if_eq (tgt := 226) hX dL_isLineSo_106 (by decide) (fun c182 => ?_) (fun c182 => ?_)
                    · replace c182 := (nI_eq (a := 1) (b := 0) (by omega) (by omega)).mp c182
                      have c182t := eq_true c182
                      first | (exfalso; omega) | exact absurd c182 (by decide) | exact absurd (by decide) c182
                    · replace c182 := (not_congr (nI_eq (a := 1) (b := 0) (by omega) (by omega))).mp c182
                      refine v_iload hX dL_isLineSo_109 rfl ?_
                      refine v_iconst (x := (2 : Int32)) hX dL_isLineSo_111 (by decide) ?_
                      refine v_icmp_ge (tgt := 119) hX dL_isLineSo_112 (by decide) (fun c183 => ?_) (fun c183 => ?_)
                      · replace c183 := (nI_leI (a := 2) (b := 3) (by omega) (by omega)).mp c183
                        refine v_iconst (x := (0 : Int32)) hX dL_isLineSo_119 (by decide) ?_
                        refine v_iload hX dL_isLineSo_120 rfl ?_
                        refine v_icmp_ne (tgt := 226) hX dL_isLineSo_122 (by decide) (fun c184 => ?_) (fun c184 => ?_)
                        · replace c184 := (not_congr (nI_eq (a := 0) (b := 0) (by omega) (by omega))).mp c184
                          first | (exfalso; omega) | exact absurd c184 (by decide) | exact absurd (by decide) c184
                        · replace c184 := (nI_eq (a := 0) (b := 0) (by omega) (by omega)).mp c184
                          have c184t := eq_true c184
                          refine v_iload hX dL_isLineSo_125 rfl ?_
                          refine v_if_ne (tgt := 134) hX dL_isLineSo_127 (by decide) (fun c185 => ?_) (fun c185 => ?_)
                          · replace c185 := (not_congr (nI_eq (a := 3) (b := 0) (by omega) (by omega))).mp c185
                            refine v_iconst (x := (0 : Int32)) hX dL_isLineSo_134 (by decide) ?_
                            refine v_iload_n hX dL_isLineSo_135 rfl ?_
                            refine v_iload hX dL_isLineSo_136 rfl ?_
                            refine v_ishr (z := ((M_holders v.1 n) >>> (nI (i) &&& 31))) hX dL_isLineSo_138 (rfl) ?_
                            refine v_iconst (x := (1 : Int32)) hX dL_isLineSo_139 (by decide) ?_
                            refine v_iand (z := (((M_holders v.1 n) >>> (nI (i) &&& 31)) &&& (1 : Int32))) hX dL_isLineSo_140 (rfl) ?_
                            rw [hold_b0 (m := v.1) (i := i) (n := n) (by omega) hh]
                            refine v_iconst (x := (1 : Int32)) hX dL_isLineSo_141 (by decide) ?_
                            refine v_icmp_ne (tgt := 149) hX dL_isLineSo_142 (by decide) (fun c186 => ?_) (fun c186 => ?_)
                            · replace c186 := (not_congr (nI_eq (a := 0) (b := 1) (by omega) (by omega))).mp c186
                              refine v_iconst (x := (0 : Int32)) hX dL_isLineSo_149 (by decide) ?_
                              refine v_icmp_ne (tgt := 226) hX dL_isLineSo_150 (by decide) (fun c187 => ?_) (fun c187 => ?_)
                              · replace c187 := (not_congr (nI_eq (a := 0) (b := 0) (by omega) (by omega))).mp c187
                                exfalso; omega
                              · replace c187 := (nI_eq (a := 0) (b := 0) (by omega) (by omega)).mp c187
                                have c187t := eq_true c187
                                refine v_iload hX dL_isLineSo_153 rfl ?_
                                refine v_iconst (x := (2 : Int32)) hX dL_isLineSo_155 (by decide) ?_
                                refine v_icmp_ne (tgt := 163) hX dL_isLineSo_156 (by decide) (fun c188 => ?_) (fun c188 => ?_)
                                · replace c188 := (not_congr (nI_eq (a := 3) (b := 2) (by omega) (by omega))).mp c188
                                  refine v_iconst (x := (0 : Int32)) hX dL_isLineSo_163 (by decide) ?_
                                  refine v_aload_n hX dL_isLineSo_164 rfl ?_
                                  refine v_iload hX dL_isLineSo_165 rfl ?_
                                  refine v_iload_n hX dL_isLineSo_167 rfl ?_
                                  refine v_bipush (x := (16 : Int32)) hX dL_isLineSo_168 (by decide) ?_
                                  refine v_idiv (z := nI (((n).val) / 16)) hX dL_isLineSo_170 (by decide) (div_c ((n).val) 16 (by omega) (by decide) (by decide)) ?_
                                  refine v_callVi (r := X_bit v (nI (i)) (nI (((n).val) / 16))) (rest := [.int ((0 : Int32))]) (ws' := wX E b v) hX (fun sz => c_X5_bit l E b sz v (nI (i)) (nI (((n).val) / 16))) (cwV 2 hX.2.2.2.2.1 gL_isLineSo_X5_bit rfl rfl rfl (by decide +kernel) ⟨Nat.le_of_ble_eq_true rfl, Nat.le_of_ble_eq_true rfl⟩) ([]) ([]) ((List.append_nil _).symm) ((List.append_nil _).symm).symm (wX_fst E b _ _) (ci := 5) (q0 := 0) rfl rfl rfl rfl rfl (Nat.le_of_ble_eq_true rfl) dL_isLineSo_171 ?_
                                  rw [bit_1 v (i := i) (n := n) (by omega) hbb]
                                  refine v_if_ne (tgt := 181) hX dL_isLineSo_174 (by decide) (fun c189 => ?_) (fun c189 => ?_)
                                  · replace c189 := (not_congr (nI_eq (a := 1) (b := 0) (by omega) (by omega))).mp c189
                                    refine v_iconst (x := (0 : Int32)) hX dL_isLineSo_181 (by decide) ?_
                                    refine v_icmp_ne (tgt := 226) hX dL_isLineSo_182 (by decide) (fun c190 => ?_) (fun c190 => ?_)
                                    · replace c190 := (not_congr (nI_eq (a := 0) (b := 0) (by omega) (by omega))).mp c190
                                      exfalso; omega
                                    · replace c190 := (nI_eq (a := 0) (b := 0) (by omega) (by omega)).mp c190
                                      have c190t := eq_true c190
                                      refine v_iload hX dL_isLineSo_185 rfl ?_
                                      refine v_iconst (x := (3 : Int32)) hX dL_isLineSo_187 (by decide) ?_
                                      refine v_icmp_ne (tgt := 222) hX dL_isLineSo_188 (by decide) (fun c191 => ?_) (fun c191 => ?_)
                                      · replace c191 := (not_congr (nI_eq (a := 3) (b := 3) (by omega) (by omega))).mp c191
                                        first | (exfalso; omega) | exact absurd c191 (by decide) | exact absurd (by decide) c191
                                      · replace c191 := (nI_eq (a := 3) (b := 3) (by omega) (by omega)).mp c191
                                        have c191t := eq_true c191
                                        refine v_aload_n hX dL_isLineSo_191 rfl ?_
                                        refine v_iload hX dL_isLineSo_192 rfl ?_
                                        refine v_iload_n hX dL_isLineSo_194 rfl ?_
                                        refine v_bipush (x := (24 : Int32)) hX dL_isLineSo_195 (by decide) ?_
                                        refine v_irem (z := nI (((n).val) % 24)) hX dL_isLineSo_197 (by decide) (rem_c ((n).val) 24 (by omega) (by decide) (by decide)) ?_
                                        refine v_callVi (r := X_counter v (nI (i)) (nI (((n).val) % 24))) (rest := []) (ws' := wX E b v) hX (fun sz => c_X5_counter l E b sz v (nI (i)) (nI (((n).val) % 24))) (cwV 2 hX.2.2.2.2.1 gL_isLineSo_X5_counter rfl rfl rfl (by decide +kernel) ⟨Nat.le_of_ble_eq_true rfl, Nat.le_of_ble_eq_true rfl⟩) ([]) ([]) ((List.append_nil _).symm) ((List.append_nil _).symm).symm (wX_fst E b _ _) (ci := 5) (q0 := 0) rfl rfl rfl rfl rfl (Nat.le_of_ble_eq_true rfl) dL_isLineSo_198 ?_
                                        refine v_if_eq (tgt := 222) hX dL_isLineSo_201 (by decide) (fun c192 => ?_) (fun c192 => ?_)
                                        · have c192t := eq_true c192
                                          refine v_iconst (x := (1 : Int32)) hX dL_isLineSo_222 (by decide) ?_
                                          refine v_goto (tgt := 227) hX dL_isLineSo_223 (by decide) ?_
                                          refine v_istore (lv' := [.ref (b 0 0), .int (nI (n).val), .int (nI (r)), .int ((M_holders v.1 n)), .int ((M_mays v.1 n)), .int (nI (cn (cm v.1 r n) i)), .int (nI (cn (vm v.1 r n) i)), .int ((1 : Int32)), .int (nI (i)), .int ((3 : Int32)), .int ((0 : Int32))]) hX dL_isLineSo_227 (Nat.le_of_ble_eq_true rfl) (Nat.le_of_ble_eq_true rfl) rfl rfl ?_
                                          refine v_iload hX dL_isLineSo_229 rfl ?_
                                          refine v_iload hX dL_isLineSo_231 rfl ?_
                                          refine v_if_eq (tgt := 246) hX dL_isLineSo_233 (by decide) (fun c193 => ?_) (fun c193 => ?_)
                                          · replace c193 := (nI_eq (a := 0) (b := 0) (by omega) (by omega)).mp c193
                                            have c193t := eq_true c193
                                            refine v_iconst (x := (0 : Int32)) hX dL_isLineSo_246 (by decide) ?_
                                            refine v_iadd (z := nI ((cn (cm v.1 r n) i) + 0)) hX dL_isLineSo_247 (nI_add (cn (cm v.1 r n) i) 0) ?_
                                            refine v_istore (lv' := [.ref (b 0 0), .int (nI (n).val), .int (nI (r)), .int ((M_holders v.1 n)), .int ((M_mays v.1 n)), .int (nI ((cn (cm v.1 r n) i) + 0)), .int (nI (cn (vm v.1 r n) i)), .int ((1 : Int32)), .int (nI (i)), .int ((3 : Int32)), .int ((0 : Int32))]) hX dL_isLineSo_248 (Nat.le_of_ble_eq_true rfl) (Nat.le_of_ble_eq_true rfl) rfl rfl ?_
                                            refine v_iload hX dL_isLineSo_250 rfl ?_
                                            refine v_iload hX dL_isLineSo_252 rfl ?_
                                            refine v_iconst (x := (1 : Int32)) hX dL_isLineSo_254 (by decide) ?_
                                            refine v_icmp_ne (tgt := 268) hX dL_isLineSo_255 (by decide) (fun c194 => ?_) (fun c194 => ?_)
                                            · replace c194 := (not_congr (nI_eq (a := 3) (b := 1) (by omega) (by omega))).mp c194
                                              refine v_iconst (x := (0 : Int32)) hX dL_isLineSo_268 (by decide) ?_
                                              refine v_iadd (z := nI ((cn (vm v.1 r n) i) + 0)) hX dL_isLineSo_269 (nI_add (cn (vm v.1 r n) i) 0) ?_
                                              refine v_istore (lv' := [.ref (b 0 0), .int (nI (n).val), .int (nI (r)), .int ((M_holders v.1 n)), .int ((M_mays v.1 n)), .int (nI ((cn (cm v.1 r n) i) + 0)), .int (nI ((cn (vm v.1 r n) i) + 0)), .int ((1 : Int32)), .int (nI (i)), .int ((3 : Int32)), .int ((0 : Int32))]) hX dL_isLineSo_270 (Nat.le_of_ble_eq_true rfl) (Nat.le_of_ble_eq_true rfl) rfl rfl ?_
                                              refine v_iinc (y := nI (i + 1)) (lv' := [.ref (b 0 0), .int (nI (n).val), .int (nI (r)), .int ((M_holders v.1 n)), .int ((M_mays v.1 n)), .int (nI ((cn (cm v.1 r n) i) + 0)), .int (nI ((cn (vm v.1 r n) i) + 0)), .int ((1 : Int32)), .int (nI (i + 1)), .int ((3 : Int32)), .int ((0 : Int32))]) hX dL_isLineSo_272 rfl (nI_inc _) (Nat.le_of_ble_eq_true rfl) (Nat.le_of_ble_eq_true rfl) rfl rfl ?_
                                              refine v_goto (tgt := 71) hX dL_isLineSo_275 (by decide) ?_
                                              have e195 : (cn (cm v.1 r n) i) + 0 = cn (cm v.1 r n) (i + 1) := by first | (rw [cn_s, cm_1 (m := v.1) (r := r) (n := n) hm hir]; done) | (rw [cn_s, cm_m (m := v.1) (r := r) (n := n) hm]; done) | (rw [cn_s, cm_r (m := v.1) (r := r) (n := n) hir]; done) | (rw [cn_s, vm_1 (m := v.1) (r := r) (n := n) hm hh hir]; done) | (rw [cn_s, vm_m (m := v.1) (r := r) (n := n) hm]; done) | (rw [cn_s, vm_h (m := v.1) (r := r) (n := n) hh]; done) | (rw [cn_s, vm_r (m := v.1) (r := r) (n := n) hir]; done)
                                              rw [e195]
                                              have e196 : (cn (vm v.1 r n) i) + 0 = cn (vm v.1 r n) (i + 1) := by first | (rw [cn_s, cm_1 (m := v.1) (r := r) (n := n) hm hir]; done) | (rw [cn_s, cm_m (m := v.1) (r := r) (n := n) hm]; done) | (rw [cn_s, cm_r (m := v.1) (r := r) (n := n) hir]; done) | (rw [cn_s, vm_1 (m := v.1) (r := r) (n := n) hm hh hir]; done) | (rw [cn_s, vm_m (m := v.1) (r := r) (n := n) hm]; done) | (rw [cn_s, vm_h (m := v.1) (r := r) (n := n) hh]; done) | (rw [cn_s, vm_r (m := v.1) (r := r) (n := n) hir]; done)
                                              rw [e196]
                                              exact v_fewer 9 rfl (ih (i + 1)  (by omega) )
                                            · replace c194 := (nI_eq (a := 3) (b := 1) (by omega) (by omega)).mp c194
                                              have c194t := eq_true c194
                                              exfalso; omega
                                          · replace c193 := (not_congr (nI_eq (a := 0) (b := 0) (by omega) (by omega))).mp c193
                                            exfalso; omega
                                        · refine v_aload_n hX dL_isLineSo_204 rfl ?_
                                          refine v_iload hX dL_isLineSo_205 rfl ?_
                                          refine v_bipush (x := (7 : Int32)) hX dL_isLineSo_207 (by decide) ?_
                                          refine v_iload_n hX dL_isLineSo_209 rfl ?_
                                          refine v_imul (z := nI (7 * ((n).val))) hX dL_isLineSo_210 (pk_mul 7 ((n).val)) ?_
                                          refine v_iconst (x := (5 : Int32)) hX dL_isLineSo_211 (by decide) ?_
                                          refine v_iadd (z := nI ((7 * ((n).val)) + 5)) hX dL_isLineSo_212 (nI_add (7 * ((n).val)) 5) ?_
                                          refine v_bipush (x := (24 : Int32)) hX dL_isLineSo_213 (by decide) ?_
                                          refine v_irem (z := nI (((7 * ((n).val)) + 5) % 24)) hX dL_isLineSo_215 (by decide) (rem_c ((7 * ((n).val)) + 5) 24 (by omega) (by decide) (by decide)) ?_
                                          refine v_callVi (r := X_counter v (nI (i)) (nI (((7 * ((n).val)) + 5) % 24))) (rest := []) (ws' := wX E b v) hX (fun sz => c_X5_counter l E b sz v (nI (i)) (nI (((7 * ((n).val)) + 5) % 24))) (cwV 2 hX.2.2.2.2.1 gL_isLineSo_X5_counter rfl rfl rfl (by decide +kernel) ⟨Nat.le_of_ble_eq_true rfl, Nat.le_of_ble_eq_true rfl⟩) ([]) ([]) ((List.append_nil _).symm) ((List.append_nil _).symm).symm (wX_fst E b _ _) (ci := 5) (q0 := 0) rfl rfl rfl rfl rfl (Nat.le_of_ble_eq_true rfl) dL_isLineSo_216 ?_
                                          refine v_if_ne (tgt := 226) hX dL_isLineSo_219 (by decide) (fun c197 => ?_) (fun c197 => ?_)
                                          · exact (c197 (cnt_off v hI (by omega) hm hbb (by assumption))).elim
                                          · have c197t := eq_true c197
                                            refine v_iconst (x := (1 : Int32)) hX dL_isLineSo_222 (by decide) ?_
                                            refine v_goto (tgt := 227) hX dL_isLineSo_223 (by decide) ?_
                                            refine v_istore (lv' := [.ref (b 0 0), .int (nI (n).val), .int (nI (r)), .int ((M_holders v.1 n)), .int ((M_mays v.1 n)), .int (nI (cn (cm v.1 r n) i)), .int (nI (cn (vm v.1 r n) i)), .int ((1 : Int32)), .int (nI (i)), .int ((3 : Int32)), .int ((0 : Int32))]) hX dL_isLineSo_227 (Nat.le_of_ble_eq_true rfl) (Nat.le_of_ble_eq_true rfl) rfl rfl ?_
                                            refine v_iload hX dL_isLineSo_229 rfl ?_
                                            refine v_iload hX dL_isLineSo_231 rfl ?_
                                            refine v_if_eq (tgt := 246) hX dL_isLineSo_233 (by decide) (fun c198 => ?_) (fun c198 => ?_)
                                            · replace c198 := (nI_eq (a := 0) (b := 0) (by omega) (by omega)).mp c198
                                              have c198t := eq_true c198
                                              refine v_iconst (x := (0 : Int32)) hX dL_isLineSo_246 (by decide) ?_
                                              refine v_iadd (z := nI ((cn (cm v.1 r n) i) + 0)) hX dL_isLineSo_247 (nI_add (cn (cm v.1 r n) i) 0) ?_
                                              refine v_istore (lv' := [.ref (b 0 0), .int (nI (n).val), .int (nI (r)), .int ((M_holders v.1 n)), .int ((M_mays v.1 n)), .int (nI ((cn (cm v.1 r n) i) + 0)), .int (nI (cn (vm v.1 r n) i)), .int ((1 : Int32)), .int (nI (i)), .int ((3 : Int32)), .int ((0 : Int32))]) hX dL_isLineSo_248 (Nat.le_of_ble_eq_true rfl) (Nat.le_of_ble_eq_true rfl) rfl rfl ?_
                                              refine v_iload hX dL_isLineSo_250 rfl ?_
                                              refine v_iload hX dL_isLineSo_252 rfl ?_
                                              refine v_iconst (x := (1 : Int32)) hX dL_isLineSo_254 (by decide) ?_
                                              refine v_icmp_ne (tgt := 268) hX dL_isLineSo_255 (by decide) (fun c199 => ?_) (fun c199 => ?_)
                                              · replace c199 := (not_congr (nI_eq (a := 3) (b := 1) (by omega) (by omega))).mp c199
                                                refine v_iconst (x := (0 : Int32)) hX dL_isLineSo_268 (by decide) ?_
                                                refine v_iadd (z := nI ((cn (vm v.1 r n) i) + 0)) hX dL_isLineSo_269 (nI_add (cn (vm v.1 r n) i) 0) ?_
                                                refine v_istore (lv' := [.ref (b 0 0), .int (nI (n).val), .int (nI (r)), .int ((M_holders v.1 n)), .int ((M_mays v.1 n)), .int (nI ((cn (cm v.1 r n) i) + 0)), .int (nI ((cn (vm v.1 r n) i) + 0)), .int ((1 : Int32)), .int (nI (i)), .int ((3 : Int32)), .int ((0 : Int32))]) hX dL_isLineSo_270 (Nat.le_of_ble_eq_true rfl) (Nat.le_of_ble_eq_true rfl) rfl rfl ?_
                                                refine v_iinc (y := nI (i + 1)) (lv' := [.ref (b 0 0), .int (nI (n).val), .int (nI (r)), .int ((M_holders v.1 n)), .int ((M_mays v.1 n)), .int (nI ((cn (cm v.1 r n) i) + 0)), .int (nI ((cn (vm v.1 r n) i) + 0)), .int ((1 : Int32)), .int (nI (i + 1)), .int ((3 : Int32)), .int ((0 : Int32))]) hX dL_isLineSo_272 rfl (nI_inc _) (Nat.le_of_ble_eq_true rfl) (Nat.le_of_ble_eq_true rfl) rfl rfl ?_
                                                refine v_goto (tgt := 71) hX dL_isLineSo_275 (by decide) ?_
                                                have e200 : (cn (cm v.1 r n) i) + 0 = cn (cm v.1 r n) (i + 1) := by first | (rw [cn_s, cm_1 (m := v.1) (r := r) (n := n) hm hir]; done) | (rw [cn_s, cm_m (m := v.1) (r := r) (n := n) hm]; done) | (rw [cn_s, cm_r (m := v.1) (r := r) (n := n) hir]; done) | (rw [cn_s, vm_1 (m := v.1) (r := r) (n := n) hm hh hir]; done) | (rw [cn_s, vm_m (m := v.1) (r := r) (n := n) hm]; done) | (rw [cn_s, vm_h (m := v.1) (r := r) (n := n) hh]; done) | (rw [cn_s, vm_r (m := v.1) (r := r) (n := n) hir]; done)
                                                rw [e200]
                                                have e201 : (cn (vm v.1 r n) i) + 0 = cn (vm v.1 r n) (i + 1) := by first | (rw [cn_s, cm_1 (m := v.1) (r := r) (n := n) hm hir]; done) | (rw [cn_s, cm_m (m := v.1) (r := r) (n := n) hm]; done) | (rw [cn_s, cm_r (m := v.1) (r := r) (n := n) hir]; done) | (rw [cn_s, vm_1 (m := v.1) (r := r) (n := n) hm hh hir]; done) | (rw [cn_s, vm_m (m := v.1) (r := r) (n := n) hm]; done) | (rw [cn_s, vm_h (m := v.1) (r := r) (n := n) hh]; done) | (rw [cn_s, vm_r (m := v.1) (r := r) (n := n) hir]; done)
                                                rw [e201]
                                                exact v_fewer 9 rfl (ih (i + 1)  (by omega) )
                                              · replace c199 := (nI_eq (a := 3) (b := 1) (by omega) (by omega)).mp c199
                                                have c199t := eq_true c199
                                                exfalso; omega
                                            · replace c198 := (not_congr (nI_eq (a := 0) (b := 0) (by omega) (by omega))).mp c198
                                              exfalso; omega
                                  · replace c189 := (nI_eq (a := 1) (b := 0) (by omega) (by omega)).mp c189
                                    have c189t := eq_true c189
                                    exfalso; omega
                                · replace c188 := (nI_eq (a := 3) (b := 2) (by omega) (by omega)).mp c188
                                  have c188t := eq_true c188
                                  first | (exfalso; omega) | exact absurd c188 (by decide) | exact absurd (by decide) c188
                            · replace c186 := (nI_eq (a := 0) (b := 1) (by omega) (by omega)).mp c186
                              have c186t := eq_true c186
                              exfalso; omega
                          · replace c185 := (nI_eq (a := 3) (b := 0) (by omega) (by omega)).mp c185
                            have c185t := eq_true c185
                            first | (exfalso; omega) | exact absurd c185 (by decide) | exact absurd (by decide) c185
                      · replace c183 := (not_congr (nI_leI (a := 2) (b := 3) (by omega) (by omega))).mp c183
                        first | (exfalso; omega) | exact absurd c183 (by decide) | exact absurd (by decide) c183
                  · replace c181 := (nI_eq (a := 0) (b := 1) (by omega) (by omega)).mp c181
                    have c181t := eq_true c181
                    first | (exfalso; omega) | exact absurd c181 (by decide) | exact absurd (by decide) c181
              · rw [reason_2 v (by omega) hh hm hbb]
                by_cases hir : i = r
                · skip
                  refine v_istore (lv' := [.ref (b 0 0), .int (nI (n).val), .int (nI (r)), .int ((M_holders v.1 n)), .int ((M_mays v.1 n)), .int (nI (cn (cm v.1 r n) i)), .int (nI (cn (vm v.1 r n) i)), .int ((1 : Int32)), .int (nI (i)), .int ((2 : Int32))]) hX dL_isLineSo_84 (Nat.le_of_ble_eq_true rfl) (Nat.le_of_ble_eq_true rfl) rfl rfl ?_
                  refine v_iload hX dL_isLineSo_86 rfl ?_
                  refine v_iload hX dL_isLineSo_88 rfl ?_
                  refine v_ishr (z := ((M_mays v.1 n) >>> (nI (i) &&& 31))) hX dL_isLineSo_90 (rfl) ?_
                  refine v_iconst (x := (1 : Int32)) hX dL_isLineSo_91 (by decide) ?_
                  refine v_iand (z := (((M_mays v.1 n) >>> (nI (i) &&& 31)) &&& (1 : Int32))) hX dL_isLineSo_92 (rfl) ?_
                  rw [may_b0 (m := v.1) (i := i) (n := n) (by omega) hm]
                  refine v_iconst (x := (1 : Int32)) hX dL_isLineSo_93 (by decide) ?_
                  refine v_icmp_ne (tgt := 101) hX dL_isLineSo_94 (by decide) (fun c202 => ?_) (fun c202 => ?_)
                  · replace c202 := (not_congr (nI_eq (a := 0) (b := 1) (by omega) (by omega))).mp c202
                    refine v_iconst (x := (0 : Int32)) hX dL_isLineSo_101 (by decide) ?_
                    refine v_istore (lv' := [.ref (b 0 0), .int (nI (n).val), .int (nI (r)), .int ((M_holders v.1 n)), .int ((M_mays v.1 n)), .int (nI (cn (cm v.1 r n) i)), .int (nI (cn (vm v.1 r n) i)), .int ((1 : Int32)), .int (nI (i)), .int ((2 : Int32)), .int ((0 : Int32))]) hX dL_isLineSo_102 (Nat.le_of_ble_eq_true rfl) (Nat.le_of_ble_eq_true rfl) rfl rfl ?_
                    refine v_iload hX dL_isLineSo_104 rfl ?_
                    refine v_if_eq (tgt := 226) hX dL_isLineSo_106 (by decide) (fun c203 => ?_) (fun c203 => ?_)
                    · replace c203 := (nI_eq (a := 1) (b := 0) (by omega) (by omega)).mp c203
                      have c203t := eq_true c203
                      first | (exfalso; omega) | exact absurd c203 (by decide) | exact absurd (by decide) c203
                    · replace c203 := (not_congr (nI_eq (a := 1) (b := 0) (by omega) (by omega))).mp c203
                      refine v_iload hX dL_isLineSo_109 rfl ?_
                      refine v_iconst (x := (2 : Int32)) hX dL_isLineSo_111 (by decide) ?_
                      refine v_icmp_ge (tgt := 119) hX dL_isLineSo_112 (by decide) (fun c204 => ?_) (fun c204 => ?_)
                      · replace c204 := (nI_leI (a := 2) (b := 2) (by omega) (by omega)).mp c204
                        refine v_iconst (x := (0 : Int32)) hX dL_isLineSo_119 (by decide) ?_
                        refine v_iload hX dL_isLineSo_120 rfl ?_
                        refine v_icmp_ne (tgt := 226) hX dL_isLineSo_122 (by decide) (fun c205 => ?_) (fun c205 => ?_)
                        · replace c205 := (not_congr (nI_eq (a := 0) (b := 0) (by omega) (by omega))).mp c205
                          first | (exfalso; omega) | exact absurd c205 (by decide) | exact absurd (by decide) c205
                        · replace c205 := (nI_eq (a := 0) (b := 0) (by omega) (by omega)).mp c205
                          have c205t := eq_true c205
                          refine v_iload hX dL_isLineSo_125 rfl ?_
                          refine v_if_ne (tgt := 134) hX dL_isLineSo_127 (by decide) (fun c206 => ?_) (fun c206 => ?_)
                          · replace c206 := (not_congr (nI_eq (a := 2) (b := 0) (by omega) (by omega))).mp c206
                            refine v_iconst (x := (0 : Int32)) hX dL_isLineSo_134 (by decide) ?_
                            refine v_iload_n hX dL_isLineSo_135 rfl ?_
                            refine v_iload hX dL_isLineSo_136 rfl ?_
                            refine v_ishr (z := ((M_holders v.1 n) >>> (nI (i) &&& 31))) hX dL_isLineSo_138 (rfl) ?_
                            refine v_iconst (x := (1 : Int32)) hX dL_isLineSo_139 (by decide) ?_
                            refine v_iand (z := (((M_holders v.1 n) >>> (nI (i) &&& 31)) &&& (1 : Int32))) hX dL_isLineSo_140 (rfl) ?_
                            rw [hold_b0 (m := v.1) (i := i) (n := n) (by omega) hh]
                            refine v_iconst (x := (1 : Int32)) hX dL_isLineSo_141 (by decide) ?_
                            refine v_icmp_ne (tgt := 149) hX dL_isLineSo_142 (by decide) (fun c207 => ?_) (fun c207 => ?_)
                            · replace c207 := (not_congr (nI_eq (a := 0) (b := 1) (by omega) (by omega))).mp c207
                              refine v_iconst (x := (0 : Int32)) hX dL_isLineSo_149 (by decide) ?_
                              refine v_icmp_ne (tgt := 226) hX dL_isLineSo_150 (by decide) (fun c208 => ?_) (fun c208 => ?_)
                              · replace c208 := (not_congr (nI_eq (a := 0) (b := 0) (by omega) (by omega))).mp c208
                                exfalso; omega
                              · replace c208 := (nI_eq (a := 0) (b := 0) (by omega) (by omega)).mp c208
                                have c208t := eq_true c208
                                refine v_iload hX dL_isLineSo_153 rfl ?_
                                refine v_iconst (x := (2 : Int32)) hX dL_isLineSo_155 (by decide) ?_
                                refine v_icmp_ne (tgt := 163) hX dL_isLineSo_156 (by decide) (fun c209 => ?_) (fun c209 => ?_)
                                · replace c209 := (not_congr (nI_eq (a := 2) (b := 2) (by omega) (by omega))).mp c209
                                  first | (exfalso; omega) | exact absurd c209 (by decide) | exact absurd (by decide) c209
                                · replace c209 := (nI_eq (a := 2) (b := 2) (by omega) (by omega)).mp c209
                                  have c209t := eq_true c209
                                  refine v_iconst (x := (1 : Int32)) hX dL_isLineSo_159 (by decide) ?_
                                  refine v_goto (tgt := 164) hX dL_isLineSo_160 (by decide) ?_
                                  refine v_aload_n hX dL_isLineSo_164 rfl ?_
                                  refine v_iload hX dL_isLineSo_165 rfl ?_
                                  refine v_iload_n hX dL_isLineSo_167 rfl ?_
                                  refine v_bipush (x := (16 : Int32)) hX dL_isLineSo_168 (by decide) ?_
                                  refine v_idiv (z := nI (((n).val) / 16)) hX dL_isLineSo_170 (by decide) (div_c ((n).val) 16 (by omega) (by decide) (by decide)) ?_
                                  refine v_callVi (r := X_bit v (nI (i)) (nI (((n).val) / 16))) (rest := [.int ((1 : Int32))]) (ws' := wX E b v) hX (fun sz => c_X5_bit l E b sz v (nI (i)) (nI (((n).val) / 16))) (cwV 2 hX.2.2.2.2.1 gL_isLineSo_X5_bit rfl rfl rfl (by decide +kernel) ⟨Nat.le_of_ble_eq_true rfl, Nat.le_of_ble_eq_true rfl⟩) ([]) ([]) ((List.append_nil _).symm) ((List.append_nil _).symm).symm (wX_fst E b _ _) (ci := 5) (q0 := 0) rfl rfl rfl rfl rfl (Nat.le_of_ble_eq_true rfl) dL_isLineSo_171 ?_
                                  rw [bit_0 v (i := i) (n := n) (by omega) hbb]
                                  refine v_if_ne (tgt := 181) hX dL_isLineSo_174 (by decide) (fun c210 => ?_) (fun c210 => ?_)
                                  · replace c210 := (not_congr (nI_eq (a := 0) (b := 0) (by omega) (by omega))).mp c210
                                    exfalso; omega
                                  · replace c210 := (nI_eq (a := 0) (b := 0) (by omega) (by omega)).mp c210
                                    have c210t := eq_true c210
                                    refine v_iconst (x := (1 : Int32)) hX dL_isLineSo_177 (by decide) ?_
                                    refine v_goto (tgt := 182) hX dL_isLineSo_178 (by decide) ?_
                                    refine v_icmp_ne (tgt := 226) hX dL_isLineSo_182 (by decide) (fun c211 => ?_) (fun c211 => ?_)
                                    · replace c211 := (not_congr (nI_eq (a := 1) (b := 1) (by omega) (by omega))).mp c211
                                      first | (exfalso; omega) | exact absurd c211 (by decide) | exact absurd (by decide) c211
                                    · replace c211 := (nI_eq (a := 1) (b := 1) (by omega) (by omega)).mp c211
                                      have c211t := eq_true c211
                                      refine v_iload hX dL_isLineSo_185 rfl ?_
                                      refine v_iconst (x := (3 : Int32)) hX dL_isLineSo_187 (by decide) ?_
                                      refine v_icmp_ne (tgt := 222) hX dL_isLineSo_188 (by decide) (fun c212 => ?_) (fun c212 => ?_)
                                      · replace c212 := (not_congr (nI_eq (a := 2) (b := 3) (by omega) (by omega))).mp c212
                                        refine v_iconst (x := (1 : Int32)) hX dL_isLineSo_222 (by decide) ?_
                                        refine v_goto (tgt := 227) hX dL_isLineSo_223 (by decide) ?_
                                        refine v_istore (lv' := [.ref (b 0 0), .int (nI (n).val), .int (nI (r)), .int ((M_holders v.1 n)), .int ((M_mays v.1 n)), .int (nI (cn (cm v.1 r n) i)), .int (nI (cn (vm v.1 r n) i)), .int ((1 : Int32)), .int (nI (i)), .int ((2 : Int32)), .int ((0 : Int32))]) hX dL_isLineSo_227 (Nat.le_of_ble_eq_true rfl) (Nat.le_of_ble_eq_true rfl) rfl rfl ?_
                                        refine v_iload hX dL_isLineSo_229 rfl ?_
                                        refine v_iload hX dL_isLineSo_231 rfl ?_
                                        refine v_if_eq (tgt := 246) hX dL_isLineSo_233 (by decide) (fun c213 => ?_) (fun c213 => ?_)
                                        · replace c213 := (nI_eq (a := 0) (b := 0) (by omega) (by omega)).mp c213
                                          have c213t := eq_true c213
                                          refine v_iconst (x := (0 : Int32)) hX dL_isLineSo_246 (by decide) ?_
                                          refine v_iadd (z := nI ((cn (cm v.1 r n) i) + 0)) hX dL_isLineSo_247 (nI_add (cn (cm v.1 r n) i) 0) ?_
                                          refine v_istore (lv' := [.ref (b 0 0), .int (nI (n).val), .int (nI (r)), .int ((M_holders v.1 n)), .int ((M_mays v.1 n)), .int (nI ((cn (cm v.1 r n) i) + 0)), .int (nI (cn (vm v.1 r n) i)), .int ((1 : Int32)), .int (nI (i)), .int ((2 : Int32)), .int ((0 : Int32))]) hX dL_isLineSo_248 (Nat.le_of_ble_eq_true rfl) (Nat.le_of_ble_eq_true rfl) rfl rfl ?_
                                          refine v_iload hX dL_isLineSo_250 rfl ?_
                                          refine v_iload hX dL_isLineSo_252 rfl ?_
                                          refine v_iconst (x := (1 : Int32)) hX dL_isLineSo_254 (by decide) ?_
                                          refine v_icmp_ne (tgt := 268) hX dL_isLineSo_255 (by decide) (fun c214 => ?_) (fun c214 => ?_)
                                          · replace c214 := (not_congr (nI_eq (a := 2) (b := 1) (by omega) (by omega))).mp c214
                                            refine v_iconst (x := (0 : Int32)) hX dL_isLineSo_268 (by decide) ?_
                                            refine v_iadd (z := nI ((cn (vm v.1 r n) i) + 0)) hX dL_isLineSo_269 (nI_add (cn (vm v.1 r n) i) 0) ?_
                                            refine v_istore (lv' := [.ref (b 0 0), .int (nI (n).val), .int (nI (r)), .int ((M_holders v.1 n)), .int ((M_mays v.1 n)), .int (nI ((cn (cm v.1 r n) i) + 0)), .int (nI ((cn (vm v.1 r n) i) + 0)), .int ((1 : Int32)), .int (nI (i)), .int ((2 : Int32)), .int ((0 : Int32))]) hX dL_isLineSo_270 (Nat.le_of_ble_eq_true rfl) (Nat.le_of_ble_eq_true rfl) rfl rfl ?_
                                            refine v_iinc (y := nI (i + 1)) (lv' := [.ref (b 0 0), .int (nI (n).val), .int (nI (r)), .int ((M_holders v.1 n)), .int ((M_mays v.1 n)), .int (nI ((cn (cm v.1 r n) i) + 0)), .int (nI ((cn (vm v.1 r n) i) + 0)), .int ((1 : Int32)), .int (nI (i + 1)), .int ((2 : Int32)), .int ((0 : Int32))]) hX dL_isLineSo_272 rfl (nI_inc _) (Nat.le_of_ble_eq_true rfl) (Nat.le_of_ble_eq_true rfl) rfl rfl ?_
                                            refine v_goto (tgt := 71) hX dL_isLineSo_275 (by decide) ?_
                                            have e215 : (cn (cm v.1 r n) i) + 0 = cn (cm v.1 r n) (i + 1) := by first | (rw [cn_s, cm_1 (m := v.1) (r := r) (n := n) hm hir]; done) | (rw [cn_s, cm_m (m := v.1) (r := r) (n := n) hm]; done) | (rw [cn_s, cm_r (m := v.1) (r := r) (n := n) hir]; done) | (rw [cn_s, vm_1 (m := v.1) (r := r) (n := n) hm hh hir]; done) | (rw [cn_s, vm_m (m := v.1) (r := r) (n := n) hm]; done) | (rw [cn_s, vm_h (m := v.1) (r := r) (n := n) hh]; done) | (rw [cn_s, vm_r (m := v.1) (r := r) (n := n) hir]; done)
                                            rw [e215]
                                            have e216 : (cn (vm v.1 r n) i) + 0 = cn (vm v.1 r n) (i + 1) := by first | (rw [cn_s, cm_1 (m := v.1) (r := r) (n := n) hm hir]; done) | (rw [cn_s, cm_m (m := v.1) (r := r) (n := n) hm]; done) | (rw [cn_s, cm_r (m := v.1) (r := r) (n := n) hir]; done) | (rw [cn_s, vm_1 (m := v.1) (r := r) (n := n) hm hh hir]; done) | (rw [cn_s, vm_m (m := v.1) (r := r) (n := n) hm]; done) | (rw [cn_s, vm_h (m := v.1) (r := r) (n := n) hh]; done) | (rw [cn_s, vm_r (m := v.1) (r := r) (n := n) hir]; done)
                                            rw [e216]
                                            exact v_fewer 9 rfl (ih (i + 1)  (by omega) )
                                          · replace c214 := (nI_eq (a := 2) (b := 1) (by omega) (by omega)).mp c214
                                            have c214t := eq_true c214
                                            exfalso; omega
                                        · replace c213 := (not_congr (nI_eq (a := 0) (b := 0) (by omega) (by omega))).mp c213
                                          exfalso; omega
                                      · replace c212 := (nI_eq (a := 2) (b := 3) (by omega) (by omega)).mp c212
                                        have c212t := eq_true c212
                                        exfalso; omega
                            · replace c207 := (nI_eq (a := 0) (b := 1) (by omega) (by omega)).mp c207
                              have c207t := eq_true c207
                              exfalso; omega
                          · replace c206 := (nI_eq (a := 2) (b := 0) (by omega) (by omega)).mp c206
                            have c206t := eq_true c206
                            first | (exfalso; omega) | exact absurd c206 (by decide) | exact absurd (by decide) c206
                      · replace c204 := (not_congr (nI_leI (a := 2) (b := 2) (by omega) (by omega))).mp c204
                        first | (exfalso; omega) | exact absurd c204 (by decide) | exact absurd (by decide) c204
                  · replace c202 := (nI_eq (a := 0) (b := 1) (by omega) (by omega)).mp c202
                    have c202t := eq_true c202
                    first | (exfalso; omega) | exact absurd c202 (by decide) | exact absurd (by decide) c202
                · skip
                  refine v_istore (lv' := [.ref (b 0 0), .int (nI (n).val), .int (nI (r)), .int ((M_holders v.1 n)), .int ((M_mays v.1 n)), .int (nI (cn (cm v.1 r n) i)), .int (nI (cn (vm v.1 r n) i)), .int ((1 : Int32)), .int (nI (i)), .int ((2 : Int32))]) hX dL_isLineSo_84 (Nat.le_of_ble_eq_true rfl) (Nat.le_of_ble_eq_true rfl) rfl rfl ?_
                  refine v_iload hX dL_isLineSo_86 rfl ?_
                  refine v_iload hX dL_isLineSo_88 rfl ?_
                  refine v_ishr (z := ((M_mays v.1 n) >>> (nI (i) &&& 31))) hX dL_isLineSo_90 (rfl) ?_
                  refine v_iconst (x := (1 : Int32)) hX dL_isLineSo_91 (by decide) ?_
                  refine v_iand (z := (((M_mays v.1 n) >>> (nI (i) &&& 31)) &&& (1 : Int32))) hX dL_isLineSo_92 (rfl) ?_
                  rw [may_b0 (m := v.1) (i := i) (n := n) (by omega) hm]
                  refine v_iconst (x := (1 : Int32)) hX dL_isLineSo_93 (by decide) ?_
                  refine v_icmp_ne (tgt := 101) hX dL_isLineSo_94 (by decide) (fun c217 => ?_) (fun c217 => ?_)
                  · replace c217 := (not_congr (nI_eq (a := 0) (b := 1) (by omega) (by omega))).mp c217
                    refine v_iconst (x := (0 : Int32)) hX dL_isLineSo_101 (by decide) ?_
                    refine v_istore (lv' := [.ref (b 0 0), .int (nI (n).val), .int (nI (r)), .int ((M_holders v.1 n)), .int ((M_mays v.1 n)), .int (nI (cn (cm v.1 r n) i)), .int (nI (cn (vm v.1 r n) i)), .int ((1 : Int32)), .int (nI (i)), .int ((2 : Int32)), .int ((0 : Int32))]) hX dL_isLineSo_102 (Nat.le_of_ble_eq_true rfl) (Nat.le_of_ble_eq_true rfl) rfl rfl ?_
                    refine v_iload hX dL_isLineSo_104 rfl ?_
                    refine v_if_eq (tgt := 226) hX dL_isLineSo_106 (by decide) (fun c218 => ?_) (fun c218 => ?_)
                    · replace c218 := (nI_eq (a := 1) (b := 0) (by omega) (by omega)).mp c218
                      have c218t := eq_true c218
                      first | (exfalso; omega) | exact absurd c218 (by decide) | exact absurd (by decide) c218
                    · replace c218 := (not_congr (nI_eq (a := 1) (b := 0) (by omega) (by omega))).mp c218
                      refine v_iload hX dL_isLineSo_109 rfl ?_
                      refine v_iconst (x := (2 : Int32)) hX dL_isLineSo_111 (by decide) ?_
                      refine v_icmp_ge (tgt := 119) hX dL_isLineSo_112 (by decide) (fun c219 => ?_) (fun c219 => ?_)
                      · replace c219 := (nI_leI (a := 2) (b := 2) (by omega) (by omega)).mp c219
                        refine v_iconst (x := (0 : Int32)) hX dL_isLineSo_119 (by decide) ?_
                        refine v_iload hX dL_isLineSo_120 rfl ?_
                        refine v_icmp_ne (tgt := 226) hX dL_isLineSo_122 (by decide) (fun c220 => ?_) (fun c220 => ?_)
                        · replace c220 := (not_congr (nI_eq (a := 0) (b := 0) (by omega) (by omega))).mp c220
                          first | (exfalso; omega) | exact absurd c220 (by decide) | exact absurd (by decide) c220
                        · replace c220 := (nI_eq (a := 0) (b := 0) (by omega) (by omega)).mp c220
                          have c220t := eq_true c220
                          refine v_iload hX dL_isLineSo_125 rfl ?_
                          refine v_if_ne (tgt := 134) hX dL_isLineSo_127 (by decide) (fun c221 => ?_) (fun c221 => ?_)
                          · replace c221 := (not_congr (nI_eq (a := 2) (b := 0) (by omega) (by omega))).mp c221
                            refine v_iconst (x := (0 : Int32)) hX dL_isLineSo_134 (by decide) ?_
                            refine v_iload_n hX dL_isLineSo_135 rfl ?_
                            refine v_iload hX dL_isLineSo_136 rfl ?_
                            refine v_ishr (z := ((M_holders v.1 n) >>> (nI (i) &&& 31))) hX dL_isLineSo_138 (rfl) ?_
                            refine v_iconst (x := (1 : Int32)) hX dL_isLineSo_139 (by decide) ?_
                            refine v_iand (z := (((M_holders v.1 n) >>> (nI (i) &&& 31)) &&& (1 : Int32))) hX dL_isLineSo_140 (rfl) ?_
                            rw [hold_b0 (m := v.1) (i := i) (n := n) (by omega) hh]
                            refine v_iconst (x := (1 : Int32)) hX dL_isLineSo_141 (by decide) ?_
                            refine v_icmp_ne (tgt := 149) hX dL_isLineSo_142 (by decide) (fun c222 => ?_) (fun c222 => ?_)
                            · replace c222 := (not_congr (nI_eq (a := 0) (b := 1) (by omega) (by omega))).mp c222
                              refine v_iconst (x := (0 : Int32)) hX dL_isLineSo_149 (by decide) ?_
                              refine v_icmp_ne (tgt := 226) hX dL_isLineSo_150 (by decide) (fun c223 => ?_) (fun c223 => ?_)
                              · replace c223 := (not_congr (nI_eq (a := 0) (b := 0) (by omega) (by omega))).mp c223
                                exfalso; omega
                              · replace c223 := (nI_eq (a := 0) (b := 0) (by omega) (by omega)).mp c223
                                have c223t := eq_true c223
                                refine v_iload hX dL_isLineSo_153 rfl ?_
                                refine v_iconst (x := (2 : Int32)) hX dL_isLineSo_155 (by decide) ?_
                                refine v_icmp_ne (tgt := 163) hX dL_isLineSo_156 (by decide) (fun c224 => ?_) (fun c224 => ?_)
                                · replace c224 := (not_congr (nI_eq (a := 2) (b := 2) (by omega) (by omega))).mp c224
                                  first | (exfalso; omega) | exact absurd c224 (by decide) | exact absurd (by decide) c224
                                · replace c224 := (nI_eq (a := 2) (b := 2) (by omega) (by omega)).mp c224
                                  have c224t := eq_true c224
                                  refine v_iconst (x := (1 : Int32)) hX dL_isLineSo_159 (by decide) ?_
                                  refine v_goto (tgt := 164) hX dL_isLineSo_160 (by decide) ?_
                                  refine v_aload_n hX dL_isLineSo_164 rfl ?_
                                  refine v_iload hX dL_isLineSo_165 rfl ?_
                                  refine v_iload_n hX dL_isLineSo_167 rfl ?_
                                  refine v_bipush (x := (16 : Int32)) hX dL_isLineSo_168 (by decide) ?_
                                  refine v_idiv (z := nI (((n).val) / 16)) hX dL_isLineSo_170 (by decide) (div_c ((n).val) 16 (by omega) (by decide) (by decide)) ?_
                                  refine v_callVi (r := X_bit v (nI (i)) (nI (((n).val) / 16))) (rest := [.int ((1 : Int32))]) (ws' := wX E b v) hX (fun sz => c_X5_bit l E b sz v (nI (i)) (nI (((n).val) / 16))) (cwV 2 hX.2.2.2.2.1 gL_isLineSo_X5_bit rfl rfl rfl (by decide +kernel) ⟨Nat.le_of_ble_eq_true rfl, Nat.le_of_ble_eq_true rfl⟩) ([]) ([]) ((List.append_nil _).symm) ((List.append_nil _).symm).symm (wX_fst E b _ _) (ci := 5) (q0 := 0) rfl rfl rfl rfl rfl (Nat.le_of_ble_eq_true rfl) dL_isLineSo_171 ?_
                                  rw [bit_0 v (i := i) (n := n) (by omega) hbb]
                                  refine v_if_ne (tgt := 181) hX dL_isLineSo_174 (by decide) (fun c225 => ?_) (fun c225 => ?_)
                                  · replace c225 := (not_congr (nI_eq (a := 0) (b := 0) (by omega) (by omega))).mp c225
                                    exfalso; omega
                                  · replace c225 := (nI_eq (a := 0) (b := 0) (by omega) (by omega)).mp c225
                                    have c225t := eq_true c225
                                    refine v_iconst (x := (1 : Int32)) hX dL_isLineSo_177 (by decide) ?_
                                    refine v_goto (tgt := 182) hX dL_isLineSo_178 (by decide) ?_
                                    refine v_icmp_ne (tgt := 226) hX dL_isLineSo_182 (by decide) (fun c226 => ?_) (fun c226 => ?_)
                                    · replace c226 := (not_congr (nI_eq (a := 1) (b := 1) (by omega) (by omega))).mp c226
                                      first | (exfalso; omega) | exact absurd c226 (by decide) | exact absurd (by decide) c226
                                    · replace c226 := (nI_eq (a := 1) (b := 1) (by omega) (by omega)).mp c226
                                      have c226t := eq_true c226
                                      refine v_iload hX dL_isLineSo_185 rfl ?_
                                      refine v_iconst (x := (3 : Int32)) hX dL_isLineSo_187 (by decide) ?_
                                      refine v_icmp_ne (tgt := 222) hX dL_isLineSo_188 (by decide) (fun c227 => ?_) (fun c227 => ?_)
                                      · replace c227 := (not_congr (nI_eq (a := 2) (b := 3) (by omega) (by omega))).mp c227
                                        refine v_iconst (x := (1 : Int32)) hX dL_isLineSo_222 (by decide) ?_
                                        refine v_goto (tgt := 227) hX dL_isLineSo_223 (by decide) ?_
                                        refine v_istore (lv' := [.ref (b 0 0), .int (nI (n).val), .int (nI (r)), .int ((M_holders v.1 n)), .int ((M_mays v.1 n)), .int (nI (cn (cm v.1 r n) i)), .int (nI (cn (vm v.1 r n) i)), .int ((1 : Int32)), .int (nI (i)), .int ((2 : Int32)), .int ((0 : Int32))]) hX dL_isLineSo_227 (Nat.le_of_ble_eq_true rfl) (Nat.le_of_ble_eq_true rfl) rfl rfl ?_
                                        refine v_iload hX dL_isLineSo_229 rfl ?_
                                        refine v_iload hX dL_isLineSo_231 rfl ?_
                                        refine v_if_eq (tgt := 246) hX dL_isLineSo_233 (by decide) (fun c228 => ?_) (fun c228 => ?_)
                                        · replace c228 := (nI_eq (a := 0) (b := 0) (by omega) (by omega)).mp c228
                                          have c228t := eq_true c228
                                          refine v_iconst (x := (0 : Int32)) hX dL_isLineSo_246 (by decide) ?_
                                          refine v_iadd (z := nI ((cn (cm v.1 r n) i) + 0)) hX dL_isLineSo_247 (nI_add (cn (cm v.1 r n) i) 0) ?_
                                          refine v_istore (lv' := [.ref (b 0 0), .int (nI (n).val), .int (nI (r)), .int ((M_holders v.1 n)), .int ((M_mays v.1 n)), .int (nI ((cn (cm v.1 r n) i) + 0)), .int (nI (cn (vm v.1 r n) i)), .int ((1 : Int32)), .int (nI (i)), .int ((2 : Int32)), .int ((0 : Int32))]) hX dL_isLineSo_248 (Nat.le_of_ble_eq_true rfl) (Nat.le_of_ble_eq_true rfl) rfl rfl ?_
                                          refine v_iload hX dL_isLineSo_250 rfl ?_
                                          refine v_iload hX dL_isLineSo_252 rfl ?_
                                          refine v_iconst (x := (1 : Int32)) hX dL_isLineSo_254 (by decide) ?_
                                          refine v_icmp_ne (tgt := 268) hX dL_isLineSo_255 (by decide) (fun c229 => ?_) (fun c229 => ?_)
                                          · replace c229 := (not_congr (nI_eq (a := 2) (b := 1) (by omega) (by omega))).mp c229
                                            refine v_iconst (x := (0 : Int32)) hX dL_isLineSo_268 (by decide) ?_
                                            refine v_iadd (z := nI ((cn (vm v.1 r n) i) + 0)) hX dL_isLineSo_269 (nI_add (cn (vm v.1 r n) i) 0) ?_
                                            refine v_istore (lv' := [.ref (b 0 0), .int (nI (n).val), .int (nI (r)), .int ((M_holders v.1 n)), .int ((M_mays v.1 n)), .int (nI ((cn (cm v.1 r n) i) + 0)), .int (nI ((cn (vm v.1 r n) i) + 0)), .int ((1 : Int32)), .int (nI (i)), .int ((2 : Int32)), .int ((0 : Int32))]) hX dL_isLineSo_270 (Nat.le_of_ble_eq_true rfl) (Nat.le_of_ble_eq_true rfl) rfl rfl ?_
                                            refine v_iinc (y := nI (i + 1)) (lv' := [.ref (b 0 0), .int (nI (n).val), .int (nI (r)), .int ((M_holders v.1 n)), .int ((M_mays v.1 n)), .int (nI ((cn (cm v.1 r n) i) + 0)), .int (nI ((cn (vm v.1 r n) i) + 0)), .int ((1 : Int32)), .int (nI (i + 1)), .int ((2 : Int32)), .int ((0 : Int32))]) hX dL_isLineSo_272 rfl (nI_inc _) (Nat.le_of_ble_eq_true rfl) (Nat.le_of_ble_eq_true rfl) rfl rfl ?_
                                            refine v_goto (tgt := 71) hX dL_isLineSo_275 (by decide) ?_
                                            have e230 : (cn (cm v.1 r n) i) + 0 = cn (cm v.1 r n) (i + 1) := by first | (rw [cn_s, cm_1 (m := v.1) (r := r) (n := n) hm hir]; done) | (rw [cn_s, cm_m (m := v.1) (r := r) (n := n) hm]; done) | (rw [cn_s, cm_r (m := v.1) (r := r) (n := n) hir]; done) | (rw [cn_s, vm_1 (m := v.1) (r := r) (n := n) hm hh hir]; done) | (rw [cn_s, vm_m (m := v.1) (r := r) (n := n) hm]; done) | (rw [cn_s, vm_h (m := v.1) (r := r) (n := n) hh]; done) | (rw [cn_s, vm_r (m := v.1) (r := r) (n := n) hir]; done)
                                            rw [e230]
                                            have e231 : (cn (vm v.1 r n) i) + 0 = cn (vm v.1 r n) (i + 1) := by first | (rw [cn_s, cm_1 (m := v.1) (r := r) (n := n) hm hir]; done) | (rw [cn_s, cm_m (m := v.1) (r := r) (n := n) hm]; done) | (rw [cn_s, cm_r (m := v.1) (r := r) (n := n) hir]; done) | (rw [cn_s, vm_1 (m := v.1) (r := r) (n := n) hm hh hir]; done) | (rw [cn_s, vm_m (m := v.1) (r := r) (n := n) hm]; done) | (rw [cn_s, vm_h (m := v.1) (r := r) (n := n) hh]; done) | (rw [cn_s, vm_r (m := v.1) (r := r) (n := n) hir]; done)
                                            rw [e231]
                                            exact v_fewer 9 rfl (ih (i + 1)  (by omega) )
                                          · replace c229 := (nI_eq (a := 2) (b := 1) (by omega) (by omega)).mp c229
                                            have c229t := eq_true c229
                                            exfalso; omega
                                        · replace c228 := (not_congr (nI_eq (a := 0) (b := 0) (by omega) (by omega))).mp c228
                                          exfalso; omega
                                      · replace c227 := (nI_eq (a := 2) (b := 3) (by omega) (by omega)).mp c227
                                        have c227t := eq_true c227
                                        exfalso; omega
                            · replace c222 := (nI_eq (a := 0) (b := 1) (by omega) (by omega)).mp c222
                              have c222t := eq_true c222
                              exfalso; omega
                          · replace c221 := (nI_eq (a := 2) (b := 0) (by omega) (by omega)).mp c221
                            have c221t := eq_true c221
                            first | (exfalso; omega) | exact absurd c221 (by decide) | exact absurd (by decide) c221
                      · replace c219 := (not_congr (nI_leI (a := 2) (b := 2) (by omega) (by omega))).mp c219
                        first | (exfalso; omega) | exact absurd c219 (by decide) | exact absurd (by decide) c219
                  · replace c217 := (nI_eq (a := 0) (b := 1) (by omega) (by omega)).mp c217
                    have c217t := eq_true c217
                    first | (exfalso; omega) | exact absurd c217 (by decide) | exact absurd (by decide) c217
        exact loop_71 4 0  (by omega) 
