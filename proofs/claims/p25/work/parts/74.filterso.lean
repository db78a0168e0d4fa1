set_option maxHeartbeats 4000000 in
set_option maxRecDepth 100000 in
theorem c_L_isFilterSo (l : Launch) (E : ET) (b : Nat → Nat → Nat) (sz : Nat) (v : XV) (co : Nat) (hc : co < 4) (hJ : JW v.1) : Met l yL_isFilterSo wsL_isFilterSo ({ frames := 4, cells := 0, slots := 0, locals := 87 }) (mPc E [.ref (b 0 0), .int (nI (co))] sz (wX E b v)) (mQi E (bI (true)) (wX E b v) (wX E b v) sz) 0 0 (va_A (wX E b v) sz) := by
  refine v_start (cc := cL_isFilterSo) (maxL := 12) (ret := (some .boolean)) (by decide) rfl (Nat.le_of_ble_eq_true rfl) rfl ?_
  intro p e s m args below meth c hsz hr hX
  have hX : Xc p s m args meth c E 12 (va_A (wX E b v) sz) cL_isFilterSo RL wsL_isFilterSo := hX
  have hJ2 := hJ
  obtain ⟨B, hB, hI, hP, hT⟩ := hJ2
  refine v_iconst (x := (0 : Int32)) hX dL_isFilterSo_0 (by decide) ?_
  refine v_istore_n (lv' := [.ref (b 0 0), .int (nI (co)), .int ((0 : Int32))]) hX dL_isFilterSo_1 (Nat.le_of_ble_eq_true rfl) (Nat.le_of_ble_eq_true rfl) rfl rfl ?_
  refine v_iconst (x := (0 : Int32)) hX dL_isFilterSo_2 (by decide) ?_
  refine v_istore_n (lv' := [.ref (b 0 0), .int (nI (co)), .int ((0 : Int32)), .int ((0 : Int32))]) hX dL_isFilterSo_3 (Nat.le_of_ble_eq_true rfl) (Nat.le_of_ble_eq_true rfl) rfl rfl ?_
  refine v_iconst (x := (0 : Int32)) hX dL_isFilterSo_4 (by decide) ?_
  refine v_istore (lv' := [.ref (b 0 0), .int (nI (co)), .int ((0 : Int32)), .int ((0 : Int32)), .int ((0 : Int32))]) hX dL_isFilterSo_5 (Nat.le_of_ble_eq_true rfl) (Nat.le_of_ble_eq_true rfl) rfl rfl ?_
  refine v_iconst (x := (0 : Int32)) hX dL_isFilterSo_7 (by decide) ?_
  refine v_istore (lv' := [.ref (b 0 0), .int (nI (co)), .int ((0 : Int32)), .int ((0 : Int32)), .int ((0 : Int32)), .int ((0 : Int32))]) hX dL_isFilterSo_8 (Nat.le_of_ble_eq_true rfl) (Nat.le_of_ble_eq_true rfl) rfl rfl ?_
  refine v_iconst (x := (0 : Int32)) hX dL_isFilterSo_10 (by decide) ?_
  refine v_istore (lv' := [.ref (b 0 0), .int (nI (co)), .int ((0 : Int32)), .int ((0 : Int32)), .int ((0 : Int32)), .int ((0 : Int32)), .int ((0 : Int32))]) hX dL_isFilterSo_11 (Nat.le_of_ble_eq_true rfl) (Nat.le_of_ble_eq_true rfl) rfl rfl ?_
  refine v_iconst (x := (1 : Int32)) hX dL_isFilterSo_13 (by decide) ?_
  refine v_istore (lv' := [.ref (b 0 0), .int (nI (co)), .int ((0 : Int32)), .int ((0 : Int32)), .int ((0 : Int32)), .int ((0 : Int32)), .int ((0 : Int32)), .int ((1 : Int32))]) hX dL_isFilterSo_14 (Nat.le_of_ble_eq_true rfl) (Nat.le_of_ble_eq_true rfl) rfl rfl ?_
  refine v_iconst (x := (0 : Int32)) hX dL_isFilterSo_16 (by decide) ?_
  refine v_istore (lv' := [.ref (b 0 0), .int (nI (co)), .int ((0 : Int32)), .int ((0 : Int32)), .int ((0 : Int32)), .int ((0 : Int32)), .int ((0 : Int32)), .int ((1 : Int32)), .int ((0 : Int32))]) hX dL_isFilterSo_17 (Nat.le_of_ble_eq_true rfl) (Nat.le_of_ble_eq_true rfl) rfl rfl ?_
  have loop_19 : ∀ (fu i : Nat), i + fu = 24 → V p l e ({ frames := 4, cells := 0, slots := 0, locals := 87 } : Room) s m args below meth c E 12 (va_A (wX E b v) sz) (MQ below (mQi E (bI (true)) (wX E b v) (wX E b v) sz) args s 0 0 (va_A (wX E b v) sz)) (wX E b v) [.ref (b 0 0), .int (nI (co)), .int (nI (cn (skf (v.1.2.1 co)) i)), .int (nI (cn (abv (v.1.2.1 co).2.2.2.2) i)), .int ((0 : Int32)), .int ((0 : Int32)), .int ((0 : Int32)), .int ((1 : Int32)), .int (nI (i))] 19 [] := by
    intro fu
    induction fu with
    | zero =>
      intro i  hin 
      have hi0 : i = 24 := by omega
      subst hi0
      refine v_iload hX dL_isFilterSo_19 rfl ?_
      refine v_bipush (x := (24 : Int32)) hX dL_isFilterSo_21 (by decide) ?_
      refine v_icmp_ge (tgt := 187) hX dL_isFilterSo_23 (by decide) (fun c1 => ?_) (fun c1 => ?_)
      · replace c1 := (nI_leI (a := 24) (b := 24) (by omega) (by omega)).mp c1
        refine v_iconst (x := (0 : Int32)) hX dL_isFilterSo_187 (by decide) ?_
        refine v_istore (lv' := [.ref (b 0 0), .int (nI (co)), .int (nI (cn (skf (v.1.2.1 co)) 24)), .int (nI (cn (abv (v.1.2.1 co).2.2.2.2) 24)), .int ((0 : Int32)), .int ((0 : Int32)), .int ((0 : Int32)), .int ((1 : Int32)), .int ((0 : Int32))]) hX dL_isFilterSo_188 (Nat.le_of_ble_eq_true rfl) (Nat.le_of_ble_eq_true rfl) rfl rfl ?_
        have loop_190 : ∀ (fu i : Nat), i + fu = 8 → V p l e ({ frames := 4, cells := 0, slots := 0, locals := 87 } : Room) s m args below meth c E 12 (va_A (wX E b v) sz) (MQ below (mQi E (bI (true)) (wX E b v) (wX E b v) sz) args s 0 0 (va_A (wX E b v) sz)) (wX E b v) [.ref (b 0 0), .int (nI (co)), .int (nI (cn (skf (v.1.2.1 co)) 24)), .int (nI (cn (abv (v.1.2.1 co).2.2.2.2) 24)), .int (nI (cn (hol (v.1.2.1 co)) i)), .int (nI (cn (v.1.2.1 co).2.2.1 i)), .int ((0 : Int32)), .int ((1 : Int32)), .int (nI (i))] 190 [] := by
          intro fu
          induction fu with
          | zero =>
            intro i  hin 
            have hi0 : i = 8 := by omega
            subst hi0
            refine v_iload hX dL_isFilterSo_190 rfl ?_
            refine v_bipush (x := (8 : Int32)) hX dL_isFilterSo_192 (by decide) ?_
            refine v_icmp_ge (tgt := 359) hX dL_isFilterSo_194 (by decide) (fun c2 => ?_) (fun c2 => ?_)
            · replace c2 := (nI_leI (a := 8) (b := 8) (by omega) (by omega)).mp c2
              refine v_iconst (x := (0 : Int32)) hX dL_isFilterSo_359 (by decide) ?_
              refine v_istore (lv' := [.ref (b 0 0), .int (nI (co)), .int (nI (cn (skf (v.1.2.1 co)) 24)), .int (nI (cn (abv (v.1.2.1 co).2.2.2.2) 24)), .int (nI (cn (hol (v.1.2.1 co)) 8)), .int (nI (cn (v.1.2.1 co).2.2.1 8)), .int ((0 : Int32)), .int ((1 : Int32)), .int ((0 : Int32))]) hX dL_isFilterSo_360 (Nat.le_of_ble_eq_true rfl) (Nat.le_of_ble_eq_true rfl) rfl rfl ?_
              have loop_362 : ∀ (fu i : Nat), i + fu = 16 → V p l e ({ frames := 4, cells := 0, slots := 0, locals := 87 } : Room) s m args below meth c E 12 (va_A (wX E b v) sz) (MQ below (mQi E (bI (true)) (wX E b v) (wX E b v) sz) args s 0 0 (va_A (wX E b v) sz)) (wX E b v) [.ref (b 0 0), .int (nI (co)), .int (nI (cn (skf (v.1.2.1 co)) 24)), .int (nI (cn (abv (v.1.2.1 co).2.2.2.2) 24)), .int (nI (cn (hol (v.1.2.1 co)) 8)), .int (nI (cn (v.1.2.1 co).2.2.1 8)), .int (nI (cn (v.1.2.1 co).2.2.2.2.2.2 i)), .int ((1 : Int32)), .int (nI (i))] 362 [] := by
                intro fu
                induction fu with
                | zero =>
                  intro i  hin 
                  have hi0 : i = 16 := by omega
                  subst hi0
                  refine v_iload hX dL_isFilterSo_362 rfl ?_
                  refine v_bipush (x := (16 : Int32)) hX dL_isFilterSo_364 (by decide) ?_
                  refine v_icmp_ge (tgt := 387) hX dL_isFilterSo_366 (by decide) (fun c3 => ?_) (fun c3 => ?_)
                  · replace c3 := (nI_leI (a := 16) (b := 16) (by omega) (by omega)).mp c3
                    refine v_iload hX dL_isFilterSo_387 rfl ?_
                    refine v_if_eq (tgt := 476) hX dL_isFilterSo_389 (by decide) (fun c4 => ?_) (fun c4 => ?_)
                    · replace c4 := (nI_eq (a := 1) (b := 0) (by omega) (by omega)).mp c4
                      have c4t := eq_true c4
                      first | (exfalso; omega) | exact absurd c4 (by decide) | exact absurd (by decide) c4
                    · replace c4 := (not_congr (nI_eq (a := 1) (b := 0) (by omega) (by omega))).mp c4
                      refine v_aload_n hX dL_isFilterSo_392 rfl ?_
                      refine v_iload_n hX dL_isFilterSo_393 rfl ?_
                      refine v_iconst (x := (0 : Int32)) hX dL_isFilterSo_394 (by decide) ?_
                      refine v_callVi (r := X_core v (nI (co)) (0 : Int32)) (rest := []) (ws' := wX E b v) hX (fun sz => c_X5_core l E b sz v (nI (co)) (0 : Int32)) (cwV 2 hX.2.2.2.2.1 gL_isFilterSo_X5_core rfl rfl rfl (by decide +kernel) ⟨Nat.le_of_ble_eq_true rfl, Nat.le_of_ble_eq_true rfl⟩) ([]) ([]) ((List.append_nil _).symm) ((List.append_nil _).symm).symm (wX_fst E b _ _) (ci := 5) (q0 := 0) rfl rfl rfl rfl rfl (Nat.le_of_ble_eq_true rfl) dL_isFilterSo_395 ?_
                      refine v_iload hX dL_isFilterSo_398 rfl ?_
                      refine v_icmp_ne (tgt := 476) hX dL_isFilterSo_400 (by decide) (fun c5 => ?_) (fun c5 => ?_)
                      · exact (c5 (o_core0 v hc)).elim
                      · have c5t := eq_true c5
                        refine v_aload_n hX dL_isFilterSo_403 rfl ?_
                        refine v_iload_n hX dL_isFilterSo_404 rfl ?_
                        refine v_iconst (x := (1 : Int32)) hX dL_isFilterSo_405 (by decide) ?_
                        refine v_callVi (r := X_core v (nI (co)) (1 : Int32)) (rest := []) (ws' := wX E b v) hX (fun sz => c_X5_core l E b sz v (nI (co)) (1 : Int32)) (cwV 2 hX.2.2.2.2.1 gL_isFilterSo_X5_core rfl rfl rfl (by decide +kernel) ⟨Nat.le_of_ble_eq_true rfl, Nat.le_of_ble_eq_true rfl⟩) ([]) ([]) ((List.append_nil _).symm) ((List.append_nil _).symm).symm (wX_fst E b _ _) (ci := 5) (q0 := 0) rfl rfl rfl rfl rfl (Nat.le_of_ble_eq_true rfl) dL_isFilterSo_406 ?_
                        refine v_iload hX dL_isFilterSo_409 rfl ?_
                        refine v_icmp_ne (tgt := 476) hX dL_isFilterSo_411 (by decide) (fun c6 => ?_) (fun c6 => ?_)
                        · exact (c6 (o_core1 v hc)).elim
                        · have c6t := eq_true c6
                          refine v_aload_n hX dL_isFilterSo_414 rfl ?_
                          refine v_iload_n hX dL_isFilterSo_415 rfl ?_
                          refine v_iconst (x := (2 : Int32)) hX dL_isFilterSo_416 (by decide) ?_
                          refine v_callVi (r := X_core v (nI (co)) (2 : Int32)) (rest := []) (ws' := wX E b v) hX (fun sz => c_X5_core l E b sz v (nI (co)) (2 : Int32)) (cwV 2 hX.2.2.2.2.1 gL_isFilterSo_X5_core rfl rfl rfl (by decide +kernel) ⟨Nat.le_of_ble_eq_true rfl, Nat.le_of_ble_eq_true rfl⟩) ([]) ([]) ((List.append_nil _).symm) ((List.append_nil _).symm).symm (wX_fst E b _ _) (ci := 5) (q0 := 0) rfl rfl rfl rfl rfl (Nat.le_of_ble_eq_true rfl) dL_isFilterSo_417 ?_
                          refine v_iload_n hX dL_isFilterSo_420 rfl ?_
                          refine v_icmp_ne (tgt := 476) hX dL_isFilterSo_421 (by decide) (fun c7 => ?_) (fun c7 => ?_)
                          · exact (c7 (o_core2 v hc)).elim
                          · have c7t := eq_true c7
                            refine v_aload_n hX dL_isFilterSo_424 rfl ?_
                            refine v_iload_n hX dL_isFilterSo_425 rfl ?_
                            refine v_iconst (x := (3 : Int32)) hX dL_isFilterSo_426 (by decide) ?_
                            refine v_callVi (r := X_core v (nI (co)) (3 : Int32)) (rest := []) (ws' := wX E b v) hX (fun sz => c_X5_core l E b sz v (nI (co)) (3 : Int32)) (cwV 2 hX.2.2.2.2.1 gL_isFilterSo_X5_core rfl rfl rfl (by decide +kernel) ⟨Nat.le_of_ble_eq_true rfl, Nat.le_of_ble_eq_true rfl⟩) ([]) ([]) ((List.append_nil _).symm) ((List.append_nil _).symm).symm (wX_fst E b _ _) (ci := 5) (q0 := 0) rfl rfl rfl rfl rfl (Nat.le_of_ble_eq_true rfl) dL_isFilterSo_427 ?_
                            refine v_iload_n hX dL_isFilterSo_430 rfl ?_
                            refine v_icmp_lt (tgt := 476) hX dL_isFilterSo_431 (by decide) (fun c8 => ?_) (fun c8 => ?_)
                            · exact (stuck_lt v hI hc c8).elim
                            · refine v_aload_n hX dL_isFilterSo_434 rfl ?_
                              refine v_iload_n hX dL_isFilterSo_435 rfl ?_
                              refine v_iconst (x := (3 : Int32)) hX dL_isFilterSo_436 (by decide) ?_
                              refine v_callVi (r := X_core v (nI (co)) (3 : Int32)) (rest := []) (ws' := wX E b v) hX (fun sz => c_X5_core l E b sz v (nI (co)) (3 : Int32)) (cwV 2 hX.2.2.2.2.1 gL_isFilterSo_X5_core rfl rfl rfl (by decide +kernel) ⟨Nat.le_of_ble_eq_true rfl, Nat.le_of_ble_eq_true rfl⟩) ([]) ([]) ((List.append_nil _).symm) ((List.append_nil _).symm).symm (wX_fst E b _ _) (ci := 5) (q0 := 0) rfl rfl rfl rfl rfl (Nat.le_of_ble_eq_true rfl) dL_isFilterSo_437 ?_
                              refine v_iload_n hX dL_isFilterSo_440 rfl ?_
                              refine v_icmp_gt (tgt := 476) hX dL_isFilterSo_441 (by decide) (fun c9 => ?_) (fun c9 => ?_)
                              · exact (stuck_gt v hI hc c9).elim
                              · refine v_aload_n hX dL_isFilterSo_444 rfl ?_
                                refine v_iload_n hX dL_isFilterSo_445 rfl ?_
                                refine v_iconst (x := (4 : Int32)) hX dL_isFilterSo_446 (by decide) ?_
                                refine v_callVi (r := X_core v (nI (co)) (4 : Int32)) (rest := []) (ws' := wX E b v) hX (fun sz => c_X5_core l E b sz v (nI (co)) (4 : Int32)) (cwV 2 hX.2.2.2.2.1 gL_isFilterSo_X5_core rfl rfl rfl (by decide +kernel) ⟨Nat.le_of_ble_eq_true rfl, Nat.le_of_ble_eq_true rfl⟩) ([]) ([]) ((List.append_nil _).symm) ((List.append_nil _).symm).symm (wX_fst E b _ _) (ci := 5) (q0 := 0) rfl rfl rfl rfl rfl (Nat.le_of_ble_eq_true rfl) dL_isFilterSo_447 ?_
                                refine v_iload hX dL_isFilterSo_450 rfl ?_
                                refine v_icmp_ne (tgt := 476) hX dL_isFilterSo_452 (by decide) (fun c10 => ?_) (fun c10 => ?_)
                                · exact (c10 (o_core4 v hc)).elim
                                · have c10t := eq_true c10
                                  refine v_aload_n hX dL_isFilterSo_455 rfl ?_
                                  refine v_iload_n hX dL_isFilterSo_456 rfl ?_
                                  refine v_bipush (x := (8 : Int32)) hX dL_isFilterSo_457 (by decide) ?_
                                  refine v_callVi (r := X_core v (nI (co)) (8 : Int32)) (rest := []) (ws' := wX E b v) hX (fun sz => c_X5_core l E b sz v (nI (co)) (8 : Int32)) (cwV 2 hX.2.2.2.2.1 gL_isFilterSo_X5_core rfl rfl rfl (by decide +kernel) ⟨Nat.le_of_ble_eq_true rfl, Nat.le_of_ble_eq_true rfl⟩) ([]) ([]) ((List.append_nil _).symm) ((List.append_nil _).symm).symm (wX_fst E b _ _) (ci := 5) (q0 := 0) rfl rfl rfl rfl rfl (Nat.le_of_ble_eq_true rfl) dL_isFilterSo_459 ?_
                                  refine v_aload_n hX dL_isFilterSo_462 rfl ?_
                                  refine v_iload_n hX dL_isFilterSo_463 rfl ?_
                                  refine v_bipush (x := (7 : Int32)) hX dL_isFilterSo_464 (by decide) ?_
                                  refine v_callVi (r := X_core v (nI (co)) (7 : Int32)) (rest := [.int (X_core v (nI (co)) (8 : Int32))]) (ws' := wX E b v) hX (fun sz => c_X5_core l E b sz v (nI (co)) (7 : Int32)) (cwV 2 hX.2.2.2.2.1 gL_isFilterSo_X5_core rfl rfl rfl (by decide +kernel) ⟨Nat.le_of_ble_eq_true rfl, Nat.le_of_ble_eq_true rfl⟩) ([]) ([]) ((List.append_nil _).symm) ((List.append_nil _).symm).symm (wX_fst E b _ _) (ci := 5) (q0 := 0) rfl rfl rfl rfl rfl (Nat.le_of_ble_eq_true rfl) dL_isFilterSo_466 ?_
                                  refine v_icmp_gt (tgt := 476) hX dL_isFilterSo_469 (by decide) (fun c11 => ?_) (fun c11 => ?_)
                                  · exact (vain_le v hJ hc c11).elim
                                  · refine v_iconst (x := (1 : Int32)) hX dL_isFilterSo_472 (by decide) ?_
                                    refine v_goto (tgt := 477) hX dL_isFilterSo_473 (by decide) ?_
                                    exact v_zret hX hr hsz dL_isFilterSo_477 rfl rfl (bI_narrow (true)) (congrArg bI (by (first | (simp only [c1, c2, c3, c4, c5t, c6t, c7t, c8, c9, c10t, c11, if_true, if_false, reduceIte, Bool.false_eq_true, reduceCtorEq, decide_true, decide_false, Bool.and_true, Bool.and_false, Bool.true_and, Bool.false_and, Bool.or_true, Bool.or_false, Bool.true_or, Bool.false_or, not_true_eq_false, not_false_eq_true, Bool.not_true, Bool.not_false, eq_self, Nat.reduceEqDiff]; done) | rfl | (simp only [c1, c2, c3, c4, c5t, c6t, c7t, c8, c9, c10t, c11, if_true, if_false, reduceIte, Bool.false_eq_true, reduceCtorEq, decide_true, decide_false, Bool.and_true, Bool.and_false, Bool.true_and, Bool.false_and, Bool.or_true, Bool.or_false, Bool.true_or, Bool.false_or, not_true_eq_false, not_false_eq_true, Bool.not_true, Bool.not_false, eq_self, Nat.reduceEqDiff]; rfl) | contradiction | (exfalso; omega)) : true = true)) rfl
                  · replace c3 := (not_congr (nI_leI (a := 16) (b := 16) (by omega) (by omega))).mp c3
                    first | (exfalso; omega) | exact absurd c3 (by decide) | exact absurd (by decide) c3
                | succ fu ih =>
                  intro i  hin 
                  refine v_iload hX dL_isFilterSo_362 rfl ?_
                  refine v_bipush (x := (16 : Int32)) hX dL_isFilterSo_364 (by decide) ?_
                  refine v_icmp_ge (tgt := 387) hX dL_isFilterSo_366 (by decide) (fun c12 => ?_) (fun c12 => ?_)
                  · replace c12 := (nI_leI (a := 16) (b := i) (by omega) (by omega)).mp c12
                    first | (exfalso; omega) | exact absurd c12 (by decide) | exact absurd (by decide) c12
                  · replace c12 := (not_congr (nI_leI (a := 16) (b := i) (by omega) (by omega))).mp c12
                    refine v_iload hX dL_isFilterSo_369 rfl ?_
                    refine v_aload_n hX dL_isFilterSo_371 rfl ?_
                    refine v_iload_n hX dL_isFilterSo_372 rfl ?_
                    refine v_iload hX dL_isFilterSo_373 rfl ?_
                    refine v_callVi (r := X_bit v (nI (co)) (nI (i))) (rest := [.int (nI (cn (v.1.2.1 co).2.2.2.2.2.2 i))]) (ws' := wX E b v) hX (fun sz => c_X5_bit l E b sz v (nI (co)) (nI (i))) (cwV 2 hX.2.2.2.2.1 gL_isFilterSo_X5_bit rfl rfl rfl (by decide +kernel) ⟨Nat.le_of_ble_eq_true rfl, Nat.le_of_ble_eq_true rfl⟩) ([]) ([]) ((List.append_nil _).symm) ((List.append_nil _).symm).symm (wX_fst E b _ _) (ci := 5) (q0 := 0) rfl rfl rfl rfl rfl (Nat.le_of_ble_eq_true rfl) dL_isFilterSo_375 ?_
                    rw [o_bit v (co := co) (g := i) hc (by omega)]
                    refine v_iadd (z := nI ((cn (v.1.2.1 co).2.2.2.2.2.2 i) + (bN ((v.1.2.1 co).2.2.2.2.2.2 i)))) hX dL_isFilterSo_378 (nI_add (cn (v.1.2.1 co).2.2.2.2.2.2 i) (bN ((v.1.2.1 co).2.2.2.2.2.2 i))) ?_
                    refine v_istore (lv' := [.ref (b 0 0), .int (nI (co)), .int (nI (cn (skf (v.1.2.1 co)) 24)), .int (nI (cn (abv (v.1.2.1 co).2.2.2.2) 24)), .int (nI (cn (hol (v.1.2.1 co)) 8)), .int (nI (cn (v.1.2.1 co).2.2.1 8)), .int (nI ((cn (v.1.2.1 co).2.2.2.2.2.2 i) + (bN ((v.1.2.1 co).2.2.2.2.2.2 i)))), .int ((1 : Int32)), .int (nI (i))]) hX dL_isFilterSo_379 (Nat.le_of_ble_eq_true rfl) (Nat.le_of_ble_eq_true rfl) rfl rfl ?_
                    refine v_iinc (y := nI (i + 1)) (lv' := [.ref (b 0 0), .int (nI (co)), .int (nI (cn (skf (v.1.2.1 co)) 24)), .int (nI (cn (abv (v.1.2.1 co).2.2.2.2) 24)), .int (nI (cn (hol (v.1.2.1 co)) 8)), .int (nI (cn (v.1.2.1 co).2.2.1 8)), .int (nI ((cn (v.1.2.1 co).2.2.2.2.2.2 i) + (bN ((v.1.2.1 co).2.2.2.2.2.2 i)))), .int ((1 : Int32)), .int (nI (i + 1))]) hX dL_isFilterSo_381 rfl (nI_inc _) (Nat.le_of_ble_eq_true rfl) (Nat.le_of_ble_eq_true rfl) rfl rfl ?_
                    refine v_goto (tgt := 362) hX dL_isFilterSo_384 (by decide) ?_
                    have e13 : (cn (v.1.2.1 co).2.2.2.2.2.2 i) + (bN ((v.1.2.1 co).2.2.2.2.2.2 i)) = cn (v.1.2.1 co).2.2.2.2.2.2 (i + 1) := by first | rfl | (rw [cn_s])
                    rw [e13]
                    exact ih (i + 1)  (by omega) 
              exact loop_362 16 0  (by omega) 
            · replace c2 := (not_congr (nI_leI (a := 8) (b := 8) (by omega) (by omega))).mp c2
              first | (exfalso; omega) | exact absurd c2 (by decide) | exact absurd (by decide) c2
          | succ fu ih =>
            intro i  hin 
            refine v_iload hX dL_isFilterSo_190 rfl ?_
            refine v_bipush (x := (8 : Int32)) hX dL_isFilterSo_192 (by decide) ?_
            refine v_icmp_ge (tgt := 359) hX dL_isFilterSo_194 (by decide) (fun c14 => ?_) (fun c14 => ?_)
            · replace c14 := (nI_leI (a := 8) (b := i) (by omega) (by omega)).mp c14
              first | (exfalso; omega) | exact absurd c14 (by decide) | exact absurd (by decide) c14
            · replace c14 := (not_congr (nI_leI (a := 8) (b := i) (by omega) (by omega))).mp c14
              refine v_aload_n hX dL_isFilterSo_197 rfl ?_
              refine v_iload_n hX dL_isFilterSo_198 rfl ?_
              refine v_iload hX dL_isFilterSo_199 rfl ?_
              refine v_iconst (x := (0 : Int32)) hX dL_isFilterSo_201 (by decide) ?_
              refine v_callVi (r := X_held v (nI (co)) (nI (i)) (0 : Int32)) (rest := []) (ws' := wX E b v) hX (fun sz => c_X5_held l E b sz v (nI (co)) (nI (i)) (0 : Int32)) (cwV 3 hX.2.2.2.2.1 gL_isFilterSo_X5_held rfl rfl rfl (by decide +kernel) ⟨Nat.le_of_ble_eq_true rfl, Nat.le_of_ble_eq_true rfl⟩) ([]) ([]) ((List.append_nil _).symm) ((List.append_nil _).symm).symm (wX_fst E b _ _) (ci := 5) (q0 := 0) rfl rfl rfl rfl rfl (Nat.le_of_ble_eq_true rfl) dL_isFilterSo_202 ?_
              rw [o_held0 v (co := co) (p := i) hc (by omega)]
              refine v_istore (lv' := [.ref (b 0 0), .int (nI (co)), .int (nI (cn (skf (v.1.2.1 co)) 24)), .int (nI (cn (abv (v.1.2.1 co).2.2.2.2) 24)), .int (nI (cn (hol (v.1.2.1 co)) i)), .int (nI (cn (v.1.2.1 co).2.2.1 i)), .int ((0 : Int32)), .int ((1 : Int32)), .int (nI (i)), .int (enc5 ((v.1.2.1 co).1 i))]) hX dL_isFilterSo_205 (Nat.le_of_ble_eq_true rfl) (Nat.le_of_ble_eq_true rfl) rfl rfl ?_
              refine v_iload hX dL_isFilterSo_207 rfl ?_
              refine v_if_lt (tgt := 353) hX dL_isFilterSo_209 (by decide) (fun c15 => ?_) (fun c15 => ?_)
              · replace c15 := enc5_neg.mp c15
                rw [show enc5 ((v.1.2.1 co).1 i) = (-5 : Int32) from by rw [c15]; rfl]
                refine v_iinc (y := nI (i + 1)) (lv' := [.ref (b 0 0), .int (nI (co)), .int (nI (cn (skf (v.1.2.1 co)) 24)), .int (nI (cn (abv (v.1.2.1 co).2.2.2.2) 24)), .int (nI (cn (hol (v.1.2.1 co)) i)), .int (nI (cn (v.1.2.1 co).2.2.1 i)), .int ((0 : Int32)), .int ((1 : Int32)), .int (nI (i + 1)), .int ((-5 : Int32))]) hX dL_isFilterSo_353 rfl (nI_inc _) (Nat.le_of_ble_eq_true rfl) (Nat.le_of_ble_eq_true rfl) rfl rfl ?_
                refine v_goto (tgt := 190) hX dL_isFilterSo_356 (by decide) ?_
                have e16 : cn (hol (v.1.2.1 co)) i = cn (hol (v.1.2.1 co)) (i + 1) := by first | (rw [cn_s, ho_1 (k := (v.1.2.1 co)) (p := i) (by assumption)]; done) | (rw [cn_s, ho_0 (k := (v.1.2.1 co)) (p := i) (by assumption)]; rfl) | (rw [cn_s]; done) | (rw [cn_s]; rfl) | (rw [cn_s, dy_0 hP (by assumption)]; rfl)
                rw [e16]
                have e17 : cn (v.1.2.1 co).2.2.1 i = cn (v.1.2.1 co).2.2.1 (i + 1) := by first | (rw [cn_s, ho_1 (k := (v.1.2.1 co)) (p := i) (by assumption)]; done) | (rw [cn_s, ho_0 (k := (v.1.2.1 co)) (p := i) (by assumption)]; rfl) | (rw [cn_s]; done) | (rw [cn_s]; rfl) | (rw [cn_s, dy_0 hP (by assumption)]; rfl)
                rw [e17]
                exact v_fewer 9 rfl (ih (i + 1)  (by omega) )
              · obtain ⟨n18, c15⟩ := enc5_pos c15
                have hn18 := n18.isLt
                rw [show enc5 ((v.1.2.1 co).1 i) = nI (n18).val from by rw [c15]; rfl]
                refine v_iinc (y := nI ((cn (hol (v.1.2.1 co)) i) + 1)) (lv' := [.ref (b 0 0), .int (nI (co)), .int (nI (cn (skf (v.1.2.1 co)) 24)), .int (nI (cn (abv (v.1.2.1 co).2.2.2.2) 24)), .int (nI ((cn (hol (v.1.2.1 co)) i) + 1)), .int (nI (cn (v.1.2.1 co).2.2.1 i)), .int ((0 : Int32)), .int ((1 : Int32)), .int (nI (i)), .int (nI (n18).val)]) hX dL_isFilterSo_212 rfl (nI_inc _) (Nat.le_of_ble_eq_true rfl) (Nat.le_of_ble_eq_true rfl) rfl rfl ?_
                refine v_iload hX dL_isFilterSo_215 rfl ?_
                refine v_aload_n hX dL_isFilterSo_217 rfl ?_
                refine v_iload_n hX dL_isFilterSo_218 rfl ?_
                refine v_iload hX dL_isFilterSo_219 rfl ?_
                refine v_iconst (x := (2 : Int32)) hX dL_isFilterSo_221 (by decide) ?_
                refine v_callVi (r := X_held v (nI (co)) (nI (i)) (2 : Int32)) (rest := [.int (nI (cn (v.1.2.1 co).2.2.1 i))]) (ws' := wX E b v) hX (fun sz => c_X5_held l E b sz v (nI (co)) (nI (i)) (2 : Int32)) (cwV 3 hX.2.2.2.2.1 gL_isFilterSo_X5_held rfl rfl rfl (by decide +kernel) ⟨Nat.le_of_ble_eq_true rfl, Nat.le_of_ble_eq_true rfl⟩) ([]) ([]) ((List.append_nil _).symm) ((List.append_nil _).symm).symm (wX_fst E b _ _) (ci := 5) (q0 := 0) rfl rfl rfl rfl rfl (Nat.le_of_ble_eq_true rfl) dL_isFilterSo_222 ?_
                rw [o_held2 v (co := co) (p := i) hc (by omega) c15]
                refine v_iadd (z := nI ((cn (v.1.2.1 co).2.2.1 i) + (bN ((v.1.2.1 co).2.2.1 i)))) hX dL_isFilterSo_225 (nI_add (cn (v.1.2.1 co).2.2.1 i) (bN ((v.1.2.1 co).2.2.1 i))) ?_
                refine v_istore (lv' := [.ref (b 0 0), .int (nI (co)), .int (nI (cn (skf (v.1.2.1 co)) 24)), .int (nI (cn (abv (v.1.2.1 co).2.2.2.2) 24)), .int (nI ((cn (hol (v.1.2.1 co)) i) + 1)), .int (nI ((cn (v.1.2.1 co).2.2.1 i) + (bN ((v.1.2.1 co).2.2.1 i)))), .int ((0 : Int32)), .int ((1 : Int32)), .int (nI (i)), .int (nI (n18).val)]) hX dL_isFilterSo_226 (Nat.le_of_ble_eq_true rfl) (Nat.le_of_ble_eq_true rfl) rfl rfl ?_
                refine v_iload hX dL_isFilterSo_228 rfl ?_
                refine v_if_eq (tgt := 350) hX dL_isFilterSo_230 (by decide) (fun c19 => ?_) (fun c19 => ?_)
                · replace c19 := (nI_eq (a := 1) (b := 0) (by omega) (by omega)).mp c19
                  have c19t := eq_true c19
                  first | (exfalso; omega) | exact absurd c19 (by decide) | exact absurd (by decide) c19
                · replace c19 := (not_congr (nI_eq (a := 1) (b := 0) (by omega) (by omega))).mp c19
                  refine v_iload hX dL_isFilterSo_233 rfl ?_
                  refine v_bipush (x := (8 : Int32)) hX dL_isFilterSo_235 (by decide) ?_
                  refine v_irem (z := nI (((n18).val) % 8)) hX dL_isFilterSo_237 (by decide) (rem_c ((n18).val) 8 (by omega) (by decide) (by decide)) ?_
                  refine v_iload hX dL_isFilterSo_238 rfl ?_
                  refine v_icmp_ne (tgt := 350) hX dL_isFilterSo_240 (by decide) (fun c20 => ?_) (fun c20 => ?_)
                  · replace c20 := (not_congr (nI_eq (a := ((n18).val) % 8) (b := i) (by omega) (by omega))).mp c20
                    exact (c20 (line_at hI c15).1).elim
                  · replace c20 := (nI_eq (a := ((n18).val) % 8) (b := i) (by omega) (by omega)).mp c20
                    have c20t := eq_true c20
                    refine v_aload_n hX dL_isFilterSo_243 rfl ?_
                    refine v_iload_n hX dL_isFilterSo_244 rfl ?_
                    refine v_iload hX dL_isFilterSo_245 rfl ?_
                    refine v_bipush (x := (16 : Int32)) hX dL_isFilterSo_247 (by decide) ?_
                    refine v_idiv (z := nI (((n18).val) / 16)) hX dL_isFilterSo_249 (by decide) (div_c ((n18).val) 16 (by omega) (by decide) (by decide)) ?_
                    refine v_callVi (r := X_bit v (nI (co)) (nI (((n18).val) / 16))) (rest := []) (ws' := wX E b v) hX (fun sz => c_X5_bit l E b sz v (nI (co)) (nI (((n18).val) / 16))) (cwV 2 hX.2.2.2.2.1 gL_isFilterSo_X5_bit rfl rfl rfl (by decide +kernel) ⟨Nat.le_of_ble_eq_true rfl, Nat.le_of_ble_eq_true rfl⟩) ([]) ([]) ((List.append_nil _).symm) ((List.append_nil _).symm).symm (wX_fst E b _ _) (ci := 5) (q0 := 0) rfl rfl rfl rfl rfl (Nat.le_of_ble_eq_true rfl) dL_isFilterSo_250 ?_
                    refine v_iconst (x := (1 : Int32)) hX dL_isFilterSo_253 (by decide) ?_
                    refine v_icmp_ne (tgt := 350) hX dL_isFilterSo_254 (by decide) (fun c21 => ?_) (fun c21 => ?_)
                    · exact (c21 (bit_one v hI c15)).elim
                    · have c21t := eq_true c21
                      refine v_aload_n hX dL_isFilterSo_257 rfl ?_
                      refine v_iload_n hX dL_isFilterSo_258 rfl ?_
                      refine v_iload hX dL_isFilterSo_259 rfl ?_
                      refine v_callVi (r := X_reason v (nI (co)) (nI (n18).val)) (rest := []) (ws' := wX E b v) hX (fun sz => c_X5_reason l E b sz v (nI (co)) (nI (n18).val)) (cwV 2 hX.2.2.2.2.1 gL_isFilterSo_X5_reason rfl rfl rfl (by decide +kernel) ⟨Nat.le_of_ble_eq_true rfl, Nat.le_of_ble_eq_true rfl⟩) ([]) ([]) ((List.append_nil _).symm) ((List.append_nil _).symm).symm (wX_fst E b _ _) (ci := 5) (q0 := 0) rfl rfl rfl rfl rfl (Nat.le_of_ble_eq_true rfl) dL_isFilterSo_261 ?_
                      refine v_if_ne (tgt := 350) hX dL_isFilterSo_264 (by decide) (fun c22 => ?_) (fun c22 => ?_)
                      · exact (c22 (reason_held v hI c15)).elim
                      · have c22t := eq_true c22
                        refine v_aload_n hX dL_isFilterSo_267 rfl ?_
                        refine v_iload hX dL_isFilterSo_268 rfl ?_
                        refine v_iconst (x := (2 : Int32)) hX dL_isFilterSo_270 (by decide) ?_
                        refine v_callVi (r := X_line v (nI (n18).val) (2 : Int32)) (rest := []) (ws' := wX E b v) hX (fun sz => c_X5_line l E b sz v (nI (n18).val) (2 : Int32)) (cwV 2 hX.2.2.2.2.1 gL_isFilterSo_X5_line rfl rfl rfl (by decide +kernel) ⟨Nat.le_of_ble_eq_true rfl, Nat.le_of_ble_eq_true rfl⟩) ([]) ([]) ((List.append_nil _).symm) ((List.append_nil _).symm).symm (wX_fst E b _ _) (ci := 5) (q0 := 0) rfl rfl rfl rfl rfl (Nat.le_of_ble_eq_true rfl) dL_isFilterSo_271 ?_
                        refine v_iload_n hX dL_isFilterSo_274 rfl ?_
                        refine v_ishr (z := (X_line v (nI (n18).val) (2 : Int32) >>> (nI (co) &&& 31))) hX dL_isFilterSo_275 (rfl) ?_
                        refine v_iconst (x := (1 : Int32)) hX dL_isFilterSo_276 (by decide) ?_
                        refine v_iand (z := ((X_line v (nI (n18).val) (2 : Int32) >>> (nI (co) &&& 31)) &&& (1 : Int32))) hX dL_isFilterSo_277 (rfl) ?_
                        refine v_iconst (x := (1 : Int32)) hX dL_isFilterSo_278 (by decide) ?_
                        refine v_icmp_ne (tgt := 350) hX dL_isFilterSo_279 (by decide) (fun c23 => ?_) (fun c23 => ?_)
                        · exact (c23 (line_bit v hI c15)).elim
                        · have c23t := eq_true c23
                          refine v_aload_n hX dL_isFilterSo_282 rfl ?_
                          refine v_iload_n hX dL_isFilterSo_283 rfl ?_
                          refine v_iload hX dL_isFilterSo_284 rfl ?_
                          refine v_iconst (x := (1 : Int32)) hX dL_isFilterSo_286 (by decide) ?_
                          refine v_callVi (r := X_held v (nI (co)) (nI (i)) (1 : Int32)) (rest := []) (ws' := wX E b v) hX (fun sz => c_X5_held l E b sz v (nI (co)) (nI (i)) (1 : Int32)) (cwV 3 hX.2.2.2.2.1 gL_isFilterSo_X5_held rfl rfl rfl (by decide +kernel) ⟨Nat.le_of_ble_eq_true rfl, Nat.le_of_ble_eq_true rfl⟩) ([]) ([]) ((List.append_nil _).symm) ((List.append_nil _).symm).symm (wX_fst E b _ _) (ci := 5) (q0 := 0) rfl rfl rfl rfl rfl (Nat.le_of_ble_eq_true rfl) dL_isFilterSo_287 ?_
                          refine v_aload_n hX dL_isFilterSo_290 rfl ?_
                          refine v_iload hX dL_isFilterSo_291 rfl ?_
                          refine v_iconst (x := (1 : Int32)) hX dL_isFilterSo_293 (by decide) ?_
                          refine v_callVi (r := X_line v (nI (n18).val) (1 : Int32)) (rest := [.int (X_held v (nI (co)) (nI (i)) (1 : Int32))]) (ws' := wX E b v) hX (fun sz => c_X5_line l E b sz v (nI (n18).val) (1 : Int32)) (cwV 2 hX.2.2.2.2.1 gL_isFilterSo_X5_line rfl rfl rfl (by decide +kernel) ⟨Nat.le_of_ble_eq_true rfl, Nat.le_of_ble_eq_true rfl⟩) ([]) ([]) ((List.append_nil _).symm) ((List.append_nil _).symm).symm (wX_fst E b _ _) (ci := 5) (q0 := 0) rfl rfl rfl rfl rfl (Nat.le_of_ble_eq_true rfl) dL_isFilterSo_294 ?_
                          refine v_icmp_ne (tgt := 350) hX dL_isFilterSo_297 (by decide) (fun c24 => ?_) (fun c24 => ?_)
                          · exact (c24 (held_line1 v hI (by omega) c15)).elim
                          · have c24t := eq_true c24
                            refine v_aload_n hX dL_isFilterSo_300 rfl ?_
                            refine v_iload_n hX dL_isFilterSo_301 rfl ?_
                            refine v_iload hX dL_isFilterSo_302 rfl ?_
                            refine v_iconst (x := (2 : Int32)) hX dL_isFilterSo_304 (by decide) ?_
                            refine v_callVi (r := X_held v (nI (co)) (nI (i)) (2 : Int32)) (rest := []) (ws' := wX E b v) hX (fun sz => c_X5_held l E b sz v (nI (co)) (nI (i)) (2 : Int32)) (cwV 3 hX.2.2.2.2.1 gL_isFilterSo_X5_held rfl rfl rfl (by decide +kernel) ⟨Nat.le_of_ble_eq_true rfl, Nat.le_of_ble_eq_true rfl⟩) ([]) ([]) ((List.append_nil _).symm) ((List.append_nil _).symm).symm (wX_fst E b _ _) (ci := 5) (q0 := 0) rfl rfl rfl rfl rfl (Nat.le_of_ble_eq_true rfl) dL_isFilterSo_305 ?_
                            have hbl := bN_le ((v.1.2.1 co).2.2.1 i)
                            rw [o_held2 v (co := co) (p := i) hc (by omega) c15]
                            refine v_iconst (x := (1 : Int32)) hX dL_isFilterSo_308 (by decide) ?_
                            refine v_icmp_ne (tgt := 328) hX dL_isFilterSo_309 (by decide) (fun c25 => ?_) (fun c25 => ?_)
                            · replace c25 := (not_congr (nI_eq (a := bN ((v.1.2.1 co).2.2.1 i)) (b := 1) (by omega) (by omega))).mp c25
                              refine v_aload_n hX dL_isFilterSo_328 rfl ?_
                              refine v_iload_n hX dL_isFilterSo_329 rfl ?_
                              refine v_iload hX dL_isFilterSo_330 rfl ?_
                              refine v_iconst (x := (1 : Int32)) hX dL_isFilterSo_332 (by decide) ?_
                              refine v_callVi (r := X_held v (nI (co)) (nI (i)) (1 : Int32)) (rest := []) (ws' := wX E b v) hX (fun sz => c_X5_held l E b sz v (nI (co)) (nI (i)) (1 : Int32)) (cwV 3 hX.2.2.2.2.1 gL_isFilterSo_X5_held rfl rfl rfl (by decide +kernel) ⟨Nat.le_of_ble_eq_true rfl, Nat.le_of_ble_eq_true rfl⟩) ([]) ([]) ((List.append_nil _).symm) ((List.append_nil _).symm).symm (wX_fst E b _ _) (ci := 5) (q0 := 0) rfl rfl rfl rfl rfl (Nat.le_of_ble_eq_true rfl) dL_isFilterSo_333 ?_
                              refine v_aload_n hX dL_isFilterSo_336 rfl ?_
                              refine v_iload hX dL_isFilterSo_337 rfl ?_
                              refine v_iconst (x := (0 : Int32)) hX dL_isFilterSo_339 (by decide) ?_
                              refine v_callVi (r := X_line v (nI (n18).val) (0 : Int32)) (rest := [.int (X_held v (nI (co)) (nI (i)) (1 : Int32))]) (ws' := wX E b v) hX (fun sz => c_X5_line l E b sz v (nI (n18).val) (0 : Int32)) (cwV 2 hX.2.2.2.2.1 gL_isFilterSo_X5_line rfl rfl rfl (by decide +kernel) ⟨Nat.le_of_ble_eq_true rfl, Nat.le_of_ble_eq_true rfl⟩) ([]) ([]) ((List.append_nil _).symm) ((List.append_nil _).symm).symm (wX_fst E b _ _) (ci := 5) (q0 := 0) rfl rfl rfl rfl rfl (Nat.le_of_ble_eq_true rfl) dL_isFilterSo_340 ?_
                              refine v_icmp_ne (tgt := 350) hX dL_isFilterSo_343 (by decide) (fun c26 => ?_) (fun c26 => ?_)
                              · exact (c26 (held_line0 v hI (by omega) c15 (bN_0 (by assumption)))).elim
                              · have c26t := eq_true c26
                                refine v_iconst (x := (1 : Int32)) hX dL_isFilterSo_346 (by decide) ?_
                                refine v_goto (tgt := 351) hX dL_isFilterSo_347 (by decide) ?_
                                refine v_istore (lv' := [.ref (b 0 0), .int (nI (co)), .int (nI (cn (skf (v.1.2.1 co)) 24)), .int (nI (cn (abv (v.1.2.1 co).2.2.2.2) 24)), .int (nI ((cn (hol (v.1.2.1 co)) i) + 1)), .int (nI ((cn (v.1.2.1 co).2.2.1 i) + (bN ((v.1.2.1 co).2.2.1 i)))), .int ((0 : Int32)), .int ((1 : Int32)), .int (nI (i)), .int (nI (n18).val)]) hX dL_isFilterSo_351 (Nat.le_of_ble_eq_true rfl) (Nat.le_of_ble_eq_true rfl) rfl rfl ?_
                                refine v_iinc (y := nI (i + 1)) (lv' := [.ref (b 0 0), .int (nI (co)), .int (nI (cn (skf (v.1.2.1 co)) 24)), .int (nI (cn (abv (v.1.2.1 co).2.2.2.2) 24)), .int (nI ((cn (hol (v.1.2.1 co)) i) + 1)), .int (nI ((cn (v.1.2.1 co).2.2.1 i) + (bN ((v.1.2.1 co).2.2.1 i)))), .int ((0 : Int32)), .int ((1 : Int32)), .int (nI (i + 1)), .int (nI (n18).val)]) hX dL_isFilterSo_353 rfl (nI_inc _) (Nat.le_of_ble_eq_true rfl) (Nat.le_of_ble_eq_true rfl) rfl rfl ?_
                                refine v_goto (tgt := 190) hX dL_isFilterSo_356 (by decide) ?_
                                have e27 : (cn (hol (v.1.2.1 co)) i) + 1 = cn (hol (v.1.2.1 co)) (i + 1) := by first | (rw [cn_s, ho_1 (k := (v.1.2.1 co)) (p := i) (by assumption)]; done) | (rw [cn_s, ho_0 (k := (v.1.2.1 co)) (p := i) (by assumption)]; rfl) | (rw [cn_s]; done) | (rw [cn_s]; rfl) | (rw [cn_s, dy_0 hP (by assumption)]; rfl)
                                rw [e27]
                                have e28 : (cn (v.1.2.1 co).2.2.1 i) + (bN ((v.1.2.1 co).2.2.1 i)) = cn (v.1.2.1 co).2.2.1 (i + 1) := by first | (rw [cn_s, ho_1 (k := (v.1.2.1 co)) (p := i) (by assumption)]; done) | (rw [cn_s, ho_0 (k := (v.1.2.1 co)) (p := i) (by assumption)]; rfl) | (rw [cn_s]; done) | (rw [cn_s]; rfl) | (rw [cn_s, dy_0 hP (by assumption)]; rfl)
                                rw [e28]
                                exact v_fewer 9 rfl (ih (i + 1)  (by omega) )
                            · replace c25 := (nI_eq (a := bN ((v.1.2.1 co).2.2.1 i)) (b := 1) (by omega) (by omega)).mp c25
                              have c25t := eq_true c25
                              refine v_aload_n hX dL_isFilterSo_312 rfl ?_
                              refine v_iload hX dL_isFilterSo_313 rfl ?_
                              refine v_iconst (x := (2 : Int32)) hX dL_isFilterSo_315 (by decide) ?_
                              refine v_callVi (r := X_line v (nI (n18).val) (2 : Int32)) (rest := []) (ws' := wX E b v) hX (fun sz => c_X5_line l E b sz v (nI (n18).val) (2 : Int32)) (cwV 2 hX.2.2.2.2.1 gL_isFilterSo_X5_line rfl rfl rfl (by decide +kernel) ⟨Nat.le_of_ble_eq_true rfl, Nat.le_of_ble_eq_true rfl⟩) ([]) ([]) ((List.append_nil _).symm) ((List.append_nil _).symm).symm (wX_fst E b _ _) (ci := 5) (q0 := 0) rfl rfl rfl rfl rfl (Nat.le_of_ble_eq_true rfl) dL_isFilterSo_316 ?_
                              refine v_iconst (x := (1 : Int32)) hX dL_isFilterSo_319 (by decide) ?_
                              refine v_iload_n hX dL_isFilterSo_320 rfl ?_
                              refine v_ishl (z := ((1 : Int32) <<< (nI (co) &&& 31))) hX dL_isFilterSo_321 (rfl) ?_
                              refine v_icmp_ne (tgt := 350) hX dL_isFilterSo_322 (by decide) (fun c29 => ?_) (fun c29 => ?_)
                              · exact (c29 ((o_line2 v _).trans (dirty_one hI c15 (bN_1.mp (by assumption))))).elim
                              · have c29t := eq_true c29
                                refine v_goto (tgt := 346) hX dL_isFilterSo_325 (by decide) ?_
                                refine v_iconst (x := (1 : Int32)) hX dL_isFilterSo_346 (by decide) ?_
                                refine v_goto (tgt := 351) hX dL_isFilterSo_347 (by decide) ?_
                                refine v_istore (lv' := [.ref (b 0 0), .int (nI (co)), .int (nI (cn (skf (v.1.2.1 co)) 24)), .int (nI (cn (abv (v.1.2.1 co).2.2.2.2) 24)), .int (nI ((cn (hol (v.1.2.1 co)) i) + 1)), .int (nI ((cn (v.1.2.1 co).2.2.1 i) + (bN ((v.1.2.1 co).2.2.1 i)))), .int ((0 : Int32)), .int ((1 : Int32)), .int (nI (i)), .int (nI (n18).val)]) hX dL_isFilterSo_351 (Nat.le_of_ble_eq_true rfl) (Nat.le_of_ble_eq_true rfl) rfl rfl ?_
                                refine v_iinc (y := nI (i + 1)) (lv' := [.ref (b 0 0), .int (nI (co)), .int (nI (cn (skf (v.1.2.1 co)) 24)), .int (nI (cn (abv (v.1.2.1 co).2.2.2.2) 24)), .int (nI ((cn (hol (v.1.2.1 co)) i) + 1)), .int (nI ((cn (v.1.2.1 co).2.2.1 i) + (bN ((v.1.2.1 co).2.2.1 i)))), .int ((0 : Int32)), .int ((1 : Int32)), .int (nI (i + 1)), .int (nI (n18).val)]) hX dL_isFilterSo_353 rfl (nI_inc _) (Nat.le_of_ble_eq_true rfl) (Nat.le_of_ble_eq_true rfl) rfl rfl ?_
                                refine v_goto (tgt := 190) hX dL_isFilterSo_356 (by decide) ?_
                                have e30 : (cn (hol (v.1.2.1 co)) i) + 1 = cn (hol (v.1.2.1 co)) (i + 1) := by first | (rw [cn_s, ho_1 (k := (v.1.2.1 co)) (p := i) (by assumption)]; done) | (rw [cn_s, ho_0 (k := (v.1.2.1 co)) (p := i) (by assumption)]; rfl) | (rw [cn_s]; done) | (rw [cn_s]; rfl) | (rw [cn_s, dy_0 hP (by assumption)]; rfl)
                                rw [e30]
                                have e31 : (cn (v.1.2.1 co).2.2.1 i) + (bN ((v.1.2.1 co).2.2.1 i)) = cn (v.1.2.1 co).2.2.1 (i + 1) := by first | (rw [cn_s, ho_1 (k := (v.1.2.1 co)) (p := i) (by assumption)]; done) | (rw [cn_s, ho_0 (k := (v.1.2.1 co)) (p := i) (by assumption)]; rfl) | (rw [cn_s]; done) | (rw [cn_s]; rfl) | (rw [cn_s, dy_0 hP (by assumption)]; rfl)
                                rw [e31]
                                exact v_fewer 9 rfl (ih (i + 1)  (by omega) )
        exact loop_190 8 0  (by omega) 
      · replace c1 := (not_congr (nI_leI (a := 24) (b := 24) (by omega) (by omega))).mp c1
        first | (exfalso; omega) | exact absurd c1 (by decide) | exact absurd (by decide) c1
    | succ fu ih =>
      intro i  hin 
      refine v_iload hX dL_isFilterSo_19 rfl ?_
      refine v_bipush (x := (24 : Int32)) hX dL_isFilterSo_21 (by decide) ?_
      refine v_icmp_ge (tgt := 187) hX dL_isFilterSo_23 (by decide) (fun c32 => ?_) (fun c32 => ?_)
      · replace c32 := (nI_leI (a := 24) (b := i) (by omega) (by omega)).mp c32
        first | (exfalso; omega) | exact absurd c32 (by decide) | exact absurd (by decide) c32
      · replace c32 := (not_congr (nI_leI (a := 24) (b := i) (by omega) (by omega))).mp c32
        refine v_iconst (x := (0 : Int32)) hX dL_isFilterSo_26 (by decide) ?_
        refine v_istore (lv' := [.ref (b 0 0), .int (nI (co)), .int (nI (cn (skf (v.1.2.1 co)) i)), .int (nI (cn (abv (v.1.2.1 co).2.2.2.2) i)), .int ((0 : Int32)), .int ((0 : Int32)), .int ((0 : Int32)), .int ((1 : Int32)), .int (nI (i)), .int ((0 : Int32))]) hX dL_isFilterSo_27 (Nat.le_of_ble_eq_true rfl) (Nat.le_of_ble_eq_true rfl) rfl rfl ?_
        refine v_iconst (x := (0 : Int32)) hX dL_isFilterSo_29 (by decide) ?_
        refine v_istore (lv' := [.ref (b 0 0), .int (nI (co)), .int (nI (cn (skf (v.1.2.1 co)) i)), .int (nI (cn (abv (v.1.2.1 co).2.2.2.2) i)), .int ((0 : Int32)), .int ((0 : Int32)), .int ((0 : Int32)), .int ((1 : Int32)), .int (nI (i)), .int ((0 : Int32)), .int ((0 : Int32))]) hX dL_isFilterSo_30 (Nat.le_of_ble_eq_true rfl) (Nat.le_of_ble_eq_true rfl) rfl rfl ?_
        have loop_32 : ∀ (fu : Nat) (q : Nat) (dd : Nat), q + fu = 8 → dd = du (v.1.2.1 co).1 i q → V p l e ({ frames := 4, cells := 0, slots := 0, locals := 87 } : Room) s m args below meth c E 12 (va_A (wX E b v) sz) (MQ below (mQi E (bI (true)) (wX E b v) (wX E b v) sz) args s 0 0 (va_A (wX E b v) sz)) (wX E b v) [.ref (b 0 0), .int (nI (co)), .int (nI (cn (skf (v.1.2.1 co)) i)), .int (nI (cn (abv (v.1.2.1 co).2.2.2.2) i)), .int ((0 : Int32)), .int ((0 : Int32)), .int ((0 : Int32)), .int ((1 : Int32)), .int (nI (i)), .int (nI (dd)), .int (nI (q))] 32 [] := by
          intro fu
          induction fu with
          | zero =>
            intro q dd inv0 inv1
            have hdl := du_le (v.1.2.1 co).1 i q
            refine v_iload hX dL_isFilterSo_32 rfl ?_
            refine v_bipush (x := (8 : Int32)) hX dL_isFilterSo_34 (by decide) ?_
            refine v_icmp_ge (tgt := 110) hX dL_isFilterSo_36 (by decide) (fun c33 => ?_) (fun c33 => ?_)
            · replace c33 := (nI_leI (a := 8) (b := q) (by omega) (by omega)).mp c33
              have hus : dd = us (v.1.2.1 co).1 i := by rw [inv1, show q = 8 by omega]; exact du_8 _ _
              refine v_aload_n hX dL_isFilterSo_110 rfl ?_
              refine v_iload_n hX dL_isFilterSo_111 rfl ?_
              refine v_iload hX dL_isFilterSo_112 rfl ?_
              refine v_callVi (r := X_counter v (nI (co)) (nI (i))) (rest := []) (ws' := wX E b v) hX (fun sz => c_X5_counter l E b sz v (nI (co)) (nI (i))) (cwV 2 hX.2.2.2.2.1 gL_isFilterSo_X5_counter rfl rfl rfl (by decide +kernel) ⟨Nat.le_of_ble_eq_true rfl, Nat.le_of_ble_eq_true rfl⟩) ([]) ([]) ((List.append_nil _).symm) ((List.append_nil _).symm).symm (wX_fst E b _ _) (ci := 5) (q0 := 0) rfl rfl rfl rfl rfl (Nat.le_of_ble_eq_true rfl) dL_isFilterSo_114 ?_
              rw [o_cnt v (co := co) (k := i) hc (by omega)]
              refine v_istore (lv' := [.ref (b 0 0), .int (nI (co)), .int (nI (cn (skf (v.1.2.1 co)) i)), .int (nI (cn (abv (v.1.2.1 co).2.2.2.2) i)), .int ((0 : Int32)), .int ((0 : Int32)), .int ((0 : Int32)), .int ((1 : Int32)), .int (nI (i)), .int (nI (dd)), .int (((v.1.2.1 co).2.2.2.2.1 i))]) hX dL_isFilterSo_117 (Nat.le_of_ble_eq_true rfl) (Nat.le_of_ble_eq_true rfl) rfl rfl ?_
              refine v_iload_n hX dL_isFilterSo_119 rfl ?_
              refine v_iload hX dL_isFilterSo_120 rfl ?_
              refine v_if_le (tgt := 129) hX dL_isFilterSo_122 (by decide) (fun c34 => ?_) (fun c34 => ?_)
              · refine v_iconst (x := (0 : Int32)) hX dL_isFilterSo_129 (by decide) ?_
                refine v_iadd (z := nI ((cn (abv (v.1.2.1 co).2.2.2.2) i) + 0)) hX dL_isFilterSo_130 (nI_add (cn (abv (v.1.2.1 co).2.2.2.2) i) 0) ?_
                refine v_istore_n (lv' := [.ref (b 0 0), .int (nI (co)), .int (nI (cn (skf (v.1.2.1 co)) i)), .int (nI ((cn (abv (v.1.2.1 co).2.2.2.2) i) + 0)), .int ((0 : Int32)), .int ((0 : Int32)), .int ((0 : Int32)), .int ((1 : Int32)), .int (nI (i)), .int (nI (dd)), .int (((v.1.2.1 co).2.2.2.2.1 i))]) hX dL_isFilterSo_131 (Nat.le_of_ble_eq_true rfl) (Nat.le_of_ble_eq_true rfl) rfl rfl ?_
                refine v_iload_n hX dL_isFilterSo_132 rfl ?_
                refine v_iload hX dL_isFilterSo_133 rfl ?_
                refine v_iload hX dL_isFilterSo_135 rfl ?_
                refine v_icmp_ne (tgt := 144) hX dL_isFilterSo_137 (by decide) (fun c35 => ?_) (fun c35 => ?_)
                · refine v_iconst (x := (1 : Int32)) hX dL_isFilterSo_144 (by decide) ?_
                  refine v_iadd (z := nI ((cn (skf (v.1.2.1 co)) i) + 1)) hX dL_isFilterSo_145 (nI_add (cn (skf (v.1.2.1 co)) i) 1) ?_
                  refine v_istore_n (lv' := [.ref (b 0 0), .int (nI (co)), .int (nI ((cn (skf (v.1.2.1 co)) i) + 1)), .int (nI ((cn (abv (v.1.2.1 co).2.2.2.2) i) + 0)), .int ((0 : Int32)), .int ((0 : Int32)), .int ((0 : Int32)), .int ((1 : Int32)), .int (nI (i)), .int (nI (dd)), .int (((v.1.2.1 co).2.2.2.2.1 i))]) hX dL_isFilterSo_146 (Nat.le_of_ble_eq_true rfl) (Nat.le_of_ble_eq_true rfl) rfl rfl ?_
                  refine v_iload hX dL_isFilterSo_147 rfl ?_
                  refine v_if_eq (tgt := 178) hX dL_isFilterSo_149 (by decide) (fun c36 => ?_) (fun c36 => ?_)
                  · replace c36 := (nI_eq (a := 1) (b := 0) (by omega) (by omega)).mp c36
                    have c36t := eq_true c36
                    first | (exfalso; omega) | exact absurd c36 (by decide) | exact absurd (by decide) c36
                  · replace c36 := (not_congr (nI_eq (a := 1) (b := 0) (by omega) (by omega))).mp c36
                    refine v_iload hX dL_isFilterSo_152 rfl ?_
                    refine v_if_lt (tgt := 178) hX dL_isFilterSo_154 (by decide) (fun c37 => ?_) (fun c37 => ?_)
                    · exact absurd c37 (i_nlt.mpr (cnt_pos hI co i))
                    · refine v_iload hX dL_isFilterSo_157 rfl ?_
                      refine v_bipush (x := (10 : Int32)) hX dL_isFilterSo_159 (by decide) ?_
                      refine v_icmp_ge (tgt := 178) hX dL_isFilterSo_161 (by decide) (fun c38 => ?_) (fun c38 => ?_)
                      · exact absurd c38 (ge10 ((hP.1 co).2 i))
                      · refine v_iload hX dL_isFilterSo_164 rfl ?_
                        refine v_if_eq (tgt := 174) hX dL_isFilterSo_166 (by decide) (fun c39 => ?_) (fun c39 => ?_)
                        · replace c39 := (nI_eq (a := dd) (b := 0) (by omega) (by omega)).mp c39
                          have c39t := eq_true c39
                          refine v_iconst (x := (1 : Int32)) hX dL_isFilterSo_174 (by decide) ?_
                          refine v_goto (tgt := 179) hX dL_isFilterSo_175 (by decide) ?_
                          refine v_istore (lv' := [.ref (b 0 0), .int (nI (co)), .int (nI ((cn (skf (v.1.2.1 co)) i) + 1)), .int (nI ((cn (abv (v.1.2.1 co).2.2.2.2) i) + 0)), .int ((0 : Int32)), .int ((0 : Int32)), .int ((0 : Int32)), .int ((1 : Int32)), .int (nI (i)), .int (nI (dd)), .int (((v.1.2.1 co).2.2.2.2.1 i))]) hX dL_isFilterSo_179 (Nat.le_of_ble_eq_true rfl) (Nat.le_of_ble_eq_true rfl) rfl rfl ?_
                          refine v_iinc (y := nI (i + 1)) (lv' := [.ref (b 0 0), .int (nI (co)), .int (nI ((cn (skf (v.1.2.1 co)) i) + 1)), .int (nI ((cn (abv (v.1.2.1 co).2.2.2.2) i) + 0)), .int ((0 : Int32)), .int ((0 : Int32)), .int ((0 : Int32)), .int ((1 : Int32)), .int (nI (i + 1)), .int (nI (dd)), .int (((v.1.2.1 co).2.2.2.2.1 i))]) hX dL_isFilterSo_181 rfl (nI_inc _) (Nat.le_of_ble_eq_true rfl) (Nat.le_of_ble_eq_true rfl) rfl rfl ?_
                          refine v_goto (tgt := 19) hX dL_isFilterSo_184 (by decide) ?_
                          have e40 : (cn (skf (v.1.2.1 co)) i) + 1 = cn (skf (v.1.2.1 co)) (i + 1) := by first | (rw [cn_s, sk_1 (k := (v.1.2.1 co)) (c := i) (by assumption) hus]; done) | (rw [cn_s, sk_0 (k := (v.1.2.1 co)) (c := i) (by assumption) hus]; done) | (rw [cn_s, ab_1 (f := (v.1.2.1 co).2.2.2.2) (c := i) (by assumption)]; done) | (rw [cn_s, ab_0 (f := (v.1.2.1 co).2.2.2.2) (c := i) (by assumption)]; done)
                          rw [e40]
                          have e41 : (cn (abv (v.1.2.1 co).2.2.2.2) i) + 0 = cn (abv (v.1.2.1 co).2.2.2.2) (i + 1) := by first | (rw [cn_s, sk_1 (k := (v.1.2.1 co)) (c := i) (by assumption) hus]; done) | (rw [cn_s, sk_0 (k := (v.1.2.1 co)) (c := i) (by assumption) hus]; done) | (rw [cn_s, ab_1 (f := (v.1.2.1 co).2.2.2.2) (c := i) (by assumption)]; done) | (rw [cn_s, ab_0 (f := (v.1.2.1 co).2.2.2.2) (c := i) (by assumption)]; done)
                          rw [e41]
                          exact v_fewer 9 rfl (ih (i + 1)  (by omega) )
                        · replace c39 := (not_congr (nI_eq (a := dd) (b := 0) (by omega) (by omega))).mp c39
                          refine v_iload hX dL_isFilterSo_169 rfl ?_
                          refine v_if_le (tgt := 178) hX dL_isFilterSo_171 (by decide) (fun c42 => ?_) (fun c42 => ?_)
                          · exact absurd c42 (cnt_us hI (by omega))
                          · refine v_iconst (x := (1 : Int32)) hX dL_isFilterSo_174 (by decide) ?_
                            refine v_goto (tgt := 179) hX dL_isFilterSo_175 (by decide) ?_
                            refine v_istore (lv' := [.ref (b 0 0), .int (nI (co)), .int (nI ((cn (skf (v.1.2.1 co)) i) + 1)), .int (nI ((cn (abv (v.1.2.1 co).2.2.2.2) i) + 0)), .int ((0 : Int32)), .int ((0 : Int32)), .int ((0 : Int32)), .int ((1 : Int32)), .int (nI (i)), .int (nI (dd)), .int (((v.1.2.1 co).2.2.2.2.1 i))]) hX dL_isFilterSo_179 (Nat.le_of_ble_eq_true rfl) (Nat.le_of_ble_eq_true rfl) rfl rfl ?_
                            refine v_iinc (y := nI (i + 1)) (lv' := [.ref (b 0 0), .int (nI (co)), .int (nI ((cn (skf (v.1.2.1 co)) i) + 1)), .int (nI ((cn (abv (v.1.2.1 co).2.2.2.2) i) + 0)), .int ((0 : Int32)), .int ((0 : Int32)), .int ((0 : Int32)), .int ((1 : Int32)), .int (nI (i + 1)), .int (nI (dd)), .int (((v.1.2.1 co).2.2.2.2.1 i))]) hX dL_isFilterSo_181 rfl (nI_inc _) (Nat.le_of_ble_eq_true rfl) (Nat.le_of_ble_eq_true rfl) rfl rfl ?_
                            refine v_goto (tgt := 19) hX dL_isFilterSo_184 (by decide) ?_
                            have e43 : (cn (skf (v.1.2.1 co)) i) + 1 = cn (skf (v.1.2.1 co)) (i + 1) := by first | (rw [cn_s, sk_1 (k := (v.1.2.1 co)) (c := i) (by assumption) hus]; done) | (rw [cn_s, sk_0 (k := (v.1.2.1 co)) (c := i) (by assumption) hus]; done) | (rw [cn_s, ab_1 (f := (v.1.2.1 co).2.2.2.2) (c := i) (by assumption)]; done) | (rw [cn_s, ab_0 (f := (v.1.2.1 co).2.2.2.2) (c := i) (by assumption)]; done)
                            rw [e43]
                            have e44 : (cn (abv (v.1.2.1 co).2.2.2.2) i) + 0 = cn (abv (v.1.2.1 co).2.2.2.2) (i + 1) := by first | (rw [cn_s, sk_1 (k := (v.1.2.1 co)) (c := i) (by assumption) hus]; done) | (rw [cn_s, sk_0 (k := (v.1.2.1 co)) (c := i) (by assumption) hus]; done) | (rw [cn_s, ab_1 (f := (v.1.2.1 co).2.2.2.2) (c := i) (by assumption)]; done) | (rw [cn_s, ab_0 (f := (v.1.2.1 co).2.2.2.2) (c := i) (by assumption)]; done)
                            rw [e44]
                            exact v_fewer 9 rfl (ih (i + 1)  (by omega) )
                · have c35t := eq_true c35
                  refine v_iconst (x := (0 : Int32)) hX dL_isFilterSo_140 (by decide) ?_
                  refine v_goto (tgt := 145) hX dL_isFilterSo_141 (by decide) ?_
                  refine v_iadd (z := nI ((cn (skf (v.1.2.1 co)) i) + 0)) hX dL_isFilterSo_145 (nI_add (cn (skf (v.1.2.1 co)) i) 0) ?_
                  refine v_istore_n (lv' := [.ref (b 0 0), .int (nI (co)), .int (nI ((cn (skf (v.1.2.1 co)) i) + 0)), .int (nI ((cn (abv (v.1.2.1 co).2.2.2.2) i) + 0)), .int ((0 : Int32)), .int ((0 : Int32)), .int ((0 : Int32)), .int ((1 : Int32)), .int (nI (i)), .int (nI (dd)), .int (((v.1.2.1 co).2.2.2.2.1 i))]) hX dL_isFilterSo_146 (Nat.le_of_ble_eq_true rfl) (Nat.le_of_ble_eq_true rfl) rfl rfl ?_
                  refine v_iload hX dL_isFilterSo_147 rfl ?_
                  refine v_if_eq (tgt := 178) hX dL_isFilterSo_149 (by decide) (fun c45 => ?_) (fun c45 => ?_)
                  · replace c45 := (nI_eq (a := 1) (b := 0) (by omega) (by omega)).mp c45
                    have c45t := eq_true c45
                    first | (exfalso; omega) | exact absurd c45 (by decide) | exact absurd (by decide) c45
                  · replace c45 := (not_congr (nI_eq (a := 1) (b := 0) (by omega) (by omega))).mp c45
                    refine v_iload hX dL_isFilterSo_152 rfl ?_
                    refine v_if_lt (tgt := 178) hX dL_isFilterSo_154 (by decide) (fun c46 => ?_) (fun c46 => ?_)
                    · exact absurd c46 (i_nlt.mpr (cnt_pos hI co i))
                    · refine v_iload hX dL_isFilterSo_157 rfl ?_
                      refine v_bipush (x := (10 : Int32)) hX dL_isFilterSo_159 (by decide) ?_
                      refine v_icmp_ge (tgt := 178) hX dL_isFilterSo_161 (by decide) (fun c47 => ?_) (fun c47 => ?_)
                      · exact absurd c47 (ge10 ((hP.1 co).2 i))
                      · refine v_iload hX dL_isFilterSo_164 rfl ?_
                        refine v_if_eq (tgt := 174) hX dL_isFilterSo_166 (by decide) (fun c48 => ?_) (fun c48 => ?_)
                        · replace c48 := (nI_eq (a := dd) (b := 0) (by omega) (by omega)).mp c48
                          have c48t := eq_true c48
                          refine v_iconst (x := (1 : Int32)) hX dL_isFilterSo_174 (by decide) ?_
                          refine v_goto (tgt := 179) hX dL_isFilterSo_175 (by decide) ?_
                          refine v_istore (lv' := [.ref (b 0 0), .int (nI (co)), .int (nI ((cn (skf (v.1.2.1 co)) i) + 0)), .int (nI ((cn (abv (v.1.2.1 co).2.2.2.2) i) + 0)), .int ((0 : Int32)), .int ((0 : Int32)), .int ((0 : Int32)), .int ((1 : Int32)), .int (nI (i)), .int (nI (dd)), .int (((v.1.2.1 co).2.2.2.2.1 i))]) hX dL_isFilterSo_179 (Nat.le_of_ble_eq_true rfl) (Nat.le_of_ble_eq_true rfl) rfl rfl ?_
                          refine v_iinc (y := nI (i + 1)) (lv' := [.ref (b 0 0), .int (nI (co)), .int (nI ((cn (skf (v.1.2.1 co)) i) + 0)), .int (nI ((cn (abv (v.1.2.1 co).2.2.2.2) i) + 0)), .int ((0 : Int32)), .int ((0 : Int32)), .int ((0 : Int32)), .int ((1 : Int32)), .int (nI (i + 1)), .int (nI (dd)), .int (((v.1.2.1 co).2.2.2.2.1 i))]) hX dL_isFilterSo_181 rfl (nI_inc _) (Nat.le_of_ble_eq_true rfl) (Nat.le_of_ble_eq_true rfl) rfl rfl ?_
                          refine v_goto (tgt := 19) hX dL_isFilterSo_184 (by decide) ?_
                          have e49 : (cn (skf (v.1.2.1 co)) i) + 0 = cn (skf (v.1.2.1 co)) (i + 1) := by first | (rw [cn_s, sk_1 (k := (v.1.2.1 co)) (c := i) (by assumption) hus]; done) | (rw [cn_s, sk_0 (k := (v.1.2.1 co)) (c := i) (by assumption) hus]; done) | (rw [cn_s, ab_1 (f := (v.1.2.1 co).2.2.2.2) (c := i) (by assumption)]; done) | (rw [cn_s, ab_0 (f := (v.1.2.1 co).2.2.2.2) (c := i) (by assumption)]; done)
                          rw [e49]
                          have e50 : (cn (abv (v.1.2.1 co).2.2.2.2) i) + 0 = cn (abv (v.1.2.1 co).2.2.2.2) (i + 1) := by first | (rw [cn_s, sk_1 (k := (v.1.2.1 co)) (c := i) (by assumption) hus]; done) | (rw [cn_s, sk_0 (k := (v.1.2.1 co)) (c := i) (by assumption) hus]; done) | (rw [cn_s, ab_1 (f := (v.1.2.1 co).2.2.2.2) (c := i) (by assumption)]; done) | (rw [cn_s, ab_0 (f := (v.1.2.1 co).2.2.2.2) (c := i) (by assumption)]; done)
                          rw [e50]
                          exact v_fewer 9 rfl (ih (i + 1)  (by omega) )
                        · replace c48 := (not_congr (nI_eq (a := dd) (b := 0) (by omega) (by omega))).mp c48
                          refine v_iload hX dL_isFilterSo_169 rfl ?_
                          refine v_if_le (tgt := 178) hX dL_isFilterSo_171 (by decide) (fun c51 => ?_) (fun c51 => ?_)
                          · exact absurd c51 (cnt_us hI (by omega))
                          · refine v_iconst (x := (1 : Int32)) hX dL_isFilterSo_174 (by decide) ?_
                            refine v_goto (tgt := 179) hX dL_isFilterSo_175 (by decide) ?_
                            refine v_istore (lv' := [.ref (b 0 0), .int (nI (co)), .int (nI ((cn (skf (v.1.2.1 co)) i) + 0)), .int (nI ((cn (abv (v.1.2.1 co).2.2.2.2) i) + 0)), .int ((0 : Int32)), .int ((0 : Int32)), .int ((0 : Int32)), .int ((1 : Int32)), .int (nI (i)), .int (nI (dd)), .int (((v.1.2.1 co).2.2.2.2.1 i))]) hX dL_isFilterSo_179 (Nat.le_of_ble_eq_true rfl) (Nat.le_of_ble_eq_true rfl) rfl rfl ?_
                            refine v_iinc (y := nI (i + 1)) (lv' := [.ref (b 0 0), .int (nI (co)), .int (nI ((cn (skf (v.1.2.1 co)) i) + 0)), .int (nI ((cn (abv (v.1.2.1 co).2.2.2.2) i) + 0)), .int ((0 : Int32)), .int ((0 : Int32)), .int ((0 : Int32)), .int ((1 : Int32)), .int (nI (i + 1)), .int (nI (dd)), .int (((v.1.2.1 co).2.2.2.2.1 i))]) hX dL_isFilterSo_181 rfl (nI_inc _) (Nat.le_of_ble_eq_true rfl) (Nat.le_of_ble_eq_true rfl) rfl rfl ?_
                            refine v_goto (tgt := 19) hX dL_isFilterSo_184 (by decide) ?_
                            have e52 : (cn (skf (v.1.2.1 co)) i) + 0 = cn (skf (v.1.2.1 co)) (i + 1) := by first | (rw [cn_s, sk_1 (k := (v.1.2.1 co)) (c := i) (by assumption) hus]; done) | (rw [cn_s, sk_0 (k := (v.1.2.1 co)) (c := i) (by assumption) hus]; done) | (rw [cn_s, ab_1 (f := (v.1.2.1 co).2.2.2.2) (c := i) (by assumption)]; done) | (rw [cn_s, ab_0 (f := (v.1.2.1 co).2.2.2.2) (c := i) (by assumption)]; done)
                            rw [e52]
                            have e53 : (cn (abv (v.1.2.1 co).2.2.2.2) i) + 0 = cn (abv (v.1.2.1 co).2.2.2.2) (i + 1) := by first | (rw [cn_s, sk_1 (k := (v.1.2.1 co)) (c := i) (by assumption) hus]; done) | (rw [cn_s, sk_0 (k := (v.1.2.1 co)) (c := i) (by assumption) hus]; done) | (rw [cn_s, ab_1 (f := (v.1.2.1 co).2.2.2.2) (c := i) (by assumption)]; done) | (rw [cn_s, ab_0 (f := (v.1.2.1 co).2.2.2.2) (c := i) (by assumption)]; done)
                            rw [e53]
                            exact v_fewer 9 rfl (ih (i + 1)  (by omega) )
              · refine v_iconst (x := (1 : Int32)) hX dL_isFilterSo_125 (by decide) ?_
                refine v_goto (tgt := 130) hX dL_isFilterSo_126 (by decide) ?_
                refine v_iadd (z := nI ((cn (abv (v.1.2.1 co).2.2.2.2) i) + 1)) hX dL_isFilterSo_130 (nI_add (cn (abv (v.1.2.1 co).2.2.2.2) i) 1) ?_
                refine v_istore_n (lv' := [.ref (b 0 0), .int (nI (co)), .int (nI (cn (skf (v.1.2.1 co)) i)), .int (nI ((cn (abv (v.1.2.1 co).2.2.2.2) i) + 1)), .int ((0 : Int32)), .int ((0 : Int32)), .int ((0 : Int32)), .int ((1 : Int32)), .int (nI (i)), .int (nI (dd)), .int (((v.1.2.1 co).2.2.2.2.1 i))]) hX dL_isFilterSo_131 (Nat.le_of_ble_eq_true rfl) (Nat.le_of_ble_eq_true rfl) rfl rfl ?_
                refine v_iload_n hX dL_isFilterSo_132 rfl ?_
                refine v_iload hX dL_isFilterSo_133 rfl ?_
                refine v_iload hX dL_isFilterSo_135 rfl ?_
                refine v_icmp_ne (tgt := 144) hX dL_isFilterSo_137 (by decide) (fun c54 => ?_) (fun c54 => ?_)
                · refine v_iconst (x := (1 : Int32)) hX dL_isFilterSo_144 (by decide) ?_
                  refine v_iadd (z := nI ((cn (skf (v.1.2.1 co)) i) + 1)) hX dL_isFilterSo_145 (nI_add (cn (skf (v.1.2.1 co)) i) 1) ?_
                  refine v_istore_n (lv' := [.ref (b 0 0), .int (nI (co)), .int (nI ((cn (skf (v.1.2.1 co)) i) + 1)), .int (nI ((cn (abv (v.1.2.1 co).2.2.2.2) i) + 1)), .int ((0 : Int32)), .int ((0 : Int32)), .int ((0 : Int32)), .int ((1 : Int32)), .int (nI (i)), .int (nI (dd)), .int (((v.1.2.1 co).2.2.2.2.1 i))]) hX dL_isFilterSo_146 (Nat.le_of_ble_eq_true rfl) (Nat.le_of_ble_eq_true rfl) rfl rfl ?_
                  refine v_iload hX dL_isFilterSo_147 rfl ?_
                  refine v_if_eq (tgt := 178) hX dL_isFilterSo_149 (by decide) (fun c55 => ?_) (fun c55 => ?_)
                  · replace c55 := (nI_eq (a := 1) (b := 0) (by omega) (by omega)).mp c55
                    have c55t := eq_true c55
                    first | (exfalso; omega) | exact absurd c55 (by decide) | exact absurd (by decide) c55
                  · replace c55 := (not_congr (nI_eq (a := 1) (b := 0) (by omega) (by omega))).mp c55
                    refine v_iload hX dL_isFilterSo_152 rfl ?_
                    refine v_if_lt (tgt := 178) hX dL_isFilterSo_154 (by decide) (fun c56 => ?_) (fun c56 => ?_)
                    · exact absurd c56 (i_nlt.mpr (cnt_pos hI co i))
                    · refine v_iload hX dL_isFilterSo_157 rfl ?_
                      refine v_bipush (x := (10 : Int32)) hX dL_isFilterSo_159 (by decide) ?_
                      refine v_icmp_ge (tgt := 178) hX dL_isFilterSo_161 (by decide) (fun c57 => ?_) (fun c57 => ?_)
                      · exact absurd c57 (ge10 ((hP.1 co).2 i))
                      · refine v_iload hX dL_isFilterSo_164 rfl ?_
                        refine v_if_eq (tgt := 174) hX dL_isFilterSo_166 (by decide) (fun c58 => ?_) (fun c58 => ?_)
                        · replace c58 := (nI_eq (a := dd) (b := 0) (by omega) (by omega)).mp c58
                          have c58t := eq_true c58
                          refine v_iconst (x := (1 : Int32)) hX dL_isFilterSo_174 (by decide) ?_
                          refine v_goto (tgt := 179) hX dL_isFilterSo_175 (by decide) ?_
                          refine v_istore (lv' := [.ref (b 0 0), .int (nI (co)), .int (nI ((cn (skf (v.1.2.1 co)) i) + 1)), .int (nI ((cn (abv (v.1.2.1 co).2.2.2.2) i) + 1)), .int ((0 : Int32)), .int ((0 : Int32)), .int ((0 : Int32)), .int ((1 : Int32)), .int (nI (i)), .int (nI (dd)), .int (((v.1.2.1 co).2.2.2.2.1 i))]) hX dL_isFilterSo_179 (Nat.le_of_ble_eq_true rfl) (Nat.le_of_ble_eq_true rfl) rfl rfl ?_
                          refine v_iinc (y := nI (i + 1)) (lv' := [.ref (b 0 0), .int (nI (co)), .int (nI ((cn (skf (v.1.2.1 co)) i) + 1)), .int (nI ((cn (abv (v.1.2.1 co).2.2.2.2) i) + 1)), .int ((0 : Int32)), .int ((0 : Int32)), .int ((0 : Int32)), .int ((1 : Int32)), .int (nI (i + 1)), .int (nI (dd)), .int (((v.1.2.1 co).2.2.2.2.1 i))]) hX dL_isFilterSo_181 rfl (nI_inc _) (Nat.le_of_ble_eq_true rfl) (Nat.le_of_ble_eq_true rfl) rfl rfl ?_
                          refine v_goto (tgt := 19) hX dL_isFilterSo_184 (by decide) ?_
                          have e59 : (cn (skf (v.1.2.1 co)) i) + 1 = cn (skf (v.1.2.1 co)) (i + 1) := by first | (rw [cn_s, sk_1 (k := (v.1.2.1 co)) (c := i) (by assumption) hus]; done) | (rw [cn_s, sk_0 (k := (v.1.2.1 co)) (c := i) (by assumption) hus]; done) | (rw [cn_s, ab_1 (f := (v.1.2.1 co).2.2.2.2) (c := i) (by assumption)]; done) | (rw [cn_s, ab_0 (f := (v.1.2.1 co).2.2.2.2) (c := i) (by assumption)]; done)
                          rw [e59]
                          have e60 : (cn (abv (v.1.2.1 co).2.2.2.2) i) + 1 = cn (abv (v.1.2.1 co).2.2.2.2) (i + 1) := by first | (rw [cn_s, sk_1 (k := (v.1.2.1 co)) (c := i) (by assumption) hus]; done) | (rw [cn_s, sk_0 (k := (v.1.2.1 co)) (c := i) (by assumption) hus]; done) | (rw [cn_s, ab_1 (f := (v.1.2.1 co).2.2.2.2) (c := i) (by assumption)]; done) | (rw [cn_s, ab_0 (f := (v.1.2.1 co).2.2.2.2) (c := i) (by assumption)]; done)
                          rw [e60]
                          exact v_fewer 9 rfl (ih (i + 1)  (by omega) )
                        · replace c58 := (not_congr (nI_eq (a := dd) (b := 0) (by omega) (by omega))).mp c58
                          refine v_iload hX dL_isFilterSo_169 rfl ?_
                          refine v_if_le (tgt := 178) hX dL_isFilterSo_171 (by decide) (fun c61 => ?_) (fun c61 => ?_)
                          · exact absurd c61 (cnt_us hI (by omega))
                          · refine v_iconst (x := (1 : Int32)) hX dL_isFilterSo_174 (by decide) ?_
                            refine v_goto (tgt := 179) hX dL_isFilterSo_175 (by decide) ?_
                            refine v_istore (lv' := [.ref (b 0 0), .int (nI (co)), .int (nI ((cn (skf (v.1.2.1 co)) i) + 1)), .int (nI ((cn (abv (v.1.2.1 co).2.2.2.2) i) + 1)), .int ((0 : Int32)), .int ((0 : Int32)), .int ((0 : Int32)), .int ((1 : Int32)), .int (nI (i)), .int (nI (dd)), .int (((v.1.2.1 co).2.2.2.2.1 i))]) hX dL_isFilterSo_179 (Nat.le_of_ble_eq_true rfl) (Nat.le_of_ble_eq_true rfl) rfl rfl ?_
                            refine v_iinc (y := nI (i + 1)) (lv' := [.ref (b 0 0), .int (nI (co)), .int (nI ((cn (skf (v.1.2.1 co)) i) + 1)), .int (nI ((cn (abv (v.1.2.1 co).2.2.2.2) i) + 1)), .int ((0 : Int32)), .int ((0 : Int32)), .int ((0 : Int32)), .int ((1 : Int32)), .int (nI (i + 1)), .int (nI (dd)), .int (((v.1.2.1 co).2.2.2.2.1 i))]) hX dL_isFilterSo_181 rfl (nI_inc _) (Nat.le_of_ble_eq_true rfl) (Nat.le_of_ble_eq_true rfl) rfl rfl ?_
                            refine v_goto (tgt := 19) hX dL_isFilterSo_184 (by decide) ?_
                            have e62 : (cn (skf (v.1.2.1 co)) i) + 1 = cn (skf (v.1.2.1 co)) (i + 1) := by first | (rw [cn_s, sk_1 (k := (v.1.2.1 co)) (c := i) (by assumption) hus]; done) | (rw [cn_s, sk_0 (k := (v.1.2.1 co)) (c := i) (by assumption) hus]; done) | (rw [cn_s, ab_1 (f := (v.1.2.1 co).2.2.2.2) (c := i) (by assumption)]; done) | (rw [cn_s, ab_0 (f := (v.1.2.1 co).2.2.2.2) (c := i) (by assumption)]; done)
                            rw [e62]
                            have e63 : (cn (abv (v.1.2.1 co).2.2.2.2) i) + 1 = cn (abv (v.1.2.1 co).2.2.2.2) (i + 1) := by first | (rw [cn_s, sk_1 (k := (v.1.2.1 co)) (c := i) (by assumption) hus]; done) | (rw [cn_s, sk_0 (k := (v.1.2.1 co)) (c := i) (by assumption) hus]; done) | (rw [cn_s, ab_1 (f := (v.1.2.1 co).2.2.2.2) (c := i) (by assumption)]; done) | (rw [cn_s, ab_0 (f := (v.1.2.1 co).2.2.2.2) (c := i) (by assumption)]; done)
                            rw [e63]
                            exact v_fewer 9 rfl (ih (i + 1)  (by omega) )
                · have c54t := eq_true c54
                  refine v_iconst (x := (0 : Int32)) hX dL_isFilterSo_140 (by decide) ?_
                  refine v_goto (tgt := 145) hX dL_isFilterSo_141 (by decide) ?_
                  refine v_iadd (z := nI ((cn (skf (v.1.2.1 co)) i) + 0)) hX dL_isFilterSo_145 (nI_add (cn (skf (v.1.2.1 co)) i) 0) ?_
                  refine v_istore_n (lv' := [.ref (b 0 0), .int (nI (co)), .int (nI ((cn (skf (v.1.2.1 co)) i) + 0)), .int (nI ((cn (abv (v.1.2.1 co).2.2.2.2) i) + 1)), .int ((0 : Int32)), .int ((0 : Int32)), .int ((0 : Int32)), .int ((1 : Int32)), .int (nI (i)), .int (nI (dd)), .int (((v.1.2.1 co).2.2.2.2.1 i))]) hX dL_isFilterSo_146 (Nat.le_of_ble_eq_true rfl) (Nat.le_of_ble_eq_true rfl) rfl rfl ?_
                  refine v_iload hX dL_isFilterSo_147 rfl ?_
                  refine v_if_eq (tgt := 178) hX dL_isFilterSo_149 (by decide) (fun c64 => ?_) (fun c64 => ?_)
                  · replace c64 := (nI_eq (a := 1) (b := 0) (by omega) (by omega)).mp c64
                    have c64t := eq_true c64
                    first | (exfalso; omega) | exact absurd c64 (by decide) | exact absurd (by decide) c64
                  · replace c64 := (not_congr (nI_eq (a := 1) (b := 0) (by omega) (by omega))).mp c64
                    refine v_iload hX dL_isFilterSo_152 rfl ?_
                    refine v_if_lt (tgt := 178) hX dL_isFilterSo_154 (by decide) (fun c65 => ?_) (fun c65 => ?_)
                    · exact absurd c65 (i_nlt.mpr (cnt_pos hI co i))
                    · refine v_iload hX dL_isFilterSo_157 rfl ?_
                      refine v_bipush (x := (10 : Int32)) hX dL_isFilterSo_159 (by decide) ?_
                      refine v_icmp_ge (tgt := 178) hX dL_isFilterSo_161 (by decide) (fun c66 => ?_) (fun c66 => ?_)
                      · exact absurd c66 (ge10 ((hP.1 co).2 i))
                      · refine v_iload hX dL_isFilterSo_164 rfl ?_
                        refine v_if_eq (tgt := 174) hX dL_isFilterSo_166 (by decide) (fun c67 => ?_) (fun c67 => ?_)
                        · replace c67 := (nI_eq (a := dd) (b := 0) (by omega) (by omega)).mp c67
                          have c67t := eq_true c67
                          refine v_iconst (x := (1 : Int32)) hX dL_isFilterSo_174 (by decide) ?_
                          refine v_goto (tgt := 179) hX dL_isFilterSo_175 (by decide) ?_
                          refine v_istore (lv' := [.ref (b 0 0), .int (nI (co)), .int (nI ((cn (skf (v.1.2.1 co)) i) + 0)), .int (nI ((cn (abv (v.1.2.1 co).2.2.2.2) i) + 1)), .int ((0 : Int32)), .int ((0 : Int32)), .int ((0 : Int32)), .int ((1 : Int32)), .int (nI (i)), .int (nI (dd)), .int (((v.1.2.1 co).2.2.2.2.1 i))]) hX dL_isFilterSo_179 (Nat.le_of_ble_eq_true rfl) (Nat.le_of_ble_eq_true rfl) rfl rfl ?_
                          refine v_iinc (y := nI (i + 1)) (lv' := [.ref (b 0 0), .int (nI (co)), .int (nI ((cn (skf (v.1.2.1 co)) i) + 0)), .int (nI ((cn (abv (v.1.2.1 co).2.2.2.2) i) + 1)), .int ((0 : Int32)), .int ((0 : Int32)), .int ((0 : Int32)), .int ((1 : Int32)), .int (nI (i + 1)), .int (nI (dd)), .int (((v.1.2.1 co).2.2.2.2.1 i))]) hX dL_isFilterSo_181 rfl (nI_inc _) (Nat.le_of_ble_eq_true rfl) (Nat.le_of_ble_eq_true rfl) rfl rfl ?_
                          refine v_goto (tgt := 19) hX dL_isFilterSo_184 (by decide) ?_
                          have e68 : (cn (skf (v.1.2.1 co)) i) + 0 = cn (skf (v.1.2.1 co)) (i + 1) := by first | (rw [cn_s, sk_1 (k := (v.1.2.1 co)) (c := i) (by assumption) hus]; done) | (rw [cn_s, sk_0 (k := (v.1.2.1 co)) (c := i) (by assumption) hus]; done) | (rw [cn_s, ab_1 (f := (v.1.2.1 co).2.2.2.2) (c := i) (by assumption)]; done) | (rw [cn_s, ab_0 (f := (v.1.2.1 co).2.2.2.2) (c := i) (by assumption)]; done)
                          rw [e68]
                          have e69 : (cn (abv (v.1.2.1 co).2.2.2.2) i) + 1 = cn (abv (v.1.2.1 co).2.2.2.2) (i + 1) := by first | (rw [cn_s, sk_1 (k := (v.1.2.1 co)) (c := i) (by assumption) hus]; done) | (rw [cn_s, sk_0 (k := (v.1.2.1 co)) (c := i) (by assumption) hus]; done) | (rw [cn_s, ab_1 (f := (v.1.2.1 co).2.2.2.2) (c := i) (by assumption)]; done) | (rw [cn_s, ab_0 (f := (v.1.2.1 co).2.2.2.2) (c := i) (by assumption)]; done)
                          rw [e69]
                          exact v_fewer 9 rfl (ih (i + 1)  (by omega) )
                        · replace c67 := (not_congr (nI_eq (a := dd) (b := 0) (by omega) (by omega))).mp c67
                          refine v_iload hX dL_isFilterSo_169 rfl ?_
                          refine v_if_le (tgt := 178) hX dL_isFilterSo_171 (by decide) (fun c70 => ?_) (fun c70 => ?_)
                          · exact absurd c70 (cnt_us hI (by omega))
                          · refine v_iconst (x := (1 : Int32)) hX dL_isFilterSo_174 (by decide) ?_
                            refine v_goto (tgt := 179) hX dL_isFilterSo_175 (by decide) ?_
                            refine v_istore (lv' := [.ref (b 0 0), .int (nI (co)), .int (nI ((cn (skf (v.1.2.1 co)) i) + 0)), .int (nI ((cn (abv (v.1.2.1 co).2.2.2.2) i) + 1)), .int ((0 : Int32)), .int ((0 : Int32)), .int ((0 : Int32)), .int ((1 : Int32)), .int (nI (i)), .int (nI (dd)), .int (((v.1.2.1 co).2.2.2.2.1 i))]) hX dL_isFilterSo_179 (Nat.le_of_ble_eq_true rfl) (Nat.le_of_ble_eq_true rfl) rfl rfl ?_
                            refine v_iinc (y := nI (i + 1)) (lv' := [.ref (b 0 0), .int (nI (co)), .int (nI ((cn (skf (v.1.2.1 co)) i) + 0)), .int (nI ((cn (abv (v.1.2.1 co).2.2.2.2) i) + 1)), .int ((0 : Int32)), .int ((0 : Int32)), .int ((0 : Int32)), .int ((1 : Int32)), .int (nI (i + 1)), .int (nI (dd)), .int (((v.1.2.1 co).2.2.2.2.1 i))]) hX dL_isFilterSo_181 rfl (nI_inc _) (Nat.le_of_ble_eq_true rfl) (Nat.le_of_ble_eq_true rfl) rfl rfl ?_
                            refine v_goto (tgt := 19) hX dL_isFilterSo_184 (by decide) ?_
                            have e71 : (cn (skf (v.1.2.1 co)) i) + 0 = cn (skf (v.1.2.1 co)) (i + 1) := by first | (rw [cn_s, sk_1 (k := (v.1.2.1 co)) (c := i) (by assumption) hus]; done) | (rw [cn_s, sk_0 (k := (v.1.2.1 co)) (c := i) (by assumption) hus]; done) | (rw [cn_s, ab_1 (f := (v.1.2.1 co).2.2.2.2) (c := i) (by assumption)]; done) | (rw [cn_s, ab_0 (f := (v.1.2.1 co).2.2.2.2) (c := i) (by assumption)]; done)
                            rw [e71]
                            have e72 : (cn (abv (v.1.2.1 co).2.2.2.2) i) + 1 = cn (abv (v.1.2.1 co).2.2.2.2) (i + 1) := by first | (rw [cn_s, sk_1 (k := (v.1.2.1 co)) (c := i) (by assumption) hus]; done) | (rw [cn_s, sk_0 (k := (v.1.2.1 co)) (c := i) (by assumption) hus]; done) | (rw [cn_s, ab_1 (f := (v.1.2.1 co).2.2.2.2) (c := i) (by assumption)]; done) | (rw [cn_s, ab_0 (f := (v.1.2.1 co).2.2.2.2) (c := i) (by assumption)]; done)
                            rw [e72]
                            exact v_fewer 9 rfl (ih (i + 1)  (by omega) )
            · replace c33 := (not_congr (nI_leI (a := 8) (b := q) (by omega) (by omega))).mp c33
              first | (exfalso; omega) | exact absurd c33 (by decide) | exact absurd (by decide) c33
          | succ fu ih =>
            intro q dd inv0 inv1
            have hdl := du_le (v.1.2.1 co).1 i q
            refine v_iload hX dL_isFilterSo_32 rfl ?_
            refine v_bipush (x := (8 : Int32)) hX dL_isFilterSo_34 (by decide) ?_
            refine v_icmp_ge (tgt := 110) hX dL_isFilterSo_36 (by decide) (fun c73 => ?_) (fun c73 => ?_)
            · replace c73 := (nI_leI (a := 8) (b := q) (by omega) (by omega)).mp c73
              first | (exfalso; omega) | exact absurd c73 (by decide) | exact absurd (by decide) c73
            · replace c73 := (not_congr (nI_leI (a := 8) (b := q) (by omega) (by omega))).mp c73
              refine v_aload_n hX dL_isFilterSo_39 rfl ?_
              refine v_iload_n hX dL_isFilterSo_40 rfl ?_
              refine v_iload hX dL_isFilterSo_41 rfl ?_
              refine v_iconst (x := (0 : Int32)) hX dL_isFilterSo_43 (by decide) ?_
              refine v_callVi (r := X_held v (nI (co)) (nI (q)) (0 : Int32)) (rest := []) (ws' := wX E b v) hX (fun sz => c_X5_held l E b sz v (nI (co)) (nI (q)) (0 : Int32)) (cwV 3 hX.2.2.2.2.1 gL_isFilterSo_X5_held rfl rfl rfl (by decide +kernel) ⟨Nat.le_of_ble_eq_true rfl, Nat.le_of_ble_eq_true rfl⟩) ([]) ([]) ((List.append_nil _).symm) ((List.append_nil _).symm).symm (wX_fst E b _ _) (ci := 5) (q0 := 0) rfl rfl rfl rfl rfl (Nat.le_of_ble_eq_true rfl) dL_isFilterSo_44 ?_
              rw [o_held0 v (co := co) (p := q) hc (by omega)]
              refine v_istore (lv' := [.ref (b 0 0), .int (nI (co)), .int (nI (cn (skf (v.1.2.1 co)) i)), .int (nI (cn (abv (v.1.2.1 co).2.2.2.2) i)), .int ((0 : Int32)), .int ((0 : Int32)), .int ((0 : Int32)), .int ((1 : Int32)), .int (nI (i)), .int (nI (dd)), .int (nI (q)), .int (enc5 ((v.1.2.1 co).1 q))]) hX dL_isFilterSo_47 (Nat.le_of_ble_eq_true rfl) (Nat.le_of_ble_eq_true rfl) rfl rfl ?_
              refine v_iload hX dL_isFilterSo_49 rfl ?_
              refine v_iload hX dL_isFilterSo_51 rfl ?_
              refine v_if_lt (tgt := 70) hX dL_isFilterSo_53 (by decide) (fun c74 => ?_) (fun c74 => ?_)
              · replace c74 := enc5_neg.mp c74
                rw [show enc5 ((v.1.2.1 co).1 q) = (-5 : Int32) from by rw [c74]; rfl]
                refine v_iconst (x := (0 : Int32)) hX dL_isFilterSo_70 (by decide) ?_
                refine v_iadd (z := nI (dd + 0)) hX dL_isFilterSo_71 (nI_add dd 0) ?_
                refine v_istore (lv' := [.ref (b 0 0), .int (nI (co)), .int (nI (cn (skf (v.1.2.1 co)) i)), .int (nI (cn (abv (v.1.2.1 co).2.2.2.2) i)), .int ((0 : Int32)), .int ((0 : Int32)), .int ((0 : Int32)), .int ((1 : Int32)), .int (nI (i)), .int (nI (dd + 0)), .int (nI (q)), .int ((-5 : Int32))]) hX dL_isFilterSo_72 (Nat.le_of_ble_eq_true rfl) (Nat.le_of_ble_eq_true rfl) rfl rfl ?_
                refine v_iload hX dL_isFilterSo_74 rfl ?_
                refine v_iload hX dL_isFilterSo_76 rfl ?_
                refine v_if_lt (tgt := 100) hX dL_isFilterSo_78 (by decide) (fun c75 => ?_) (fun c75 => ?_)
                · refine v_iconst (x := (0 : Int32)) hX dL_isFilterSo_100 (by decide) ?_
                  refine v_iadd (z := nI ((dd + 0) + 0)) hX dL_isFilterSo_101 (nI_add (dd + 0) 0) ?_
                  refine v_istore (lv' := [.ref (b 0 0), .int (nI (co)), .int (nI (cn (skf (v.1.2.1 co)) i)), .int (nI (cn (abv (v.1.2.1 co).2.2.2.2) i)), .int ((0 : Int32)), .int ((0 : Int32)), .int ((0 : Int32)), .int ((1 : Int32)), .int (nI (i)), .int (nI ((dd + 0) + 0)), .int (nI (q)), .int ((-5 : Int32))]) hX dL_isFilterSo_102 (Nat.le_of_ble_eq_true rfl) (Nat.le_of_ble_eq_true rfl) rfl rfl ?_
                  refine v_iinc (y := nI (q + 1)) (lv' := [.ref (b 0 0), .int (nI (co)), .int (nI (cn (skf (v.1.2.1 co)) i)), .int (nI (cn (abv (v.1.2.1 co).2.2.2.2) i)), .int ((0 : Int32)), .int ((0 : Int32)), .int ((0 : Int32)), .int ((1 : Int32)), .int (nI (i)), .int (nI ((dd + 0) + 0)), .int (nI (q + 1)), .int ((-5 : Int32))]) hX dL_isFilterSo_104 rfl (nI_inc _) (Nat.le_of_ble_eq_true rfl) (Nat.le_of_ble_eq_true rfl) rfl rfl ?_
                  refine v_goto (tgt := 32) hX dL_isFilterSo_107 (by decide) ?_
                  exact v_fewer 11 rfl (ih (q + 1) ((dd + 0) + 0) (by omega) (by rw [du_none c74]; omega))
                · first | (exfalso; omega) | exact absurd c75 (by decide) | exact absurd (by decide) c75
              · obtain ⟨n76, c74⟩ := enc5_pos c74
                have hn76 := n76.isLt
                rw [show enc5 ((v.1.2.1 co).1 q) = nI (n76).val from by rw [c74]; rfl]
                refine v_iload hX dL_isFilterSo_56 rfl ?_
                refine v_bipush (x := (24 : Int32)) hX dL_isFilterSo_58 (by decide) ?_
                refine v_irem (z := nI (((n76).val) % 24)) hX dL_isFilterSo_60 (by decide) (rem_c ((n76).val) 24 (by omega) (by decide) (by decide)) ?_
                refine v_iload hX dL_isFilterSo_61 rfl ?_
                refine v_icmp_ne (tgt := 70) hX dL_isFilterSo_63 (by decide) (fun c77 => ?_) (fun c77 => ?_)
                · replace c77 := (not_congr (nI_eq (a := ((n76).val) % 24) (b := i) (by omega) (by omega))).mp c77
                  refine v_iconst (x := (0 : Int32)) hX dL_isFilterSo_70 (by decide) ?_
                  refine v_iadd (z := nI (dd + 0)) hX dL_isFilterSo_71 (nI_add dd 0) ?_
                  refine v_istore (lv' := [.ref (b 0 0), .int (nI (co)), .int (nI (cn (skf (v.1.2.1 co)) i)), .int (nI (cn (abv (v.1.2.1 co).2.2.2.2) i)), .int ((0 : Int32)), .int ((0 : Int32)), .int ((0 : Int32)), .int ((1 : Int32)), .int (nI (i)), .int (nI (dd + 0)), .int (nI (q)), .int (nI (n76).val)]) hX dL_isFilterSo_72 (Nat.le_of_ble_eq_true rfl) (Nat.le_of_ble_eq_true rfl) rfl rfl ?_
                  refine v_iload hX dL_isFilterSo_74 rfl ?_
                  refine v_iload hX dL_isFilterSo_76 rfl ?_
                  refine v_if_lt (tgt := 100) hX dL_isFilterSo_78 (by decide) (fun c78 => ?_) (fun c78 => ?_)
                  · replace c78 := (nI_ltI (a := (n76).val) (b := 0) (by omega) (by omega)).mp c78
                    refine v_iconst (x := (0 : Int32)) hX dL_isFilterSo_100 (by decide) ?_
                    refine v_iadd (z := nI ((dd + 0) + 0)) hX dL_isFilterSo_101 (nI_add (dd + 0) 0) ?_
                    refine v_istore (lv' := [.ref (b 0 0), .int (nI (co)), .int (nI (cn (skf (v.1.2.1 co)) i)), .int (nI (cn (abv (v.1.2.1 co).2.2.2.2) i)), .int ((0 : Int32)), .int ((0 : Int32)), .int ((0 : Int32)), .int ((1 : Int32)), .int (nI (i)), .int (nI ((dd + 0) + 0)), .int (nI (q)), .int (nI (n76).val)]) hX dL_isFilterSo_102 (Nat.le_of_ble_eq_true rfl) (Nat.le_of_ble_eq_true rfl) rfl rfl ?_
                    refine v_iinc (y := nI (q + 1)) (lv' := [.ref (b 0 0), .int (nI (co)), .int (nI (cn (skf (v.1.2.1 co)) i)), .int (nI (cn (abv (v.1.2.1 co).2.2.2.2) i)), .int ((0 : Int32)), .int ((0 : Int32)), .int ((0 : Int32)), .int ((1 : Int32)), .int (nI (i)), .int (nI ((dd + 0) + 0)), .int (nI (q + 1)), .int (nI (n76).val)]) hX dL_isFilterSo_104 rfl (nI_inc _) (Nat.le_of_ble_eq_true rfl) (Nat.le_of_ble_eq_true rfl) rfl rfl ?_
                    refine v_goto (tgt := 32) hX dL_isFilterSo_107 (by decide) ?_
                    exact v_fewer 11 rfl (ih (q + 1) ((dd + 0) + 0) (by omega) (by rw [du_some c74]; (repeat' split) <;> omega))
                  · replace c78 := (not_congr (nI_ltI (a := (n76).val) (b := 0) (by omega) (by omega))).mp c78
                    refine v_bipush (x := (7 : Int32)) hX dL_isFilterSo_81 (by decide) ?_
                    refine v_iload hX dL_isFilterSo_83 rfl ?_
                    refine v_imul (z := nI (7 * ((n76).val))) hX dL_isFilterSo_85 (pk_mul 7 ((n76).val)) ?_
                    refine v_iconst (x := (5 : Int32)) hX dL_isFilterSo_86 (by decide) ?_
                    refine v_iadd (z := nI ((7 * ((n76).val)) + 5)) hX dL_isFilterSo_87 (nI_add (7 * ((n76).val)) 5) ?_
                    refine v_bipush (x := (24 : Int32)) hX dL_isFilterSo_88 (by decide) ?_
                    refine v_irem (z := nI (((7 * ((n76).val)) + 5) % 24)) hX dL_isFilterSo_90 (by decide) (rem_c ((7 * ((n76).val)) + 5) 24 (by omega) (by decide) (by decide)) ?_
                    refine v_iload hX dL_isFilterSo_91 rfl ?_
                    refine v_icmp_ne (tgt := 100) hX dL_isFilterSo_93 (by decide) (fun c79 => ?_) (fun c79 => ?_)
                    · replace c79 := (not_congr (nI_eq (a := ((7 * ((n76).val)) + 5) % 24) (b := i) (by omega) (by omega))).mp c79
                      refine v_iconst (x := (0 : Int32)) hX dL_isFilterSo_100 (by decide) ?_
                      refine v_iadd (z := nI ((dd + 0) + 0)) hX dL_isFilterSo_101 (nI_add (dd + 0) 0) ?_
                      refine v_istore (lv' := [.ref (b 0 0), .int (nI (co)), .int (nI (cn (skf (v.1.2.1 co)) i)), .int (nI (cn (abv (v.1.2.1 co).2.2.2.2) i)), .int ((0 : Int32)), .int ((0 : Int32)), .int ((0 : Int32)), .int ((1 : Int32)), .int (nI (i)), .int (nI ((dd + 0) + 0)), .int (nI (q)), .int (nI (n76).val)]) hX dL_isFilterSo_102 (Nat.le_of_ble_eq_true rfl) (Nat.le_of_ble_eq_true rfl) rfl rfl ?_
                      refine v_iinc (y := nI (q + 1)) (lv' := [.ref (b 0 0), .int (nI (co)), .int (nI (cn (skf (v.1.2.1 co)) i)), .int (nI (cn (abv (v.1.2.1 co).2.2.2.2) i)), .int ((0 : Int32)), .int ((0 : Int32)), .int ((0 : Int32)), .int ((1 : Int32)), .int (nI (i)), .int (nI ((dd + 0) + 0)), .int (nI (q + 1)), .int (nI (n76).val)]) hX dL_isFilterSo_104 rfl (nI_inc _) (Nat.le_of_ble_eq_true rfl) (Nat.le_of_ble_eq_true rfl) rfl rfl ?_
                      refine v_goto (tgt := 32) hX dL_isFilterSo_107 (by decide) ?_
                      exact v_fewer 11 rfl (ih (q + 1) ((dd + 0) + 0) (by omega) (by rw [du_some c74]; (repeat' split) <;> omega))
                    · replace c79 := (nI_eq (a := ((7 * ((n76).val)) + 5) % 24) (b := i) (by omega) (by omega)).mp c79
                      have c79t := eq_true c79
                      refine v_iconst (x := (1 : Int32)) hX dL_isFilterSo_96 (by decide) ?_
                      refine v_goto (tgt := 101) hX dL_isFilterSo_97 (by decide) ?_
                      refine v_iadd (z := nI ((dd + 0) + 1)) hX dL_isFilterSo_101 (nI_add (dd + 0) 1) ?_
                      refine v_istore (lv' := [.ref (b 0 0), .int (nI (co)), .int (nI (cn (skf (v.1.2.1 co)) i)), .int (nI (cn (abv (v.1.2.1 co).2.2.2.2) i)), .int ((0 : Int32)), .int ((0 : Int32)), .int ((0 : Int32)), .int ((1 : Int32)), .int (nI (i)), .int (nI ((dd + 0) + 1)), .int (nI (q)), .int (nI (n76).val)]) hX dL_isFilterSo_102 (Nat.le_of_ble_eq_true rfl) (Nat.le_of_ble_eq_true rfl) rfl rfl ?_
                      refine v_iinc (y := nI (q + 1)) (lv' := [.ref (b 0 0), .int (nI (co)), .int (nI (cn (skf (v.1.2.1 co)) i)), .int (nI (cn (abv (v.1.2.1 co).2.2.2.2) i)), .int ((0 : Int32)), .int ((0 : Int32)), .int ((0 : Int32)), .int ((1 : Int32)), .int (nI (i)), .int (nI ((dd + 0) + 1)), .int (nI (q + 1)), .int (nI (n76).val)]) hX dL_isFilterSo_104 rfl (nI_inc _) (Nat.le_of_ble_eq_true rfl) (Nat.le_of_ble_eq_true rfl) rfl rfl ?_
                      refine v_goto (tgt := 32) hX dL_isFilterSo_107 (by decide) ?_
                      exact v_fewer 11 rfl (ih (q + 1) ((dd + 0) + 1) (by omega) (by rw [du_some c74]; (repeat' split) <;> omega))
                · replace c77 := (nI_eq (a := ((n76).val) % 24) (b := i) (by omega) (by omega)).mp c77
                  have c77t := eq_true c77
                  refine v_iconst (x := (1 : Int32)) hX dL_isFilterSo_66 (by decide) ?_
                  refine v_goto (tgt := 71) hX dL_isFilterSo_67 (by decide) ?_
                  refine v_iadd (z := nI (dd + 1)) hX dL_isFilterSo_71 (nI_add dd 1) ?_
                  refine v_istore (lv' := [.ref (b 0 0), .int (nI (co)), .int (nI (cn (skf (v.1.2.1 co)) i)), .int (nI (cn (abv (v.1.2.1 co).2.2.2.2) i)), .int ((0 : Int32)), .int ((0 : Int32)), .int ((0 : Int32)), .int ((1 : Int32)), .int (nI (i)), .int (nI (dd + 1)), .int (nI (q)), .int (nI (n76).val)]) hX dL_isFilterSo_72 (Nat.le_of_ble_eq_true rfl) (Nat.le_of_ble_eq_true rfl) rfl rfl ?_
                  refine v_iload hX dL_isFilterSo_74 rfl ?_
                  refine v_iload hX dL_isFilterSo_76 rfl ?_
                  refine v_if_lt (tgt := 100) hX dL_isFilterSo_78 (by decide) (fun c80 => ?_) (fun c80 => ?_)
                  · replace c80 := (nI_ltI (a := (n76).val) (b := 0) (by omega) (by omega)).mp c80
                    refine v_iconst (x := (0 : Int32)) hX dL_isFilterSo_100 (by decide) ?_
                    refine v_iadd (z := nI ((dd + 1) + 0)) hX dL_isFilterSo_101 (nI_add (dd + 1) 0) ?_
                    refine v_istore (lv' := [.ref (b 0 0), .int (nI (co)), .int (nI (cn (skf (v.1.2.1 co)) i)), .int (nI (cn (abv (v.1.2.1 co).2.2.2.2) i)), .int ((0 : Int32)), .int ((0 : Int32)), .int ((0 : Int32)), .int ((1 : Int32)), .int (nI (i)), .int (nI ((dd + 1) + 0)), .int (nI (q)), .int (nI (n76).val)]) hX dL_isFilterSo_102 (Nat.le_of_ble_eq_true rfl) (Nat.le_of_ble_eq_true rfl) rfl rfl ?_
                    refine v_iinc (y := nI (q + 1)) (lv' := [.ref (b 0 0), .int (nI (co)), .int (nI (cn (skf (v.1.2.1 co)) i)), .int (nI (cn (abv (v.1.2.1 co).2.2.2.2) i)), .int ((0 : Int32)), .int ((0 : Int32)), .int ((0 : Int32)), .int ((1 : Int32)), .int (nI (i)), .int (nI ((dd + 1) + 0)), .int (nI (q + 1)), .int (nI (n76).val)]) hX dL_isFilterSo_104 rfl (nI_inc _) (Nat.le_of_ble_eq_true rfl) (Nat.le_of_ble_eq_true rfl) rfl rfl ?_
                    refine v_goto (tgt := 32) hX dL_isFilterSo_107 (by decide) ?_
                    exact v_fewer 11 rfl (ih (q + 1) ((dd + 1) + 0) (by omega) (by rw [du_some c74]; (repeat' split) <;> omega))
                  · replace c80 := (not_congr (nI_ltI (a := (n76).val) (b := 0) (by omega) (by omega))).mp c80
                    refine v_bipush (x := (7 : Int32)) hX dL_isFilterSo_81 (by decide) ?_
                    refine v_iload hX dL_isFilterSo_83 rfl ?_
                    refine v_imul (z := nI (7 * ((n76).val))) hX dL_isFilterSo_85 (pk_mul 7 ((n76).val)) ?_
                    refine v_iconst (x := (5 : Int32)) hX dL_isFilterSo_86 (by decide) ?_
                    refine v_iadd (z := nI ((7 * ((n76).val)) + 5)) hX dL_isFilterSo_87 (nI_add (7 * ((n76).val)) 5) ?_
                    refine v_bipush (x := (24 : Int32)) hX dL_isFilterSo_88 (by decide) ?_
                    refine v_irem (z := nI (((7 * ((n76).val)) + 5) % 24)) hX dL_isFilterSo_90 (by decide) (rem_c ((7 * ((n76).val)) + 5) 24 (by omega) (by decide) (by decide)) ?_
                    refine v_iload hX dL_isFilterSo_91 rfl ?_
                    refine v_icmp_ne (tgt := 100) hX dL_isFilterSo_93 (by decide) (fun c81 => ?_) (fun c81 => ?_)
                    · replace c81 := (not_congr (nI_eq (a := ((7 * ((n76).val)) + 5) % 24) (b := i) (by omega) (by omega))).mp c81
                      refine v_iconst (x := (0 : Int32)) hX dL_isFilterSo_100 (by decide) ?_
                      refine v_iadd (z := nI ((dd + 1) + 0)) hX dL_isFilterSo_101 (nI_add (dd + 1) 0) ?_
                      refine v_istore (lv' := [.ref (b 0 0), .int (nI (co)), .int (nI (cn (skf (v.1.2.1 co)) i)), .int (nI (cn (abv (v.1.2.1 co).2.2.2.2) i)), .int ((0 : Int32)), .int ((0 : Int32)), .int ((0 : Int32)), .int ((1 : Int32)), .int (nI (i)), .int (nI ((dd + 1) + 0)), .int (nI (q)), .int (nI (n76).val)]) hX dL_isFilterSo_102 (Nat.le_of_ble_eq_true rfl) (Nat.le_of_ble_eq_true rfl) rfl rfl ?_
                      refine v_iinc (y := nI (q + 1)) (lv' := [.ref (b 0 0), .int (nI (co)), .int (nI (cn (skf (v.1.2.1 co)) i)), .int (nI (cn (abv (v.1.2.1 co).2.2.2.2) i)), .int ((0 : Int32)), .int ((0 : Int32)), .int ((0 : Int32)), .int ((1 : Int32)), .int (nI (i)), .int (nI ((dd + 1) + 0)), .int (nI (q + 1)), .int (nI (n76).val)]) hX dL_isFilterSo_104 rfl (nI_inc _) (Nat.le_of_ble_eq_true rfl) (Nat.le_of_ble_eq_true rfl) rfl rfl ?_
                      refine v_goto (tgt := 32) hX dL_isFilterSo_107 (by decide) ?_
                      exact v_fewer 11 rfl (ih (q + 1) ((dd + 1) + 0) (by omega) (by rw [du_some c74]; (repeat' split) <;> omega))
                    · replace c81 := (nI_eq (a := ((7 * ((n76).val)) + 5) % 24) (b := i) (by omega) (by omega)).mp c81
                      have c81t := eq_true c81
                      refine v_iconst (x := (1 : Int32)) hX dL_isFilterSo_96 (by decide) ?_
                      refine v_goto (tgt := 101) hX dL_isFilterSo_97 (by decide) ?_
                      refine v_iadd (z := nI ((dd + 1) + 1)) hX dL_isFilterSo_101 (nI_add (dd + 1) 1) ?_
                      refine v_istore (lv' := [.ref (b 0 0), .int (nI (co)), .int (nI (cn (skf (v.1.2.1 co)) i)), .int (nI (cn (abv (v.1.2.1 co).2.2.2.2) i)), .int ((0 : Int32)), .int ((0 : Int32)), .int ((0 : Int32)), .int ((1 : Int32)), .int (nI (i)), .int (nI ((dd + 1) + 1)), .int (nI (q)), .int (nI (n76).val)]) hX dL_isFilterSo_102 (Nat.le_of_ble_eq_true rfl) (Nat.le_of_ble_eq_true rfl) rfl rfl ?_
                      refine v_iinc (y := nI (q + 1)) (lv' := [.ref (b 0 0), .int (nI (co)), .int (nI (cn (skf (v.1.2.1 co)) i)), .int (nI (cn (abv (v.1.2.1 co).2.2.2.2) i)), .int ((0 : Int32)), .int ((0 : Int32)), .int ((0 : Int32)), .int ((1 : Int32)), .int (nI (i)), .int (nI ((dd + 1) + 1)), .int (nI (q + 1)), .int (nI (n76).val)]) hX dL_isFilterSo_104 rfl (nI_inc _) (Nat.le_of_ble_eq_true rfl) (Nat.le_of_ble_eq_true rfl) rfl rfl ?_
                      refine v_goto (tgt := 32) hX dL_isFilterSo_107 (by decide) ?_
                      exact v_fewer 11 rfl (ih (q + 1) ((dd + 1) + 1) (by omega) (by rw [du_some c74]; (repeat' split) <;> omega))
        exact loop_32 8 0 0 (by omega) rfl
  exact loop_19 24 0  (by omega) 
