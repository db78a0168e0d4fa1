theorem sC_s (x : XV) (w : Int32) (i : Nat) : it (sC x w) i 0 + X_core x (nI i) w = it (sC x w) (i + 1) 0 := rfl
set_option maxHeartbeats 4000000 in
set_option maxRecDepth 100000 in
theorem c_L_areSums (l : Launch) (E : ET) (b : Nat → Nat → Nat) (sz : Nat) (v : XV) (hJ : JW v.1) : Met l yL_areSums wsL_areSums ({ frames := 5, cells := 0, slots := 0, locals := 118 }) (mPc E [.ref (b 0 0)] sz (wX E b v)) (mQi E (bI (true)) (wX E b v) (wX E b v) sz) 0 0 (va_A (wX E b v) sz) := by
  refine v_start (cc := cL_areSums) (maxL := 12) (ret := (some .boolean)) (by decide) rfl (Nat.le_of_ble_eq_true rfl) rfl ?_
  intro p e s m args below meth c hsz hr hX
  have hX : Xc p s m args meth c E 12 (va_A (wX E b v) sz) cL_areSums RL wsL_areSums := hX
  refine v_iconst (x := (0 : Int32)) hX dL_areSums_0 (by decide) ?_
  refine v_istore_n (lv' := [.ref (b 0 0), .int ((0 : Int32))]) hX dL_areSums_1 (Nat.le_of_ble_eq_true rfl) (Nat.le_of_ble_eq_true rfl) rfl rfl ?_
  refine v_iconst (x := (0 : Int32)) hX dL_areSums_2 (by decide) ?_
  refine v_istore_n (lv' := [.ref (b 0 0), .int ((0 : Int32)), .int ((0 : Int32))]) hX dL_areSums_3 (Nat.le_of_ble_eq_true rfl) (Nat.le_of_ble_eq_true rfl) rfl rfl ?_
  refine v_iconst (x := (0 : Int32)) hX dL_areSums_4 (by decide) ?_
  refine v_istore_n (lv' := [.ref (b 0 0), .int ((0 : Int32)), .int ((0 : Int32)), .int ((0 : Int32))]) hX dL_areSums_5 (Nat.le_of_ble_eq_true rfl) (Nat.le_of_ble_eq_true rfl) rfl rfl ?_
  refine v_iconst (x := (0 : Int32)) hX dL_areSums_6 (by decide) ?_
  refine v_istore (lv' := [.ref (b 0 0), .int ((0 : Int32)), .int ((0 : Int32)), .int ((0 : Int32)), .int ((0 : Int32))]) hX dL_areSums_7 (Nat.le_of_ble_eq_true rfl) (Nat.le_of_ble_eq_true rfl) rfl rfl ?_
  refine v_iconst (x := (0 : Int32)) hX dL_areSums_9 (by decide) ?_
  refine v_istore (lv' := [.ref (b 0 0), .int ((0 : Int32)), .int ((0 : Int32)), .int ((0 : Int32)), .int ((0 : Int32)), .int ((0 : Int32))]) hX dL_areSums_10 (Nat.le_of_ble_eq_true rfl) (Nat.le_of_ble_eq_true rfl) rfl rfl ?_
  refine v_iconst (x := (0 : Int32)) hX dL_areSums_12 (by decide) ?_
  refine v_istore (lv' := [.ref (b 0 0), .int ((0 : Int32)), .int ((0 : Int32)), .int ((0 : Int32)), .int ((0 : Int32)), .int ((0 : Int32)), .int ((0 : Int32))]) hX dL_areSums_13 (Nat.le_of_ble_eq_true rfl) (Nat.le_of_ble_eq_true rfl) rfl rfl ?_
  refine v_iconst (x := (0 : Int32)) hX dL_areSums_15 (by decide) ?_
  refine v_istore (lv' := [.ref (b 0 0), .int ((0 : Int32)), .int ((0 : Int32)), .int ((0 : Int32)), .int ((0 : Int32)), .int ((0 : Int32)), .int ((0 : Int32)), .int ((0 : Int32))]) hX dL_areSums_16 (Nat.le_of_ble_eq_true rfl) (Nat.le_of_ble_eq_true rfl) rfl rfl ?_
  refine v_iconst (x := (0 : Int32)) hX dL_areSums_18 (by decide) ?_
  refine v_istore (lv' := [.ref (b 0 0), .int ((0 : Int32)), .int ((0 : Int32)), .int ((0 : Int32)), .int ((0 : Int32)), .int ((0 : Int32)), .int ((0 : Int32)), .int ((0 : Int32)), .int ((0 : Int32))]) hX dL_areSums_19 (Nat.le_of_ble_eq_true rfl) (Nat.le_of_ble_eq_true rfl) rfl rfl ?_
  refine v_iconst (x := (0 : Int32)) hX dL_areSums_21 (by decide) ?_
  refine v_istore (lv' := [.ref (b 0 0), .int ((0 : Int32)), .int ((0 : Int32)), .int ((0 : Int32)), .int ((0 : Int32)), .int ((0 : Int32)), .int ((0 : Int32)), .int ((0 : Int32)), .int ((0 : Int32)), .int ((0 : Int32))]) hX dL_areSums_22 (Nat.le_of_ble_eq_true rfl) (Nat.le_of_ble_eq_true rfl) rfl rfl ?_
  refine v_iconst (x := (1 : Int32)) hX dL_areSums_24 (by decide) ?_
  refine v_istore (lv' := [.ref (b 0 0), .int ((0 : Int32)), .int ((0 : Int32)), .int ((0 : Int32)), .int ((0 : Int32)), .int ((0 : Int32)), .int ((0 : Int32)), .int ((0 : Int32)), .int ((0 : Int32)), .int ((0 : Int32)), .int ((1 : Int32))]) hX dL_areSums_25 (Nat.le_of_ble_eq_true rfl) (Nat.le_of_ble_eq_true rfl) rfl rfl ?_
  refine v_iconst (x := (0 : Int32)) hX dL_areSums_27 (by decide) ?_
  refine v_istore (lv' := [.ref (b 0 0), .int ((0 : Int32)), .int ((0 : Int32)), .int ((0 : Int32)), .int ((0 : Int32)), .int ((0 : Int32)), .int ((0 : Int32)), .int ((0 : Int32)), .int ((0 : Int32)), .int ((0 : Int32)), .int ((1 : Int32)), .int ((0 : Int32))]) hX dL_areSums_28 (Nat.le_of_ble_eq_true rfl) (Nat.le_of_ble_eq_true rfl) rfl rfl ?_
  have loop_30 : ∀ (fu i : Nat), i + fu = 4 → V p l e ({ frames := 5, cells := 0, slots := 0, locals := 118 } : Room) s m args below meth c E 12 (va_A (wX E b v) sz) (MQ below (mQi E (bI (true)) (wX E b v) (wX E b v) sz) args s 0 0 (va_A (wX E b v) sz)) (wX E b v) [.ref (b 0 0), .int (it (sC v 0) i 0), .int (it (sC v 1) i 0), .int (it (sC v 7) i 0), .int (it (sC v 8) i 0), .int (it (sC v 9) i 0), .int (it (sC v 10) i 0), .int (it (sC v 5) i 0), .int (it (sC v 6) i 0), .int ((it (X_worstF v.1) i (-5, 0)).2), .int ((1 : Int32)), .int (nI (i))] 30 [] := by
    intro fu
    induction fu with
    | zero =>
      intro i  hin 
      have hi0 : i = 4 := by omega
      subst hi0
      refine v_iload hX dL_areSums_30 rfl ?_
      refine v_iconst (x := (4 : Int32)) hX dL_areSums_32 (by decide) ?_
      refine v_icmp_ge (tgt := 186) hX dL_areSums_33 (by decide) (fun c1 => ?_) (fun c1 => ?_)
      · replace c1 := (nI_leI (a := 4) (b := 4) (by omega) (by omega)).mp c1
        refine v_iload hX dL_areSums_186 rfl ?_
        refine v_if_eq (tgt := 275) hX dL_areSums_188 (by decide) (fun c2 => ?_) (fun c2 => ?_)
        · replace c2 := (nI_eq (a := 1) (b := 0) (by omega) (by omega)).mp c2
          have c2t := eq_true c2
          first | (exfalso; omega) | exact absurd c2 (by decide) | exact absurd (by decide) c2
        · replace c2 := (not_congr (nI_eq (a := 1) (b := 0) (by omega) (by omega))).mp c2
          refine v_iload_n hX dL_areSums_191 rfl ?_
          refine v_aload_n hX dL_areSums_192 rfl ?_
          refine v_iconst (x := (0 : Int32)) hX dL_areSums_193 (by decide) ?_
          refine v_callVi (r := X_count v (0 : Int32)) (rest := [.int (it (sC v 0) 4 0)]) (ws' := wX E b v) hX (fun sz => c_X5_count l E b sz v (0 : Int32)) (cwV 1 hX.2.2.2.2.1 gL_areSums_X5_count rfl rfl rfl (by decide +kernel) ⟨Nat.le_of_ble_eq_true rfl, Nat.le_of_ble_eq_true rfl⟩) ([]) ([]) ((List.append_nil _).symm) ((List.append_nil _).symm).symm (wX_fst E b _ _) (ci := 5) (q0 := 0) rfl rfl rfl rfl rfl (Nat.le_of_ble_eq_true rfl) dL_areSums_194 ?_
          refine v_icmp_ne (tgt := 275) hX dL_areSums_197 (by decide) (fun c3 => ?_) (fun c3 => ?_)
          · exact (c3 (sum_0 v)).elim
          · have c3t := eq_true c3
            refine v_iload_n hX dL_areSums_200 rfl ?_
            refine v_aload_n hX dL_areSums_201 rfl ?_
            refine v_iconst (x := (1 : Int32)) hX dL_areSums_202 (by decide) ?_
            refine v_callVi (r := X_count v (1 : Int32)) (rest := [.int (it (sC v 1) 4 0)]) (ws' := wX E b v) hX (fun sz => c_X5_count l E b sz v (1 : Int32)) (cwV 1 hX.2.2.2.2.1 gL_areSums_X5_count rfl rfl rfl (by decide +kernel) ⟨Nat.le_of_ble_eq_true rfl, Nat.le_of_ble_eq_true rfl⟩) ([]) ([]) ((List.append_nil _).symm) ((List.append_nil _).symm).symm (wX_fst E b _ _) (ci := 5) (q0 := 0) rfl rfl rfl rfl rfl (Nat.le_of_ble_eq_true rfl) dL_areSums_203 ?_
            refine v_icmp_ne (tgt := 275) hX dL_areSums_206 (by decide) (fun c4 => ?_) (fun c4 => ?_)
            · exact (c4 (sum_1 v)).elim
            · have c4t := eq_true c4
              refine v_iload_n hX dL_areSums_209 rfl ?_
              refine v_aload_n hX dL_areSums_210 rfl ?_
              refine v_iconst (x := (2 : Int32)) hX dL_areSums_211 (by decide) ?_
              refine v_callVi (r := X_count v (2 : Int32)) (rest := [.int (it (sC v 7) 4 0)]) (ws' := wX E b v) hX (fun sz => c_X5_count l E b sz v (2 : Int32)) (cwV 1 hX.2.2.2.2.1 gL_areSums_X5_count rfl rfl rfl (by decide +kernel) ⟨Nat.le_of_ble_eq_true rfl, Nat.le_of_ble_eq_true rfl⟩) ([]) ([]) ((List.append_nil _).symm) ((List.append_nil _).symm).symm (wX_fst E b _ _) (ci := 5) (q0 := 0) rfl rfl rfl rfl rfl (Nat.le_of_ble_eq_true rfl) dL_areSums_212 ?_
              refine v_icmp_ne (tgt := 275) hX dL_areSums_215 (by decide) (fun c5 => ?_) (fun c5 => ?_)
              · exact (c5 (sum_7 v)).elim
              · have c5t := eq_true c5
                refine v_iload hX dL_areSums_218 rfl ?_
                refine v_aload_n hX dL_areSums_220 rfl ?_
                refine v_iconst (x := (3 : Int32)) hX dL_areSums_221 (by decide) ?_
                refine v_callVi (r := X_count v (3 : Int32)) (rest := [.int (it (sC v 8) 4 0)]) (ws' := wX E b v) hX (fun sz => c_X5_count l E b sz v (3 : Int32)) (cwV 1 hX.2.2.2.2.1 gL_areSums_X5_count rfl rfl rfl (by decide +kernel) ⟨Nat.le_of_ble_eq_true rfl, Nat.le_of_ble_eq_true rfl⟩) ([]) ([]) ((List.append_nil _).symm) ((List.append_nil _).symm).symm (wX_fst E b _ _) (ci := 5) (q0 := 0) rfl rfl rfl rfl rfl (Nat.le_of_ble_eq_true rfl) dL_areSums_222 ?_
                refine v_icmp_ne (tgt := 275) hX dL_areSums_225 (by decide) (fun c6 => ?_) (fun c6 => ?_)
                · exact (c6 (sum_8 v)).elim
                · have c6t := eq_true c6
                  refine v_iload hX dL_areSums_228 rfl ?_
                  refine v_aload_n hX dL_areSums_230 rfl ?_
                  refine v_iconst (x := (4 : Int32)) hX dL_areSums_231 (by decide) ?_
                  refine v_callVi (r := X_count v (4 : Int32)) (rest := [.int (it (sC v 9) 4 0)]) (ws' := wX E b v) hX (fun sz => c_X5_count l E b sz v (4 : Int32)) (cwV 1 hX.2.2.2.2.1 gL_areSums_X5_count rfl rfl rfl (by decide +kernel) ⟨Nat.le_of_ble_eq_true rfl, Nat.le_of_ble_eq_true rfl⟩) ([]) ([]) ((List.append_nil _).symm) ((List.append_nil _).symm).symm (wX_fst E b _ _) (ci := 5) (q0 := 0) rfl rfl rfl rfl rfl (Nat.le_of_ble_eq_true rfl) dL_areSums_232 ?_
                  refine v_icmp_ne (tgt := 275) hX dL_areSums_235 (by decide) (fun c7 => ?_) (fun c7 => ?_)
                  · exact (c7 (sum_9 v)).elim
                  · have c7t := eq_true c7
                    refine v_iload hX dL_areSums_238 rfl ?_
                    refine v_aload_n hX dL_areSums_240 rfl ?_
                    refine v_bipush (x := (6 : Int32)) hX dL_areSums_241 (by decide) ?_
                    refine v_callVi (r := X_count v (6 : Int32)) (rest := [.int (it (sC v 10) 4 0)]) (ws' := wX E b v) hX (fun sz => c_X5_count l E b sz v (6 : Int32)) (cwV 1 hX.2.2.2.2.1 gL_areSums_X5_count rfl rfl rfl (by decide +kernel) ⟨Nat.le_of_ble_eq_true rfl, Nat.le_of_ble_eq_true rfl⟩) ([]) ([]) ((List.append_nil _).symm) ((List.append_nil _).symm).symm (wX_fst E b _ _) (ci := 5) (q0 := 0) rfl rfl rfl rfl rfl (Nat.le_of_ble_eq_true rfl) dL_areSums_243 ?_
                    refine v_icmp_ne (tgt := 275) hX dL_areSums_246 (by decide) (fun c8 => ?_) (fun c8 => ?_)
                    · exact (c8 (sum_10 v)).elim
                    · have c8t := eq_true c8
                      refine v_iload hX dL_areSums_249 rfl ?_
                      refine v_aload_n hX dL_areSums_251 rfl ?_
                      refine v_bipush (x := (7 : Int32)) hX dL_areSums_252 (by decide) ?_
                      refine v_callVi (r := X_count v (7 : Int32)) (rest := [.int (it (sC v 5) 4 0)]) (ws' := wX E b v) hX (fun sz => c_X5_count l E b sz v (7 : Int32)) (cwV 1 hX.2.2.2.2.1 gL_areSums_X5_count rfl rfl rfl (by decide +kernel) ⟨Nat.le_of_ble_eq_true rfl, Nat.le_of_ble_eq_true rfl⟩) ([]) ([]) ((List.append_nil _).symm) ((List.append_nil _).symm).symm (wX_fst E b _ _) (ci := 5) (q0 := 0) rfl rfl rfl rfl rfl (Nat.le_of_ble_eq_true rfl) dL_areSums_254 ?_
                      refine v_icmp_ne (tgt := 275) hX dL_areSums_257 (by decide) (fun c9 => ?_) (fun c9 => ?_)
                      · exact (c9 (sum_5 v)).elim
                      · have c9t := eq_true c9
                        refine v_iload hX dL_areSums_260 rfl ?_
                        refine v_aload_n hX dL_areSums_262 rfl ?_
                        refine v_bipush (x := (8 : Int32)) hX dL_areSums_263 (by decide) ?_
                        refine v_callVi (r := X_count v (8 : Int32)) (rest := [.int (it (sC v 6) 4 0)]) (ws' := wX E b v) hX (fun sz => c_X5_count l E b sz v (8 : Int32)) (cwV 1 hX.2.2.2.2.1 gL_areSums_X5_count rfl rfl rfl (by decide +kernel) ⟨Nat.le_of_ble_eq_true rfl, Nat.le_of_ble_eq_true rfl⟩) ([]) ([]) ((List.append_nil _).symm) ((List.append_nil _).symm).symm (wX_fst E b _ _) (ci := 5) (q0 := 0) rfl rfl rfl rfl rfl (Nat.le_of_ble_eq_true rfl) dL_areSums_265 ?_
                        refine v_icmp_ne (tgt := 275) hX dL_areSums_268 (by decide) (fun c10 => ?_) (fun c10 => ?_)
                        · exact (c10 (sum_6 v)).elim
                        · have c10t := eq_true c10
                          refine v_iconst (x := (1 : Int32)) hX dL_areSums_271 (by decide) ?_
                          refine v_goto (tgt := 276) hX dL_areSums_272 (by decide) ?_
                          refine v_istore (lv' := [.ref (b 0 0), .int (it (sC v 0) 4 0), .int (it (sC v 1) 4 0), .int (it (sC v 7) 4 0), .int (it (sC v 8) 4 0), .int (it (sC v 9) 4 0), .int (it (sC v 10) 4 0), .int (it (sC v 5) 4 0), .int (it (sC v 6) 4 0), .int ((it (X_worstF v.1) 4 (-5, 0)).2), .int ((1 : Int32)), .int (nI (4))]) hX dL_areSums_276 (Nat.le_of_ble_eq_true rfl) (Nat.le_of_ble_eq_true rfl) rfl rfl ?_
                          obtain ⟨S2, S4, S1, W, w, e2, e4, e1, eW, hw, hs, hb1, hb2, hb3, hb4⟩ := sums_nat v hJ
                          rw [e2, e4, e1]
                          refine v_iload hX dL_areSums_278 rfl ?_
                          refine v_if_eq (tgt := 357) hX dL_areSums_280 (by decide) (fun c11 => ?_) (fun c11 => ?_)
                          · replace c11 := (nI_eq (a := 1) (b := 0) (by omega) (by omega)).mp c11
                            have c11t := eq_true c11
                            exfalso; omega
                          · replace c11 := (not_congr (nI_eq (a := 1) (b := 0) (by omega) (by omega))).mp c11
                            refine v_iload_n hX dL_areSums_283 rfl ?_
                            refine v_iload hX dL_areSums_284 rfl ?_
                            refine v_iadd (z := nI (S2 + S4)) hX dL_areSums_286 (nI_add S2 S4) ?_
                            refine v_iconst (x := (3 : Int32)) hX dL_areSums_287 (by decide) ?_
                            refine v_iload hX dL_areSums_288 rfl ?_
                            refine v_imul (z := nI (3 * S1)) hX dL_areSums_290 (pk_mul 3 S1) ?_
                            refine v_icmp_lt (tgt := 357) hX dL_areSums_291 (by decide) (fun c12 => ?_) (fun c12 => ?_)
                            · replace c12 := (nI_ltI (a := S2 + S4) (b := 3 * S1) (by omega) (by omega)).mp c12
                              first | (exfalso; omega) | exact absurd c12 (by decide) | exact absurd (by decide) c12
                            · replace c12 := (not_congr (nI_ltI (a := S2 + S4) (b := 3 * S1) (by omega) (by omega))).mp c12
                              refine v_iload_n hX dL_areSums_294 rfl ?_
                              refine v_iload hX dL_areSums_295 rfl ?_
                              refine v_iadd (z := nI (S2 + S4)) hX dL_areSums_297 (nI_add S2 S4) ?_
                              refine v_iconst (x := (3 : Int32)) hX dL_areSums_298 (by decide) ?_
                              refine v_iload hX dL_areSums_299 rfl ?_
                              refine v_aload_n hX dL_areSums_301 rfl ?_
                              refine v_bipush (x := (9 : Int32)) hX dL_areSums_302 (by decide) ?_
                              refine v_callVi (r := X_count v (9 : Int32)) (rest := [.int (nI (S1)), .int ((3 : Int32)), .int (nI (S2 + S4))]) (ws' := wX E b v) hX (fun sz => c_X5_count l E b sz v (9 : Int32)) (cwV 1 hX.2.2.2.2.1 gL_areSums_X5_count rfl rfl rfl (by decide +kernel) ⟨Nat.le_of_ble_eq_true rfl, Nat.le_of_ble_eq_true rfl⟩) ([]) ([]) ((List.append_nil _).symm) ((List.append_nil _).symm).symm (wX_fst E b _ _) (ci := 5) (q0 := 0) rfl rfl rfl rfl rfl (Nat.le_of_ble_eq_true rfl) dL_areSums_304 ?_
                              rw [eW]
                              refine v_iadd (z := nI (S1 + W)) hX dL_areSums_307 (nI_add S1 W) ?_
                              refine v_imul (z := nI (3 * (S1 + W))) hX dL_areSums_308 (pk_mul 3 (S1 + W)) ?_
                              refine v_icmp_gt (tgt := 357) hX dL_areSums_309 (by decide) (fun c13 => ?_) (fun c13 => ?_)
                              · replace c13 := (nI_ltI (a := 3 * (S1 + W)) (b := S2 + S4) (by omega) (by omega)).mp c13
                                first | (exfalso; omega) | exact absurd c13 (by decide) | exact absurd (by decide) c13
                              · replace c13 := (not_congr (nI_ltI (a := 3 * (S1 + W)) (b := S2 + S4) (by omega) (by omega))).mp c13
                                refine v_iload_n hX dL_areSums_312 rfl ?_
                                refine v_iload hX dL_areSums_313 rfl ?_
                                refine v_iadd (z := nI (S2 + S4)) hX dL_areSums_315 (nI_add S2 S4) ?_
                                refine v_iconst (x := (3 : Int32)) hX dL_areSums_316 (by decide) ?_
                                refine v_irem (z := nI ((S2 + S4) % 3)) hX dL_areSums_317 (by decide) (rem_c (S2 + S4) 3 (by omega) (by decide) (by decide)) ?_
                                refine v_if_ne (tgt := 357) hX dL_areSums_318 (by decide) (fun c14 => ?_) (fun c14 => ?_)
                                · replace c14 := (not_congr (nI_eq (a := (S2 + S4) % 3) (b := 0) (by omega) (by omega))).mp c14
                                  first | (exfalso; omega) | exact absurd c14 (by decide) | exact absurd (by decide) c14
                                · replace c14 := (nI_eq (a := (S2 + S4) % 3) (b := 0) (by omega) (by omega)).mp c14
                                  have c14t := eq_true c14
                                  refine v_iload hX dL_areSums_321 rfl ?_
                                  refine v_if_ne (tgt := 338) hX dL_areSums_323 (by decide) (fun c15 => ?_) (fun c15 => ?_)
                                  · refine v_aload_n hX dL_areSums_338 rfl ?_
                                    refine v_aload_n hX dL_areSums_339 rfl ?_
                                    refine v_callVi (r := X_worst v) (rest := [.ref (b 0 0)]) (ws' := wX E b v) hX (fun sz => c_X5_worst l E b sz v ) (cwV 0 hX.2.2.2.2.1 gL_areSums_X5_worst rfl rfl rfl (by decide +kernel) ⟨Nat.le_of_ble_eq_true rfl, Nat.le_of_ble_eq_true rfl⟩) ([]) ([]) ((List.append_nil _).symm) ((List.append_nil _).symm).symm (wX_fst E b _ _) (ci := 5) (q0 := 0) rfl rfl rfl rfl rfl (Nat.le_of_ble_eq_true rfl) dL_areSums_340 ?_
                                    refine v_bipush (x := (8 : Int32)) hX dL_areSums_343 (by decide) ?_
                                    refine v_callVi (r := X_core v (X_worst v) (8 : Int32)) (rest := []) (ws' := wX E b v) hX (fun sz => c_X5_core l E b sz v (X_worst v) (8 : Int32)) (cwV 2 hX.2.2.2.2.1 gL_areSums_X5_core rfl rfl rfl (by decide +kernel) ⟨Nat.le_of_ble_eq_true rfl, Nat.le_of_ble_eq_true rfl⟩) ([]) ([]) ((List.append_nil _).symm) ((List.append_nil _).symm).symm (wX_fst E b _ _) (ci := 5) (q0 := 0) rfl rfl rfl rfl rfl (Nat.le_of_ble_eq_true rfl) dL_areSums_345 ?_
                                    refine v_iload hX dL_areSums_348 rfl ?_
                                    refine v_icmp_ne (tgt := 357) hX dL_areSums_350 (by decide) (fun c16 => ?_) (fun c16 => ?_)
                                    · exact (c16 (wst_some v (by assumption))).elim
                                    · have c16t := eq_true c16
                                      refine v_iconst (x := (1 : Int32)) hX dL_areSums_353 (by decide) ?_
                                      refine v_goto (tgt := 358) hX dL_areSums_354 (by decide) ?_
                                      exact v_zret hX hr hsz dL_areSums_358 rfl rfl (bI_narrow (true)) (congrArg bI (by (first | (simp only [c1, c2, c3t, c4t, c5t, c6t, c7t, c8t, c9t, c10t, c11, c12, c13, c14t, c15, c16t, if_true, if_false, reduceIte, Bool.false_eq_true, reduceCtorEq, decide_true, decide_false, Bool.and_true, Bool.and_false, Bool.true_and, Bool.false_and, Bool.or_true, Bool.or_false, Bool.true_or, Bool.false_or, not_true_eq_false, not_false_eq_true, Bool.not_true, Bool.not_false, eq_self, Nat.reduceEqDiff]; done) | rfl | (simp only [c1, c2, c3t, c4t, c5t, c6t, c7t, c8t, c9t, c10t, c11, c12, c13, c14t, c15, c16t, if_true, if_false, reduceIte, Bool.false_eq_true, reduceCtorEq, decide_true, decide_false, Bool.and_true, Bool.and_false, Bool.true_and, Bool.false_and, Bool.or_true, Bool.or_false, Bool.true_or, Bool.false_or, not_true_eq_false, not_false_eq_true, Bool.not_true, Bool.not_false, eq_self, Nat.reduceEqDiff]; rfl) | contradiction | (exfalso; omega)) : true = true)) rfl
                                  · have c15t := eq_true c15
                                    refine v_aload_n hX dL_areSums_326 rfl ?_
                                    refine v_callVi (r := X_worst v) (rest := []) (ws' := wX E b v) hX (fun sz => c_X5_worst l E b sz v ) (cwV 0 hX.2.2.2.2.1 gL_areSums_X5_worst rfl rfl rfl (by decide +kernel) ⟨Nat.le_of_ble_eq_true rfl, Nat.le_of_ble_eq_true rfl⟩) ([]) ([]) ((List.append_nil _).symm) ((List.append_nil _).symm).symm (wX_fst E b _ _) (ci := 5) (q0 := 0) rfl rfl rfl rfl rfl (Nat.le_of_ble_eq_true rfl) dL_areSums_327 ?_
                                    refine v_bipush (x := (-5 : Int32)) hX dL_areSums_330 (by decide) ?_
                                    refine v_icmp_ne (tgt := 357) hX dL_areSums_332 (by decide) (fun c17 => ?_) (fun c17 => ?_)
                                    · exact (c17 (wst_none v (by assumption))).elim
                                    · have c17t := eq_true c17
                                      refine v_goto (tgt := 353) hX dL_areSums_335 (by decide) ?_
                                      refine v_iconst (x := (1 : Int32)) hX dL_areSums_353 (by decide) ?_
                                      refine v_goto (tgt := 358) hX dL_areSums_354 (by decide) ?_
                                      exact v_zret hX hr hsz dL_areSums_358 rfl rfl (bI_narrow (true)) (congrArg bI (by (first | (simp only [c1, c2, c3t, c4t, c5t, c6t, c7t, c8t, c9t, c10t, c11, c12, c13, c14t, c15t, c17t, if_true, if_false, reduceIte, Bool.false_eq_true, reduceCtorEq, decide_true, decide_false, Bool.and_true, Bool.and_false, Bool.true_and, Bool.false_and, Bool.or_true, Bool.or_false, Bool.true_or, Bool.false_or, not_true_eq_false, not_false_eq_true, Bool.not_true, Bool.not_false, eq_self, Nat.reduceEqDiff]; done) | rfl | (simp only [c1, c2, c3t, c4t, c5t, c6t, c7t, c8t, c9t, c10t, c11, c12, c13, c14t, c15t, c17t, if_true, if_false, reduceIte, Bool.false_eq_true, reduceCtorEq, decide_true, decide_false, Bool.and_true, Bool.and_false, Bool.true_and, Bool.false_and, Bool.or_true, Bool.or_false, Bool.true_or, Bool.false_or, not_true_eq_false, not_false_eq_true, Bool.not_true, Bool.not_false, eq_self, Nat.reduceEqDiff]; rfl) | contradiction | (exfalso; omega)) : true = true)) rfl
      · replace c1 := (not_congr (nI_leI (a := 4) (b := 4) (by omega) (by omega))).mp c1
        first | (exfalso; omega) | exact absurd c1 (by decide) | exact absurd (by decide) c1
    | succ fu ih =>
      intro i  hin 
      refine v_iload hX dL_areSums_30 rfl ?_
      refine v_iconst (x := (4 : Int32)) hX dL_areSums_32 (by decide) ?_
      refine v_icmp_ge (tgt := 186) hX dL_areSums_33 (by decide) (fun c18 => ?_) (fun c18 => ?_)
      · replace c18 := (nI_leI (a := 4) (b := i) (by omega) (by omega)).mp c18
        first | (exfalso; omega) | exact absurd c18 (by decide) | exact absurd (by decide) c18
      · replace c18 := (not_congr (nI_leI (a := 4) (b := i) (by omega) (by omega))).mp c18
        refine v_iload hX dL_areSums_36 rfl ?_
        refine v_if_eq (tgt := 54) hX dL_areSums_38 (by decide) (fun c19 => ?_) (fun c19 => ?_)
        · replace c19 := (nI_eq (a := 1) (b := 0) (by omega) (by omega)).mp c19
          have c19t := eq_true c19
          first | (exfalso; omega) | exact absurd c19 (by decide) | exact absurd (by decide) c19
        · replace c19 := (not_congr (nI_eq (a := 1) (b := 0) (by omega) (by omega))).mp c19
          refine v_aload_n hX dL_areSums_41 rfl ?_
          refine v_iload hX dL_areSums_42 rfl ?_
          refine v_callSi (r := bI (true)) (rest := []) (ws' := wX E b v) hX (fun sz => c_L_isFilterSo l E b sz v i (by first | omega | exact Nat.le_of_ble_eq_true rfl | assumption | decide) (by first | omega | exact Nat.le_of_ble_eq_true rfl | assumption | decide)) (va_cwS 2 hX.2.2.2.2.1 gL_areSums_L_isFilterSo rfl rfl rfl (by decide +kernel) ⟨Nat.le_of_ble_eq_true rfl, Nat.le_of_ble_eq_true rfl⟩) ([]) ([]) ((List.append_nil _).symm) ((List.append_nil _).symm).symm (wX_fst E b _ _) rfl rfl (Nat.le_of_ble_eq_true rfl) dL_areSums_44 ?_
          refine v_if_eq (tgt := 54) hX dL_areSums_47 (by decide) (fun c20 => ?_) (fun c20 => ?_)
          · replace c20 := bI_0.mp c20
            exact absurd c20 (by decide)
          · replace c20 := bI_n0.mp c20
            refine v_iconst (x := (1 : Int32)) hX dL_areSums_50 (by decide) ?_
            refine v_goto (tgt := 55) hX dL_areSums_51 (by decide) ?_
            refine v_istore (lv' := [.ref (b 0 0), .int (it (sC v 0) i 0), .int (it (sC v 1) i 0), .int (it (sC v 7) i 0), .int (it (sC v 8) i 0), .int (it (sC v 9) i 0), .int (it (sC v 10) i 0), .int (it (sC v 5) i 0), .int (it (sC v 6) i 0), .int ((it (X_worstF v.1) i (-5, 0)).2), .int ((1 : Int32)), .int (nI (i))]) hX dL_areSums_55 (Nat.le_of_ble_eq_true rfl) (Nat.le_of_ble_eq_true rfl) rfl rfl ?_
            refine v_iload_n hX dL_areSums_57 rfl ?_
            refine v_aload_n hX dL_areSums_58 rfl ?_
            refine v_iload hX dL_areSums_59 rfl ?_
            refine v_iconst (x := (0 : Int32)) hX dL_areSums_61 (by decide) ?_
            refine v_callVi (r := X_core v (nI (i)) (0 : Int32)) (rest := [.int (it (sC v 0) i 0)]) (ws' := wX E b v) hX (fun sz => c_X5_core l E b sz v (nI (i)) (0 : Int32)) (cwV 2 hX.2.2.2.2.1 gL_areSums_X5_core rfl rfl rfl (by decide +kernel) ⟨Nat.le_of_ble_eq_true rfl, Nat.le_of_ble_eq_true rfl⟩) ([]) ([]) ((List.append_nil _).symm) ((List.append_nil _).symm).symm (wX_fst E b _ _) (ci := 5) (q0 := 0) rfl rfl rfl rfl rfl (Nat.le_of_ble_eq_true rfl) dL_areSums_62 ?_
            refine v_iadd (z := (it (sC v 0) i 0 + X_core v (nI (i)) (0 : Int32))) hX dL_areSums_65 (rfl) ?_
            refine v_istore_n (lv' := [.ref (b 0 0), .int ((it (sC v 0) i 0 + X_core v (nI (i)) (0 : Int32))), .int (it (sC v 1) i 0), .int (it (sC v 7) i 0), .int (it (sC v 8) i 0), .int (it (sC v 9) i 0), .int (it (sC v 10) i 0), .int (it (sC v 5) i 0), .int (it (sC v 6) i 0), .int ((it (X_worstF v.1) i (-5, 0)).2), .int ((1 : Int32)), .int (nI (i))]) hX dL_areSums_66 (Nat.le_of_ble_eq_true rfl) (Nat.le_of_ble_eq_true rfl) rfl rfl ?_
            refine v_iload_n hX dL_areSums_67 rfl ?_
            refine v_aload_n hX dL_areSums_68 rfl ?_
            refine v_iload hX dL_areSums_69 rfl ?_
            refine v_iconst (x := (1 : Int32)) hX dL_areSums_71 (by decide) ?_
            refine v_callVi (r := X_core v (nI (i)) (1 : Int32)) (rest := [.int (it (sC v 1) i 0)]) (ws' := wX E b v) hX (fun sz => c_X5_core l E b sz v (nI (i)) (1 : Int32)) (cwV 2 hX.2.2.2.2.1 gL_areSums_X5_core rfl rfl rfl (by decide +kernel) ⟨Nat.le_of_ble_eq_true rfl, Nat.le_of_ble_eq_true rfl⟩) ([]) ([]) ((List.append_nil _).symm) ((List.append_nil _).symm).symm (wX_fst E b _ _) (ci := 5) (q0 := 0) rfl rfl rfl rfl rfl (Nat.le_of_ble_eq_true rfl) dL_areSums_72 ?_
            refine v_iadd (z := (it (sC v 1) i 0 + X_core v (nI (i)) (1 : Int32))) hX dL_areSums_75 (rfl) ?_
            refine v_istore_n (lv' := [.ref (b 0 0), .int ((it (sC v 0) i 0 + X_core v (nI (i)) (0 : Int32))), .int ((it (sC v 1) i 0 + X_core v (nI (i)) (1 : Int32))), .int (it (sC v 7) i 0), .int (it (sC v 8) i 0), .int (it (sC v 9) i 0), .int (it (sC v 10) i 0), .int (it (sC v 5) i 0), .int (it (sC v 6) i 0), .int ((it (X_worstF v.1) i (-5, 0)).2), .int ((1 : Int32)), .int (nI (i))]) hX dL_areSums_76 (Nat.le_of_ble_eq_true rfl) (Nat.le_of_ble_eq_true rfl) rfl rfl ?_
            refine v_iload hX dL_areSums_77 rfl ?_
            refine v_aload_n hX dL_areSums_79 rfl ?_
            refine v_iload hX dL_areSums_80 rfl ?_
            refine v_iconst (x := (5 : Int32)) hX dL_areSums_82 (by decide) ?_
            refine v_callVi (r := X_core v (nI (i)) (5 : Int32)) (rest := [.int (it (sC v 5) i 0)]) (ws' := wX E b v) hX (fun sz => c_X5_core l E b sz v (nI (i)) (5 : Int32)) (cwV 2 hX.2.2.2.2.1 gL_areSums_X5_core rfl rfl rfl (by decide +kernel) ⟨Nat.le_of_ble_eq_true rfl, Nat.le_of_ble_eq_true rfl⟩) ([]) ([]) ((List.append_nil _).symm) ((List.append_nil _).symm).symm (wX_fst E b _ _) (ci := 5) (q0 := 0) rfl rfl rfl rfl rfl (Nat.le_of_ble_eq_true rfl) dL_areSums_83 ?_
            refine v_iadd (z := (it (sC v 5) i 0 + X_core v (nI (i)) (5 : Int32))) hX dL_areSums_86 (rfl) ?_
            refine v_istore (lv' := [.ref (b 0 0), .int ((it (sC v 0) i 0 + X_core v (nI (i)) (0 : Int32))), .int ((it (sC v 1) i 0 + X_core v (nI (i)) (1 : Int32))), .int (it (sC v 7) i 0), .int (it (sC v 8) i 0), .int (it (sC v 9) i 0), .int (it (sC v 10) i 0), .int ((it (sC v 5) i 0 + X_core v (nI (i)) (5 : Int32))), .int (it (sC v 6) i 0), .int ((it (X_worstF v.1) i (-5, 0)).2), .int ((1 : Int32)), .int (nI (i))]) hX dL_areSums_87 (Nat.le_of_ble_eq_true rfl) (Nat.le_of_ble_eq_true rfl) rfl rfl ?_
            refine v_iload hX dL_areSums_89 rfl ?_
            refine v_aload_n hX dL_areSums_91 rfl ?_
            refine v_iload hX dL_areSums_92 rfl ?_
            refine v_bipush (x := (6 : Int32)) hX dL_areSums_94 (by decide) ?_
            refine v_callVi (r := X_core v (nI (i)) (6 : Int32)) (rest := [.int (it (sC v 6) i 0)]) (ws' := wX E b v) hX (fun sz => c_X5_core l E b sz v (nI (i)) (6 : Int32)) (cwV 2 hX.2.2.2.2.1 gL_areSums_X5_core rfl rfl rfl (by decide +kernel) ⟨Nat.le_of_ble_eq_true rfl, Nat.le_of_ble_eq_true rfl⟩) ([]) ([]) ((List.append_nil _).symm) ((List.append_nil _).symm).symm (wX_fst E b _ _) (ci := 5) (q0 := 0) rfl rfl rfl rfl rfl (Nat.le_of_ble_eq_true rfl) dL_areSums_96 ?_
            refine v_iadd (z := (it (sC v 6) i 0 + X_core v (nI (i)) (6 : Int32))) hX dL_areSums_99 (rfl) ?_
            refine v_istore (lv' := [.ref (b 0 0), .int ((it (sC v 0) i 0 + X_core v (nI (i)) (0 : Int32))), .int ((it (sC v 1) i 0 + X_core v (nI (i)) (1 : Int32))), .int (it (sC v 7) i 0), .int (it (sC v 8) i 0), .int (it (sC v 9) i 0), .int (it (sC v 10) i 0), .int ((it (sC v 5) i 0 + X_core v (nI (i)) (5 : Int32))), .int ((it (sC v 6) i 0 + X_core v (nI (i)) (6 : Int32))), .int ((it (X_worstF v.1) i (-5, 0)).2), .int ((1 : Int32)), .int (nI (i))]) hX dL_areSums_100 (Nat.le_of_ble_eq_true rfl) (Nat.le_of_ble_eq_true rfl) rfl rfl ?_
            refine v_iload_n hX dL_areSums_102 rfl ?_
            refine v_aload_n hX dL_areSums_103 rfl ?_
            refine v_iload hX dL_areSums_104 rfl ?_
            refine v_bipush (x := (7 : Int32)) hX dL_areSums_106 (by decide) ?_
            refine v_callVi (r := X_core v (nI (i)) (7 : Int32)) (rest := [.int (it (sC v 7) i 0)]) (ws' := wX E b v) hX (fun sz => c_X5_core l E b sz v (nI (i)) (7 : Int32)) (cwV 2 hX.2.2.2.2.1 gL_areSums_X5_core rfl rfl rfl (by decide +kernel) ⟨Nat.le_of_ble_eq_true rfl, Nat.le_of_ble_eq_true rfl⟩) ([]) ([]) ((List.append_nil _).symm) ((List.append_nil _).symm).symm (wX_fst E b _ _) (ci := 5) (q0 := 0) rfl rfl rfl rfl rfl (Nat.le_of_ble_eq_true rfl) dL_areSums_108 ?_
            refine v_iadd (z := (it (sC v 7) i 0 + X_core v (nI (i)) (7 : Int32))) hX dL_areSums_111 (rfl) ?_
            refine v_istore_n (lv' := [.ref (b 0 0), .int ((it (sC v 0) i 0 + X_core v (nI (i)) (0 : Int32))), .int ((it (sC v 1) i 0 + X_core v (nI (i)) (1 : Int32))), .int ((it (sC v 7) i 0 + X_core v (nI (i)) (7 : Int32))), .int (it (sC v 8) i 0), .int (it (sC v 9) i 0), .int (it (sC v 10) i 0), .int ((it (sC v 5) i 0 + X_core v (nI (i)) (5 : Int32))), .int ((it (sC v 6) i 0 + X_core v (nI (i)) (6 : Int32))), .int ((it (X_worstF v.1) i (-5, 0)).2), .int ((1 : Int32)), .int (nI (i))]) hX dL_areSums_112 (Nat.le_of_ble_eq_true rfl) (Nat.le_of_ble_eq_true rfl) rfl rfl ?_
            refine v_iload hX dL_areSums_113 rfl ?_
            refine v_aload_n hX dL_areSums_115 rfl ?_
            refine v_iload hX dL_areSums_116 rfl ?_
            refine v_bipush (x := (8 : Int32)) hX dL_areSums_118 (by decide) ?_
            refine v_callVi (r := X_core v (nI (i)) (8 : Int32)) (rest := [.int (it (sC v 8) i 0)]) (ws' := wX E b v) hX (fun sz => c_X5_core l E b sz v (nI (i)) (8 : Int32)) (cwV 2 hX.2.2.2.2.1 gL_areSums_X5_core rfl rfl rfl (by decide +kernel) ⟨Nat.le_of_ble_eq_true rfl, Nat.le_of_ble_eq_true rfl⟩) ([]) ([]) ((List.append_nil _).symm) ((List.append_nil _).symm).symm (wX_fst E b _ _) (ci := 5) (q0 := 0) rfl rfl rfl rfl rfl (Nat.le_of_ble_eq_true rfl) dL_areSums_120 ?_
            refine v_iadd (z := (it (sC v 8) i 0 + X_core v (nI (i)) (8 : Int32))) hX dL_areSums_123 (rfl) ?_
            refine v_istore (lv' := [.ref (b 0 0), .int ((it (sC v 0) i 0 + X_core v (nI (i)) (0 : Int32))), .int ((it (sC v 1) i 0 + X_core v (nI (i)) (1 : Int32))), .int ((it (sC v 7) i 0 + X_core v (nI (i)) (7 : Int32))), .int ((it (sC v 8) i 0 + X_core v (nI (i)) (8 : Int32))), .int (it (sC v 9) i 0), .int (it (sC v 10) i 0), .int ((it (sC v 5) i 0 + X_core v (nI (i)) (5 : Int32))), .int ((it (sC v 6) i 0 + X_core v (nI (i)) (6 : Int32))), .int ((it (X_worstF v.1) i (-5, 0)).2), .int ((1 : Int32)), .int (nI (i))]) hX dL_areSums_124 (Nat.le_of_ble_eq_true rfl) (Nat.le_of_ble_eq_true rfl) rfl rfl ?_
            refine v_iload hX dL_areSums_126 rfl ?_
            refine v_aload_n hX dL_areSums_128 rfl ?_
            refine v_iload hX dL_areSums_129 rfl ?_
            refine v_bipush (x := (9 : Int32)) hX dL_areSums_131 (by decide) ?_
            refine v_callVi (r := X_core v (nI (i)) (9 : Int32)) (rest := [.int (it (sC v 9) i 0)]) (ws' := wX E b v) hX (fun sz => c_X5_core l E b sz v (nI (i)) (9 : Int32)) (cwV 2 hX.2.2.2.2.1 gL_areSums_X5_core rfl rfl rfl (by decide +kernel) ⟨Nat.le_of_ble_eq_true rfl, Nat.le_of_ble_eq_true rfl⟩) ([]) ([]) ((List.append_nil _).symm) ((List.append_nil _).symm).symm (wX_fst E b _ _) (ci := 5) (q0 := 0) rfl rfl rfl rfl rfl (Nat.le_of_ble_eq_true rfl) dL_areSums_133 ?_
            refine v_iadd (z := (it (sC v 9) i 0 + X_core v (nI (i)) (9 : Int32))) hX dL_areSums_136 (rfl) ?_
            refine v_istore (lv' := [.ref (b 0 0), .int ((it (sC v 0) i 0 + X_core v (nI (i)) (0 : Int32))), .int ((it (sC v 1) i 0 + X_core v (nI (i)) (1 : Int32))), .int ((it (sC v 7) i 0 + X_core v (nI (i)) (7 : Int32))), .int ((it (sC v 8) i 0 + X_core v (nI (i)) (8 : Int32))), .int ((it (sC v 9) i 0 + X_core v (nI (i)) (9 : Int32))), .int (it (sC v 10) i 0), .int ((it (sC v 5) i 0 + X_core v (nI (i)) (5 : Int32))), .int ((it (sC v 6) i 0 + X_core v (nI (i)) (6 : Int32))), .int ((it (X_worstF v.1) i (-5, 0)).2), .int ((1 : Int32)), .int (nI (i))]) hX dL_areSums_137 (Nat.le_of_ble_eq_true rfl) (Nat.le_of_ble_eq_true rfl) rfl rfl ?_
            refine v_iload hX dL_areSums_139 rfl ?_
            refine v_aload_n hX dL_areSums_141 rfl ?_
            refine v_iload hX dL_areSums_142 rfl ?_
            refine v_bipush (x := (10 : Int32)) hX dL_areSums_144 (by decide) ?_
            refine v_callVi (r := X_core v (nI (i)) (10 : Int32)) (rest := [.int (it (sC v 10) i 0)]) (ws' := wX E b v) hX (fun sz => c_X5_core l E b sz v (nI (i)) (10 : Int32)) (cwV 2 hX.2.2.2.2.1 gL_areSums_X5_core rfl rfl rfl (by decide +kernel) ⟨Nat.le_of_ble_eq_true rfl, Nat.le_of_ble_eq_true rfl⟩) ([]) ([]) ((List.append_nil _).symm) ((List.append_nil _).symm).symm (wX_fst E b _ _) (ci := 5) (q0 := 0) rfl rfl rfl rfl rfl (Nat.le_of_ble_eq_true rfl) dL_areSums_146 ?_
            refine v_iadd (z := (it (sC v 10) i 0 + X_core v (nI (i)) (10 : Int32))) hX dL_areSums_149 (rfl) ?_
            refine v_istore (lv' := [.ref (b 0 0), .int ((it (sC v 0) i 0 + X_core v (nI (i)) (0 : Int32))), .int ((it (sC v 1) i 0 + X_core v (nI (i)) (1 : Int32))), .int ((it (sC v 7) i 0 + X_core v (nI (i)) (7 : Int32))), .int ((it (sC v 8) i 0 + X_core v (nI (i)) (8 : Int32))), .int ((it (sC v 9) i 0 + X_core v (nI (i)) (9 : Int32))), .int ((it (sC v 10) i 0 + X_core v (nI (i)) (10 : Int32))), .int ((it (sC v 5) i 0 + X_core v (nI (i)) (5 : Int32))), .int ((it (sC v 6) i 0 + X_core v (nI (i)) (6 : Int32))), .int ((it (X_worstF v.1) i (-5, 0)).2), .int ((1 : Int32)), .int (nI (i))]) hX dL_areSums_150 (Nat.le_of_ble_eq_true rfl) (Nat.le_of_ble_eq_true rfl) rfl rfl ?_
            refine v_aload_n hX dL_areSums_152 rfl ?_
            refine v_iload hX dL_areSums_153 rfl ?_
            refine v_bipush (x := (8 : Int32)) hX dL_areSums_155 (by decide) ?_
            refine v_callVi (r := X_core v (nI (i)) (8 : Int32)) (rest := []) (ws' := wX E b v) hX (fun sz => c_X5_core l E b sz v (nI (i)) (8 : Int32)) (cwV 2 hX.2.2.2.2.1 gL_areSums_X5_core rfl rfl rfl (by decide +kernel) ⟨Nat.le_of_ble_eq_true rfl, Nat.le_of_ble_eq_true rfl⟩) ([]) ([]) ((List.append_nil _).symm) ((List.append_nil _).symm).symm (wX_fst E b _ _) (ci := 5) (q0 := 0) rfl rfl rfl rfl rfl (Nat.le_of_ble_eq_true rfl) dL_areSums_157 ?_
            have ht8 := o_tal8 v (co := i) (by omega)
            refine v_iload hX dL_areSums_160 rfl ?_
            refine v_icmp_le (tgt := 176) hX dL_areSums_162 (by decide) (fun c21 => ?_) (fun c21 => ?_)
            · refine v_iload hX dL_areSums_176 rfl ?_
              refine v_istore (lv' := [.ref (b 0 0), .int ((it (sC v 0) i 0 + X_core v (nI (i)) (0 : Int32))), .int ((it (sC v 1) i 0 + X_core v (nI (i)) (1 : Int32))), .int ((it (sC v 7) i 0 + X_core v (nI (i)) (7 : Int32))), .int ((it (sC v 8) i 0 + X_core v (nI (i)) (8 : Int32))), .int ((it (sC v 9) i 0 + X_core v (nI (i)) (9 : Int32))), .int ((it (sC v 10) i 0 + X_core v (nI (i)) (10 : Int32))), .int ((it (sC v 5) i 0 + X_core v (nI (i)) (5 : Int32))), .int ((it (sC v 6) i 0 + X_core v (nI (i)) (6 : Int32))), .int ((it (X_worstF v.1) i (-5, 0)).2), .int ((1 : Int32)), .int (nI (i))]) hX dL_areSums_178 (Nat.le_of_ble_eq_true rfl) (Nat.le_of_ble_eq_true rfl) rfl rfl ?_
              refine v_iinc (y := nI (i + 1)) (lv' := [.ref (b 0 0), .int ((it (sC v 0) i 0 + X_core v (nI (i)) (0 : Int32))), .int ((it (sC v 1) i 0 + X_core v (nI (i)) (1 : Int32))), .int ((it (sC v 7) i 0 + X_core v (nI (i)) (7 : Int32))), .int ((it (sC v 8) i 0 + X_core v (nI (i)) (8 : Int32))), .int ((it (sC v 9) i 0 + X_core v (nI (i)) (9 : Int32))), .int ((it (sC v 10) i 0 + X_core v (nI (i)) (10 : Int32))), .int ((it (sC v 5) i 0 + X_core v (nI (i)) (5 : Int32))), .int ((it (sC v 6) i 0 + X_core v (nI (i)) (6 : Int32))), .int ((it (X_worstF v.1) i (-5, 0)).2), .int ((1 : Int32)), .int (nI (i + 1))]) hX dL_areSums_180 rfl (nI_inc _) (Nat.le_of_ble_eq_true rfl) (Nat.le_of_ble_eq_true rfl) rfl rfl ?_
              refine v_goto (tgt := 30) hX dL_areSums_183 (by decide) ?_
              have e22 : (it (sC v 0) i 0 + X_core v (nI (i)) (0 : Int32)) = it (sC v 0) (i + 1) 0 := by first | exact sC_s _ _ _ | exact wst_le (by rw [← ht8]; assumption) | (rw [ht8]; exact wst_gt (by rw [← ht8]; assumption))
              rw [e22]
              have e23 : (it (sC v 1) i 0 + X_core v (nI (i)) (1 : Int32)) = it (sC v 1) (i + 1) 0 := by first | exact sC_s _ _ _ | exact wst_le (by rw [← ht8]; assumption) | (rw [ht8]; exact wst_gt (by rw [← ht8]; assumption))
              rw [e23]
              have e24 : (it (sC v 7) i 0 + X_core v (nI (i)) (7 : Int32)) = it (sC v 7) (i + 1) 0 := by first | exact sC_s _ _ _ | exact wst_le (by rw [← ht8]; assumption) | (rw [ht8]; exact wst_gt (by rw [← ht8]; assumption))
              rw [e24]
              have e25 : (it (sC v 8) i 0 + X_core v (nI (i)) (8 : Int32)) = it (sC v 8) (i + 1) 0 := by first | exact sC_s _ _ _ | exact wst_le (by rw [← ht8]; assumption) | (rw [ht8]; exact wst_gt (by rw [← ht8]; assumption))
              rw [e25]
              have e26 : (it (sC v 9) i 0 + X_core v (nI (i)) (9 : Int32)) = it (sC v 9) (i + 1) 0 := by first | exact sC_s _ _ _ | exact wst_le (by rw [← ht8]; assumption) | (rw [ht8]; exact wst_gt (by rw [← ht8]; assumption))
              rw [e26]
              have e27 : (it (sC v 10) i 0 + X_core v (nI (i)) (10 : Int32)) = it (sC v 10) (i + 1) 0 := by first | exact sC_s _ _ _ | exact wst_le (by rw [← ht8]; assumption) | (rw [ht8]; exact wst_gt (by rw [← ht8]; assumption))
              rw [e27]
              have e28 : (it (sC v 5) i 0 + X_core v (nI (i)) (5 : Int32)) = it (sC v 5) (i + 1) 0 := by first | exact sC_s _ _ _ | exact wst_le (by rw [← ht8]; assumption) | (rw [ht8]; exact wst_gt (by rw [← ht8]; assumption))
              rw [e28]
              have e29 : (it (sC v 6) i 0 + X_core v (nI (i)) (6 : Int32)) = it (sC v 6) (i + 1) 0 := by first | exact sC_s _ _ _ | exact wst_le (by rw [← ht8]; assumption) | (rw [ht8]; exact wst_gt (by rw [← ht8]; assumption))
              rw [e29]
              have e30 : (it (X_worstF v.1) i (-5, 0)).2 = (it (X_worstF v.1) (i + 1) (-5, 0)).2 := by first | exact sC_s _ _ _ | exact wst_le (by rw [← ht8]; assumption) | (rw [ht8]; exact wst_gt (by rw [← ht8]; assumption))
              rw [e30]
              exact ih (i + 1)  (by omega) 
            · refine v_aload_n hX dL_areSums_165 rfl ?_
              refine v_iload hX dL_areSums_166 rfl ?_
              refine v_bipush (x := (8 : Int32)) hX dL_areSums_168 (by decide) ?_
              refine v_callVi (r := X_core v (nI (i)) (8 : Int32)) (rest := []) (ws' := wX E b v) hX (fun sz => c_X5_core l E b sz v (nI (i)) (8 : Int32)) (cwV 2 hX.2.2.2.2.1 gL_areSums_X5_core rfl rfl rfl (by decide +kernel) ⟨Nat.le_of_ble_eq_true rfl, Nat.le_of_ble_eq_true rfl⟩) ([]) ([]) ((List.append_nil _).symm) ((List.append_nil _).symm).symm (wX_fst E b _ _) (ci := 5) (q0 := 0) rfl rfl rfl rfl rfl (Nat.le_of_ble_eq_true rfl) dL_areSums_170 ?_
              refine v_goto (tgt := 178) hX dL_areSums_173 (by decide) ?_
              refine v_istore (lv' := [.ref (b 0 0), .int ((it (sC v 0) i 0 + X_core v (nI (i)) (0 : Int32))), .int ((it (sC v 1) i 0 + X_core v (nI (i)) (1 : Int32))), .int ((it (sC v 7) i 0 + X_core v (nI (i)) (7 : Int32))), .int ((it (sC v 8) i 0 + X_core v (nI (i)) (8 : Int32))), .int ((it (sC v 9) i 0 + X_core v (nI (i)) (9 : Int32))), .int ((it (sC v 10) i 0 + X_core v (nI (i)) (10 : Int32))), .int ((it (sC v 5) i 0 + X_core v (nI (i)) (5 : Int32))), .int ((it (sC v 6) i 0 + X_core v (nI (i)) (6 : Int32))), .int (X_core v (nI (i)) (8 : Int32)), .int ((1 : Int32)), .int (nI (i))]) hX dL_areSums_178 (Nat.le_of_ble_eq_true rfl) (Nat.le_of_ble_eq_true rfl) rfl rfl ?_
              refine v_iinc (y := nI (i + 1)) (lv' := [.ref (b 0 0), .int ((it (sC v 0) i 0 + X_core v (nI (i)) (0 : Int32))), .int ((it (sC v 1) i 0 + X_core v (nI (i)) (1 : Int32))), .int ((it (sC v 7) i 0 + X_core v (nI (i)) (7 : Int32))), .int ((it (sC v 8) i 0 + X_core v (nI (i)) (8 : Int32))), .int ((it (sC v 9) i 0 + X_core v (nI (i)) (9 : Int32))), .int ((it (sC v 10) i 0 + X_core v (nI (i)) (10 : Int32))), .int ((it (sC v 5) i 0 + X_core v (nI (i)) (5 : Int32))), .int ((it (sC v 6) i 0 + X_core v (nI (i)) (6 : Int32))), .int (X_core v (nI (i)) (8 : Int32)), .int ((1 : Int32)), .int (nI (i + 1))]) hX dL_areSums_180 rfl (nI_inc _) (Nat.le_of_ble_eq_true rfl) (Nat.le_of_ble_eq_true rfl) rfl rfl ?_
              refine v_goto (tgt := 30) hX dL_areSums_183 (by decide) ?_
              have e31 : (it (sC v 0) i 0 + X_core v (nI (i)) (0 : Int32)) = it (sC v 0) (i + 1) 0 := by first | exact sC_s _ _ _ | exact wst_le (by rw [← ht8]; assumption) | (rw [ht8]; exact wst_gt (by rw [← ht8]; assumption))
              rw [e31]
              have e32 : (it (sC v 1) i 0 + X_core v (nI (i)) (1 : Int32)) = it (sC v 1) (i + 1) 0 := by first | exact sC_s _ _ _ | exact wst_le (by rw [← ht8]; assumption) | (rw [ht8]; exact wst_gt (by rw [← ht8]; assumption))
              rw [e32]
              have e33 : (it (sC v 7) i 0 + X_core v (nI (i)) (7 : Int32)) = it (sC v 7) (i + 1) 0 := by first | exact sC_s _ _ _ | exact wst_le (by rw [← ht8]; assumption) | (rw [ht8]; exact wst_gt (by rw [← ht8]; assumption))
              rw [e33]
              have e34 : (it (sC v 8) i 0 + X_core v (nI (i)) (8 : Int32)) = it (sC v 8) (i + 1) 0 := by first | exact sC_s _ _ _ | exact wst_le (by rw [← ht8]; assumption) | (rw [ht8]; exact wst_gt (by rw [← ht8]; assumption))
              rw [e34]
              have e35 : (it (sC v 9) i 0 + X_core v (nI (i)) (9 : Int32)) = it (sC v 9) (i + 1) 0 := by first | exact sC_s _ _ _ | exact wst_le (by rw [← ht8]; assumption) | (rw [ht8]; exact wst_gt (by rw [← ht8]; assumption))
              rw [e35]
              have e36 : (it (sC v 10) i 0 + X_core v (nI (i)) (10 : Int32)) = it (sC v 10) (i + 1) 0 := by first | exact sC_s _ _ _ | exact wst_le (by rw [← ht8]; assumption) | (rw [ht8]; exact wst_gt (by rw [← ht8]; assumption))
              rw [e36]
              have e37 : (it (sC v 5) i 0 + X_core v (nI (i)) (5 : Int32)) = it (sC v 5) (i + 1) 0 := by first | exact sC_s _ _ _ | exact wst_le (by rw [← ht8]; assumption) | (rw [ht8]; exact wst_gt (by rw [← ht8]; assumption))
              rw [e37]
              have e38 : (it (sC v 6) i 0 + X_core v (nI (i)) (6 : Int32)) = it (sC v 6) (i + 1) 0 := by first | exact sC_s _ _ _ | exact wst_le (by rw [← ht8]; assumption) | (rw [ht8]; exact wst_gt (by rw [← ht8]; assumption))
              rw [e38]
              have e39 : X_core v (nI (i)) (8 : Int32) = (it (X_worstF v.1) (i + 1) (-5, 0)).2 := by first | exact sC_s _ _ _ | exact wst_le (by rw [← ht8]; assumption) | (rw [ht8]; exact wst_gt (by rw [← ht8]; assumption))
              rw [e39]
              exact ih (i + 1)  (by omega) 
  exact loop_30 4 0  (by omega) 
