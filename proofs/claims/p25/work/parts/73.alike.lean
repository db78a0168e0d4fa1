set_option maxHeartbeats 4000000 in
set_option maxRecDepth 100000 in
theorem c_L_areAlike (l : Launch) (E : ET) (b b2 : Nat → Nat → Nat) (sz : Nat) (v u : XV) (hvu : v.1 = u.1) : Met l yL_areAlike wsL_areAlike ({ frames := 4, cells := 0, slots := 0, locals := 88 }) (mPc E [.ref (b 0 0), .ref (b2 0 0)] sz (wX E b v ++ wX E b2 u)) (mQi E (bI (true)) (wX E b v ++ wX E b2 u) (wX E b v ++ wX E b2 u) sz) 0 0 (va_A (wX E b v ++ wX E b2 u) sz) := by
  refine v_start (cc := cL_areAlike) (maxL := 4) (ret := (some .boolean)) (by decide) rfl (Nat.le_of_ble_eq_true rfl) rfl ?_
  intro p e s m args below meth c hsz hr hX
  have hX : Xc p s m args meth c E 4 (va_A (wX E b v ++ wX E b2 u) sz) cL_areAlike RL wsL_areAlike := hX
  refine v_aload_n hX dL_areAlike_0 rfl ?_
  refine v_callVi (r := X_worst v) (rest := []) (ws' := wX E b v ++ wX E b2 u) hX (fun sz => c_X5_worst l E b sz v ) (cwV 0 hX.2.2.2.2.1 gL_areAlike_X5_worst rfl rfl rfl (by decide +kernel) ⟨Nat.le_of_ble_eq_true rfl, Nat.le_of_ble_eq_true rfl⟩) ([]) (wX E b2 u) (rfl) (rfl).symm (rfl) (ci := 5) (q0 := 0) rfl rfl rfl rfl rfl (Nat.le_of_ble_eq_true rfl) dL_areAlike_1 ?_
  refine v_aload_n hX dL_areAlike_4 rfl ?_
  refine v_callVi (r := X_worst u) (rest := [.int (X_worst v)]) (ws' := wX E b v ++ wX E b2 u) hX (fun sz => c_X5_worst l E b2 sz u ) (cwV 0 hX.2.2.2.2.1 gL_areAlike_X5_worst rfl rfl rfl (by decide +kernel) ⟨Nat.le_of_ble_eq_true rfl, Nat.le_of_ble_eq_true rfl⟩) (wX E b v) ([]) ((congrArg (fun z => wX E b v ++ z) (List.append_nil (wX E b2 u))).symm) ((congrArg (fun z => wX E b v ++ z) (List.append_nil (wX E b2 u))).symm).symm (rfl) (ci := 5) (q0 := 0) rfl rfl rfl rfl rfl (Nat.le_of_ble_eq_true rfl) dL_areAlike_5 ?_
  refine v_icmp_ne (tgt := 15) hX dL_areAlike_8 (by decide) (fun c1 => ?_) (fun c1 => ?_)
  · exact (c1 (al_worst hvu)).elim
  · have c1t := eq_true c1
    refine v_iconst (x := (1 : Int32)) hX dL_areAlike_11 (by decide) ?_
    refine v_goto (tgt := 16) hX dL_areAlike_12 (by decide) ?_
    refine v_istore_n (lv' := [.ref (b 0 0), .ref (b2 0 0), .int ((1 : Int32))]) hX dL_areAlike_16 (Nat.le_of_ble_eq_true rfl) (Nat.le_of_ble_eq_true rfl) rfl rfl ?_
    refine v_iconst (x := (0 : Int32)) hX dL_areAlike_17 (by decide) ?_
    refine v_istore_n (lv' := [.ref (b 0 0), .ref (b2 0 0), .int ((1 : Int32)), .int ((0 : Int32))]) hX dL_areAlike_18 (Nat.le_of_ble_eq_true rfl) (Nat.le_of_ble_eq_true rfl) rfl rfl ?_
    have loop_19 : ∀ (fu i : Nat), i + fu = 12 → V p l e ({ frames := 4, cells := 0, slots := 0, locals := 88 } : Room) s m args below meth c E 4 (va_A (wX E b v ++ wX E b2 u) sz) (MQ below (mQi E (bI (true)) (wX E b v ++ wX E b2 u) (wX E b v ++ wX E b2 u) sz) args s 0 0 (va_A (wX E b v ++ wX E b2 u) sz)) (wX E b v ++ wX E b2 u) [.ref (b 0 0), .ref (b2 0 0), .int ((1 : Int32)), .int (nI (i))] 19 [] := by
      intro fu
      induction fu with
      | zero =>
        intro i  hin 
        have hi0 : i = 12 := by omega
        subst hi0
        refine v_iload_n hX dL_areAlike_19 rfl ?_
        refine v_bipush (x := (12 : Int32)) hX dL_areAlike_20 (by decide) ?_
        refine v_icmp_ge (tgt := 54) hX dL_areAlike_22 (by decide) (fun c2 => ?_) (fun c2 => ?_)
        · replace c2 := (nI_leI (a := 12) (b := 12) (by omega) (by omega)).mp c2
          refine v_iconst (x := (0 : Int32)) hX dL_areAlike_54 (by decide) ?_
          refine v_istore_n (lv' := [.ref (b 0 0), .ref (b2 0 0), .int ((1 : Int32)), .int ((0 : Int32))]) hX dL_areAlike_55 (Nat.le_of_ble_eq_true rfl) (Nat.le_of_ble_eq_true rfl) rfl rfl ?_
          have loop_56 : ∀ (fu i : Nat), i + fu = 96 → V p l e ({ frames := 4, cells := 0, slots := 0, locals := 88 } : Room) s m args below meth c E 4 (va_A (wX E b v ++ wX E b2 u) sz) (MQ below (mQi E (bI (true)) (wX E b v ++ wX E b2 u) (wX E b v ++ wX E b2 u) sz) args s 0 0 (va_A (wX E b v ++ wX E b2 u) sz)) (wX E b v ++ wX E b2 u) [.ref (b 0 0), .ref (b2 0 0), .int ((1 : Int32)), .int (nI (i))] 56 [] := by
            intro fu
            induction fu with
            | zero =>
              intro i  hin 
              have hi0 : i = 96 := by omega
              subst hi0
              refine v_iload_n hX dL_areAlike_56 rfl ?_
              refine v_bipush (x := (96 : Int32)) hX dL_areAlike_57 (by decide) ?_
              refine v_icmp_ge (tgt := 142) hX dL_areAlike_59 (by decide) (fun c3 => ?_) (fun c3 => ?_)
              · replace c3 := (nI_leI (a := 96) (b := 96) (by omega) (by omega)).mp c3
                refine v_iconst (x := (0 : Int32)) hX dL_areAlike_142 (by decide) ?_
                refine v_istore_n (lv' := [.ref (b 0 0), .ref (b2 0 0), .int ((1 : Int32)), .int ((0 : Int32))]) hX dL_areAlike_143 (Nat.le_of_ble_eq_true rfl) (Nat.le_of_ble_eq_true rfl) rfl rfl ?_
                have loop_144 : ∀ (fu i : Nat), i + fu = 44 → V p l e ({ frames := 4, cells := 0, slots := 0, locals := 88 } : Room) s m args below meth c E 4 (va_A (wX E b v ++ wX E b2 u) sz) (MQ below (mQi E (bI (true)) (wX E b v ++ wX E b2 u) (wX E b v ++ wX E b2 u) sz) args s 0 0 (va_A (wX E b v ++ wX E b2 u) sz)) (wX E b v ++ wX E b2 u) [.ref (b 0 0), .ref (b2 0 0), .int ((1 : Int32)), .int (nI (i))] 144 [] := by
                  intro fu
                  induction fu with
                  | zero =>
                    intro i  hin 
                    have hi0 : i = 44 := by omega
                    subst hi0
                    refine v_iload_n hX dL_areAlike_144 rfl ?_
                    refine v_bipush (x := (44 : Int32)) hX dL_areAlike_145 (by decide) ?_
                    refine v_icmp_ge (tgt := 193) hX dL_areAlike_147 (by decide) (fun c4 => ?_) (fun c4 => ?_)
                    · replace c4 := (nI_leI (a := 44) (b := 44) (by omega) (by omega)).mp c4
                      refine v_iconst (x := (0 : Int32)) hX dL_areAlike_193 (by decide) ?_
                      refine v_istore_n (lv' := [.ref (b 0 0), .ref (b2 0 0), .int ((1 : Int32)), .int ((0 : Int32))]) hX dL_areAlike_194 (Nat.le_of_ble_eq_true rfl) (Nat.le_of_ble_eq_true rfl) rfl rfl ?_
                      have loop_195 : ∀ (fu i : Nat), i + fu = 256 → V p l e ({ frames := 4, cells := 0, slots := 0, locals := 88 } : Room) s m args below meth c E 4 (va_A (wX E b v ++ wX E b2 u) sz) (MQ below (mQi E (bI (true)) (wX E b v ++ wX E b2 u) (wX E b v ++ wX E b2 u) sz) args s 0 0 (va_A (wX E b v ++ wX E b2 u) sz)) (wX E b v ++ wX E b2 u) [.ref (b 0 0), .ref (b2 0 0), .int ((1 : Int32)), .int (nI (i))] 195 [] := by
                        intro fu
                        induction fu with
                        | zero =>
                          intro i  hin 
                          have hi0 : i = 256 := by omega
                          subst hi0
                          refine v_iload_n hX dL_areAlike_195 rfl ?_
                          refine v_sipush (x := (256 : Int32)) hX dL_areAlike_196 (by decide) ?_
                          refine v_icmp_ge (tgt := 233) hX dL_areAlike_199 (by decide) (fun c5 => ?_) (fun c5 => ?_)
                          · replace c5 := (nI_leI (a := 256) (b := 256) (by omega) (by omega)).mp c5
                            refine v_iload_n hX dL_areAlike_233 rfl ?_
                            exact v_zret hX hr hsz dL_areAlike_234 rfl rfl (bI_narrow (true)) (congrArg bI (by (first | (simp only [c1t, c2, c3, c4, c5, if_true, if_false, reduceIte, Bool.false_eq_true, reduceCtorEq, decide_true, decide_false, Bool.and_true, Bool.and_false, Bool.true_and, Bool.false_and, Bool.or_true, Bool.or_false, Bool.true_or, Bool.false_or, not_true_eq_false, not_false_eq_true, Bool.not_true, Bool.not_false, eq_self, Nat.reduceEqDiff]; done) | rfl | (simp only [c1t, c2, c3, c4, c5, if_true, if_false, reduceIte, Bool.false_eq_true, reduceCtorEq, decide_true, decide_false, Bool.and_true, Bool.and_false, Bool.true_and, Bool.false_and, Bool.or_true, Bool.or_false, Bool.true_or, Bool.false_or, not_true_eq_false, not_false_eq_true, Bool.not_true, Bool.not_false, eq_self, Nat.reduceEqDiff]; rfl) | contradiction | (exfalso; omega)) : true = true)) rfl
                          · replace c5 := (not_congr (nI_leI (a := 256) (b := 256) (by omega) (by omega))).mp c5
                            first | (exfalso; omega) | exact absurd c5 (by decide) | exact absurd (by decide) c5
                        | succ fu ih =>
                          intro i  hin 
                          refine v_iload_n hX dL_areAlike_195 rfl ?_
                          refine v_sipush (x := (256 : Int32)) hX dL_areAlike_196 (by decide) ?_
                          refine v_icmp_ge (tgt := 233) hX dL_areAlike_199 (by decide) (fun c6 => ?_) (fun c6 => ?_)
                          · replace c6 := (nI_leI (a := 256) (b := i) (by omega) (by omega)).mp c6
                            first | (exfalso; omega) | exact absurd c6 (by decide) | exact absurd (by decide) c6
                          · replace c6 := (not_congr (nI_leI (a := 256) (b := i) (by omega) (by omega))).mp c6
                            refine v_iload_n hX dL_areAlike_202 rfl ?_
                            refine v_if_eq (tgt := 225) hX dL_areAlike_203 (by decide) (fun c7 => ?_) (fun c7 => ?_)
                            · replace c7 := (nI_eq (a := 1) (b := 0) (by omega) (by omega)).mp c7
                              have c7t := eq_true c7
                              first | (exfalso; omega) | exact absurd c7 (by decide) | exact absurd (by decide) c7
                            · replace c7 := (not_congr (nI_eq (a := 1) (b := 0) (by omega) (by omega))).mp c7
                              refine v_aload_n hX dL_areAlike_206 rfl ?_
                              refine v_iload_n hX dL_areAlike_207 rfl ?_
                              refine v_iconst (x := (0 : Int32)) hX dL_areAlike_208 (by decide) ?_
                              refine v_callVi (r := X_line v (nI (i)) (0 : Int32)) (rest := []) (ws' := wX E b v ++ wX E b2 u) hX (fun sz => c_X5_line l E b sz v (nI (i)) (0 : Int32)) (cwV 2 hX.2.2.2.2.1 gL_areAlike_X5_line rfl rfl rfl (by decide +kernel) ⟨Nat.le_of_ble_eq_true rfl, Nat.le_of_ble_eq_true rfl⟩) ([]) (wX E b2 u) (rfl) (rfl).symm (rfl) (ci := 5) (q0 := 0) rfl rfl rfl rfl rfl (Nat.le_of_ble_eq_true rfl) dL_areAlike_209 ?_
                              refine v_aload_n hX dL_areAlike_212 rfl ?_
                              refine v_iload_n hX dL_areAlike_213 rfl ?_
                              refine v_iconst (x := (0 : Int32)) hX dL_areAlike_214 (by decide) ?_
                              refine v_callVi (r := X_line u (nI (i)) (0 : Int32)) (rest := [.int (X_line v (nI (i)) (0 : Int32))]) (ws' := wX E b v ++ wX E b2 u) hX (fun sz => c_X5_line l E b2 sz u (nI (i)) (0 : Int32)) (cwV 2 hX.2.2.2.2.1 gL_areAlike_X5_line rfl rfl rfl (by decide +kernel) ⟨Nat.le_of_ble_eq_true rfl, Nat.le_of_ble_eq_true rfl⟩) (wX E b v) ([]) ((congrArg (fun z => wX E b v ++ z) (List.append_nil (wX E b2 u))).symm) ((congrArg (fun z => wX E b v ++ z) (List.append_nil (wX E b2 u))).symm).symm (rfl) (ci := 5) (q0 := 0) rfl rfl rfl rfl rfl (Nat.le_of_ble_eq_true rfl) dL_areAlike_215 ?_
                              refine v_icmp_ne (tgt := 225) hX dL_areAlike_218 (by decide) (fun c8 => ?_) (fun c8 => ?_)
                              · exact (c8 (al_line hvu _ _)).elim
                              · have c8t := eq_true c8
                                refine v_iconst (x := (1 : Int32)) hX dL_areAlike_221 (by decide) ?_
                                refine v_goto (tgt := 226) hX dL_areAlike_222 (by decide) ?_
                                refine v_istore_n (lv' := [.ref (b 0 0), .ref (b2 0 0), .int ((1 : Int32)), .int (nI (i))]) hX dL_areAlike_226 (Nat.le_of_ble_eq_true rfl) (Nat.le_of_ble_eq_true rfl) rfl rfl ?_
                                refine v_iinc (y := nI (i + 1)) (lv' := [.ref (b 0 0), .ref (b2 0 0), .int ((1 : Int32)), .int (nI (i + 1))]) hX dL_areAlike_227 rfl (nI_inc _) (Nat.le_of_ble_eq_true rfl) (Nat.le_of_ble_eq_true rfl) rfl rfl ?_
                                refine v_goto (tgt := 195) hX dL_areAlike_230 (by decide) ?_
                                exact ih (i + 1)  (by omega) 
                      exact loop_195 256 0  (by omega) 
                    · replace c4 := (not_congr (nI_leI (a := 44) (b := 44) (by omega) (by omega))).mp c4
                      first | (exfalso; omega) | exact absurd c4 (by decide) | exact absurd (by decide) c4
                  | succ fu ih =>
                    intro i  hin 
                    refine v_iload_n hX dL_areAlike_144 rfl ?_
                    refine v_bipush (x := (44 : Int32)) hX dL_areAlike_145 (by decide) ?_
                    refine v_icmp_ge (tgt := 193) hX dL_areAlike_147 (by decide) (fun c9 => ?_) (fun c9 => ?_)
                    · replace c9 := (nI_leI (a := 44) (b := i) (by omega) (by omega)).mp c9
                      first | (exfalso; omega) | exact absurd c9 (by decide) | exact absurd (by decide) c9
                    · replace c9 := (not_congr (nI_leI (a := 44) (b := i) (by omega) (by omega))).mp c9
                      refine v_iload_n hX dL_areAlike_150 rfl ?_
                      refine v_if_eq (tgt := 185) hX dL_areAlike_151 (by decide) (fun c10 => ?_) (fun c10 => ?_)
                      · replace c10 := (nI_eq (a := 1) (b := 0) (by omega) (by omega)).mp c10
                        have c10t := eq_true c10
                        first | (exfalso; omega) | exact absurd c10 (by decide) | exact absurd (by decide) c10
                      · replace c10 := (not_congr (nI_eq (a := 1) (b := 0) (by omega) (by omega))).mp c10
                        refine v_aload_n hX dL_areAlike_154 rfl ?_
                        refine v_iload_n hX dL_areAlike_155 rfl ?_
                        refine v_bipush (x := (11 : Int32)) hX dL_areAlike_156 (by decide) ?_
                        refine v_idiv (z := nI ((i) / 11)) hX dL_areAlike_158 (by decide) (div_c (i) 11 (by omega) (by decide) (by decide)) ?_
                        refine v_iload_n hX dL_areAlike_159 rfl ?_
                        refine v_bipush (x := (11 : Int32)) hX dL_areAlike_160 (by decide) ?_
                        refine v_irem (z := nI ((i) % 11)) hX dL_areAlike_162 (by decide) (rem_c (i) 11 (by omega) (by decide) (by decide)) ?_
                        refine v_callVi (r := X_core v (nI ((i) / 11)) (nI ((i) % 11))) (rest := []) (ws' := wX E b v ++ wX E b2 u) hX (fun sz => c_X5_core l E b sz v (nI ((i) / 11)) (nI ((i) % 11))) (cwV 2 hX.2.2.2.2.1 gL_areAlike_X5_core rfl rfl rfl (by decide +kernel) ⟨Nat.le_of_ble_eq_true rfl, Nat.le_of_ble_eq_true rfl⟩) ([]) (wX E b2 u) (rfl) (rfl).symm (rfl) (ci := 5) (q0 := 0) rfl rfl rfl rfl rfl (Nat.le_of_ble_eq_true rfl) dL_areAlike_163 ?_
                        refine v_aload_n hX dL_areAlike_166 rfl ?_
                        refine v_iload_n hX dL_areAlike_167 rfl ?_
                        refine v_bipush (x := (11 : Int32)) hX dL_areAlike_168 (by decide) ?_
                        refine v_idiv (z := nI ((i) / 11)) hX dL_areAlike_170 (by decide) (div_c (i) 11 (by omega) (by decide) (by decide)) ?_
                        refine v_iload_n hX dL_areAlike_171 rfl ?_
                        refine v_bipush (x := (11 : Int32)) hX dL_areAlike_172 (by decide) ?_
                        refine v_irem (z := nI ((i) % 11)) hX dL_areAlike_174 (by decide) (rem_c (i) 11 (by omega) (by decide) (by decide)) ?_
                        refine v_callVi (r := X_core u (nI ((i) / 11)) (nI ((i) % 11))) (rest := [.int (X_core v (nI ((i) / 11)) (nI ((i) % 11)))]) (ws' := wX E b v ++ wX E b2 u) hX (fun sz => c_X5_core l E b2 sz u (nI ((i) / 11)) (nI ((i) % 11))) (cwV 2 hX.2.2.2.2.1 gL_areAlike_X5_core rfl rfl rfl (by decide +kernel) ⟨Nat.le_of_ble_eq_true rfl, Nat.le_of_ble_eq_true rfl⟩) (wX E b v) ([]) ((congrArg (fun z => wX E b v ++ z) (List.append_nil (wX E b2 u))).symm) ((congrArg (fun z => wX E b v ++ z) (List.append_nil (wX E b2 u))).symm).symm (rfl) (ci := 5) (q0 := 0) rfl rfl rfl rfl rfl (Nat.le_of_ble_eq_true rfl) dL_areAlike_175 ?_
                        refine v_icmp_ne (tgt := 185) hX dL_areAlike_178 (by decide) (fun c11 => ?_) (fun c11 => ?_)
                        · exact (c11 (al_core hvu _ _)).elim
                        · have c11t := eq_true c11
                          refine v_iconst (x := (1 : Int32)) hX dL_areAlike_181 (by decide) ?_
                          refine v_goto (tgt := 186) hX dL_areAlike_182 (by decide) ?_
                          refine v_istore_n (lv' := [.ref (b 0 0), .ref (b2 0 0), .int ((1 : Int32)), .int (nI (i))]) hX dL_areAlike_186 (Nat.le_of_ble_eq_true rfl) (Nat.le_of_ble_eq_true rfl) rfl rfl ?_
                          refine v_iinc (y := nI (i + 1)) (lv' := [.ref (b 0 0), .ref (b2 0 0), .int ((1 : Int32)), .int (nI (i + 1))]) hX dL_areAlike_187 rfl (nI_inc _) (Nat.le_of_ble_eq_true rfl) (Nat.le_of_ble_eq_true rfl) rfl rfl ?_
                          refine v_goto (tgt := 144) hX dL_areAlike_190 (by decide) ?_
                          exact ih (i + 1)  (by omega) 
                exact loop_144 44 0  (by omega) 
              · replace c3 := (not_congr (nI_leI (a := 96) (b := 96) (by omega) (by omega))).mp c3
                first | (exfalso; omega) | exact absurd c3 (by decide) | exact absurd (by decide) c3
            | succ fu ih =>
              intro i  hin 
              refine v_iload_n hX dL_areAlike_56 rfl ?_
              refine v_bipush (x := (96 : Int32)) hX dL_areAlike_57 (by decide) ?_
              refine v_icmp_ge (tgt := 142) hX dL_areAlike_59 (by decide) (fun c12 => ?_) (fun c12 => ?_)
              · replace c12 := (nI_leI (a := 96) (b := i) (by omega) (by omega)).mp c12
                first | (exfalso; omega) | exact absurd c12 (by decide) | exact absurd (by decide) c12
              · replace c12 := (not_congr (nI_leI (a := 96) (b := i) (by omega) (by omega))).mp c12
                refine v_iload_n hX dL_areAlike_62 rfl ?_
                refine v_if_eq (tgt := 134) hX dL_areAlike_63 (by decide) (fun c13 => ?_) (fun c13 => ?_)
                · replace c13 := (nI_eq (a := 1) (b := 0) (by omega) (by omega)).mp c13
                  have c13t := eq_true c13
                  first | (exfalso; omega) | exact absurd c13 (by decide) | exact absurd (by decide) c13
                · replace c13 := (not_congr (nI_eq (a := 1) (b := 0) (by omega) (by omega))).mp c13
                  refine v_aload_n hX dL_areAlike_66 rfl ?_
                  refine v_iload_n hX dL_areAlike_67 rfl ?_
                  refine v_bipush (x := (24 : Int32)) hX dL_areAlike_68 (by decide) ?_
                  refine v_idiv (z := nI ((i) / 24)) hX dL_areAlike_70 (by decide) (div_c (i) 24 (by omega) (by decide) (by decide)) ?_
                  refine v_iload_n hX dL_areAlike_71 rfl ?_
                  refine v_iconst (x := (3 : Int32)) hX dL_areAlike_72 (by decide) ?_
                  refine v_idiv (z := nI ((i) / 3)) hX dL_areAlike_73 (by decide) (div_c (i) 3 (by omega) (by decide) (by decide)) ?_
                  refine v_bipush (x := (8 : Int32)) hX dL_areAlike_74 (by decide) ?_
                  refine v_irem (z := nI (((i) / 3) % 8)) hX dL_areAlike_76 (by decide) (rem_c ((i) / 3) 8 (by omega) (by decide) (by decide)) ?_
                  refine v_iload_n hX dL_areAlike_77 rfl ?_
                  refine v_iconst (x := (3 : Int32)) hX dL_areAlike_78 (by decide) ?_
                  refine v_irem (z := nI ((i) % 3)) hX dL_areAlike_79 (by decide) (rem_c (i) 3 (by omega) (by decide) (by decide)) ?_
                  refine v_callVi (r := X_held v (nI ((i) / 24)) (nI (((i) / 3) % 8)) (nI ((i) % 3))) (rest := []) (ws' := wX E b v ++ wX E b2 u) hX (fun sz => c_X5_held l E b sz v (nI ((i) / 24)) (nI (((i) / 3) % 8)) (nI ((i) % 3))) (cwV 3 hX.2.2.2.2.1 gL_areAlike_X5_held rfl rfl rfl (by decide +kernel) ⟨Nat.le_of_ble_eq_true rfl, Nat.le_of_ble_eq_true rfl⟩) ([]) (wX E b2 u) (rfl) (rfl).symm (rfl) (ci := 5) (q0 := 0) rfl rfl rfl rfl rfl (Nat.le_of_ble_eq_true rfl) dL_areAlike_80 ?_
                  refine v_aload_n hX dL_areAlike_83 rfl ?_
                  refine v_iload_n hX dL_areAlike_84 rfl ?_
                  refine v_bipush (x := (24 : Int32)) hX dL_areAlike_85 (by decide) ?_
                  refine v_idiv (z := nI ((i) / 24)) hX dL_areAlike_87 (by decide) (div_c (i) 24 (by omega) (by decide) (by decide)) ?_
                  refine v_iload_n hX dL_areAlike_88 rfl ?_
                  refine v_iconst (x := (3 : Int32)) hX dL_areAlike_89 (by decide) ?_
                  refine v_idiv (z := nI ((i) / 3)) hX dL_areAlike_90 (by decide) (div_c (i) 3 (by omega) (by decide) (by decide)) ?_
                  refine v_bipush (x := (8 : Int32)) hX dL_areAlike_91 (by decide) ?_
                  refine v_irem (z := nI (((i) / 3) % 8)) hX dL_areAlike_93 (by decide) (rem_c ((i) / 3) 8 (by omega) (by decide) (by decide)) ?_
                  refine v_iload_n hX dL_areAlike_94 rfl ?_
                  refine v_iconst (x := (3 : Int32)) hX dL_areAlike_95 (by decide) ?_
                  refine v_irem (z := nI ((i) % 3)) hX dL_areAlike_96 (by decide) (rem_c (i) 3 (by omega) (by decide) (by decide)) ?_
                  refine v_callVi (r := X_held u (nI ((i) / 24)) (nI (((i) / 3) % 8)) (nI ((i) % 3))) (rest := [.int (X_held v (nI ((i) / 24)) (nI (((i) / 3) % 8)) (nI ((i) % 3)))]) (ws' := wX E b v ++ wX E b2 u) hX (fun sz => c_X5_held l E b2 sz u (nI ((i) / 24)) (nI (((i) / 3) % 8)) (nI ((i) % 3))) (cwV 3 hX.2.2.2.2.1 gL_areAlike_X5_held rfl rfl rfl (by decide +kernel) ⟨Nat.le_of_ble_eq_true rfl, Nat.le_of_ble_eq_true rfl⟩) (wX E b v) ([]) ((congrArg (fun z => wX E b v ++ z) (List.append_nil (wX E b2 u))).symm) ((congrArg (fun z => wX E b v ++ z) (List.append_nil (wX E b2 u))).symm).symm (rfl) (ci := 5) (q0 := 0) rfl rfl rfl rfl rfl (Nat.le_of_ble_eq_true rfl) dL_areAlike_97 ?_
                  refine v_icmp_ne (tgt := 134) hX dL_areAlike_100 (by decide) (fun c14 => ?_) (fun c14 => ?_)
                  · exact (c14 (al_held hvu _ _ _)).elim
                  · have c14t := eq_true c14
                    refine v_aload_n hX dL_areAlike_103 rfl ?_
                    refine v_iload_n hX dL_areAlike_104 rfl ?_
                    refine v_bipush (x := (24 : Int32)) hX dL_areAlike_105 (by decide) ?_
                    refine v_idiv (z := nI ((i) / 24)) hX dL_areAlike_107 (by decide) (div_c (i) 24 (by omega) (by decide) (by decide)) ?_
                    refine v_iload_n hX dL_areAlike_108 rfl ?_
                    refine v_bipush (x := (24 : Int32)) hX dL_areAlike_109 (by decide) ?_
                    refine v_irem (z := nI ((i) % 24)) hX dL_areAlike_111 (by decide) (rem_c (i) 24 (by omega) (by decide) (by decide)) ?_
                    refine v_callVi (r := X_counter v (nI ((i) / 24)) (nI ((i) % 24))) (rest := []) (ws' := wX E b v ++ wX E b2 u) hX (fun sz => c_X5_counter l E b sz v (nI ((i) / 24)) (nI ((i) % 24))) (cwV 2 hX.2.2.2.2.1 gL_areAlike_X5_counter rfl rfl rfl (by decide +kernel) ⟨Nat.le_of_ble_eq_true rfl, Nat.le_of_ble_eq_true rfl⟩) ([]) (wX E b2 u) (rfl) (rfl).symm (rfl) (ci := 5) (q0 := 0) rfl rfl rfl rfl rfl (Nat.le_of_ble_eq_true rfl) dL_areAlike_112 ?_
                    refine v_aload_n hX dL_areAlike_115 rfl ?_
                    refine v_iload_n hX dL_areAlike_116 rfl ?_
                    refine v_bipush (x := (24 : Int32)) hX dL_areAlike_117 (by decide) ?_
                    refine v_idiv (z := nI ((i) / 24)) hX dL_areAlike_119 (by decide) (div_c (i) 24 (by omega) (by decide) (by decide)) ?_
                    refine v_iload_n hX dL_areAlike_120 rfl ?_
                    refine v_bipush (x := (24 : Int32)) hX dL_areAlike_121 (by decide) ?_
                    refine v_irem (z := nI ((i) % 24)) hX dL_areAlike_123 (by decide) (rem_c (i) 24 (by omega) (by decide) (by decide)) ?_
                    refine v_callVi (r := X_counter u (nI ((i) / 24)) (nI ((i) % 24))) (rest := [.int (X_counter v (nI ((i) / 24)) (nI ((i) % 24)))]) (ws' := wX E b v ++ wX E b2 u) hX (fun sz => c_X5_counter l E b2 sz u (nI ((i) / 24)) (nI ((i) % 24))) (cwV 2 hX.2.2.2.2.1 gL_areAlike_X5_counter rfl rfl rfl (by decide +kernel) ⟨Nat.le_of_ble_eq_true rfl, Nat.le_of_ble_eq_true rfl⟩) (wX E b v) ([]) ((congrArg (fun z => wX E b v ++ z) (List.append_nil (wX E b2 u))).symm) ((congrArg (fun z => wX E b v ++ z) (List.append_nil (wX E b2 u))).symm).symm (rfl) (ci := 5) (q0 := 0) rfl rfl rfl rfl rfl (Nat.le_of_ble_eq_true rfl) dL_areAlike_124 ?_
                    refine v_icmp_ne (tgt := 134) hX dL_areAlike_127 (by decide) (fun c15 => ?_) (fun c15 => ?_)
                    · exact (c15 (al_counter hvu _ _)).elim
                    · have c15t := eq_true c15
                      refine v_iconst (x := (1 : Int32)) hX dL_areAlike_130 (by decide) ?_
                      refine v_goto (tgt := 135) hX dL_areAlike_131 (by decide) ?_
                      refine v_istore_n (lv' := [.ref (b 0 0), .ref (b2 0 0), .int ((1 : Int32)), .int (nI (i))]) hX dL_areAlike_135 (Nat.le_of_ble_eq_true rfl) (Nat.le_of_ble_eq_true rfl) rfl rfl ?_
                      refine v_iinc (y := nI (i + 1)) (lv' := [.ref (b 0 0), .ref (b2 0 0), .int ((1 : Int32)), .int (nI (i + 1))]) hX dL_areAlike_136 rfl (nI_inc _) (Nat.le_of_ble_eq_true rfl) (Nat.le_of_ble_eq_true rfl) rfl rfl ?_
                      refine v_goto (tgt := 56) hX dL_areAlike_139 (by decide) ?_
                      exact ih (i + 1)  (by omega) 
          exact loop_56 96 0  (by omega) 
        · replace c2 := (not_congr (nI_leI (a := 12) (b := 12) (by omega) (by omega))).mp c2
          first | (exfalso; omega) | exact absurd c2 (by decide) | exact absurd (by decide) c2
      | succ fu ih =>
        intro i  hin 
        refine v_iload_n hX dL_areAlike_19 rfl ?_
        refine v_bipush (x := (12 : Int32)) hX dL_areAlike_20 (by decide) ?_
        refine v_icmp_ge (tgt := 54) hX dL_areAlike_22 (by decide) (fun c16 => ?_) (fun c16 => ?_)
        · replace c16 := (nI_leI (a := 12) (b := i) (by omega) (by omega)).mp c16
          first | (exfalso; omega) | exact absurd c16 (by decide) | exact absurd (by decide) c16
        · replace c16 := (not_congr (nI_leI (a := 12) (b := i) (by omega) (by omega))).mp c16
          refine v_iload_n hX dL_areAlike_25 rfl ?_
          refine v_if_eq (tgt := 46) hX dL_areAlike_26 (by decide) (fun c17 => ?_) (fun c17 => ?_)
          · replace c17 := (nI_eq (a := 1) (b := 0) (by omega) (by omega)).mp c17
            have c17t := eq_true c17
            first | (exfalso; omega) | exact absurd c17 (by decide) | exact absurd (by decide) c17
          · replace c17 := (not_congr (nI_eq (a := 1) (b := 0) (by omega) (by omega))).mp c17
            refine v_aload_n hX dL_areAlike_29 rfl ?_
            refine v_iload_n hX dL_areAlike_30 rfl ?_
            refine v_callVi (r := X_count v (nI (i))) (rest := []) (ws' := wX E b v ++ wX E b2 u) hX (fun sz => c_X5_count l E b sz v (nI (i))) (cwV 1 hX.2.2.2.2.1 gL_areAlike_X5_count rfl rfl rfl (by decide +kernel) ⟨Nat.le_of_ble_eq_true rfl, Nat.le_of_ble_eq_true rfl⟩) ([]) (wX E b2 u) (rfl) (rfl).symm (rfl) (ci := 5) (q0 := 0) rfl rfl rfl rfl rfl (Nat.le_of_ble_eq_true rfl) dL_areAlike_31 ?_
            refine v_aload_n hX dL_areAlike_34 rfl ?_
            refine v_iload_n hX dL_areAlike_35 rfl ?_
            refine v_callVi (r := X_count u (nI (i))) (rest := [.int (X_count v (nI (i)))]) (ws' := wX E b v ++ wX E b2 u) hX (fun sz => c_X5_count l E b2 sz u (nI (i))) (cwV 1 hX.2.2.2.2.1 gL_areAlike_X5_count rfl rfl rfl (by decide +kernel) ⟨Nat.le_of_ble_eq_true rfl, Nat.le_of_ble_eq_true rfl⟩) (wX E b v) ([]) ((congrArg (fun z => wX E b v ++ z) (List.append_nil (wX E b2 u))).symm) ((congrArg (fun z => wX E b v ++ z) (List.append_nil (wX E b2 u))).symm).symm (rfl) (ci := 5) (q0 := 0) rfl rfl rfl rfl rfl (Nat.le_of_ble_eq_true rfl) dL_areAlike_36 ?_
            refine v_icmp_ne (tgt := 46) hX dL_areAlike_39 (by decide) (fun c18 => ?_) (fun c18 => ?_)
            · exact (c18 (al_count hvu (by omega))).elim
            · have c18t := eq_true c18
              refine v_iconst (x := (1 : Int32)) hX dL_areAlike_42 (by decide) ?_
              refine v_goto (tgt := 47) hX dL_areAlike_43 (by decide) ?_
              refine v_istore_n (lv' := [.ref (b 0 0), .ref (b2 0 0), .int ((1 : Int32)), .int (nI (i))]) hX dL_areAlike_47 (Nat.le_of_ble_eq_true rfl) (Nat.le_of_ble_eq_true rfl) rfl rfl ?_
              refine v_iinc (y := nI (i + 1)) (lv' := [.ref (b 0 0), .ref (b2 0 0), .int ((1 : Int32)), .int (nI (i + 1))]) hX dL_areAlike_48 rfl (nI_inc _) (Nat.le_of_ble_eq_true rfl) (Nat.le_of_ble_eq_true rfl) rfl rfl ?_
              refine v_goto (tgt := 19) hX dL_areAlike_51 (by decide) ?_
              exact ih (i + 1)  (by omega) 
    exact loop_19 12 0  (by omega) 
