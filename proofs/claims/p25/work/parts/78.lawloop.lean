set_option maxHeartbeats 4000000 in
set_option maxRecDepth 100000 in
theorem law_loop {p : Program} {l : Launch} {e : Env} {s : State} {m : MethodId} {below : List Frame} {meth : Method} {c : Code} {E : ET} {b0 L : Nat} {xs : Nat → Int32} (hL : LX p s m meth c E b0 L xs) (hr : meth.sig.returnType = ret) {b b2 : Nat → Nat → Nat} : ∀ (n k : Nat), k + n = 50 → ∀ (v u : XV), v.1 = u.1 → JV v.1 k → VL p l e s m below meth c E b0 (wX E b v ++ wX E b2 u) [.ref b0, .ref (b 0 0), .ref (b2 0 0), .int (nI k)] 18 [] := by
  have hX := hL.1
  have hLb := hL.2.2.2
  have hbA : ¬ (fun q : Nat => s.heap.size ≤ q) b0 := Nat.not_le.mpr hL.2.2.1
  intro n
  induction n with
  | zero =>
    intro k hk v u hvu hJ
    refine vn_iload_n hX dL_law_18 rfl ?_
    refine vn_bipush (x := (50 : Int32)) hX dL_law_19 (by decide) ?_
    refine vn_icmp_ge (tgt := 217) hX dL_law_21 (by decide) (fun c1 => ?_) (fun c1 => ?_)
    · replace c1 := (nI_leI (a := 50) (b := k) (by omega) (by omega)).mp c1
      have hWv : JW v.1 := ⟨k, by omega, hJ⟩
      refine vn_aload_n hX dL_law_217 rfl ?_
      refine vn_callSi (r := bI (true)) (rest := []) (ws' := wX E b v ++ wX E b2 u) hX (fun sz => c_L_areSums l E b sz v (by first | omega | exact Nat.le_of_ble_eq_true rfl | assumption | decide)) (va_cwS 1 hX.2.2.2.2.1 gL_law_L_areSums rfl rfl rfl (by decide +kernel) ⟨Nat.le_of_ble_eq_true rfl, Nat.le_of_ble_eq_true rfl⟩) ([]) (wX E b2 u) (rfl) (rfl).symm (wX_fst E b _ _) rfl rfl (Nat.le_of_ble_eq_true rfl) ⟨Nat.le_of_ble_eq_true rfl, Nat.le_of_ble_eq_true rfl⟩ dL_law_218 ?_
      rw [show bI (true) = (1 : Int32) from rfl]
      intro H locs ls hP hD hS hl
      refine va_forget (fun q hq => hS.2.2 q hq) ?_
      refine W.widen (k := 600000) (n := 7302250) (by decide) (by decide) ?_
      exact lw_ret hX.1 hX.2.1 hr hX.2.2.2.2.2.2.2.1 dL_law_221
    · replace c1 := (not_congr (nI_leI (a := 50) (b := k) (by omega) (by omega))).mp c1
      first | (exfalso; omega) | exact absurd c1 (by decide) | exact absurd (by decide) c1
  | succ n ih =>
    intro k hk v u hvu hJ
    refine vn_iload_n hX dL_law_18 rfl ?_
    refine vn_bipush (x := (50 : Int32)) hX dL_law_19 (by decide) ?_
    refine vn_icmp_ge (tgt := 217) hX dL_law_21 (by decide) (fun c2 => ?_) (fun c2 => ?_)
    · replace c2 := (nI_leI (a := 50) (b := k) (by omega) (by omega)).mp c2
      first | (exfalso; omega) | exact absurd c2 (by decide) | exact absurd (by decide) c2
    · replace c2 := (not_congr (nI_leI (a := 50) (b := k) (by omega) (by omega))).mp c2
      refine vn_aload_n hX dL_law_24 rfl ?_
      refine vn_iload_n hX dL_law_25 rfl ?_
      refine vn_callCell (r := LC L xs k) (rest := []) hX hL.2.1 hL.2.2.1 hbA (fun sz => c_L_cell l E sz b0 L xs k (by omega) (by omega)) (va_cwS 2 hX.2.2.2.2.1 gL_law_L_cell rfl rfl rfl (by decide +kernel) ⟨Nat.le_of_ble_eq_true rfl, Nat.le_of_ble_eq_true rfl⟩) rfl rfl (Nat.le_of_ble_eq_true rfl) ⟨Nat.le_of_ble_eq_true rfl, Nat.le_of_ble_eq_true rfl⟩ dL_law_26 ?_
      refine vn_istore (lv' := [.ref (b0), .ref (b 0 0), .ref (b2 0 0), .int (nI (k)), .int ((LC L xs k))]) hX dL_law_29 (Nat.le_of_ble_eq_true rfl) (Nat.le_of_ble_eq_true rfl) rfl rfl ?_
      refine vn_aload_n hX dL_law_31 rfl ?_
      refine vn_bipush (x := (12 : Int32)) hX dL_law_32 (by decide) ?_
      refine vn_callVi (r := X_count v (12 : Int32)) (rest := []) (ws' := wX E b v ++ wX E b2 u) hX (fun sz => c_X5_count l E b sz v (12 : Int32)) (cwV 1 hX.2.2.2.2.1 gL_law_X5_count rfl rfl rfl (by decide +kernel) ⟨Nat.le_of_ble_eq_true rfl, Nat.le_of_ble_eq_true rfl⟩) ([]) (wX E b2 u) (rfl) (rfl).symm (wX_fst E b _ _) (ci := 5) (q0 := 0) rfl rfl rfl rfl rfl (Nat.le_of_ble_eq_true rfl) ⟨Nat.le_of_ble_eq_true rfl, Nat.le_of_ble_eq_true rfl⟩ dL_law_34 ?_
      have hz5 := (v.2.2.2.1.2.2).isLt
      rw [o_size v]
      refine vn_istore (lv' := [.ref (b0), .ref (b 0 0), .ref (b2 0 0), .int (nI (k)), .int ((LC L xs k)), .int (nI (v.2.2.2.1.2.2.val))]) hX dL_law_37 (Nat.le_of_ble_eq_true rfl) (Nat.le_of_ble_eq_true rfl) rfl rfl ?_
      refine vn_aload_n hX dL_law_39 rfl ?_
      refine vn_iload hX dL_law_40 rfl ?_
      obtain ⟨v3, hv3⟩ : ∃ z_ : XV, z_ = (X_act v (LC L xs k)).2 := ⟨_, rfl⟩
      refine vn_callSi (r := (X_act v (LC L xs k)).1) (rest := []) (ws' := wX E b v3 ++ wX E b2 u) hX (fun sz => c_L_act l E b sz v (LC L xs k)) (va_cwS 2 hX.2.2.2.2.1 gL_law_L_act rfl rfl rfl (by decide +kernel) ⟨Nat.le_of_ble_eq_true rfl, Nat.le_of_ble_eq_true rfl⟩) ([]) (wX E b2 u) (rfl) (by rw [hv3]; exact rfl) (wX_fst E b _ _) rfl rfl (Nat.le_of_ble_eq_true rfl) ⟨Nat.le_of_ble_eq_true rfl, Nat.le_of_ble_eq_true rfl⟩ dL_law_42 ?_
      have hA := ao_act hJ (LC L xs k)
      have hg := cg_act hvu (LC L xs k)
      refine vn_istore (lv' := [.ref (b0), .ref (b 0 0), .ref (b2 0 0), .int (nI (k)), .int ((LC L xs k)), .int (nI (v.2.2.2.1.2.2.val)), .int ((X_act v (LC L xs k)).1)]) hX dL_law_45 (Nat.le_of_ble_eq_true rfl) (Nat.le_of_ble_eq_true rfl) rfl rfl ?_
      refine vn_iload hX dL_law_47 rfl ?_
      refine vn_if_ge (tgt := 73) hX dL_law_49 (by decide) (fun c4 => ?_) (fun c4 => ?_)
      · refine vn_iload hX dL_law_73 rfl ?_
        refine vn_if_lt (tgt := 132) hX dL_law_75 (by decide) (fun c5 => ?_) (fun c5 => ?_)
        · exact absurd c5 (i_nlt.mpr c4)
        · refine vn_iload hX dL_law_78 rfl ?_
          refine vn_bipush (x := (9 : Int32)) hX dL_law_80 (by decide) ?_
          refine vn_ishr (z := ((LC L xs k) >>> ((9 : Int32) &&& 31))) hX dL_law_82 (rfl) ?_
          refine vn_iconst (x := (1 : Int32)) hX dL_law_83 (by decide) ?_
          refine vn_iand (z := (((LC L xs k) >>> ((9 : Int32) &&& 31)) &&& (1 : Int32))) hX dL_law_84 (rfl) ?_
          refine vn_if_ne (tgt := 132) hX dL_law_85 (by decide) (fun c6 => ?_) (fun c6 => ?_)
          · have hm : v3.1 = (X_act v (LC L xs k)).2.1 := by rw [hv3]
            have hJo : JV v3.1 (k + 1) := by rw [hm]; exact ao_JV hA hJ
            have hWo : JW v3.1 := ⟨k + 1, by omega, hJo⟩
            refine vn_aload_n hX dL_law_132 rfl ?_
            refine vn_iload hX dL_law_133 rfl ?_
            obtain ⟨u7, hu7⟩ : ∃ z_ : XV, z_ = (X_act u (LC L xs k)).2 := ⟨_, rfl⟩
            refine vn_callSi (r := (X_act u (LC L xs k)).1) (rest := []) (ws' := wX E b v3 ++ wX E b2 u7) hX (fun sz => c_L_act l E b2 sz u (LC L xs k)) (va_cwS 2 hX.2.2.2.2.1 gL_law_L_act rfl rfl rfl (by decide +kernel) ⟨Nat.le_of_ble_eq_true rfl, Nat.le_of_ble_eq_true rfl⟩) (wX E b v3) ([]) ((congrArg (fun z => wX E b v3 ++ z) (List.append_nil (wX E b2 u))).symm) (by rw [hu7]; exact (congrArg (fun z => wX E b v3 ++ z) (List.append_nil _))) (wX_fst E b2 _ _) rfl rfl (Nat.le_of_ble_eq_true rfl) ⟨Nat.le_of_ble_eq_true rfl, Nat.le_of_ble_eq_true rfl⟩ dL_law_135 ?_
            refine vn_iload hX dL_law_138 rfl ?_
            refine vn_icmp_ne (tgt := 151) hX dL_law_140 (by decide) (fun c8 => ?_) (fun c8 => ?_)
            · exact (c8 hg.1.symm).elim
            · have c8t := eq_true c8
              refine vn_aload_n hX dL_law_143 rfl ?_
              refine vn_aload_n hX dL_law_144 rfl ?_
              refine vn_callSi (r := bI (true)) (rest := []) (ws' := wX E b v3 ++ wX E b2 u7) hX (fun sz => c_L_areAlike l E b b2 sz v3 u7 (hm.trans (hg.2.trans (by rw [hu7])))) (va_cwS 2 hX.2.2.2.2.1 gL_law_L_areAlike rfl rfl rfl (by decide +kernel) ⟨Nat.le_of_ble_eq_true rfl, Nat.le_of_ble_eq_true rfl⟩) [] [] ((List.append_nil _).symm) (List.append_nil _) rfl rfl rfl (Nat.le_of_ble_eq_true rfl) ⟨Nat.le_of_ble_eq_true rfl, Nat.le_of_ble_eq_true rfl⟩ dL_law_145 ?_
              refine vn_if_ne (tgt := 153) hX dL_law_148 (by decide) (fun c9 => ?_) (fun c9 => ?_)
              · replace c9 := bI_n0.mp c9
                refine vn_iload_n hX dL_law_153 rfl ?_
                refine vn_iconst (x := (3 : Int32)) hX dL_law_154 (by decide) ?_
                refine vn_irem (z := nI ((k) % 3)) hX dL_law_155 (by decide) (rem_c (k) 3 (by omega) (by decide) (by decide)) ?_
                refine vn_iconst (x := (2 : Int32)) hX dL_law_156 (by decide) ?_
                refine vn_icmp_ne (tgt := 211) hX dL_law_157 (by decide) (fun c10 => ?_) (fun c10 => ?_)
                · replace c10 := (not_congr (nI_eq (a := (k) % 3) (b := 2) (by omega) (by omega))).mp c10
                  refine vn_iinc (y := nI (k + 1)) (lv' := [.ref (b0), .ref (b 0 0), .ref (b2 0 0), .int (nI (k + 1)), .int ((LC L xs k)), .int (nI (v.2.2.2.1.2.2.val)), .int ((X_act v (LC L xs k)).1)]) hX dL_law_211 rfl (nI_inc _) (Nat.le_of_ble_eq_true rfl) (Nat.le_of_ble_eq_true rfl) rfl rfl ?_
                  refine vn_goto (tgt := 18) hX dL_law_214 (by decide) ?_
                  exact vn_fewer 4 rfl (ih (k + 1) (by omega) v3 u7 (hm.trans (hg.2.trans (by rw [hu7]))) (by rw [hm]; exact ao_JV hA hJ))
                · replace c10 := (nI_eq (a := (k) % 3) (b := 2) (by omega) (by omega)).mp c10
                  have c10t := eq_true c10
                  refine vn_aload_n hX dL_law_160 rfl ?_
                  refine vn_callSi (r := bI (true)) (rest := []) (ws' := wX E b v3 ++ wX E b2 u7) hX (fun sz => c_L_areSums l E b sz v3 (by first | omega | exact Nat.le_of_ble_eq_true rfl | assumption | decide)) (va_cwS 1 hX.2.2.2.2.1 gL_law_L_areSums rfl rfl rfl (by decide +kernel) ⟨Nat.le_of_ble_eq_true rfl, Nat.le_of_ble_eq_true rfl⟩) ([]) (wX E b2 u7) (rfl) (rfl).symm (wX_fst E b _ _) rfl rfl (Nat.le_of_ble_eq_true rfl) ⟨Nat.le_of_ble_eq_true rfl, Nat.le_of_ble_eq_true rfl⟩ dL_law_161 ?_
                  refine vn_if_eq (tgt := 209) hX dL_law_164 (by decide) (fun c11 => ?_) (fun c11 => ?_)
                  · replace c11 := bI_0.mp c11
                    exact absurd (c9.symm.trans c11) (by decide)
                  · replace c11 := bI_n0.mp c11
                    refine vn_aload_n hX dL_law_167 rfl ?_
                    refine vn_iload hX dL_law_168 rfl ?_
                    refine vn_bipush (x := (7 : Int32)) hX dL_law_170 (by decide) ?_
                    refine vn_ishr (z := ((LC L xs k) >>> ((7 : Int32) &&& 31))) hX dL_law_172 (rfl) ?_
                    refine vn_iload hX dL_law_173 rfl ?_
                    refine vn_iconst (x := (4 : Int32)) hX dL_law_175 (by decide) ?_
                    refine vn_ishr (z := ((LC L xs k) >>> ((4 : Int32) &&& 31))) hX dL_law_176 (rfl) ?_
                    refine vn_iconst (x := (2 : Int32)) hX dL_law_177 (by decide) ?_
                    refine vn_callSi (r := LW ((LC L xs k) >>> ((4 : Int32) &&& 31)) (2 : Int32)) (rest := [.int (((LC L xs k) >>> ((7 : Int32) &&& 31))), .ref (b 0 0)]) (ws' := wX E b v3 ++ wX E b2 u7) hX (fun sz => c_L_low l E sz ((LC L xs k) >>> ((4 : Int32) &&& 31)) (2 : Int32) (by first | omega | exact Nat.le_of_ble_eq_true rfl | assumption | decide)) (va_cwS 2 hX.2.2.2.2.1 gL_law_L_low rfl rfl rfl (by decide +kernel) ⟨Nat.le_of_ble_eq_true rfl, Nat.le_of_ble_eq_true rfl⟩) ([]) (wX E b v3 ++ wX E b2 u7) (rfl) rfl (rfl) rfl rfl (Nat.le_of_ble_eq_true rfl) ⟨Nat.le_of_ble_eq_true rfl, Nat.le_of_ble_eq_true rfl⟩ dL_law_178 ?_
                    refine vn_if_ne (tgt := 190) hX dL_law_181 (by decide) (fun c12 => ?_) (fun c12 => ?_)
                    · refine vn_bipush (x := (14 : Int32)) hX dL_law_190 (by decide) ?_
                      refine vn_callSi (r := LW ((LC L xs k) >>> ((7 : Int32) &&& 31)) (14 : Int32)) (rest := [.ref (b 0 0)]) (ws' := wX E b v3 ++ wX E b2 u7) hX (fun sz => c_L_low l E sz ((LC L xs k) >>> ((7 : Int32) &&& 31)) (14 : Int32) (by first | omega | exact Nat.le_of_ble_eq_true rfl | assumption | decide)) (va_cwS 2 hX.2.2.2.2.1 gL_law_L_low rfl rfl rfl (by decide +kernel) ⟨Nat.le_of_ble_eq_true rfl, Nat.le_of_ble_eq_true rfl⟩) ([]) (wX E b v3 ++ wX E b2 u7) (rfl) rfl (rfl) rfl rfl (Nat.le_of_ble_eq_true rfl) ⟨Nat.le_of_ble_eq_true rfl, Nat.le_of_ble_eq_true rfl⟩ dL_law_192 ?_
                      obtain ⟨nn, hnn⟩ : ∃ nn : Fin 256, LW ((LC L xs k) >>> ((7 : Int32) &&& 31)) (14 : Int32) = nI nn.val := LW_fin (N := 14) (by decide) (by decide) _
                      rw [hnn]
                      have hlt_nn := nn.isLt
                      refine vn_iload hX dL_law_195 rfl ?_
                      refine vn_iconst (x := (5 : Int32)) hX dL_law_197 (by decide) ?_
                      refine vn_ishr (z := ((LC L xs k) >>> ((5 : Int32) &&& 31))) hX dL_law_198 (rfl) ?_
                      refine vn_iconst (x := (4 : Int32)) hX dL_law_199 (by decide) ?_
                      refine vn_callSi (r := LW ((LC L xs k) >>> ((5 : Int32) &&& 31)) (4 : Int32)) (rest := [.int (nI (nn).val), .ref (b 0 0)]) (ws' := wX E b v3 ++ wX E b2 u7) hX (fun sz => c_L_low l E sz ((LC L xs k) >>> ((5 : Int32) &&& 31)) (4 : Int32) (by first | omega | exact Nat.le_of_ble_eq_true rfl | assumption | decide)) (va_cwS 2 hX.2.2.2.2.1 gL_law_L_low rfl rfl rfl (by decide +kernel) ⟨Nat.le_of_ble_eq_true rfl, Nat.le_of_ble_eq_true rfl⟩) ([]) (wX E b v3 ++ wX E b2 u7) (rfl) rfl (rfl) rfl rfl (Nat.le_of_ble_eq_true rfl) ⟨Nat.le_of_ble_eq_true rfl, Nat.le_of_ble_eq_true rfl⟩ dL_law_200 ?_
                      obtain ⟨rr, hrr, err⟩ : ∃ rr, rr < 4 ∧ LW ((LC L xs k) >>> ((5 : Int32) &&& 31)) (4 : Int32) = nI rr := LW_nI _ (N := 4) (by decide) (by decide)
                      rw [err]
                      obtain ⟨v13, hv13⟩ : ∃ z_ : XV, z_ = X_ls v3 nn rr := ⟨_, rfl⟩
                      refine vn_callSi (r := bI (true)) (rest := []) (ws' := wX E b v13 ++ wX E b2 u7) hX (fun sz => c_L_isLineSo l E b sz v3 nn rr (by first | omega | exact Nat.le_of_ble_eq_true rfl | assumption | decide) (by first | omega | exact Nat.le_of_ble_eq_true rfl | assumption | decide)) (va_cwS 3 hX.2.2.2.2.1 gL_law_L_isLineSo rfl rfl rfl (by decide +kernel) ⟨Nat.le_of_ble_eq_true rfl, Nat.le_of_ble_eq_true rfl⟩) ([]) (wX E b2 u7) (rfl) (by rw [hv13]; exact rfl) (wX_fst E b _ _) rfl rfl (Nat.le_of_ble_eq_true rfl) ⟨Nat.le_of_ble_eq_true rfl, Nat.le_of_ble_eq_true rfl⟩ dL_law_203 ?_
                      have hm5 : v13.1 = (X_act v (LC L xs k)).2.1 := by rw [hv13]; exact (ls_now _ nn hrr).trans hm
                      refine vn_if_ne (tgt := 211) hX dL_law_206 (by decide) (fun c14 => ?_) (fun c14 => ?_)
                      · replace c14 := bI_n0.mp c14
                        refine vn_iinc (y := nI (k + 1)) (lv' := [.ref (b0), .ref (b 0 0), .ref (b2 0 0), .int (nI (k + 1)), .int ((LC L xs k)), .int (nI (v.2.2.2.1.2.2.val)), .int ((X_act v (LC L xs k)).1)]) hX dL_law_211 rfl (nI_inc _) (Nat.le_of_ble_eq_true rfl) (Nat.le_of_ble_eq_true rfl) rfl rfl ?_
                        refine vn_goto (tgt := 18) hX dL_law_214 (by decide) ?_
                        exact vn_fewer 4 rfl (ih (k + 1) (by omega) v13 u7 (hm5.trans (hg.2.trans (by rw [hu7]))) (by rw [hm5]; exact ao_JV hA hJ))
                      · replace c14 := bI_0.mp c14
                        exact absurd (c11.symm.trans c14) (by decide)
                    · have c12t := eq_true c12
                      refine vn_sipush (x := (256 : Int32)) hX dL_law_184 (by decide) ?_
                      refine vn_goto (tgt := 192) hX dL_law_187 (by decide) ?_
                      refine vn_callSi (r := LW ((LC L xs k) >>> ((7 : Int32) &&& 31)) (256 : Int32)) (rest := [.ref (b 0 0)]) (ws' := wX E b v3 ++ wX E b2 u7) hX (fun sz => c_L_low l E sz ((LC L xs k) >>> ((7 : Int32) &&& 31)) (256 : Int32) (by first | omega | exact Nat.le_of_ble_eq_true rfl | assumption | decide)) (va_cwS 2 hX.2.2.2.2.1 gL_law_L_low rfl rfl rfl (by decide +kernel) ⟨Nat.le_of_ble_eq_true rfl, Nat.le_of_ble_eq_true rfl⟩) ([]) (wX E b v3 ++ wX E b2 u7) (rfl) rfl (rfl) rfl rfl (Nat.le_of_ble_eq_true rfl) ⟨Nat.le_of_ble_eq_true rfl, Nat.le_of_ble_eq_true rfl⟩ dL_law_192 ?_
                      obtain ⟨nn, hnn⟩ : ∃ nn : Fin 256, LW ((LC L xs k) >>> ((7 : Int32) &&& 31)) (256 : Int32) = nI nn.val := LW_fin (N := 256) (by decide) (by decide) _
                      rw [hnn]
                      have hlt_nn := nn.isLt
                      refine vn_iload hX dL_law_195 rfl ?_
                      refine vn_iconst (x := (5 : Int32)) hX dL_law_197 (by decide) ?_
                      refine vn_ishr (z := ((LC L xs k) >>> ((5 : Int32) &&& 31))) hX dL_law_198 (rfl) ?_
                      refine vn_iconst (x := (4 : Int32)) hX dL_law_199 (by decide) ?_
                      refine vn_callSi (r := LW ((LC L xs k) >>> ((5 : Int32) &&& 31)) (4 : Int32)) (rest := [.int (nI (nn).val), .ref (b 0 0)]) (ws' := wX E b v3 ++ wX E b2 u7) hX (fun sz => c_L_low l E sz ((LC L xs k) >>> ((5 : Int32) &&& 31)) (4 : Int32) (by first | omega | exact Nat.le_of_ble_eq_true rfl | assumption | decide)) (va_cwS 2 hX.2.2.2.2.1 gL_law_L_low rfl rfl rfl (by decide +kernel) ⟨Nat.le_of_ble_eq_true rfl, Nat.le_of_ble_eq_true rfl⟩) ([]) (wX E b v3 ++ wX E b2 u7) (rfl) rfl (rfl) rfl rfl (Nat.le_of_ble_eq_true rfl) ⟨Nat.le_of_ble_eq_true rfl, Nat.le_of_ble_eq_true rfl⟩ dL_law_200 ?_
                      obtain ⟨rr, hrr, err⟩ : ∃ rr, rr < 4 ∧ LW ((LC L xs k) >>> ((5 : Int32) &&& 31)) (4 : Int32) = nI rr := LW_nI _ (N := 4) (by decide) (by decide)
                      rw [err]
                      obtain ⟨v15, hv15⟩ : ∃ z_ : XV, z_ = X_ls v3 nn rr := ⟨_, rfl⟩
                      refine vn_callSi (r := bI (true)) (rest := []) (ws' := wX E b v15 ++ wX E b2 u7) hX (fun sz => c_L_isLineSo l E b sz v3 nn rr (by first | omega | exact Nat.le_of_ble_eq_true rfl | assumption | decide) (by first | omega | exact Nat.le_of_ble_eq_true rfl | assumption | decide)) (va_cwS 3 hX.2.2.2.2.1 gL_law_L_isLineSo rfl rfl rfl (by decide +kernel) ⟨Nat.le_of_ble_eq_true rfl, Nat.le_of_ble_eq_true rfl⟩) ([]) (wX E b2 u7) (rfl) (by rw [hv15]; exact rfl) (wX_fst E b _ _) rfl rfl (Nat.le_of_ble_eq_true rfl) ⟨Nat.le_of_ble_eq_true rfl, Nat.le_of_ble_eq_true rfl⟩ dL_law_203 ?_
                      have hm5 : v15.1 = (X_act v (LC L xs k)).2.1 := by rw [hv15]; exact (ls_now _ nn hrr).trans hm
                      refine vn_if_ne (tgt := 211) hX dL_law_206 (by decide) (fun c16 => ?_) (fun c16 => ?_)
                      · replace c16 := bI_n0.mp c16
                        refine vn_iinc (y := nI (k + 1)) (lv' := [.ref (b0), .ref (b 0 0), .ref (b2 0 0), .int (nI (k + 1)), .int ((LC L xs k)), .int (nI (v.2.2.2.1.2.2.val)), .int ((X_act v (LC L xs k)).1)]) hX dL_law_211 rfl (nI_inc _) (Nat.le_of_ble_eq_true rfl) (Nat.le_of_ble_eq_true rfl) rfl rfl ?_
                        refine vn_goto (tgt := 18) hX dL_law_214 (by decide) ?_
                        exact vn_fewer 4 rfl (ih (k + 1) (by omega) v15 u7 (hm5.trans (hg.2.trans (by rw [hu7]))) (by rw [hm5]; exact ao_JV hA hJ))
                      · replace c16 := bI_0.mp c16
                        exact absurd (c11.symm.trans c16) (by decide)
              · replace c9 := bI_0.mp c9
                exact absurd c9 (by decide)
          · have c6t := eq_true c6
            refine vn_aload_n hX dL_law_88 rfl ?_
            obtain ⟨v17, hv17⟩ : ∃ z_ : XV, z_ = (X_undo v3).2 := ⟨_, rfl⟩
            refine vn_callVi (r := (X_undo v3).1) (rest := []) (ws' := wX E b v17 ++ wX E b2 u) hX (fun sz => c_X5_undo l E b sz v3 ) (cwV 0 hX.2.2.2.2.1 gL_law_X5_undo rfl rfl rfl (by decide +kernel) ⟨Nat.le_of_ble_eq_true rfl, Nat.le_of_ble_eq_true rfl⟩) ([]) (wX E b2 u) (rfl) (by rw [hv17]; exact rfl) (wX_fst E b _ _) (ci := 5) (q0 := 0) rfl rfl rfl rfl rfl (Nat.le_of_ble_eq_true rfl) ⟨Nat.le_of_ble_eq_true rfl, Nat.le_of_ble_eq_true rfl⟩ dL_law_89 ?_
            have hn2 : v17.1 = v.1 := (undo_act hA c4 hv3 hv17).2
            rw [(undo_act hA c4 hv3 hv17).1]
            by_cases h4 : v.2.2.2.1.2.2.val = 4
            · rw [if_pos h4]
              refine vn_istore (lv' := [.ref (b0), .ref (b 0 0), .ref (b2 0 0), .int (nI (k)), .int ((LC L xs k)), .int (nI (v.2.2.2.1.2.2.val)), .int ((X_act v (LC L xs k)).1), .int (nI (3))]) hX dL_law_92 (Nat.le_of_ble_eq_true rfl) (Nat.le_of_ble_eq_true rfl) rfl rfl ?_
              refine vn_iload hX dL_law_94 rfl ?_
              refine vn_iload hX dL_law_96 rfl ?_
              refine vn_iconst (x := (4 : Int32)) hX dL_law_98 (by decide) ?_
              refine vn_icmp_ne (tgt := 106) hX dL_law_99 (by decide) (fun c18 => ?_) (fun c18 => ?_)
              · replace c18 := (not_congr (nI_eq (a := v.2.2.2.1.2.2.val) (b := 4) (by omega) (by omega))).mp c18
                first | (exfalso; omega) | exact absurd c18 (by decide) | exact absurd (by decide) c18
              · replace c18 := (nI_eq (a := v.2.2.2.1.2.2.val) (b := 4) (by omega) (by omega)).mp c18
                have c18t := eq_true c18
                refine vn_iconst (x := (3 : Int32)) hX dL_law_102 (by decide) ?_
                refine vn_goto (tgt := 108) hX dL_law_103 (by decide) ?_
                refine vn_icmp_ne (tgt := 130) hX dL_law_108 (by decide) (fun c19 => ?_) (fun c19 => ?_)
                · replace c19 := (not_congr (nI_eq (a := 3) (b := 3) (by omega) (by omega))).mp c19
                  first | (exfalso; omega) | exact absurd c19 (by decide) | exact absurd (by decide) c19
                · replace c19 := (nI_eq (a := 3) (b := 3) (by omega) (by omega)).mp c19
                  have c19t := eq_true c19
                  refine vn_aload_n hX dL_law_111 rfl ?_
                  refine vn_aload_n hX dL_law_112 rfl ?_
                  refine vn_callSi (r := bI (true)) (rest := []) (ws' := wX E b v17 ++ wX E b2 u) hX (fun sz => c_L_areAlike l E b b2 sz v17 u (hn2.trans hvu)) (va_cwS 2 hX.2.2.2.2.1 gL_law_L_areAlike rfl rfl rfl (by decide +kernel) ⟨Nat.le_of_ble_eq_true rfl, Nat.le_of_ble_eq_true rfl⟩) [] [] ((List.append_nil _).symm) (List.append_nil _) rfl rfl rfl (Nat.le_of_ble_eq_true rfl) ⟨Nat.le_of_ble_eq_true rfl, Nat.le_of_ble_eq_true rfl⟩ dL_law_113 ?_
                  refine vn_if_eq (tgt := 130) hX dL_law_116 (by decide) (fun c20 => ?_) (fun c20 => ?_)
                  · replace c20 := bI_0.mp c20
                    exact absurd c20 (by decide)
                  · replace c20 := bI_n0.mp c20
                    refine vn_aload_n hX dL_law_119 rfl ?_
                    refine vn_iload hX dL_law_120 rfl ?_
                    obtain ⟨v21, hv21⟩ : ∃ z_ : XV, z_ = (X_act v17 (LC L xs k)).2 := ⟨_, rfl⟩
                    refine vn_callSi (r := (X_act v17 (LC L xs k)).1) (rest := []) (ws' := wX E b v21 ++ wX E b2 u) hX (fun sz => c_L_act l E b sz v17 (LC L xs k)) (va_cwS 2 hX.2.2.2.2.1 gL_law_L_act rfl rfl rfl (by decide +kernel) ⟨Nat.le_of_ble_eq_true rfl, Nat.le_of_ble_eq_true rfl⟩) ([]) (wX E b2 u) (rfl) (by rw [hv21]; exact rfl) (wX_fst E b _ _) rfl rfl (Nat.le_of_ble_eq_true rfl) ⟨Nat.le_of_ble_eq_true rfl, Nat.le_of_ble_eq_true rfl⟩ dL_law_122 ?_
                    refine vn_iload hX dL_law_125 rfl ?_
                    refine vn_icmp_eq (tgt := 132) hX dL_law_127 (by decide) (fun c22 => ?_) (fun c22 => ?_)
                    · have c22t := eq_true c22
                      have hm : v21.1 = (X_act v (LC L xs k)).2.1 := by rw [hv21]; exact (cg_act hn2 _).2
                      have hJo : JV v21.1 (k + 1) := by rw [hm]; exact ao_JV hA hJ
                      have hWo : JW v21.1 := ⟨k + 1, by omega, hJo⟩
                      refine vn_aload_n hX dL_law_132 rfl ?_
                      refine vn_iload hX dL_law_133 rfl ?_
                      obtain ⟨u23, hu23⟩ : ∃ z_ : XV, z_ = (X_act u (LC L xs k)).2 := ⟨_, rfl⟩
                      refine vn_callSi (r := (X_act u (LC L xs k)).1) (rest := []) (ws' := wX E b v21 ++ wX E b2 u23) hX (fun sz => c_L_act l E b2 sz u (LC L xs k)) (va_cwS 2 hX.2.2.2.2.1 gL_law_L_act rfl rfl rfl (by decide +kernel) ⟨Nat.le_of_ble_eq_true rfl, Nat.le_of_ble_eq_true rfl⟩) (wX E b v21) ([]) ((congrArg (fun z => wX E b v21 ++ z) (List.append_nil (wX E b2 u))).symm) (by rw [hu23]; exact (congrArg (fun z => wX E b v21 ++ z) (List.append_nil _))) (wX_fst E b2 _ _) rfl rfl (Nat.le_of_ble_eq_true rfl) ⟨Nat.le_of_ble_eq_true rfl, Nat.le_of_ble_eq_true rfl⟩ dL_law_135 ?_
                      refine vn_iload hX dL_law_138 rfl ?_
                      refine vn_icmp_ne (tgt := 151) hX dL_law_140 (by decide) (fun c24 => ?_) (fun c24 => ?_)
                      · exact (c24 hg.1.symm).elim
                      · have c24t := eq_true c24
                        refine vn_aload_n hX dL_law_143 rfl ?_
                        refine vn_aload_n hX dL_law_144 rfl ?_
                        refine vn_callSi (r := bI (true)) (rest := []) (ws' := wX E b v21 ++ wX E b2 u23) hX (fun sz => c_L_areAlike l E b b2 sz v21 u23 (hm.trans (hg.2.trans (by rw [hu23])))) (va_cwS 2 hX.2.2.2.2.1 gL_law_L_areAlike rfl rfl rfl (by decide +kernel) ⟨Nat.le_of_ble_eq_true rfl, Nat.le_of_ble_eq_true rfl⟩) [] [] ((List.append_nil _).symm) (List.append_nil _) rfl rfl rfl (Nat.le_of_ble_eq_true rfl) ⟨Nat.le_of_ble_eq_true rfl, Nat.le_of_ble_eq_true rfl⟩ dL_law_145 ?_
                        refine vn_if_ne (tgt := 153) hX dL_law_148 (by decide) (fun c25 => ?_) (fun c25 => ?_)
                        · replace c25 := bI_n0.mp c25
                          refine vn_iload_n hX dL_law_153 rfl ?_
                          refine vn_iconst (x := (3 : Int32)) hX dL_law_154 (by decide) ?_
                          refine vn_irem (z := nI ((k) % 3)) hX dL_law_155 (by decide) (rem_c (k) 3 (by omega) (by decide) (by decide)) ?_
                          refine vn_iconst (x := (2 : Int32)) hX dL_law_156 (by decide) ?_
                          refine vn_icmp_ne (tgt := 211) hX dL_law_157 (by decide) (fun c26 => ?_) (fun c26 => ?_)
                          · replace c26 := (not_congr (nI_eq (a := (k) % 3) (b := 2) (by omega) (by omega))).mp c26
                            refine vn_iinc (y := nI (k + 1)) (lv' := [.ref (b0), .ref (b 0 0), .ref (b2 0 0), .int (nI (k + 1)), .int ((LC L xs k)), .int (nI (v.2.2.2.1.2.2.val)), .int ((X_act v (LC L xs k)).1), .int (nI (3))]) hX dL_law_211 rfl (nI_inc _) (Nat.le_of_ble_eq_true rfl) (Nat.le_of_ble_eq_true rfl) rfl rfl ?_
                            refine vn_goto (tgt := 18) hX dL_law_214 (by decide) ?_
                            exact vn_fewer 4 rfl (ih (k + 1) (by omega) v21 u23 (hm.trans (hg.2.trans (by rw [hu23]))) (by rw [hm]; exact ao_JV hA hJ))
                          · replace c26 := (nI_eq (a := (k) % 3) (b := 2) (by omega) (by omega)).mp c26
                            have c26t := eq_true c26
                            refine vn_aload_n hX dL_law_160 rfl ?_
                            refine vn_callSi (r := bI (true)) (rest := []) (ws' := wX E b v21 ++ wX E b2 u23) hX (fun sz => c_L_areSums l E b sz v21 (by first | omega | exact Nat.le_of_ble_eq_true rfl | assumption | decide)) (va_cwS 1 hX.2.2.2.2.1 gL_law_L_areSums rfl rfl rfl (by decide +kernel) ⟨Nat.le_of_ble_eq_true rfl, Nat.le_of_ble_eq_true rfl⟩) ([]) (wX E b2 u23) (rfl) (rfl).symm (wX_fst E b _ _) rfl rfl (Nat.le_of_ble_eq_true rfl) ⟨Nat.le_of_ble_eq_true rfl, Nat.le_of_ble_eq_true rfl⟩ dL_law_161 ?_
                            refine vn_if_eq (tgt := 209) hX dL_law_164 (by decide) (fun c27 => ?_) (fun c27 => ?_)
                            · replace c27 := bI_0.mp c27
                              exact absurd (c25.symm.trans c27) (by decide)
                            · replace c27 := bI_n0.mp c27
                              refine vn_aload_n hX dL_law_167 rfl ?_
                              refine vn_iload hX dL_law_168 rfl ?_
                              refine vn_bipush (x := (7 : Int32)) hX dL_law_170 (by decide) ?_
                              refine vn_ishr (z := ((LC L xs k) >>> ((7 : Int32) &&& 31))) hX dL_law_172 (rfl) ?_
                              refine vn_iload hX dL_law_173 rfl ?_
                              refine vn_iconst (x := (4 : Int32)) hX dL_law_175 (by decide) ?_
                              refine vn_ishr (z := ((LC L xs k) >>> ((4 : Int32) &&& 31))) hX dL_law_176 (rfl) ?_
                              refine vn_iconst (x := (2 : Int32)) hX dL_law_177 (by decide) ?_
                              refine vn_callSi (r := LW ((LC L xs k) >>> ((4 : Int32) &&& 31)) (2 : Int32)) (rest := [.int (((LC L xs k) >>> ((7 : Int32) &&& 31))), .ref (b 0 0)]) (ws' := wX E b v21 ++ wX E b2 u23) hX (fun sz => c_L_low l E sz ((LC L xs k) >>> ((4 : Int32) &&& 31)) (2 : Int32) (by first | omega | exact Nat.le_of_ble_eq_true rfl | assumption | decide)) (va_cwS 2 hX.2.2.2.2.1 gL_law_L_low rfl rfl rfl (by decide +kernel) ⟨Nat.le_of_ble_eq_true rfl, Nat.le_of_ble_eq_true rfl⟩) ([]) (wX E b v21 ++ wX E b2 u23) (rfl) rfl (rfl) rfl rfl (Nat.le_of_ble_eq_true rfl) ⟨Nat.le_of_ble_eq_true rfl, Nat.le_of_ble_eq_true rfl⟩ dL_law_178 ?_
                              refine vn_if_ne (tgt := 190) hX dL_law_181 (by decide) (fun c28 => ?_) (fun c28 => ?_)
                              · refine vn_bipush (x := (14 : Int32)) hX dL_law_190 (by decide) ?_
                                refine vn_callSi (r := LW ((LC L xs k) >>> ((7 : Int32) &&& 31)) (14 : Int32)) (rest := [.ref (b 0 0)]) (ws' := wX E b v21 ++ wX E b2 u23) hX (fun sz => c_L_low l E sz ((LC L xs k) >>> ((7 : Int32) &&& 31)) (14 : Int32) (by first | omega | exact Nat.le_of_ble_eq_true rfl | assumption | decide)) (va_cwS 2 hX.2.2.2.2.1 gL_law_L_low rfl rfl rfl (by decide +kernel) ⟨Nat.le_of_ble_eq_true rfl, Nat.le_of_ble_eq_true rfl⟩) ([]) (wX E b v21 ++ wX E b2 u23) (rfl) rfl (rfl) rfl rfl (Nat.le_of_ble_eq_true rfl) ⟨Nat.le_of_ble_eq_true rfl, Nat.le_of_ble_eq_true rfl⟩ dL_law_192 ?_
                                obtain ⟨nn, hnn⟩ : ∃ nn : Fin 256, LW ((LC L xs k) >>> ((7 : Int32) &&& 31)) (14 : Int32) = nI nn.val := LW_fin (N := 14) (by decide) (by decide) _
                                rw [hnn]
                                have hlt_nn := nn.isLt
                                refine vn_iload hX dL_law_195 rfl ?_
                                refine vn_iconst (x := (5 : Int32)) hX dL_law_197 (by decide) ?_
                                refine vn_ishr (z := ((LC L xs k) >>> ((5 : Int32) &&& 31))) hX dL_law_198 (rfl) ?_
                                refine vn_iconst (x := (4 : Int32)) hX dL_law_199 (by decide) ?_
                                refine vn_callSi (r := LW ((LC L xs k) >>> ((5 : Int32) &&& 31)) (4 : Int32)) (rest := [.int (nI (nn).val), .ref (b 0 0)]) (ws' := wX E b v21 ++ wX E b2 u23) hX (fun sz => c_L_low l E sz ((LC L xs k) >>> ((5 : Int32) &&& 31)) (4 : Int32) (by first | omega | exact Nat.le_of_ble_eq_true rfl | assumption | decide)) (va_cwS 2 hX.2.2.2.2.1 gL_law_L_low rfl rfl rfl (by decide +kernel) ⟨Nat.le_of_ble_eq_true rfl, Nat.le_of_ble_eq_true rfl⟩) ([]) (wX E b v21 ++ wX E b2 u23) (rfl) rfl (rfl) rfl rfl (Nat.le_of_ble_eq_true rfl) ⟨Nat.le_of_ble_eq_true rfl, Nat.le_of_ble_eq_true rfl⟩ dL_law_200 ?_
                                obtain ⟨rr, hrr, err⟩ : ∃ rr, rr < 4 ∧ LW ((LC L xs k) >>> ((5 : Int32) &&& 31)) (4 : Int32) = nI rr := LW_nI _ (N := 4) (by decide) (by decide)
                                rw [err]
                                obtain ⟨v29, hv29⟩ : ∃ z_ : XV, z_ = X_ls v21 nn rr := ⟨_, rfl⟩
                                refine vn_callSi (r := bI (true)) (rest := []) (ws' := wX E b v29 ++ wX E b2 u23) hX (fun sz => c_L_isLineSo l E b sz v21 nn rr (by first | omega | exact Nat.le_of_ble_eq_true rfl | assumption | decide) (by first | omega | exact Nat.le_of_ble_eq_true rfl | assumption | decide)) (va_cwS 3 hX.2.2.2.2.1 gL_law_L_isLineSo rfl rfl rfl (by decide +kernel) ⟨Nat.le_of_ble_eq_true rfl, Nat.le_of_ble_eq_true rfl⟩) ([]) (wX E b2 u23) (rfl) (by rw [hv29]; exact rfl) (wX_fst E b _ _) rfl rfl (Nat.le_of_ble_eq_true rfl) ⟨Nat.le_of_ble_eq_true rfl, Nat.le_of_ble_eq_true rfl⟩ dL_law_203 ?_
                                have hm5 : v29.1 = (X_act v (LC L xs k)).2.1 := by rw [hv29]; exact (ls_now _ nn hrr).trans hm
                                refine vn_if_ne (tgt := 211) hX dL_law_206 (by decide) (fun c30 => ?_) (fun c30 => ?_)
                                · replace c30 := bI_n0.mp c30
                                  refine vn_iinc (y := nI (k + 1)) (lv' := [.ref (b0), .ref (b 0 0), .ref (b2 0 0), .int (nI (k + 1)), .int ((LC L xs k)), .int (nI (v.2.2.2.1.2.2.val)), .int ((X_act v (LC L xs k)).1), .int (nI (3))]) hX dL_law_211 rfl (nI_inc _) (Nat.le_of_ble_eq_true rfl) (Nat.le_of_ble_eq_true rfl) rfl rfl ?_
                                  refine vn_goto (tgt := 18) hX dL_law_214 (by decide) ?_
                                  exact vn_fewer 4 rfl (ih (k + 1) (by omega) v29 u23 (hm5.trans (hg.2.trans (by rw [hu23]))) (by rw [hm5]; exact ao_JV hA hJ))
                                · replace c30 := bI_0.mp c30
                                  exact absurd (c27.symm.trans c30) (by decide)
                              · have c28t := eq_true c28
                                refine vn_sipush (x := (256 : Int32)) hX dL_law_184 (by decide) ?_
                                refine vn_goto (tgt := 192) hX dL_law_187 (by decide) ?_
                                refine vn_callSi (r := LW ((LC L xs k) >>> ((7 : Int32) &&& 31)) (256 : Int32)) (rest := [.ref (b 0 0)]) (ws' := wX E b v21 ++ wX E b2 u23) hX (fun sz => c_L_low l E sz ((LC L xs k) >>> ((7 : Int32) &&& 31)) (256 : Int32) (by first | omega | exact Nat.le_of_ble_eq_true rfl | assumption | decide)) (va_cwS 2 hX.2.2.2.2.1 gL_law_L_low rfl rfl rfl (by decide +kernel) ⟨Nat.le_of_ble_eq_true rfl, Nat.le_of_ble_eq_true rfl⟩) ([]) (wX E b v21 ++ wX E b2 u23) (rfl) rfl (rfl) rfl rfl (Nat.le_of_ble_eq_true rfl) ⟨Nat.le_of_ble_eq_true rfl, Nat.le_of_ble_eq_true rfl⟩ dL_law_192 ?_
                                obtain ⟨nn, hnn⟩ : ∃ nn : Fin 256, LW ((LC L xs k) >>> ((7 : Int32) &&& 31)) (256 : Int32) = nI nn.val := LW_fin (N := 256) (by decide) (by decide) _
                                rw [hnn]
                                have hlt_nn := nn.isLt
                                refine vn_iload hX dL_law_195 rfl ?_
                                refine vn_iconst (x := (5 : Int32)) hX dL_law_197 (by decide) ?_
                                refine vn_ishr (z := ((LC L xs k) >>> ((5 : Int32) &&& 31))) hX dL_law_198 (rfl) ?_
                                refine vn_iconst (x := (4 : Int32)) hX dL_law_199 (by decide) ?_
                                refine vn_callSi (r := LW ((LC L xs k) >>> ((5 : Int32) &&& 31)) (4 : Int32)) (rest := [.int (nI (nn).val), .ref (b 0 0)]) (ws' := wX E b v21 ++ wX E b2 u23) hX (fun sz => c_L_low l E sz ((LC L xs k) >>> ((5 : Int32) &&& 31)) (4 : Int32) (by first | omega | exact Nat.le_of_ble_eq_true rfl | assumption | decide)) (va_cwS 2 hX.2.2.2.2.1 gL_law_L_low rfl rfl rfl (by decide +kernel) ⟨Nat.le_of_ble_eq_true rfl, Nat.le_of_ble_eq_true rfl⟩) ([]) (wX E b v21 ++ wX E b2 u23) (rfl) rfl (rfl) rfl rfl (Nat.le_of_ble_eq_true rfl) ⟨Nat.le_of_ble_eq_true rfl, Nat.le_of_ble_eq_true rfl⟩ dL_law_200 ?_
                                obtain ⟨rr, hrr, err⟩ : ∃ rr, rr < 4 ∧ LW ((LC L xs k) >>> ((5 : Int32) &&& 31)) (4 : Int32) = nI rr := LW_nI _ (N := 4) (by decide) (by decide)
                                rw [err]
                                obtain ⟨v31, hv31⟩ : ∃ z_ : XV, z_ = X_ls v21 nn rr := ⟨_, rfl⟩
                                refine vn_callSi (r := bI (true)) (rest := []) (ws' := wX E b v31 ++ wX E b2 u23) hX (fun sz => c_L_isLineSo l E b sz v21 nn rr (by first | omega | exact Nat.le_of_ble_eq_true rfl | assumption | decide) (by first | omega | exact Nat.le_of_ble_eq_true rfl | assumption | decide)) (va_cwS 3 hX.2.2.2.2.1 gL_law_L_isLineSo rfl rfl rfl (by decide +kernel) ⟨Nat.le_of_ble_eq_true rfl, Nat.le_of_ble_eq_true rfl⟩) ([]) (wX E b2 u23) (rfl) (by rw [hv31]; exact rfl) (wX_fst E b _ _) rfl rfl (Nat.le_of_ble_eq_true rfl) ⟨Nat.le_of_ble_eq_true rfl, Nat.le_of_ble_eq_true rfl⟩ dL_law_203 ?_
                                have hm5 : v31.1 = (X_act v (LC L xs k)).2.1 := by rw [hv31]; exact (ls_now _ nn hrr).trans hm
                                refine vn_if_ne (tgt := 211) hX dL_law_206 (by decide) (fun c32 => ?_) (fun c32 => ?_)
                                · replace c32 := bI_n0.mp c32
                                  refine vn_iinc (y := nI (k + 1)) (lv' := [.ref (b0), .ref (b 0 0), .ref (b2 0 0), .int (nI (k + 1)), .int ((LC L xs k)), .int (nI (v.2.2.2.1.2.2.val)), .int ((X_act v (LC L xs k)).1), .int (nI (3))]) hX dL_law_211 rfl (nI_inc _) (Nat.le_of_ble_eq_true rfl) (Nat.le_of_ble_eq_true rfl) rfl rfl ?_
                                  refine vn_goto (tgt := 18) hX dL_law_214 (by decide) ?_
                                  exact vn_fewer 4 rfl (ih (k + 1) (by omega) v31 u23 (hm5.trans (hg.2.trans (by rw [hu23]))) (by rw [hm5]; exact ao_JV hA hJ))
                                · replace c32 := bI_0.mp c32
                                  exact absurd (c27.symm.trans c32) (by decide)
                        · replace c25 := bI_0.mp c25
                          exact absurd (c20.symm.trans c25) (by decide)
                    · exact (c22 (cg_act hn2 _).1).elim
            · rw [if_neg h4]
              refine vn_istore (lv' := [.ref (b0), .ref (b 0 0), .ref (b2 0 0), .int (nI (k)), .int ((LC L xs k)), .int (nI (v.2.2.2.1.2.2.val)), .int ((X_act v (LC L xs k)).1), .int (nI (v.2.2.2.1.2.2.val))]) hX dL_law_92 (Nat.le_of_ble_eq_true rfl) (Nat.le_of_ble_eq_true rfl) rfl rfl ?_
              refine vn_iload hX dL_law_94 rfl ?_
              refine vn_iload hX dL_law_96 rfl ?_
              refine vn_iconst (x := (4 : Int32)) hX dL_law_98 (by decide) ?_
              refine vn_icmp_ne (tgt := 106) hX dL_law_99 (by decide) (fun c33 => ?_) (fun c33 => ?_)
              · replace c33 := (not_congr (nI_eq (a := v.2.2.2.1.2.2.val) (b := 4) (by omega) (by omega))).mp c33
                refine vn_iload hX dL_law_106 rfl ?_
                refine vn_icmp_ne (tgt := 130) hX dL_law_108 (by decide) (fun c34 => ?_) (fun c34 => ?_)
                · replace c34 := (not_congr (nI_eq (a := v.2.2.2.1.2.2.val) (b := v.2.2.2.1.2.2.val) (by omega) (by omega))).mp c34
                  first | (exfalso; omega) | exact absurd c34 (by decide) | exact absurd (by decide) c34
                · replace c34 := (nI_eq (a := v.2.2.2.1.2.2.val) (b := v.2.2.2.1.2.2.val) (by omega) (by omega)).mp c34
                  have c34t := eq_true c34
                  refine vn_aload_n hX dL_law_111 rfl ?_
                  refine vn_aload_n hX dL_law_112 rfl ?_
                  refine vn_callSi (r := bI (true)) (rest := []) (ws' := wX E b v17 ++ wX E b2 u) hX (fun sz => c_L_areAlike l E b b2 sz v17 u (hn2.trans hvu)) (va_cwS 2 hX.2.2.2.2.1 gL_law_L_areAlike rfl rfl rfl (by decide +kernel) ⟨Nat.le_of_ble_eq_true rfl, Nat.le_of_ble_eq_true rfl⟩) [] [] ((List.append_nil _).symm) (List.append_nil _) rfl rfl rfl (Nat.le_of_ble_eq_true rfl) ⟨Nat.le_of_ble_eq_true rfl, Nat.le_of_ble_eq_true rfl⟩ dL_law_113 ?_
                  refine vn_if_eq (tgt := 130) hX dL_law_116 (by decide) (fun c35 => ?_) (fun c35 => ?_)
                  · replace c35 := bI_0.mp c35
                    exact absurd c35 (by decide)
                  · replace c35 := bI_n0.mp c35
                    refine vn_aload_n hX dL_law_119 rfl ?_
                    refine vn_iload hX dL_law_120 rfl ?_
                    obtain ⟨v36, hv36⟩ : ∃ z_ : XV, z_ = (X_act v17 (LC L xs k)).2 := ⟨_, rfl⟩
                    refine vn_callSi (r := (X_act v17 (LC L xs k)).1) (rest := []) (ws' := wX E b v36 ++ wX E b2 u) hX (fun sz => c_L_act l E b sz v17 (LC L xs k)) (va_cwS 2 hX.2.2.2.2.1 gL_law_L_act rfl rfl rfl (by decide +kernel) ⟨Nat.le_of_ble_eq_true rfl, Nat.le_of_ble_eq_true rfl⟩) ([]) (wX E b2 u) (rfl) (by rw [hv36]; exact rfl) (wX_fst E b _ _) rfl rfl (Nat.le_of_ble_eq_true rfl) ⟨Nat.le_of_ble_eq_true rfl, Nat.le_of_ble_eq_true rfl⟩ dL_law_122 ?_
                    refine vn_iload hX dL_law_125 rfl ?_
                    refine vn_icmp_eq (tgt := 132) hX dL_law_127 (by decide) (fun c37 => ?_) (fun c37 => ?_)
                    · have c37t := eq_true c37
                      have hm : v36.1 = (X_act v (LC L xs k)).2.1 := by rw [hv36]; exact (cg_act hn2 _).2
                      have hJo : JV v36.1 (k + 1) := by rw [hm]; exact ao_JV hA hJ
                      have hWo : JW v36.1 := ⟨k + 1, by omega, hJo⟩
                      refine vn_aload_n hX dL_law_132 rfl ?_
                      refine vn_iload hX dL_law_133 rfl ?_
                      obtain ⟨u38, hu38⟩ : ∃ z_ : XV, z_ = (X_act u (LC L xs k)).2 := ⟨_, rfl⟩
                      refine vn_callSi (r := (X_act u (LC L xs k)).1) (rest := []) (ws' := wX E b v36 ++ wX E b2 u38) hX (fun sz => c_L_act l E b2 sz u (LC L xs k)) (va_cwS 2 hX.2.2.2.2.1 gL_law_L_act rfl rfl rfl (by decide +kernel) ⟨Nat.le_of_ble_eq_true rfl, Nat.le_of_ble_eq_true rfl⟩) (wX E b v36) ([]) ((congrArg (fun z => wX E b v36 ++ z) (List.append_nil (wX E b2 u))).symm) (by rw [hu38]; exact (congrArg (fun z => wX E b v36 ++ z) (List.append_nil _))) (wX_fst E b2 _ _) rfl rfl (Nat.le_of_ble_eq_true rfl) ⟨Nat.le_of_ble_eq_true rfl, Nat.le_of_ble_eq_true rfl⟩ dL_law_135 ?_
                      refine vn_iload hX dL_law_138 rfl ?_
                      refine vn_icmp_ne (tgt := 151) hX dL_law_140 (by decide) (fun c39 => ?_) (fun c39 => ?_)
                      · exact (c39 hg.1.symm).elim
                      · have c39t := eq_true c39
                        refine vn_aload_n hX dL_law_143 rfl ?_
                        refine vn_aload_n hX dL_law_144 rfl ?_
                        refine vn_callSi (r := bI (true)) (rest := []) (ws' := wX E b v36 ++ wX E b2 u38) hX (fun sz => c_L_areAlike l E b b2 sz v36 u38 (hm.trans (hg.2.trans (by rw [hu38])))) (va_cwS 2 hX.2.2.2.2.1 gL_law_L_areAlike rfl rfl rfl (by decide +kernel) ⟨Nat.le_of_ble_eq_true rfl, Nat.le_of_ble_eq_true rfl⟩) [] [] ((List.append_nil _).symm) (List.append_nil _) rfl rfl rfl (Nat.le_of_ble_eq_true rfl) ⟨Nat.le_of_ble_eq_true rfl, Nat.le_of_ble_eq_true rfl⟩ dL_law_145 ?_
                        refine vn_if_ne (tgt := 153) hX dL_law_148 (by decide) (fun c40 => ?_) (fun c40 => ?_)
                        · replace c40 := bI_n0.mp c40
                          refine vn_iload_n hX dL_law_153 rfl ?_
                          refine vn_iconst (x := (3 : Int32)) hX dL_law_154 (by decide) ?_
                          refine vn_irem (z := nI ((k) % 3)) hX dL_law_155 (by decide) (rem_c (k) 3 (by omega) (by decide) (by decide)) ?_
                          refine vn_iconst (x := (2 : Int32)) hX dL_law_156 (by decide) ?_
                          refine vn_icmp_ne (tgt := 211) hX dL_law_157 (by decide) (fun c41 => ?_) (fun c41 => ?_)
                          · replace c41 := (not_congr (nI_eq (a := (k) % 3) (b := 2) (by omega) (by omega))).mp c41
                            refine vn_iinc (y := nI (k + 1)) (lv' := [.ref (b0), .ref (b 0 0), .ref (b2 0 0), .int (nI (k + 1)), .int ((LC L xs k)), .int (nI (v.2.2.2.1.2.2.val)), .int ((X_act v (LC L xs k)).1), .int (nI (v.2.2.2.1.2.2.val))]) hX dL_law_211 rfl (nI_inc _) (Nat.le_of_ble_eq_true rfl) (Nat.le_of_ble_eq_true rfl) rfl rfl ?_
                            refine vn_goto (tgt := 18) hX dL_law_214 (by decide) ?_
                            exact vn_fewer 4 rfl (ih (k + 1) (by omega) v36 u38 (hm.trans (hg.2.trans (by rw [hu38]))) (by rw [hm]; exact ao_JV hA hJ))
                          · replace c41 := (nI_eq (a := (k) % 3) (b := 2) (by omega) (by omega)).mp c41
                            have c41t := eq_true c41
                            refine vn_aload_n hX dL_law_160 rfl ?_
                            refine vn_callSi (r := bI (true)) (rest := []) (ws' := wX E b v36 ++ wX E b2 u38) hX (fun sz => c_L_areSums l E b sz v36 (by first | omega | exact Nat.le_of_ble_eq_true rfl | assumption | decide)) (va_cwS 1 hX.2.2.2.2.1 gL_law_L_areSums rfl rfl rfl (by decide +kernel) ⟨Nat.le_of_ble_eq_true rfl, Nat.le_of_ble_eq_true rfl⟩) ([]) (wX E b2 u38) (rfl) (rfl).symm (wX_fst E b _ _) rfl rfl (Nat.le_of_ble_eq_true rfl) ⟨Nat.le_of_ble_eq_true rfl, Nat.le_of_ble_eq_true rfl⟩ dL_law_161 ?_
                            refine vn_if_eq (tgt := 209) hX dL_law_164 (by decide) (fun c42 => ?_) (fun c42 => ?_)
                            · replace c42 := bI_0.mp c42
                              exact absurd (c40.symm.trans c42) (by decide)
                            · replace c42 := bI_n0.mp c42
                              refine vn_aload_n hX dL_law_167 rfl ?_
                              refine vn_iload hX dL_law_168 rfl ?_
                              refine vn_bipush (x := (7 : Int32)) hX dL_law_170 (by decide) ?_
                              refine vn_ishr (z := ((LC L xs k) >>> ((7 : Int32) &&& 31))) hX dL_law_172 (rfl) ?_
                              refine vn_iload hX dL_law_173 rfl ?_
                              refine vn_iconst (x := (4 : Int32)) hX dL_law_175 (by decide) ?_
                              refine vn_ishr (z := ((LC L xs k) >>> ((4 : Int32) &&& 31))) hX dL_law_176 (rfl) ?_
                              refine vn_iconst (x := (2 : Int32)) hX dL_law_177 (by decide) ?_
                              refine vn_callSi (r := LW ((LC L xs k) >>> ((4 : Int32) &&& 31)) (2 : Int32)) (rest := [.int (((LC L xs k) >>> ((7 : Int32) &&& 31))), .ref (b 0 0)]) (ws' := wX E b v36 ++ wX E b2 u38) hX (fun sz => c_L_low l E sz ((LC L xs k) >>> ((4 : Int32) &&& 31)) (2 : Int32) (by first | omega | exact Nat.le_of_ble_eq_true rfl | assumption | decide)) (va_cwS 2 hX.2.2.2.2.1 gL_law_L_low rfl rfl rfl (by decide +kernel) ⟨Nat.le_of_ble_eq_true rfl, Nat.le_of_ble_eq_true rfl⟩) ([]) (wX E b v36 ++ wX E b2 u38) (rfl) rfl (rfl) rfl rfl (Nat.le_of_ble_eq_true rfl) ⟨Nat.le_of_ble_eq_true rfl, Nat.le_of_ble_eq_true rfl⟩ dL_law_178 ?_
                              refine vn_if_ne (tgt := 190) hX dL_law_181 (by decide) (fun c43 => ?_) (fun c43 => ?_)
                              · refine vn_bipush (x := (14 : Int32)) hX dL_law_190 (by decide) ?_
                                refine vn_callSi (r := LW ((LC L xs k) >>> ((7 : Int32) &&& 31)) (14 : Int32)) (rest := [.ref (b 0 0)]) (ws' := wX E b v36 ++ wX E b2 u38) hX (fun sz => c_L_low l E sz ((LC L xs k) >>> ((7 : Int32) &&& 31)) (14 : Int32) (by first | omega | exact Nat.le_of_ble_eq_true rfl | assumption | decide)) (va_cwS 2 hX.2.2.2.2.1 gL_law_L_low rfl rfl rfl (by decide +kernel) ⟨Nat.le_of_ble_eq_true rfl, Nat.le_of_ble_eq_true rfl⟩) ([]) (wX E b v36 ++ wX E b2 u38) (rfl) rfl (rfl) rfl rfl (Nat.le_of_ble_eq_true rfl) ⟨Nat.le_of_ble_eq_true rfl, Nat.le_of_ble_eq_true rfl⟩ dL_law_192 ?_
                                obtain ⟨nn, hnn⟩ : ∃ nn : Fin 256, LW ((LC L xs k) >>> ((7 : Int32) &&& 31)) (14 : Int32) = nI nn.val := LW_fin (N := 14) (by decide) (by decide) _
                                rw [hnn]
                                have hlt_nn := nn.isLt
                                refine vn_iload hX dL_law_195 rfl ?_
                                refine vn_iconst (x := (5 : Int32)) hX dL_law_197 (by decide) ?_
                                refine vn_ishr (z := ((LC L xs k) >>> ((5 : Int32) &&& 31))) hX dL_law_198 (rfl) ?_
                                refine vn_iconst (x := (4 : Int32)) hX dL_law_199 (by decide) ?_
                                refine vn_callSi (r := LW ((LC L xs k) >>> ((5 : Int32) &&& 31)) (4 : Int32)) (rest := [.int (nI (nn).val), .ref (b 0 0)]) (ws' := wX E b v36 ++ wX E b2 u38) hX (fun sz => c_L_low l E sz ((LC L xs k) >>> ((5 : Int32) &&& 31)) (4 : Int32) (by first | omega | exact Nat.le_of_ble_eq_true rfl | assumption | decide)) (va_cwS 2 hX.2.2.2.2.1 gL_law_L_low rfl rfl rfl (by decide +kernel) ⟨Nat.le_of_ble_eq_true rfl, Nat.le_of_ble_eq_true rfl⟩) ([]) (wX E b v36 ++ wX E b2 u38) (rfl) rfl (rfl) rfl rfl (Nat.le_of_ble_eq_true rfl) ⟨Nat.le_of_ble_eq_true rfl, Nat.le_of_ble_eq_true rfl⟩ dL_law_200 ?_
                                obtain ⟨rr, hrr, err⟩ : ∃ rr, rr < 4 ∧ LW ((LC L xs k) >>> ((5 : Int32) &&& 31)) (4 : Int32) = nI rr := LW_nI _ (N := 4) (by decide) (by decide)
                                rw [err]
                                obtain ⟨v44, hv44⟩ : ∃ z_ : XV, z_ = X_ls v36 nn rr := ⟨_, rfl⟩
                                refine vn_callSi (r := bI (true)) (rest := []) (ws' := wX E b v44 ++ wX E b2 u38) hX (fun sz => c_L_isLineSo l E b sz v36 nn rr (by first | omega | exact Nat.le_of_ble_eq_true rfl | assumption | decide) (by first | omega | exact Nat.le_of_ble_eq_true rfl | assumption | decide)) (va_cwS 3 hX.2.2.2.2.1 gL_law_L_isLineSo rfl rfl rfl (by decide +kernel) ⟨Nat.le_of_ble_eq_true rfl, Nat.le_of_ble_eq_true rfl⟩) ([]) (wX E b2 u38) (rfl) (by rw [hv44]; exact rfl) (wX_fst E b _ _) rfl rfl (Nat.le_of_ble_eq_true rfl) ⟨Nat.le_of_ble_eq_true rfl, Nat.le_of_ble_eq_true rfl⟩ dL_law_203 ?_
                                have hm5 : v44.1 = (X_act v (LC L xs k)).2.1 := by rw [hv44]; exact (ls_now _ nn hrr).trans hm
                                refine vn_if_ne (tgt := 211) hX dL_law_206 (by decide) (fun c45 => ?_) (fun c45 => ?_)
                                · replace c45 := bI_n0.mp c45
                                  refine vn_iinc (y := nI (k + 1)) (lv' := [.ref (b0), .ref (b 0 0), .ref (b2 0 0), .int (nI (k + 1)), .int ((LC L xs k)), .int (nI (v.2.2.2.1.2.2.val)), .int ((X_act v (LC L xs k)).1), .int (nI (v.2.2.2.1.2.2.val))]) hX dL_law_211 rfl (nI_inc _) (Nat.le_of_ble_eq_true rfl) (Nat.le_of_ble_eq_true rfl) rfl rfl ?_
                                  refine vn_goto (tgt := 18) hX dL_law_214 (by decide) ?_
                                  exact vn_fewer 4 rfl (ih (k + 1) (by omega) v44 u38 (hm5.trans (hg.2.trans (by rw [hu38]))) (by rw [hm5]; exact ao_JV hA hJ))
                                · replace c45 := bI_0.mp c45
                                  exact absurd (c42.symm.trans c45) (by decide)
                              · have c43t := eq_true c43
                                refine vn_sipush (x := (256 : Int32)) hX dL_law_184 (by decide) ?_
                                refine vn_goto (tgt := 192) hX dL_law_187 (by decide) ?_
                                refine vn_callSi (r := LW ((LC L xs k) >>> ((7 : Int32) &&& 31)) (256 : Int32)) (rest := [.ref (b 0 0)]) (ws' := wX E b v36 ++ wX E b2 u38) hX (fun sz => c_L_low l E sz ((LC L xs k) >>> ((7 : Int32) &&& 31)) (256 : Int32) (by first | omega | exact Nat.le_of_ble_eq_true rfl | assumption | decide)) (va_cwS 2 hX.2.2.2.2.1 gL_law_L_low rfl rfl rfl (by decide +kernel) ⟨Nat.le_of_ble_eq_true rfl, Nat.le_of_ble_eq_true rfl⟩) ([]) (wX E b v36 ++ wX E b2 u38) (rfl) rfl (rfl) rfl rfl (Nat.le_of_ble_eq_true rfl) ⟨Nat.le_of_ble_eq_true rfl, Nat.le_of_ble_eq_true rfl⟩ dL_law_192 ?_
                                obtain ⟨nn, hnn⟩ : ∃ nn : Fin 256, LW ((LC L xs k) >>> ((7 : Int32) &&& 31)) (256 : Int32) = nI nn.val := LW_fin (N := 256) (by decide) (by decide) _
                                rw [hnn]
                                have hlt_nn := nn.isLt
                                refine vn_iload hX dL_law_195 rfl ?_
                                refine vn_iconst (x := (5 : Int32)) hX dL_law_197 (by decide) ?_
                                refine vn_ishr (z := ((LC L xs k) >>> ((5 : Int32) &&& 31))) hX dL_law_198 (rfl) ?_
                                refine vn_iconst (x := (4 : Int32)) hX dL_law_199 (by decide) ?_
                                refine vn_callSi (r := LW ((LC L xs k) >>> ((5 : Int32) &&& 31)) (4 : Int32)) (rest := [.int (nI (nn).val), .ref (b 0 0)]) (ws' := wX E b v36 ++ wX E b2 u38) hX (fun sz => c_L_low l E sz ((LC L xs k) >>> ((5 : Int32) &&& 31)) (4 : Int32) (by first | omega | exact Nat.le_of_ble_eq_true rfl | assumption | decide)) (va_cwS 2 hX.2.2.2.2.1 gL_law_L_low rfl rfl rfl (by decide +kernel) ⟨Nat.le_of_ble_eq_true rfl, Nat.le_of_ble_eq_true rfl⟩) ([]) (wX E b v36 ++ wX E b2 u38) (rfl) rfl (rfl) rfl rfl (Nat.le_of_ble_eq_true rfl) ⟨Nat.le_of_ble_eq_true rfl, Nat.le_of_ble_eq_true rfl⟩ dL_law_200 ?_
                                obtain ⟨rr, hrr, err⟩ : ∃ rr, rr < 4 ∧ LW ((LC L xs k) >>> ((5 : Int32) &&& 31)) (4 : Int32) = nI rr := LW_nI _ (N := 4) (by decide) (by decide)
                                rw [err]
                                obtain ⟨v46, hv46⟩ : ∃ z_ : XV, z_ = X_ls v36 nn rr := ⟨_, rfl⟩
                                refine vn_callSi (r := bI (true)) (rest := []) (ws' := wX E b v46 ++ wX E b2 u38) hX (fun sz => c_L_isLineSo l E b sz v36 nn rr (by first | omega | exact Nat.le_of_ble_eq_true rfl | assumption | decide) (by first | omega | exact Nat.le_of_ble_eq_true rfl | assumption | decide)) (va_cwS 3 hX.2.2.2.2.1 gL_law_L_isLineSo rfl rfl rfl (by decide +kernel) ⟨Nat.le_of_ble_eq_true rfl, Nat.le_of_ble_eq_true rfl⟩) ([]) (wX E b2 u38) (rfl) (by rw [hv46]; exact rfl) (wX_fst E b _ _) rfl rfl (Nat.le_of_ble_eq_true rfl) ⟨Nat.le_of_ble_eq_true rfl, Nat.le_of_ble_eq_true rfl⟩ dL_law_203 ?_
                                have hm5 : v46.1 = (X_act v (LC L xs k)).2.1 := by rw [hv46]; exact (ls_now _ nn hrr).trans hm
                                refine vn_if_ne (tgt := 211) hX dL_law_206 (by decide) (fun c47 => ?_) (fun c47 => ?_)
                                · replace c47 := bI_n0.mp c47
                                  refine vn_iinc (y := nI (k + 1)) (lv' := [.ref (b0), .ref (b 0 0), .ref (b2 0 0), .int (nI (k + 1)), .int ((LC L xs k)), .int (nI (v.2.2.2.1.2.2.val)), .int ((X_act v (LC L xs k)).1), .int (nI (v.2.2.2.1.2.2.val))]) hX dL_law_211 rfl (nI_inc _) (Nat.le_of_ble_eq_true rfl) (Nat.le_of_ble_eq_true rfl) rfl rfl ?_
                                  refine vn_goto (tgt := 18) hX dL_law_214 (by decide) ?_
                                  exact vn_fewer 4 rfl (ih (k + 1) (by omega) v46 u38 (hm5.trans (hg.2.trans (by rw [hu38]))) (by rw [hm5]; exact ao_JV hA hJ))
                                · replace c47 := bI_0.mp c47
                                  exact absurd (c42.symm.trans c47) (by decide)
                        · replace c40 := bI_0.mp c40
                          exact absurd (c35.symm.trans c40) (by decide)
                    · exact (c37 (cg_act hn2 _).1).elim
              · replace c33 := (nI_eq (a := v.2.2.2.1.2.2.val) (b := 4) (by omega) (by omega)).mp c33
                have c33t := eq_true c33
                first | (exfalso; omega) | exact absurd c33 (by decide) | exact absurd (by decide) c33
      · have hs1 : v3 = v := hv3.trans (ao_neg hA c4)
        refine vn_aload_n hX dL_law_52 rfl ?_
        refine vn_aload_n hX dL_law_53 rfl ?_
        refine vn_callSi (r := bI (true)) (rest := []) (ws' := wX E b v3 ++ wX E b2 u) hX (fun sz => c_L_areAlike l E b b2 sz v3 u (by rw [hs1]; exact hvu)) (va_cwS 2 hX.2.2.2.2.1 gL_law_L_areAlike rfl rfl rfl (by decide +kernel) ⟨Nat.le_of_ble_eq_true rfl, Nat.le_of_ble_eq_true rfl⟩) [] [] ((List.append_nil _).symm) (List.append_nil _) rfl rfl rfl (Nat.le_of_ble_eq_true rfl) ⟨Nat.le_of_ble_eq_true rfl, Nat.le_of_ble_eq_true rfl⟩ dL_law_54 ?_
        refine vn_if_eq (tgt := 71) hX dL_law_57 (by decide) (fun c48 => ?_) (fun c48 => ?_)
        · replace c48 := bI_0.mp c48
          exact absurd c48 (by decide)
        · replace c48 := bI_n0.mp c48
          refine vn_aload_n hX dL_law_60 rfl ?_
          refine vn_bipush (x := (12 : Int32)) hX dL_law_61 (by decide) ?_
          refine vn_callVi (r := X_count v3 (12 : Int32)) (rest := []) (ws' := wX E b v3 ++ wX E b2 u) hX (fun sz => c_X5_count l E b sz v3 (12 : Int32)) (cwV 1 hX.2.2.2.2.1 gL_law_X5_count rfl rfl rfl (by decide +kernel) ⟨Nat.le_of_ble_eq_true rfl, Nat.le_of_ble_eq_true rfl⟩) ([]) (wX E b2 u) (rfl) (rfl).symm (wX_fst E b _ _) (ci := 5) (q0 := 0) rfl rfl rfl rfl rfl (Nat.le_of_ble_eq_true rfl) ⟨Nat.le_of_ble_eq_true rfl, Nat.le_of_ble_eq_true rfl⟩ dL_law_63 ?_
          have hz6 := (v3.2.2.2.1.2.2).isLt
          rw [o_size v3]
          refine vn_iload hX dL_law_66 rfl ?_
          refine vn_icmp_eq (tgt := 73) hX dL_law_68 (by decide) (fun c49 => ?_) (fun c49 => ?_)
          · replace c49 := (nI_eq (a := v3.2.2.2.1.2.2.val) (b := v.2.2.2.1.2.2.val) (by omega) (by omega)).mp c49
            have c49t := eq_true c49
            refine vn_iload hX dL_law_73 rfl ?_
            refine vn_if_lt (tgt := 132) hX dL_law_75 (by decide) (fun c50 => ?_) (fun c50 => ?_)
            · have hm : v3.1 = (X_act v (LC L xs k)).2.1 := by rw [hv3]
              have hJo : JV v3.1 (k + 1) := by rw [hm]; exact ao_JV hA hJ
              have hWo : JW v3.1 := ⟨k + 1, by omega, hJo⟩
              refine vn_aload_n hX dL_law_132 rfl ?_
              refine vn_iload hX dL_law_133 rfl ?_
              obtain ⟨u51, hu51⟩ : ∃ z_ : XV, z_ = (X_act u (LC L xs k)).2 := ⟨_, rfl⟩
              refine vn_callSi (r := (X_act u (LC L xs k)).1) (rest := []) (ws' := wX E b v3 ++ wX E b2 u51) hX (fun sz => c_L_act l E b2 sz u (LC L xs k)) (va_cwS 2 hX.2.2.2.2.1 gL_law_L_act rfl rfl rfl (by decide +kernel) ⟨Nat.le_of_ble_eq_true rfl, Nat.le_of_ble_eq_true rfl⟩) (wX E b v3) ([]) ((congrArg (fun z => wX E b v3 ++ z) (List.append_nil (wX E b2 u))).symm) (by rw [hu51]; exact (congrArg (fun z => wX E b v3 ++ z) (List.append_nil _))) (wX_fst E b2 _ _) rfl rfl (Nat.le_of_ble_eq_true rfl) ⟨Nat.le_of_ble_eq_true rfl, Nat.le_of_ble_eq_true rfl⟩ dL_law_135 ?_
              refine vn_iload hX dL_law_138 rfl ?_
              refine vn_icmp_ne (tgt := 151) hX dL_law_140 (by decide) (fun c52 => ?_) (fun c52 => ?_)
              · exact (c52 hg.1.symm).elim
              · have c52t := eq_true c52
                refine vn_aload_n hX dL_law_143 rfl ?_
                refine vn_aload_n hX dL_law_144 rfl ?_
                refine vn_callSi (r := bI (true)) (rest := []) (ws' := wX E b v3 ++ wX E b2 u51) hX (fun sz => c_L_areAlike l E b b2 sz v3 u51 (hm.trans (hg.2.trans (by rw [hu51])))) (va_cwS 2 hX.2.2.2.2.1 gL_law_L_areAlike rfl rfl rfl (by decide +kernel) ⟨Nat.le_of_ble_eq_true rfl, Nat.le_of_ble_eq_true rfl⟩) [] [] ((List.append_nil _).symm) (List.append_nil _) rfl rfl rfl (Nat.le_of_ble_eq_true rfl) ⟨Nat.le_of_ble_eq_true rfl, Nat.le_of_ble_eq_true rfl⟩ dL_law_145 ?_
                refine vn_if_ne (tgt := 153) hX dL_law_148 (by decide) (fun c53 => ?_) (fun c53 => ?_)
                · replace c53 := bI_n0.mp c53
                  refine vn_iload_n hX dL_law_153 rfl ?_
                  refine vn_iconst (x := (3 : Int32)) hX dL_law_154 (by decide) ?_
                  refine vn_irem (z := nI ((k) % 3)) hX dL_law_155 (by decide) (rem_c (k) 3 (by omega) (by decide) (by decide)) ?_
                  refine vn_iconst (x := (2 : Int32)) hX dL_law_156 (by decide) ?_
                  refine vn_icmp_ne (tgt := 211) hX dL_law_157 (by decide) (fun c54 => ?_) (fun c54 => ?_)
                  · replace c54 := (not_congr (nI_eq (a := (k) % 3) (b := 2) (by omega) (by omega))).mp c54
                    refine vn_iinc (y := nI (k + 1)) (lv' := [.ref (b0), .ref (b 0 0), .ref (b2 0 0), .int (nI (k + 1)), .int ((LC L xs k)), .int (nI (v.2.2.2.1.2.2.val)), .int ((X_act v (LC L xs k)).1)]) hX dL_law_211 rfl (nI_inc _) (Nat.le_of_ble_eq_true rfl) (Nat.le_of_ble_eq_true rfl) rfl rfl ?_
                    refine vn_goto (tgt := 18) hX dL_law_214 (by decide) ?_
                    exact vn_fewer 4 rfl (ih (k + 1) (by omega) v3 u51 (hm.trans (hg.2.trans (by rw [hu51]))) (by rw [hm]; exact ao_JV hA hJ))
                  · replace c54 := (nI_eq (a := (k) % 3) (b := 2) (by omega) (by omega)).mp c54
                    have c54t := eq_true c54
                    refine vn_aload_n hX dL_law_160 rfl ?_
                    refine vn_callSi (r := bI (true)) (rest := []) (ws' := wX E b v3 ++ wX E b2 u51) hX (fun sz => c_L_areSums l E b sz v3 (by first | omega | exact Nat.le_of_ble_eq_true rfl | assumption | decide)) (va_cwS 1 hX.2.2.2.2.1 gL_law_L_areSums rfl rfl rfl (by decide +kernel) ⟨Nat.le_of_ble_eq_true rfl, Nat.le_of_ble_eq_true rfl⟩) ([]) (wX E b2 u51) (rfl) (rfl).symm (wX_fst E b _ _) rfl rfl (Nat.le_of_ble_eq_true rfl) ⟨Nat.le_of_ble_eq_true rfl, Nat.le_of_ble_eq_true rfl⟩ dL_law_161 ?_
                    refine vn_if_eq (tgt := 209) hX dL_law_164 (by decide) (fun c55 => ?_) (fun c55 => ?_)
                    · replace c55 := bI_0.mp c55
                      exact absurd (c53.symm.trans c55) (by decide)
                    · replace c55 := bI_n0.mp c55
                      refine vn_aload_n hX dL_law_167 rfl ?_
                      refine vn_iload hX dL_law_168 rfl ?_
                      refine vn_bipush (x := (7 : Int32)) hX dL_law_170 (by decide) ?_
                      refine vn_ishr (z := ((LC L xs k) >>> ((7 : Int32) &&& 31))) hX dL_law_172 (rfl) ?_
                      refine vn_iload hX dL_law_173 rfl ?_
                      refine vn_iconst (x := (4 : Int32)) hX dL_law_175 (by decide) ?_
                      refine vn_ishr (z := ((LC L xs k) >>> ((4 : Int32) &&& 31))) hX dL_law_176 (rfl) ?_
                      refine vn_iconst (x := (2 : Int32)) hX dL_law_177 (by decide) ?_
                      refine vn_callSi (r := LW ((LC L xs k) >>> ((4 : Int32) &&& 31)) (2 : Int32)) (rest := [.int (((LC L xs k) >>> ((7 : Int32) &&& 31))), .ref (b 0 0)]) (ws' := wX E b v3 ++ wX E b2 u51) hX (fun sz => c_L_low l E sz ((LC L xs k) >>> ((4 : Int32) &&& 31)) (2 : Int32) (by first | omega | exact Nat.le_of_ble_eq_true rfl | assumption | decide)) (va_cwS 2 hX.2.2.2.2.1 gL_law_L_low rfl rfl rfl (by decide +kernel) ⟨Nat.le_of_ble_eq_true rfl, Nat.le_of_ble_eq_true rfl⟩) ([]) (wX E b v3 ++ wX E b2 u51) (rfl) rfl (rfl) rfl rfl (Nat.le_of_ble_eq_true rfl) ⟨Nat.le_of_ble_eq_true rfl, Nat.le_of_ble_eq_true rfl⟩ dL_law_178 ?_
                      refine vn_if_ne (tgt := 190) hX dL_law_181 (by decide) (fun c56 => ?_) (fun c56 => ?_)
                      · refine vn_bipush (x := (14 : Int32)) hX dL_law_190 (by decide) ?_
                        refine vn_callSi (r := LW ((LC L xs k) >>> ((7 : Int32) &&& 31)) (14 : Int32)) (rest := [.ref (b 0 0)]) (ws' := wX E b v3 ++ wX E b2 u51) hX (fun sz => c_L_low l E sz ((LC L xs k) >>> ((7 : Int32) &&& 31)) (14 : Int32) (by first | omega | exact Nat.le_of_ble_eq_true rfl | assumption | decide)) (va_cwS 2 hX.2.2.2.2.1 gL_law_L_low rfl rfl rfl (by decide +kernel) ⟨Nat.le_of_ble_eq_true rfl, Nat.le_of_ble_eq_true rfl⟩) ([]) (wX E b v3 ++ wX E b2 u51) (rfl) rfl (rfl) rfl rfl (Nat.le_of_ble_eq_true rfl) ⟨Nat.le_of_ble_eq_true rfl, Nat.le_of_ble_eq_true rfl⟩ dL_law_192 ?_
                        obtain ⟨nn, hnn⟩ : ∃ nn : Fin 256, LW ((LC L xs k) >>> ((7 : Int32) &&& 31)) (14 : Int32) = nI nn.val := LW_fin (N := 14) (by decide) (by decide) _
                        rw [hnn]
                        have hlt_nn := nn.isLt
                        refine vn_iload hX dL_law_195 rfl ?_
                        refine vn_iconst (x := (5 : Int32)) hX dL_law_197 (by decide) ?_
                        refine vn_ishr (z := ((LC L xs k) >>> ((5 : Int32) &&& 31))) hX dL_law_198 (rfl) ?_
                        refine vn_iconst (x := (4 : Int32)) hX dL_law_199 (by decide) ?_
                        refine vn_callSi (r := LW ((LC L xs k) >>> ((5 : Int32) &&& 31)) (4 : Int32)) (rest := [.int (nI (nn).val), .ref (b 0 0)]) (ws' := wX E b v3 ++ wX E b2 u51) hX (fun sz => c_L_low l E sz ((LC L xs k) >>> ((5 : Int32) &&& 31)) (4 : Int32) (by first | omega | exact Nat.le_of_ble_eq_true rfl | assumption | decide)) (va_cwS 2 hX.2.2.2.2.1 gL_law_L_low rfl rfl rfl (by decide +kernel) ⟨Nat.le_of_ble_eq_true rfl, Nat.le_of_ble_eq_true rfl⟩) ([]) (wX E b v3 ++ wX E b2 u51) (rfl) rfl (rfl) rfl rfl (Nat.le_of_ble_eq_true rfl) ⟨Nat.le_of_ble_eq_true rfl, Nat.le_of_ble_eq_true rfl⟩ dL_law_200 ?_
                        obtain ⟨rr, hrr, err⟩ : ∃ rr, rr < 4 ∧ LW ((LC L xs k) >>> ((5 : Int32) &&& 31)) (4 : Int32) = nI rr := LW_nI _ (N := 4) (by decide) (by decide)
                        rw [err]
                        obtain ⟨v57, hv57⟩ : ∃ z_ : XV, z_ = X_ls v3 nn rr := ⟨_, rfl⟩
                        refine vn_callSi (r := bI (true)) (rest := []) (ws' := wX E b v57 ++ wX E b2 u51) hX (fun sz => c_L_isLineSo l E b sz v3 nn rr (by first | omega | exact Nat.le_of_ble_eq_true rfl | assumption | decide) (by first | omega | exact Nat.le_of_ble_eq_true rfl | assumption | decide)) (va_cwS 3 hX.2.2.2.2.1 gL_law_L_isLineSo rfl rfl rfl (by decide +kernel) ⟨Nat.le_of_ble_eq_true rfl, Nat.le_of_ble_eq_true rfl⟩) ([]) (wX E b2 u51) (rfl) (by rw [hv57]; exact rfl) (wX_fst E b _ _) rfl rfl (Nat.le_of_ble_eq_true rfl) ⟨Nat.le_of_ble_eq_true rfl, Nat.le_of_ble_eq_true rfl⟩ dL_law_203 ?_
                        have hm5 : v57.1 = (X_act v (LC L xs k)).2.1 := by rw [hv57]; exact (ls_now _ nn hrr).trans hm
                        refine vn_if_ne (tgt := 211) hX dL_law_206 (by decide) (fun c58 => ?_) (fun c58 => ?_)
                        · replace c58 := bI_n0.mp c58
                          refine vn_iinc (y := nI (k + 1)) (lv' := [.ref (b0), .ref (b 0 0), .ref (b2 0 0), .int (nI (k + 1)), .int ((LC L xs k)), .int (nI (v.2.2.2.1.2.2.val)), .int ((X_act v (LC L xs k)).1)]) hX dL_law_211 rfl (nI_inc _) (Nat.le_of_ble_eq_true rfl) (Nat.le_of_ble_eq_true rfl) rfl rfl ?_
                          refine vn_goto (tgt := 18) hX dL_law_214 (by decide) ?_
                          exact vn_fewer 4 rfl (ih (k + 1) (by omega) v57 u51 (hm5.trans (hg.2.trans (by rw [hu51]))) (by rw [hm5]; exact ao_JV hA hJ))
                        · replace c58 := bI_0.mp c58
                          exact absurd (c55.symm.trans c58) (by decide)
                      · have c56t := eq_true c56
                        refine vn_sipush (x := (256 : Int32)) hX dL_law_184 (by decide) ?_
                        refine vn_goto (tgt := 192) hX dL_law_187 (by decide) ?_
                        refine vn_callSi (r := LW ((LC L xs k) >>> ((7 : Int32) &&& 31)) (256 : Int32)) (rest := [.ref (b 0 0)]) (ws' := wX E b v3 ++ wX E b2 u51) hX (fun sz => c_L_low l E sz ((LC L xs k) >>> ((7 : Int32) &&& 31)) (256 : Int32) (by first | omega | exact Nat.le_of_ble_eq_true rfl | assumption | decide)) (va_cwS 2 hX.2.2.2.2.1 gL_law_L_low rfl rfl rfl (by decide +kernel) ⟨Nat.le_of_ble_eq_true rfl, Nat.le_of_ble_eq_true rfl⟩) ([]) (wX E b v3 ++ wX E b2 u51) (rfl) rfl (rfl) rfl rfl (Nat.le_of_ble_eq_true rfl) ⟨Nat.le_of_ble_eq_true rfl, Nat.le_of_ble_eq_true rfl⟩ dL_law_192 ?_
                        obtain ⟨nn, hnn⟩ : ∃ nn : Fin 256, LW ((LC L xs k) >>> ((7 : Int32) &&& 31)) (256 : Int32) = nI nn.val := LW_fin (N := 256) (by decide) (by decide) _
                        rw [hnn]
                        have hlt_nn := nn.isLt
                        refine vn_iload hX dL_law_195 rfl ?_
                        refine vn_iconst (x := (5 : Int32)) hX dL_law_197 (by decide) ?_
                        refine vn_ishr (z := ((LC L xs k) >>> ((5 : Int32) &&& 31))) hX dL_law_198 (rfl) ?_
                        refine vn_iconst (x := (4 : Int32)) hX dL_law_199 (by decide) ?_
                        refine vn_callSi (r := LW ((LC L xs k) >>> ((5 : Int32) &&& 31)) (4 : Int32)) (rest := [.int (nI (nn).val), .ref (b 0 0)]) (ws' := wX E b v3 ++ wX E b2 u51) hX (fun sz => c_L_low l E sz ((LC L xs k) >>> ((5 : Int32) &&& 31)) (4 : Int32) (by first | omega | exact Nat.le_of_ble_eq_true rfl | assumption | decide)) (va_cwS 2 hX.2.2.2.2.1 gL_law_L_low rfl rfl rfl (by decide +kernel) ⟨Nat.le_of_ble_eq_true rfl, Nat.le_of_ble_eq_true rfl⟩) ([]) (wX E b v3 ++ wX E b2 u51) (rfl) rfl (rfl) rfl rfl (Nat.le_of_ble_eq_true rfl) ⟨Nat.le_of_ble_eq_true rfl, Nat.le_of_ble_eq_true rfl⟩ dL_law_200 ?_
                        obtain ⟨rr, hrr, err⟩ : ∃ rr, rr < 4 ∧ LW ((LC L xs k) >>> ((5 : Int32) &&& 31)) (4 : Int32) = nI rr := LW_nI _ (N := 4) (by decide) (by decide)
                        rw [err]
                        obtain ⟨v59, hv59⟩ : ∃ z_ : XV, z_ = X_ls v3 nn rr := ⟨_, rfl⟩
                        refine vn_callSi (r := bI (true)) (rest := []) (ws' := wX E b v59 ++ wX E b2 u51) hX (fun sz => c_L_isLineSo l E b sz v3 nn rr (by first | omega | exact Nat.le_of_ble_eq_true rfl | assumption | decide) (by first | omega | exact Nat.le_of_ble_eq_true rfl | assumption | decide)) (va_cwS 3 hX.2.2.2.2.1 gL_law_L_isLineSo rfl rfl rfl (by decide +kernel) ⟨Nat.le_of_ble_eq_true rfl, Nat.le_of_ble_eq_true rfl⟩) ([]) (wX E b2 u51) (rfl) (by rw [hv59]; exact rfl) (wX_fst E b _ _) rfl rfl (Nat.le_of_ble_eq_true rfl) ⟨Nat.le_of_ble_eq_true rfl, Nat.le_of_ble_eq_true rfl⟩ dL_law_203 ?_
                        have hm5 : v59.1 = (X_act v (LC L xs k)).2.1 := by rw [hv59]; exact (ls_now _ nn hrr).trans hm
                        refine vn_if_ne (tgt := 211) hX dL_law_206 (by decide) (fun c60 => ?_) (fun c60 => ?_)
                        · replace c60 := bI_n0.mp c60
                          refine vn_iinc (y := nI (k + 1)) (lv' := [.ref (b0), .ref (b 0 0), .ref (b2 0 0), .int (nI (k + 1)), .int ((LC L xs k)), .int (nI (v.2.2.2.1.2.2.val)), .int ((X_act v (LC L xs k)).1)]) hX dL_law_211 rfl (nI_inc _) (Nat.le_of_ble_eq_true rfl) (Nat.le_of_ble_eq_true rfl) rfl rfl ?_
                          refine vn_goto (tgt := 18) hX dL_law_214 (by decide) ?_
                          exact vn_fewer 4 rfl (ih (k + 1) (by omega) v59 u51 (hm5.trans (hg.2.trans (by rw [hu51]))) (by rw [hm5]; exact ao_JV hA hJ))
                        · replace c60 := bI_0.mp c60
                          exact absurd (c55.symm.trans c60) (by decide)
                · replace c53 := bI_0.mp c53
                  exact absurd (c48.symm.trans c53) (by decide)
            · exact (c50 (i_nle.mp c4)).elim
          · replace c49 := (not_congr (nI_eq (a := v3.2.2.2.1.2.2.val) (b := v.2.2.2.1.2.2.val) (by omega) (by omega))).mp c49
            exact (c49 (by rw [hs1])).elim
