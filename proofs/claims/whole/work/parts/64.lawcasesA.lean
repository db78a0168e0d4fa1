set_option maxHeartbeats 4000000 in
theorem law_case0 {p : Program} {l : Launch} {e : Env} {s : State} {m : MethodId} {below : List Frame} {meth : Method} {c : Code} {E : ET} {b0 L : Nat} {xs : Nat → Int32} (hL : LX p s m meth c E b0 L xs) {b : Nat → Nat → Nat} {a : Nat → Nat} {x : XV} {r : RV} (h : XR x r) {i : Nat} (hi : i + 5 ≤ L) (k : ∀ x2 r2, XR x2 r2 → VL p l e s m below meth c E b0 (wX E b x2 ++ wR E a r2) [.ref b0, .ref (b 0 0), .ref (a 0), .int (nI i)] 750 []) : VL p l e s m below meth c E b0 (wX E b x ++ wR E a r) [.ref b0, .ref (b 0 0), .ref (a 0), .int (nI i)] 136 [] := by
  have hX := hL.1
  have hLb := hL.2.2.2
  have hbA : ¬ (fun q : Nat => s.heap.size ≤ q) b0 := Nat.not_le.mpr hL.2.2.1
  refine vn_aload_n hX dL_law_136 rfl ?_
  refine vn_aload_n hX dL_law_137 rfl ?_
  refine vn_iload_n hX dL_law_138 rfl ?_
  refine vn_iconst (x := (1 : Int32)) hX dL_law_139 (by decide) ?_
  refine vn_iadd (z := nI (i + 1)) hX dL_law_140 (nI_add i 1) ?_
  refine vn_sld (i := i + 1) hX hL.2.1 hL.2.2.1 hbA (by omega) (by omega) dL_law_141 ?_
  refine vn_aload_n hX dL_law_142 rfl ?_
  refine vn_iload_n hX dL_law_143 rfl ?_
  refine vn_iconst (x := (2 : Int32)) hX dL_law_144 (by decide) ?_
  refine vn_iadd (z := nI (i + 2)) hX dL_law_145 (nI_add i 2) ?_
  refine vn_sld (i := i + 2) hX hL.2.1 hL.2.2.1 hbA (by omega) (by omega) dL_law_146 ?_
  refine vn_callVi (r := (X_read x (xs (i + 1)) (xs (i + 2))).1) (rest := []) (ws' := wX E b ((X_read x (xs (i + 1)) (xs (i + 2))).2) ++ wR E a r) hX (fun sz => c_X5_read l E b sz x (xs (i + 1)) (xs (i + 2))) (cwV 2 hX.2.2.2.2.1 gL_law_X5_read rfl rfl rfl (by decide +kernel) ⟨Nat.le_of_ble_eq_true rfl, Nat.le_of_ble_eq_true rfl⟩) [] (wR E a r) rfl rfl (wX_fst E b _ _) (ci := 5) (q0 := 0) rfl rfl rfl rfl rfl (Nat.le_of_ble_eq_true rfl) ⟨Nat.le_of_ble_eq_true rfl, Nat.le_of_ble_eq_true rfl⟩ dL_law_147 ?_
  refine vn_aload_n hX dL_law_150 rfl ?_
  refine vn_aload_n hX dL_law_151 rfl ?_
  refine vn_iload_n hX dL_law_152 rfl ?_
  refine vn_iconst (x := (1 : Int32)) hX dL_law_153 (by decide) ?_
  refine vn_iadd (z := nI (i + 1)) hX dL_law_154 (nI_add i 1) ?_
  refine vn_sld (i := i + 1) hX hL.2.1 hL.2.2.1 hbA (by omega) (by omega) dL_law_155 ?_
  refine vn_aload_n hX dL_law_156 rfl ?_
  refine vn_iload_n hX dL_law_157 rfl ?_
  refine vn_iconst (x := (2 : Int32)) hX dL_law_158 (by decide) ?_
  refine vn_iadd (z := nI (i + 2)) hX dL_law_159 (nI_add i 2) ?_
  refine vn_sld (i := i + 2) hX hL.2.1 hL.2.2.1 hbA (by omega) (by omega) dL_law_160 ?_
  refine vn_callVi (r := (R_read r (xs (i + 1)) (xs (i + 2))).1) (rest := [.int ((X_read x (xs (i + 1)) (xs (i + 2))).1)]) (ws' := wX E b ((X_read x (xs (i + 1)) (xs (i + 2))).2) ++ wR E a ((R_read r (xs (i + 1)) (xs (i + 2))).2)) hX (fun sz => c_X6_read l E a sz r (xs (i + 1)) (xs (i + 2))) (cwV 2 hX.2.2.2.2.1 gL_law_X6_read rfl rfl rfl (by decide +kernel) ⟨Nat.le_of_ble_eq_true rfl, Nat.le_of_ble_eq_true rfl⟩) (wX E b ((X_read x (xs (i + 1)) (xs (i + 2))).2)) [] ((congrArg (fun z => wX E b ((X_read x (xs (i + 1)) (xs (i + 2))).2) ++ z) (List.append_nil _)).symm) (congrArg (fun z => wX E b ((X_read x (xs (i + 1)) (xs (i + 2))).2) ++ z) (List.append_nil _)) (wR_fst E a _ _) (ci := 6) (q0 := 0) rfl rfl rfl rfl rfl (Nat.le_of_ble_eq_true rfl) ⟨Nat.le_of_ble_eq_true rfl, Nat.le_of_ble_eq_true rfl⟩ dL_law_161 ?_
  exact vn_icmp_eq (tgt := 750) hX dL_law_164 (by decide) (fun _ => k _ _ (sim_read h (xs (i + 1)) (xs (i + 2))).2) (fun c9 => absurd (sim_read h (xs (i + 1)) (xs (i + 2))).1 c9)
set_option maxHeartbeats 4000000 in
theorem law_case1 {p : Program} {l : Launch} {e : Env} {s : State} {m : MethodId} {below : List Frame} {meth : Method} {c : Code} {E : ET} {b0 L : Nat} {xs : Nat → Int32} (hL : LX p s m meth c E b0 L xs) {b : Nat → Nat → Nat} {a : Nat → Nat} {x : XV} {r : RV} (h : XR x r) {i : Nat} (hi : i + 5 ≤ L) (k : ∀ x2 r2, XR x2 r2 → VL p l e s m below meth c E b0 (wX E b x2 ++ wR E a r2) [.ref b0, .ref (b 0 0), .ref (a 0), .int (nI i)] 750 []) : VL p l e s m below meth c E b0 (wX E b x ++ wR E a r) [.ref b0, .ref (b 0 0), .ref (a 0), .int (nI i)] 169 [] := by
  have hX := hL.1
  have hLb := hL.2.2.2
  have hbA : ¬ (fun q : Nat => s.heap.size ≤ q) b0 := Nat.not_le.mpr hL.2.2.1
  refine vn_aload_n hX dL_law_169 rfl ?_
  refine vn_aload_n hX dL_law_170 rfl ?_
  refine vn_iload_n hX dL_law_171 rfl ?_
  refine vn_iconst (x := (1 : Int32)) hX dL_law_172 (by decide) ?_
  refine vn_iadd (z := nI (i + 1)) hX dL_law_173 (nI_add i 1) ?_
  refine vn_sld (i := i + 1) hX hL.2.1 hL.2.2.1 hbA (by omega) (by omega) dL_law_174 ?_
  refine vn_aload_n hX dL_law_175 rfl ?_
  refine vn_iload_n hX dL_law_176 rfl ?_
  refine vn_iconst (x := (2 : Int32)) hX dL_law_177 (by decide) ?_
  refine vn_iadd (z := nI (i + 2)) hX dL_law_178 (nI_add i 2) ?_
  refine vn_sld (i := i + 2) hX hL.2.1 hL.2.2.1 hbA (by omega) (by omega) dL_law_179 ?_
  refine vn_aload_n hX dL_law_180 rfl ?_
  refine vn_iload_n hX dL_law_181 rfl ?_
  refine vn_iconst (x := (3 : Int32)) hX dL_law_182 (by decide) ?_
  refine vn_iadd (z := nI (i + 3)) hX dL_law_183 (nI_add i 3) ?_
  refine vn_sld (i := i + 3) hX hL.2.1 hL.2.2.1 hbA (by omega) (by omega) dL_law_184 ?_
  refine vn_callVi (r := (X_write x (xs (i + 1)) (xs (i + 2)) (xs (i + 3))).1) (rest := []) (ws' := wX E b ((X_write x (xs (i + 1)) (xs (i + 2)) (xs (i + 3))).2) ++ wR E a r) hX (fun sz => c_X5_write l E b sz x (xs (i + 1)) (xs (i + 2)) (xs (i + 3))) (cwV 3 hX.2.2.2.2.1 gL_law_X5_write rfl rfl rfl (by decide +kernel) ⟨Nat.le_of_ble_eq_true rfl, Nat.le_of_ble_eq_true rfl⟩) [] (wR E a r) rfl rfl (wX_fst E b _ _) (ci := 5) (q0 := 0) rfl rfl rfl rfl rfl (Nat.le_of_ble_eq_true rfl) ⟨Nat.le_of_ble_eq_true rfl, Nat.le_of_ble_eq_true rfl⟩ dL_law_185 ?_
  refine vn_aload_n hX dL_law_188 rfl ?_
  refine vn_aload_n hX dL_law_189 rfl ?_
  refine vn_iload_n hX dL_law_190 rfl ?_
  refine vn_iconst (x := (1 : Int32)) hX dL_law_191 (by decide) ?_
  refine vn_iadd (z := nI (i + 1)) hX dL_law_192 (nI_add i 1) ?_
  refine vn_sld (i := i + 1) hX hL.2.1 hL.2.2.1 hbA (by omega) (by omega) dL_law_193 ?_
  refine vn_aload_n hX dL_law_194 rfl ?_
  refine vn_iload_n hX dL_law_195 rfl ?_
  refine vn_iconst (x := (2 : Int32)) hX dL_law_196 (by decide) ?_
  refine vn_iadd (z := nI (i + 2)) hX dL_law_197 (nI_add i 2) ?_
  refine vn_sld (i := i + 2) hX hL.2.1 hL.2.2.1 hbA (by omega) (by omega) dL_law_198 ?_
  refine vn_aload_n hX dL_law_199 rfl ?_
  refine vn_iload_n hX dL_law_200 rfl ?_
  refine vn_iconst (x := (3 : Int32)) hX dL_law_201 (by decide) ?_
  refine vn_iadd (z := nI (i + 3)) hX dL_law_202 (nI_add i 3) ?_
  refine vn_sld (i := i + 3) hX hL.2.1 hL.2.2.1 hbA (by omega) (by omega) dL_law_203 ?_
  refine vn_callVi (r := (R_write r (xs (i + 1)) (xs (i + 2)) (xs (i + 3))).1) (rest := [.int ((X_write x (xs (i + 1)) (xs (i + 2)) (xs (i + 3))).1)]) (ws' := wX E b ((X_write x (xs (i + 1)) (xs (i + 2)) (xs (i + 3))).2) ++ wR E a ((R_write r (xs (i + 1)) (xs (i + 2)) (xs (i + 3))).2)) hX (fun sz => c_X6_write l E a sz r (xs (i + 1)) (xs (i + 2)) (xs (i + 3))) (cwV 3 hX.2.2.2.2.1 gL_law_X6_write rfl rfl rfl (by decide +kernel) ⟨Nat.le_of_ble_eq_true rfl, Nat.le_of_ble_eq_true rfl⟩) (wX E b ((X_write x (xs (i + 1)) (xs (i + 2)) (xs (i + 3))).2)) [] ((congrArg (fun z => wX E b ((X_write x (xs (i + 1)) (xs (i + 2)) (xs (i + 3))).2) ++ z) (List.append_nil _)).symm) (congrArg (fun z => wX E b ((X_write x (xs (i + 1)) (xs (i + 2)) (xs (i + 3))).2) ++ z) (List.append_nil _)) (wR_fst E a _ _) (ci := 6) (q0 := 0) rfl rfl rfl rfl rfl (Nat.le_of_ble_eq_true rfl) ⟨Nat.le_of_ble_eq_true rfl, Nat.le_of_ble_eq_true rfl⟩ dL_law_204 ?_
  exact vn_icmp_eq (tgt := 750) hX dL_law_207 (by decide) (fun _ => k _ _ (sim_write h (xs (i + 1)) (xs (i + 2)) (xs (i + 3))).2) (fun c9 => absurd (sim_write h (xs (i + 1)) (xs (i + 2)) (xs (i + 3))).1 c9)
set_option maxHeartbeats 4000000 in
theorem law_case2 {p : Program} {l : Launch} {e : Env} {s : State} {m : MethodId} {below : List Frame} {meth : Method} {c : Code} {E : ET} {b0 L : Nat} {xs : Nat → Int32} (hL : LX p s m meth c E b0 L xs) {b : Nat → Nat → Nat} {a : Nat → Nat} {x : XV} {r : RV} (h : XR x r) {i : Nat} (hi : i + 5 ≤ L) (k : ∀ x2 r2, XR x2 r2 → VL p l e s m below meth c E b0 (wX E b x2 ++ wR E a r2) [.ref b0, .ref (b 0 0), .ref (a 0), .int (nI i)] 750 []) : VL p l e s m below meth c E b0 (wX E b x ++ wR E a r) [.ref b0, .ref (b 0 0), .ref (a 0), .int (nI i)] 212 [] := by
  have hX := hL.1
  have hLb := hL.2.2.2
  have hbA : ¬ (fun q : Nat => s.heap.size ≤ q) b0 := Nat.not_le.mpr hL.2.2.1
  refine vn_aload_n hX dL_law_212 rfl ?_
  refine vn_aload_n hX dL_law_213 rfl ?_
  refine vn_iload_n hX dL_law_214 rfl ?_
  refine vn_iconst (x := (1 : Int32)) hX dL_law_215 (by decide) ?_
  refine vn_iadd (z := nI (i + 1)) hX dL_law_216 (nI_add i 1) ?_
  refine vn_sld (i := i + 1) hX hL.2.1 hL.2.2.1 hbA (by omega) (by omega) dL_law_217 ?_
  refine vn_aload_n hX dL_law_218 rfl ?_
  refine vn_iload_n hX dL_law_219 rfl ?_
  refine vn_iconst (x := (2 : Int32)) hX dL_law_220 (by decide) ?_
  refine vn_iadd (z := nI (i + 2)) hX dL_law_221 (nI_add i 2) ?_
  refine vn_sld (i := i + 2) hX hL.2.1 hL.2.2.1 hbA (by omega) (by omega) dL_law_222 ?_
  refine vn_callVi (r := (X_drop x (xs (i + 1)) (xs (i + 2))).1) (rest := []) (ws' := wX E b ((X_drop x (xs (i + 1)) (xs (i + 2))).2) ++ wR E a r) hX (fun sz => c_X5_drop l E b sz x (xs (i + 1)) (xs (i + 2))) (cwV 2 hX.2.2.2.2.1 gL_law_X5_drop rfl rfl rfl (by decide +kernel) ⟨Nat.le_of_ble_eq_true rfl, Nat.le_of_ble_eq_true rfl⟩) [] (wR E a r) rfl rfl (wX_fst E b _ _) (ci := 5) (q0 := 0) rfl rfl rfl rfl rfl (Nat.le_of_ble_eq_true rfl) ⟨Nat.le_of_ble_eq_true rfl, Nat.le_of_ble_eq_true rfl⟩ dL_law_223 ?_
  refine vn_aload_n hX dL_law_226 rfl ?_
  refine vn_aload_n hX dL_law_227 rfl ?_
  refine vn_iload_n hX dL_law_228 rfl ?_
  refine vn_iconst (x := (1 : Int32)) hX dL_law_229 (by decide) ?_
  refine vn_iadd (z := nI (i + 1)) hX dL_law_230 (nI_add i 1) ?_
  refine vn_sld (i := i + 1) hX hL.2.1 hL.2.2.1 hbA (by omega) (by omega) dL_law_231 ?_
  refine vn_aload_n hX dL_law_232 rfl ?_
  refine vn_iload_n hX dL_law_233 rfl ?_
  refine vn_iconst (x := (2 : Int32)) hX dL_law_234 (by decide) ?_
  refine vn_iadd (z := nI (i + 2)) hX dL_law_235 (nI_add i 2) ?_
  refine vn_sld (i := i + 2) hX hL.2.1 hL.2.2.1 hbA (by omega) (by omega) dL_law_236 ?_
  refine vn_callVi (r := (R_drop r (xs (i + 1)) (xs (i + 2))).1) (rest := [.int ((X_drop x (xs (i + 1)) (xs (i + 2))).1)]) (ws' := wX E b ((X_drop x (xs (i + 1)) (xs (i + 2))).2) ++ wR E a ((R_drop r (xs (i + 1)) (xs (i + 2))).2)) hX (fun sz => c_X6_drop l E a sz r (xs (i + 1)) (xs (i + 2))) (cwV 2 hX.2.2.2.2.1 gL_law_X6_drop rfl rfl rfl (by decide +kernel) ⟨Nat.le_of_ble_eq_true rfl, Nat.le_of_ble_eq_true rfl⟩) (wX E b ((X_drop x (xs (i + 1)) (xs (i + 2))).2)) [] ((congrArg (fun z => wX E b ((X_drop x (xs (i + 1)) (xs (i + 2))).2) ++ z) (List.append_nil _)).symm) (congrArg (fun z => wX E b ((X_drop x (xs (i + 1)) (xs (i + 2))).2) ++ z) (List.append_nil _)) (wR_fst E a _ _) (ci := 6) (q0 := 0) rfl rfl rfl rfl rfl (Nat.le_of_ble_eq_true rfl) ⟨Nat.le_of_ble_eq_true rfl, Nat.le_of_ble_eq_true rfl⟩ dL_law_237 ?_
  exact vn_icmp_eq (tgt := 750) hX dL_law_240 (by decide) (fun _ => k _ _ (sim_drop h (xs (i + 1)) (xs (i + 2))).2) (fun c9 => absurd (sim_drop h (xs (i + 1)) (xs (i + 2))).1 c9)
set_option maxHeartbeats 4000000 in
theorem law_case3 {p : Program} {l : Launch} {e : Env} {s : State} {m : MethodId} {below : List Frame} {meth : Method} {c : Code} {E : ET} {b0 L : Nat} {xs : Nat → Int32} (hL : LX p s m meth c E b0 L xs) {b : Nat → Nat → Nat} {a : Nat → Nat} {x : XV} {r : RV} (h : XR x r) {i : Nat} (hi : i + 5 ≤ L) (k : ∀ x2 r2, XR x2 r2 → VL p l e s m below meth c E b0 (wX E b x2 ++ wR E a r2) [.ref b0, .ref (b 0 0), .ref (a 0), .int (nI i)] 750 []) : VL p l e s m below meth c E b0 (wX E b x ++ wR E a r) [.ref b0, .ref (b 0 0), .ref (a 0), .int (nI i)] 245 [] := by
  have hX := hL.1
  have hLb := hL.2.2.2
  have hbA : ¬ (fun q : Nat => s.heap.size ≤ q) b0 := Nat.not_le.mpr hL.2.2.1
  refine vn_aload_n hX dL_law_245 rfl ?_
  refine vn_aload_n hX dL_law_246 rfl ?_
  refine vn_iload_n hX dL_law_247 rfl ?_
  refine vn_iconst (x := (1 : Int32)) hX dL_law_248 (by decide) ?_
  refine vn_iadd (z := nI (i + 1)) hX dL_law_249 (nI_add i 1) ?_
  refine vn_sld (i := i + 1) hX hL.2.1 hL.2.2.1 hbA (by omega) (by omega) dL_law_250 ?_
  refine vn_callVi (r := (X_forget x (xs (i + 1))).1) (rest := []) (ws' := wX E b ((X_forget x (xs (i + 1))).2) ++ wR E a r) hX (fun sz => c_X5_forget l E b sz x (xs (i + 1))) (cwV 1 hX.2.2.2.2.1 gL_law_X5_forget rfl rfl rfl (by decide +kernel) ⟨Nat.le_of_ble_eq_true rfl, Nat.le_of_ble_eq_true rfl⟩) [] (wR E a r) rfl rfl (wX_fst E b _ _) (ci := 5) (q0 := 0) rfl rfl rfl rfl rfl (Nat.le_of_ble_eq_true rfl) ⟨Nat.le_of_ble_eq_true rfl, Nat.le_of_ble_eq_true rfl⟩ dL_law_251 ?_
  refine vn_aload_n hX dL_law_254 rfl ?_
  refine vn_aload_n hX dL_law_255 rfl ?_
  refine vn_iload_n hX dL_law_256 rfl ?_
  refine vn_iconst (x := (1 : Int32)) hX dL_law_257 (by decide) ?_
  refine vn_iadd (z := nI (i + 1)) hX dL_law_258 (nI_add i 1) ?_
  refine vn_sld (i := i + 1) hX hL.2.1 hL.2.2.1 hbA (by omega) (by omega) dL_law_259 ?_
  refine vn_callVi (r := (R_forget r (xs (i + 1))).1) (rest := [.int ((X_forget x (xs (i + 1))).1)]) (ws' := wX E b ((X_forget x (xs (i + 1))).2) ++ wR E a ((R_forget r (xs (i + 1))).2)) hX (fun sz => c_X6_forget l E a sz r (xs (i + 1))) (cwV 1 hX.2.2.2.2.1 gL_law_X6_forget rfl rfl rfl (by decide +kernel) ⟨Nat.le_of_ble_eq_true rfl, Nat.le_of_ble_eq_true rfl⟩) (wX E b ((X_forget x (xs (i + 1))).2)) [] ((congrArg (fun z => wX E b ((X_forget x (xs (i + 1))).2) ++ z) (List.append_nil _)).symm) (congrArg (fun z => wX E b ((X_forget x (xs (i + 1))).2) ++ z) (List.append_nil _)) (wR_fst E a _ _) (ci := 6) (q0 := 0) rfl rfl rfl rfl rfl (Nat.le_of_ble_eq_true rfl) ⟨Nat.le_of_ble_eq_true rfl, Nat.le_of_ble_eq_true rfl⟩ dL_law_260 ?_
  exact vn_icmp_eq (tgt := 750) hX dL_law_263 (by decide) (fun _ => k _ _ (sim_forget h (xs (i + 1))).2) (fun c9 => absurd (sim_forget h (xs (i + 1))).1 c9)
set_option maxHeartbeats 4000000 in
theorem law_case4 {p : Program} {l : Launch} {e : Env} {s : State} {m : MethodId} {below : List Frame} {meth : Method} {c : Code} {E : ET} {b0 L : Nat} {xs : Nat → Int32} (hL : LX p s m meth c E b0 L xs) {b : Nat → Nat → Nat} {a : Nat → Nat} {x : XV} {r : RV} (h : XR x r) {i : Nat} (hi : i + 5 ≤ L) (k : ∀ x2 r2, XR x2 r2 → VL p l e s m below meth c E b0 (wX E b x2 ++ wR E a r2) [.ref b0, .ref (b 0 0), .ref (a 0), .int (nI i)] 750 []) : VL p l e s m below meth c E b0 (wX E b x ++ wR E a r) [.ref b0, .ref (b 0 0), .ref (a 0), .int (nI i)] 268 [] := by
  have hX := hL.1
  have hLb := hL.2.2.2
  have hbA : ¬ (fun q : Nat => s.heap.size ≤ q) b0 := Nat.not_le.mpr hL.2.2.1
  refine vn_aload_n hX dL_law_268 rfl ?_
  refine vn_aload_n hX dL_law_269 rfl ?_
  refine vn_iload_n hX dL_law_270 rfl ?_
  refine vn_iconst (x := (1 : Int32)) hX dL_law_271 (by decide) ?_
  refine vn_iadd (z := nI (i + 1)) hX dL_law_272 (nI_add i 1) ?_
  refine vn_sld (i := i + 1) hX hL.2.1 hL.2.2.1 hbA (by omega) (by omega) dL_law_273 ?_
  refine vn_aload_n hX dL_law_274 rfl ?_
  refine vn_iload_n hX dL_law_275 rfl ?_
  refine vn_iconst (x := (2 : Int32)) hX dL_law_276 (by decide) ?_
  refine vn_iadd (z := nI (i + 2)) hX dL_law_277 (nI_add i 2) ?_
  refine vn_sld (i := i + 2) hX hL.2.1 hL.2.2.1 hbA (by omega) (by omega) dL_law_278 ?_
  refine vn_callVi (r := (X_set x (xs (i + 1)) (xs (i + 2))).1) (rest := []) (ws' := wX E b ((X_set x (xs (i + 1)) (xs (i + 2))).2) ++ wR E a r) hX (fun sz => c_X5_set l E b sz x (xs (i + 1)) (xs (i + 2))) (cwV 2 hX.2.2.2.2.1 gL_law_X5_set rfl rfl rfl (by decide +kernel) ⟨Nat.le_of_ble_eq_true rfl, Nat.le_of_ble_eq_true rfl⟩) [] (wR E a r) rfl rfl (wX_fst E b _ _) (ci := 5) (q0 := 0) rfl rfl rfl rfl rfl (Nat.le_of_ble_eq_true rfl) ⟨Nat.le_of_ble_eq_true rfl, Nat.le_of_ble_eq_true rfl⟩ dL_law_279 ?_
  refine vn_aload_n hX dL_law_282 rfl ?_
  refine vn_aload_n hX dL_law_283 rfl ?_
  refine vn_iload_n hX dL_law_284 rfl ?_
  refine vn_iconst (x := (1 : Int32)) hX dL_law_285 (by decide) ?_
  refine vn_iadd (z := nI (i + 1)) hX dL_law_286 (nI_add i 1) ?_
  refine vn_sld (i := i + 1) hX hL.2.1 hL.2.2.1 hbA (by omega) (by omega) dL_law_287 ?_
  refine vn_aload_n hX dL_law_288 rfl ?_
  refine vn_iload_n hX dL_law_289 rfl ?_
  refine vn_iconst (x := (2 : Int32)) hX dL_law_290 (by decide) ?_
  refine vn_iadd (z := nI (i + 2)) hX dL_law_291 (nI_add i 2) ?_
  refine vn_sld (i := i + 2) hX hL.2.1 hL.2.2.1 hbA (by omega) (by omega) dL_law_292 ?_
  refine vn_callVi (r := (R_set r (xs (i + 1)) (xs (i + 2))).1) (rest := [.int ((X_set x (xs (i + 1)) (xs (i + 2))).1)]) (ws' := wX E b ((X_set x (xs (i + 1)) (xs (i + 2))).2) ++ wR E a ((R_set r (xs (i + 1)) (xs (i + 2))).2)) hX (fun sz => c_X6_set l E a sz r (xs (i + 1)) (xs (i + 2))) (cwV 2 hX.2.2.2.2.1 gL_law_X6_set rfl rfl rfl (by decide +kernel) ⟨Nat.le_of_ble_eq_true rfl, Nat.le_of_ble_eq_true rfl⟩) (wX E b ((X_set x (xs (i + 1)) (xs (i + 2))).2)) [] ((congrArg (fun z => wX E b ((X_set x (xs (i + 1)) (xs (i + 2))).2) ++ z) (List.append_nil _)).symm) (congrArg (fun z => wX E b ((X_set x (xs (i + 1)) (xs (i + 2))).2) ++ z) (List.append_nil _)) (wR_fst E a _ _) (ci := 6) (q0 := 0) rfl rfl rfl rfl rfl (Nat.le_of_ble_eq_true rfl) ⟨Nat.le_of_ble_eq_true rfl, Nat.le_of_ble_eq_true rfl⟩ dL_law_293 ?_
  exact vn_icmp_eq (tgt := 750) hX dL_law_296 (by decide) (fun _ => k _ _ (sim_set h (xs (i + 1)) (xs (i + 2))).2) (fun c9 => absurd (sim_set h (xs (i + 1)) (xs (i + 2))).1 c9)
set_option maxHeartbeats 4000000 in
theorem law_case5 {p : Program} {l : Launch} {e : Env} {s : State} {m : MethodId} {below : List Frame} {meth : Method} {c : Code} {E : ET} {b0 L : Nat} {xs : Nat → Int32} (hL : LX p s m meth c E b0 L xs) {b : Nat → Nat → Nat} {a : Nat → Nat} {x : XV} {r : RV} (h : XR x r) {i : Nat} (hi : i + 5 ≤ L) (k : ∀ x2 r2, XR x2 r2 → VL p l e s m below meth c E b0 (wX E b x2 ++ wR E a r2) [.ref b0, .ref (b 0 0), .ref (a 0), .int (nI i)] 750 []) : VL p l e s m below meth c E b0 (wX E b x ++ wR E a r) [.ref b0, .ref (b 0 0), .ref (a 0), .int (nI i)] 301 [] := by
  have hX := hL.1
  have hLb := hL.2.2.2
  have hbA : ¬ (fun q : Nat => s.heap.size ≤ q) b0 := Nat.not_le.mpr hL.2.2.1
  refine vn_aload_n hX dL_law_301 rfl ?_
  refine vn_aload_n hX dL_law_302 rfl ?_
  refine vn_iload_n hX dL_law_303 rfl ?_
  refine vn_iconst (x := (1 : Int32)) hX dL_law_304 (by decide) ?_
  refine vn_iadd (z := nI (i + 1)) hX dL_law_305 (nI_add i 1) ?_
  refine vn_sld (i := i + 1) hX hL.2.1 hL.2.2.1 hbA (by omega) (by omega) dL_law_306 ?_
  refine vn_i2c (z := nI ((xs (i + 1)).toBitVec.toNat % 65536)) hX dL_law_307 (pk_char _) ?_
  refine vn_callVi (r := (X_type x ((xs (i + 1)).toBitVec.toNat % 65536)).1) (rest := []) (ws' := wX E b ((X_type x ((xs (i + 1)).toBitVec.toNat % 65536)).2) ++ wR E a r) hX (fun sz => c_X5_type l E b sz x ((xs (i + 1)).toBitVec.toNat % 65536) (Nat.mod_lt _ (by decide))) (cwV 1 hX.2.2.2.2.1 gL_law_X5_type rfl rfl rfl (by decide +kernel) ⟨Nat.le_of_ble_eq_true rfl, Nat.le_of_ble_eq_true rfl⟩) [] (wR E a r) rfl rfl (wX_fst E b _ _) (ci := 5) (q0 := 0) rfl rfl rfl rfl rfl (Nat.le_of_ble_eq_true rfl) ⟨Nat.le_of_ble_eq_true rfl, Nat.le_of_ble_eq_true rfl⟩ dL_law_308 ?_
  refine vn_aload_n hX dL_law_311 rfl ?_
  refine vn_aload_n hX dL_law_312 rfl ?_
  refine vn_iload_n hX dL_law_313 rfl ?_
  refine vn_iconst (x := (1 : Int32)) hX dL_law_314 (by decide) ?_
  refine vn_iadd (z := nI (i + 1)) hX dL_law_315 (nI_add i 1) ?_
  refine vn_sld (i := i + 1) hX hL.2.1 hL.2.2.1 hbA (by omega) (by omega) dL_law_316 ?_
  refine vn_i2c (z := nI ((xs (i + 1)).toBitVec.toNat % 65536)) hX dL_law_317 (pk_char _) ?_
  refine vn_callVi (r := (R_type r ((xs (i + 1)).toBitVec.toNat % 65536)).1) (rest := [.int ((X_type x ((xs (i + 1)).toBitVec.toNat % 65536)).1)]) (ws' := wX E b ((X_type x ((xs (i + 1)).toBitVec.toNat % 65536)).2) ++ wR E a ((R_type r ((xs (i + 1)).toBitVec.toNat % 65536)).2)) hX (fun sz => c_X6_type l E a sz r ((xs (i + 1)).toBitVec.toNat % 65536) (Nat.mod_lt _ (by decide))) (cwV 1 hX.2.2.2.2.1 gL_law_X6_type rfl rfl rfl (by decide +kernel) ⟨Nat.le_of_ble_eq_true rfl, Nat.le_of_ble_eq_true rfl⟩) (wX E b ((X_type x ((xs (i + 1)).toBitVec.toNat % 65536)).2)) [] ((congrArg (fun z => wX E b ((X_type x ((xs (i + 1)).toBitVec.toNat % 65536)).2) ++ z) (List.append_nil _)).symm) (congrArg (fun z => wX E b ((X_type x ((xs (i + 1)).toBitVec.toNat % 65536)).2) ++ z) (List.append_nil _)) (wR_fst E a _ _) (ci := 6) (q0 := 0) rfl rfl rfl rfl rfl (Nat.le_of_ble_eq_true rfl) ⟨Nat.le_of_ble_eq_true rfl, Nat.le_of_ble_eq_true rfl⟩ dL_law_318 ?_
  exact vn_icmp_eq (tgt := 750) hX dL_law_321 (by decide) (fun _ => k _ _ (sim_type h ((xs (i + 1)).toBitVec.toNat % 65536)).2) (fun c9 => absurd (sim_type h ((xs (i + 1)).toBitVec.toNat % 65536)).1 c9)
set_option maxHeartbeats 4000000 in
theorem law_case6 {p : Program} {l : Launch} {e : Env} {s : State} {m : MethodId} {below : List Frame} {meth : Method} {c : Code} {E : ET} {b0 L : Nat} {xs : Nat → Int32} (hL : LX p s m meth c E b0 L xs) {b : Nat → Nat → Nat} {a : Nat → Nat} {x : XV} {r : RV} (h : XR x r) {i : Nat} (hi : i + 5 ≤ L) (k : ∀ x2 r2, XR x2 r2 → VL p l e s m below meth c E b0 (wX E b x2 ++ wR E a r2) [.ref b0, .ref (b 0 0), .ref (a 0), .int (nI i)] 750 []) : VL p l e s m below meth c E b0 (wX E b x ++ wR E a r) [.ref b0, .ref (b 0 0), .ref (a 0), .int (nI i)] 326 [] := by
  have hX := hL.1
  have hLb := hL.2.2.2
  have hbA : ¬ (fun q : Nat => s.heap.size ≤ q) b0 := Nat.not_le.mpr hL.2.2.1
  refine vn_aload_n hX dL_law_326 rfl ?_
  refine vn_callVi (r := (X_clear x).1) (rest := []) (ws' := wX E b ((X_clear x).2) ++ wR E a r) hX (fun sz => c_X5_clearText l E b sz x ) (cwV 0 hX.2.2.2.2.1 gL_law_X5_clearText rfl rfl rfl (by decide +kernel) ⟨Nat.le_of_ble_eq_true rfl, Nat.le_of_ble_eq_true rfl⟩) [] (wR E a r) rfl rfl (wX_fst E b _ _) (ci := 5) (q0 := 0) rfl rfl rfl rfl rfl (Nat.le_of_ble_eq_true rfl) ⟨Nat.le_of_ble_eq_true rfl, Nat.le_of_ble_eq_true rfl⟩ dL_law_327 ?_
  refine vn_aload_n hX dL_law_330 rfl ?_
  refine vn_callVi (r := (R_clear r).1) (rest := [.int ((X_clear x).1)]) (ws' := wX E b ((X_clear x).2) ++ wR E a ((R_clear r).2)) hX (fun sz => c_X6_clearText l E a sz r ) (cwV 0 hX.2.2.2.2.1 gL_law_X6_clearText rfl rfl rfl (by decide +kernel) ⟨Nat.le_of_ble_eq_true rfl, Nat.le_of_ble_eq_true rfl⟩) (wX E b ((X_clear x).2)) [] ((congrArg (fun z => wX E b ((X_clear x).2) ++ z) (List.append_nil _)).symm) (congrArg (fun z => wX E b ((X_clear x).2) ++ z) (List.append_nil _)) (wR_fst E a _ _) (ci := 6) (q0 := 0) rfl rfl rfl rfl rfl (Nat.le_of_ble_eq_true rfl) ⟨Nat.le_of_ble_eq_true rfl, Nat.le_of_ble_eq_true rfl⟩ dL_law_331 ?_
  exact vn_icmp_eq (tgt := 750) hX dL_law_334 (by decide) (fun _ => k _ _ (sim_clear h ).2) (fun c9 => absurd (sim_clear h ).1 c9)
set_option maxHeartbeats 4000000 in
theorem law_case7 {p : Program} {l : Launch} {e : Env} {s : State} {m : MethodId} {below : List Frame} {meth : Method} {c : Code} {E : ET} {b0 L : Nat} {xs : Nat → Int32} (hL : LX p s m meth c E b0 L xs) {b : Nat → Nat → Nat} {a : Nat → Nat} {x : XV} {r : RV} (h : XR x r) {i : Nat} (hi : i + 5 ≤ L) (k : ∀ x2 r2, XR x2 r2 → VL p l e s m below meth c E b0 (wX E b x2 ++ wR E a r2) [.ref b0, .ref (b 0 0), .ref (a 0), .int (nI i)] 750 []) : VL p l e s m below meth c E b0 (wX E b x ++ wR E a r) [.ref b0, .ref (b 0 0), .ref (a 0), .int (nI i)] 339 [] := by
  have hX := hL.1
  have hLb := hL.2.2.2
  have hbA : ¬ (fun q : Nat => s.heap.size ≤ q) b0 := Nat.not_le.mpr hL.2.2.1
  refine vn_aload_n hX dL_law_339 rfl ?_
  refine vn_callVi (r := (X_perform x).1) (rest := []) (ws' := wX E b ((X_perform x).2) ++ wR E a r) hX (fun sz => c_X5_perform l E b sz x ) (cwV 0 hX.2.2.2.2.1 gL_law_X5_perform rfl rfl rfl (by decide +kernel) ⟨Nat.le_of_ble_eq_true rfl, Nat.le_of_ble_eq_true rfl⟩) [] (wR E a r) rfl rfl (wX_fst E b _ _) (ci := 5) (q0 := 0) rfl rfl rfl rfl rfl (Nat.le_of_ble_eq_true rfl) ⟨Nat.le_of_ble_eq_true rfl, Nat.le_of_ble_eq_true rfl⟩ dL_law_340 ?_
  refine vn_aload_n hX dL_law_343 rfl ?_
  refine vn_callVi (r := (R_perform r).1) (rest := [.int ((X_perform x).1)]) (ws' := wX E b ((X_perform x).2) ++ wR E a ((R_perform r).2)) hX (fun sz => c_X6_perform l E a sz r ) (cwV 0 hX.2.2.2.2.1 gL_law_X6_perform rfl rfl rfl (by decide +kernel) ⟨Nat.le_of_ble_eq_true rfl, Nat.le_of_ble_eq_true rfl⟩) (wX E b ((X_perform x).2)) [] ((congrArg (fun z => wX E b ((X_perform x).2) ++ z) (List.append_nil _)).symm) (congrArg (fun z => wX E b ((X_perform x).2) ++ z) (List.append_nil _)) (wR_fst E a _ _) (ci := 6) (q0 := 0) rfl rfl rfl rfl rfl (Nat.le_of_ble_eq_true rfl) ⟨Nat.le_of_ble_eq_true rfl, Nat.le_of_ble_eq_true rfl⟩ dL_law_344 ?_
  exact vn_icmp_eq (tgt := 750) hX dL_law_347 (by decide) (fun _ => k _ _ (sim_perform h ).2) (fun c9 => absurd (sim_perform h ).1 c9)
