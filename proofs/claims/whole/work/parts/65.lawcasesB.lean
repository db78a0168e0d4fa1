set_option maxHeartbeats 4000000 in
theorem law_case8 {p : Program} {l : Launch} {e : Env} {s : State} {m : MethodId} {below : List Frame} {meth : Method} {c : Code} {E : ET} {b0 L : Nat} {xs : Nat → Int32} (hL : LX p s m meth c E b0 L xs) {b : Nat → Nat → Nat} {a : Nat → Nat} {x : XV} {r : RV} (h : XR x r) {i : Nat} (hi : i + 5 ≤ L) (k : ∀ x2 r2, XR x2 r2 → VL p l e s m below meth c E b0 (wX E b x2 ++ wR E a r2) [.ref b0, .ref (b 0 0), .ref (a 0), .int (nI i)] 750 []) : VL p l e s m below meth c E b0 (wX E b x ++ wR E a r) [.ref b0, .ref (b 0 0), .ref (a 0), .int (nI i)] 352 [] := by
  have hX := hL.1
  have hLb := hL.2.2.2
  have hbA : ¬ (fun q : Nat => s.heap.size ≤ q) b0 := Nat.not_le.mpr hL.2.2.1
  refine vn_aload_n hX dL_law_352 rfl ?_
  refine vn_aload_n hX dL_law_353 rfl ?_
  refine vn_iload_n hX dL_law_354 rfl ?_
  refine vn_iconst (x := (1 : Int32)) hX dL_law_355 (by decide) ?_
  refine vn_iadd (z := nI (i + 1)) hX dL_law_356 (nI_add i 1) ?_
  refine vn_sld (i := i + 1) hX hL.2.1 hL.2.2.1 hbA (by omega) (by omega) dL_law_357 ?_
  refine vn_callVi (r := X_stopped x (xs (i + 1))) (rest := []) (ws' := wX E b x ++ wR E a r) hX (fun sz => c_X5_stopped l E b sz x (xs (i + 1))) (cwV 1 hX.2.2.2.2.1 gL_law_X5_stopped rfl rfl rfl (by decide +kernel) ⟨Nat.le_of_ble_eq_true rfl, Nat.le_of_ble_eq_true rfl⟩) [] (wR E a r) rfl rfl (wX_fst E b _ _) (ci := 5) (q0 := 0) rfl rfl rfl rfl rfl (Nat.le_of_ble_eq_true rfl) ⟨Nat.le_of_ble_eq_true rfl, Nat.le_of_ble_eq_true rfl⟩ dL_law_358 ?_
  refine vn_aload_n hX dL_law_361 rfl ?_
  refine vn_aload_n hX dL_law_362 rfl ?_
  refine vn_iload_n hX dL_law_363 rfl ?_
  refine vn_iconst (x := (1 : Int32)) hX dL_law_364 (by decide) ?_
  refine vn_iadd (z := nI (i + 1)) hX dL_law_365 (nI_add i 1) ?_
  refine vn_sld (i := i + 1) hX hL.2.1 hL.2.2.1 hbA (by omega) (by omega) dL_law_366 ?_
  refine vn_callVi (r := R_stopped r (xs (i + 1))) (rest := [.int (X_stopped x (xs (i + 1)))]) (ws' := wX E b x ++ wR E a r) hX (fun sz => c_X6_stopped l E a sz r (xs (i + 1))) (cwV 1 hX.2.2.2.2.1 gL_law_X6_stopped rfl rfl rfl (by decide +kernel) ⟨Nat.le_of_ble_eq_true rfl, Nat.le_of_ble_eq_true rfl⟩) (wX E b x) [] ((congrArg (fun z => wX E b x ++ z) (List.append_nil _)).symm) (congrArg (fun z => wX E b x ++ z) (List.append_nil _)) (wR_fst E a _ _) (ci := 6) (q0 := 0) rfl rfl rfl rfl rfl (Nat.le_of_ble_eq_true rfl) ⟨Nat.le_of_ble_eq_true rfl, Nat.le_of_ble_eq_true rfl⟩ dL_law_367 ?_
  exact vn_icmp_eq (tgt := 750) hX dL_law_370 (by decide) (fun _ => k _ _ h) (fun c9 => absurd (sim_stopped h (xs (i + 1))) c9)
set_option maxHeartbeats 4000000 in
theorem law_case9 {p : Program} {l : Launch} {e : Env} {s : State} {m : MethodId} {below : List Frame} {meth : Method} {c : Code} {E : ET} {b0 L : Nat} {xs : Nat → Int32} (hL : LX p s m meth c E b0 L xs) {b : Nat → Nat → Nat} {a : Nat → Nat} {x : XV} {r : RV} (h : XR x r) {i : Nat} (hi : i + 5 ≤ L) (k : ∀ x2 r2, XR x2 r2 → VL p l e s m below meth c E b0 (wX E b x2 ++ wR E a r2) [.ref b0, .ref (b 0 0), .ref (a 0), .int (nI i)] 750 []) : VL p l e s m below meth c E b0 (wX E b x ++ wR E a r) [.ref b0, .ref (b 0 0), .ref (a 0), .int (nI i)] 375 [] := by
  have hX := hL.1
  have hLb := hL.2.2.2
  have hbA : ¬ (fun q : Nat => s.heap.size ≤ q) b0 := Nat.not_le.mpr hL.2.2.1
  refine vn_aload_n hX dL_law_375 rfl ?_
  refine vn_callVi (r := (X_undo x).1) (rest := []) (ws' := wX E b ((X_undo x).2) ++ wR E a r) hX (fun sz => c_X5_undo l E b sz x ) (cwV 0 hX.2.2.2.2.1 gL_law_X5_undo rfl rfl rfl (by decide +kernel) ⟨Nat.le_of_ble_eq_true rfl, Nat.le_of_ble_eq_true rfl⟩) [] (wR E a r) rfl rfl (wX_fst E b _ _) (ci := 5) (q0 := 0) rfl rfl rfl rfl rfl (Nat.le_of_ble_eq_true rfl) ⟨Nat.le_of_ble_eq_true rfl, Nat.le_of_ble_eq_true rfl⟩ dL_law_376 ?_
  refine vn_aload_n hX dL_law_379 rfl ?_
  refine vn_callVi (r := (R_undo r).1) (rest := [.int ((X_undo x).1)]) (ws' := wX E b ((X_undo x).2) ++ wR E a ((R_undo r).2)) hX (fun sz => c_X6_undo l E a sz r ) (cwV 0 hX.2.2.2.2.1 gL_law_X6_undo rfl rfl rfl (by decide +kernel) ⟨Nat.le_of_ble_eq_true rfl, Nat.le_of_ble_eq_true rfl⟩) (wX E b ((X_undo x).2)) [] ((congrArg (fun z => wX E b ((X_undo x).2) ++ z) (List.append_nil _)).symm) (congrArg (fun z => wX E b ((X_undo x).2) ++ z) (List.append_nil _)) (wR_fst E a _ _) (ci := 6) (q0 := 0) rfl rfl rfl rfl rfl (Nat.le_of_ble_eq_true rfl) ⟨Nat.le_of_ble_eq_true rfl, Nat.le_of_ble_eq_true rfl⟩ dL_law_380 ?_
  exact vn_icmp_eq (tgt := 750) hX dL_law_383 (by decide) (fun _ => k _ _ (sim_undo h ).2) (fun c9 => absurd (sim_undo h ).1 c9)
set_option maxHeartbeats 4000000 in
theorem law_case10 {p : Program} {l : Launch} {e : Env} {s : State} {m : MethodId} {below : List Frame} {meth : Method} {c : Code} {E : ET} {b0 L : Nat} {xs : Nat → Int32} (hL : LX p s m meth c E b0 L xs) {b : Nat → Nat → Nat} {a : Nat → Nat} {x : XV} {r : RV} (h : XR x r) {i : Nat} (hi : i + 5 ≤ L) (k : ∀ x2 r2, XR x2 r2 → VL p l e s m below meth c E b0 (wX E b x2 ++ wR E a r2) [.ref b0, .ref (b 0 0), .ref (a 0), .int (nI i)] 750 []) : VL p l e s m below meth c E b0 (wX E b x ++ wR E a r) [.ref b0, .ref (b 0 0), .ref (a 0), .int (nI i)] 388 [] := by
  have hX := hL.1
  have hLb := hL.2.2.2
  have hbA : ¬ (fun q : Nat => s.heap.size ≤ q) b0 := Nat.not_le.mpr hL.2.2.1
  refine vn_aload_n hX dL_law_388 rfl ?_
  refine vn_callVi (r := (X_keep x).1) (rest := []) (ws' := wX E b ((X_keep x).2) ++ wR E a r) hX (fun sz => c_X5_keep l E b sz x ) (cwV 0 hX.2.2.2.2.1 gL_law_X5_keep rfl rfl rfl (by decide +kernel) ⟨Nat.le_of_ble_eq_true rfl, Nat.le_of_ble_eq_true rfl⟩) [] (wR E a r) rfl rfl (wX_fst E b _ _) (ci := 5) (q0 := 0) rfl rfl rfl rfl rfl (Nat.le_of_ble_eq_true rfl) ⟨Nat.le_of_ble_eq_true rfl, Nat.le_of_ble_eq_true rfl⟩ dL_law_389 ?_
  refine vn_aload_n hX dL_law_392 rfl ?_
  refine vn_callVi (r := Q_all r.1) (rest := [.int ((X_keep x).1)]) (ws' := wX E b ((X_keep x).2) ++ wR E a (R_keep r)) hX (fun sz => c_X6_keep l E a sz r ) (cwV 0 hX.2.2.2.2.1 gL_law_X6_keep rfl rfl rfl (by decide +kernel) ⟨Nat.le_of_ble_eq_true rfl, Nat.le_of_ble_eq_true rfl⟩) (wX E b ((X_keep x).2)) [] ((congrArg (fun z => wX E b ((X_keep x).2) ++ z) (List.append_nil _)).symm) (congrArg (fun z => wX E b ((X_keep x).2) ++ z) (List.append_nil _)) (wR_fst E a _ _) (ci := 6) (q0 := 0) rfl rfl rfl rfl rfl (Nat.le_of_ble_eq_true rfl) ⟨Nat.le_of_ble_eq_true rfl, Nat.le_of_ble_eq_true rfl⟩ dL_law_393 ?_
  exact vn_icmp_eq (tgt := 750) hX dL_law_396 (by decide) (fun _ => k _ _ (sim_keep h ).2) (fun c9 => absurd (sim_keep h ).1 c9)
set_option maxHeartbeats 4000000 in
theorem law_case11 {p : Program} {l : Launch} {e : Env} {s : State} {m : MethodId} {below : List Frame} {meth : Method} {c : Code} {E : ET} {b0 L : Nat} {xs : Nat → Int32} (hL : LX p s m meth c E b0 L xs) {b : Nat → Nat → Nat} {a : Nat → Nat} {x : XV} {r : RV} (h : XR x r) {i : Nat} (hi : i + 5 ≤ L) (k : ∀ x2 r2, XR x2 r2 → VL p l e s m below meth c E b0 (wX E b x2 ++ wR E a r2) [.ref b0, .ref (b 0 0), .ref (a 0), .int (nI i)] 750 []) : VL p l e s m below meth c E b0 (wX E b x ++ wR E a r) [.ref b0, .ref (b 0 0), .ref (a 0), .int (nI i)] 401 [] := by
  have hX := hL.1
  have hLb := hL.2.2.2
  have hbA : ¬ (fun q : Nat => s.heap.size ≤ q) b0 := Nat.not_le.mpr hL.2.2.1
  refine vn_aload_n hX dL_law_401 rfl ?_
  refine vn_callVi (r := (X_restore x).1) (rest := []) (ws' := wX E b ((X_restore x).2) ++ wR E a r) hX (fun sz => c_X5_restore l E b sz x ) (cwV 0 hX.2.2.2.2.1 gL_law_X5_restore rfl rfl rfl (by decide +kernel) ⟨Nat.le_of_ble_eq_true rfl, Nat.le_of_ble_eq_true rfl⟩) [] (wR E a r) rfl rfl (wX_fst E b _ _) (ci := 5) (q0 := 0) rfl rfl rfl rfl rfl (Nat.le_of_ble_eq_true rfl) ⟨Nat.le_of_ble_eq_true rfl, Nat.le_of_ble_eq_true rfl⟩ dL_law_402 ?_
  refine vn_aload_n hX dL_law_405 rfl ?_
  refine vn_callVi (r := (R_restore r).1) (rest := [.int ((X_restore x).1)]) (ws' := wX E b ((X_restore x).2) ++ wR E a ((R_restore r).2)) hX (fun sz => c_X6_restore l E a sz r ) (cwV 0 hX.2.2.2.2.1 gL_law_X6_restore rfl rfl rfl (by decide +kernel) ⟨Nat.le_of_ble_eq_true rfl, Nat.le_of_ble_eq_true rfl⟩) (wX E b ((X_restore x).2)) [] ((congrArg (fun z => wX E b ((X_restore x).2) ++ z) (List.append_nil _)).symm) (congrArg (fun z => wX E b ((X_restore x).2) ++ z) (List.append_nil _)) (wR_fst E a _ _) (ci := 6) (q0 := 0) rfl rfl rfl rfl rfl (Nat.le_of_ble_eq_true rfl) ⟨Nat.le_of_ble_eq_true rfl, Nat.le_of_ble_eq_true rfl⟩ dL_law_406 ?_
  exact vn_icmp_eq (tgt := 750) hX dL_law_409 (by decide) (fun _ => k _ _ (sim_restore h ).2) (fun c9 => absurd (sim_restore h ).1 c9)
set_option maxHeartbeats 4000000 in
theorem law_case12 {p : Program} {l : Launch} {e : Env} {s : State} {m : MethodId} {below : List Frame} {meth : Method} {c : Code} {E : ET} {b0 L : Nat} {xs : Nat → Int32} (hL : LX p s m meth c E b0 L xs) {b : Nat → Nat → Nat} {a : Nat → Nat} {x : XV} {r : RV} (h : XR x r) {i : Nat} (hi : i + 5 ≤ L) (k : ∀ x2 r2, XR x2 r2 → VL p l e s m below meth c E b0 (wX E b x2 ++ wR E a r2) [.ref b0, .ref (b 0 0), .ref (a 0), .int (nI i)] 750 []) : VL p l e s m below meth c E b0 (wX E b x ++ wR E a r) [.ref b0, .ref (b 0 0), .ref (a 0), .int (nI i)] 414 [] := by
  have hX := hL.1
  have hLb := hL.2.2.2
  have hbA : ¬ (fun q : Nat => s.heap.size ≤ q) b0 := Nat.not_le.mpr hL.2.2.1
  refine vn_aload_n hX dL_law_414 rfl ?_
  refine vn_aload_n hX dL_law_415 rfl ?_
  refine vn_iload_n hX dL_law_416 rfl ?_
  refine vn_iconst (x := (1 : Int32)) hX dL_law_417 (by decide) ?_
  refine vn_iadd (z := nI (i + 1)) hX dL_law_418 (nI_add i 1) ?_
  refine vn_sld (i := i + 1) hX hL.2.1 hL.2.2.1 hbA (by omega) (by omega) dL_law_419 ?_
  refine vn_aload_n hX dL_law_420 rfl ?_
  refine vn_iload_n hX dL_law_421 rfl ?_
  refine vn_iconst (x := (2 : Int32)) hX dL_law_422 (by decide) ?_
  refine vn_iadd (z := nI (i + 2)) hX dL_law_423 (nI_add i 2) ?_
  refine vn_sld (i := i + 2) hX hL.2.1 hL.2.2.1 hbA (by omega) (by omega) dL_law_424 ?_
  refine vn_callVi (r := X_core x (xs (i + 1)) (xs (i + 2))) (rest := []) (ws' := wX E b x ++ wR E a r) hX (fun sz => c_X5_core l E b sz x (xs (i + 1)) (xs (i + 2))) (cwV 2 hX.2.2.2.2.1 gL_law_X5_core rfl rfl rfl (by decide +kernel) ⟨Nat.le_of_ble_eq_true rfl, Nat.le_of_ble_eq_true rfl⟩) [] (wR E a r) rfl rfl (wX_fst E b _ _) (ci := 5) (q0 := 0) rfl rfl rfl rfl rfl (Nat.le_of_ble_eq_true rfl) ⟨Nat.le_of_ble_eq_true rfl, Nat.le_of_ble_eq_true rfl⟩ dL_law_425 ?_
  refine vn_aload_n hX dL_law_428 rfl ?_
  refine vn_aload_n hX dL_law_429 rfl ?_
  refine vn_iload_n hX dL_law_430 rfl ?_
  refine vn_iconst (x := (1 : Int32)) hX dL_law_431 (by decide) ?_
  refine vn_iadd (z := nI (i + 1)) hX dL_law_432 (nI_add i 1) ?_
  refine vn_sld (i := i + 1) hX hL.2.1 hL.2.2.1 hbA (by omega) (by omega) dL_law_433 ?_
  refine vn_aload_n hX dL_law_434 rfl ?_
  refine vn_iload_n hX dL_law_435 rfl ?_
  refine vn_iconst (x := (2 : Int32)) hX dL_law_436 (by decide) ?_
  refine vn_iadd (z := nI (i + 2)) hX dL_law_437 (nI_add i 2) ?_
  refine vn_sld (i := i + 2) hX hL.2.1 hL.2.2.1 hbA (by omega) (by omega) dL_law_438 ?_
  refine vn_callVi (r := R_core r (xs (i + 1)) (xs (i + 2))) (rest := [.int (X_core x (xs (i + 1)) (xs (i + 2)))]) (ws' := wX E b x ++ wR E a r) hX (fun sz => c_X6_core l E a sz r (xs (i + 1)) (xs (i + 2))) (cwV 2 hX.2.2.2.2.1 gL_law_X6_core rfl rfl rfl (by decide +kernel) ⟨Nat.le_of_ble_eq_true rfl, Nat.le_of_ble_eq_true rfl⟩) (wX E b x) [] ((congrArg (fun z => wX E b x ++ z) (List.append_nil _)).symm) (congrArg (fun z => wX E b x ++ z) (List.append_nil _)) (wR_fst E a _ _) (ci := 6) (q0 := 0) rfl rfl rfl rfl rfl (Nat.le_of_ble_eq_true rfl) ⟨Nat.le_of_ble_eq_true rfl, Nat.le_of_ble_eq_true rfl⟩ dL_law_439 ?_
  exact vn_icmp_eq (tgt := 750) hX dL_law_442 (by decide) (fun _ => k _ _ h) (fun c9 => absurd (sim_core h (xs (i + 1)) (xs (i + 2))) c9)
set_option maxHeartbeats 4000000 in
theorem law_case13 {p : Program} {l : Launch} {e : Env} {s : State} {m : MethodId} {below : List Frame} {meth : Method} {c : Code} {E : ET} {b0 L : Nat} {xs : Nat → Int32} (hL : LX p s m meth c E b0 L xs) {b : Nat → Nat → Nat} {a : Nat → Nat} {x : XV} {r : RV} (h : XR x r) {i : Nat} (hi : i + 5 ≤ L) (k : ∀ x2 r2, XR x2 r2 → VL p l e s m below meth c E b0 (wX E b x2 ++ wR E a r2) [.ref b0, .ref (b 0 0), .ref (a 0), .int (nI i)] 750 []) : VL p l e s m below meth c E b0 (wX E b x ++ wR E a r) [.ref b0, .ref (b 0 0), .ref (a 0), .int (nI i)] 447 [] := by
  have hX := hL.1
  have hLb := hL.2.2.2
  have hbA : ¬ (fun q : Nat => s.heap.size ≤ q) b0 := Nat.not_le.mpr hL.2.2.1
  refine vn_aload_n hX dL_law_447 rfl ?_
  refine vn_aload_n hX dL_law_448 rfl ?_
  refine vn_iload_n hX dL_law_449 rfl ?_
  refine vn_iconst (x := (1 : Int32)) hX dL_law_450 (by decide) ?_
  refine vn_iadd (z := nI (i + 1)) hX dL_law_451 (nI_add i 1) ?_
  refine vn_sld (i := i + 1) hX hL.2.1 hL.2.2.1 hbA (by omega) (by omega) dL_law_452 ?_
  refine vn_aload_n hX dL_law_453 rfl ?_
  refine vn_iload_n hX dL_law_454 rfl ?_
  refine vn_iconst (x := (2 : Int32)) hX dL_law_455 (by decide) ?_
  refine vn_iadd (z := nI (i + 2)) hX dL_law_456 (nI_add i 2) ?_
  refine vn_sld (i := i + 2) hX hL.2.1 hL.2.2.1 hbA (by omega) (by omega) dL_law_457 ?_
  refine vn_aload_n hX dL_law_458 rfl ?_
  refine vn_iload_n hX dL_law_459 rfl ?_
  refine vn_iconst (x := (3 : Int32)) hX dL_law_460 (by decide) ?_
  refine vn_iadd (z := nI (i + 3)) hX dL_law_461 (nI_add i 3) ?_
  refine vn_sld (i := i + 3) hX hL.2.1 hL.2.2.1 hbA (by omega) (by omega) dL_law_462 ?_
  refine vn_callVi (r := X_held x (xs (i + 1)) (xs (i + 2)) (xs (i + 3))) (rest := []) (ws' := wX E b x ++ wR E a r) hX (fun sz => c_X5_held l E b sz x (xs (i + 1)) (xs (i + 2)) (xs (i + 3))) (cwV 3 hX.2.2.2.2.1 gL_law_X5_held rfl rfl rfl (by decide +kernel) ⟨Nat.le_of_ble_eq_true rfl, Nat.le_of_ble_eq_true rfl⟩) [] (wR E a r) rfl rfl (wX_fst E b _ _) (ci := 5) (q0 := 0) rfl rfl rfl rfl rfl (Nat.le_of_ble_eq_true rfl) ⟨Nat.le_of_ble_eq_true rfl, Nat.le_of_ble_eq_true rfl⟩ dL_law_463 ?_
  refine vn_aload_n hX dL_law_466 rfl ?_
  refine vn_aload_n hX dL_law_467 rfl ?_
  refine vn_iload_n hX dL_law_468 rfl ?_
  refine vn_iconst (x := (1 : Int32)) hX dL_law_469 (by decide) ?_
  refine vn_iadd (z := nI (i + 1)) hX dL_law_470 (nI_add i 1) ?_
  refine vn_sld (i := i + 1) hX hL.2.1 hL.2.2.1 hbA (by omega) (by omega) dL_law_471 ?_
  refine vn_aload_n hX dL_law_472 rfl ?_
  refine vn_iload_n hX dL_law_473 rfl ?_
  refine vn_iconst (x := (2 : Int32)) hX dL_law_474 (by decide) ?_
  refine vn_iadd (z := nI (i + 2)) hX dL_law_475 (nI_add i 2) ?_
  refine vn_sld (i := i + 2) hX hL.2.1 hL.2.2.1 hbA (by omega) (by omega) dL_law_476 ?_
  refine vn_aload_n hX dL_law_477 rfl ?_
  refine vn_iload_n hX dL_law_478 rfl ?_
  refine vn_iconst (x := (3 : Int32)) hX dL_law_479 (by decide) ?_
  refine vn_iadd (z := nI (i + 3)) hX dL_law_480 (nI_add i 3) ?_
  refine vn_sld (i := i + 3) hX hL.2.1 hL.2.2.1 hbA (by omega) (by omega) dL_law_481 ?_
  refine vn_callVi (r := R_held r (xs (i + 1)) (xs (i + 2)) (xs (i + 3))) (rest := [.int (X_held x (xs (i + 1)) (xs (i + 2)) (xs (i + 3)))]) (ws' := wX E b x ++ wR E a r) hX (fun sz => c_X6_held l E a sz r (xs (i + 1)) (xs (i + 2)) (xs (i + 3))) (cwV 3 hX.2.2.2.2.1 gL_law_X6_held rfl rfl rfl (by decide +kernel) ⟨Nat.le_of_ble_eq_true rfl, Nat.le_of_ble_eq_true rfl⟩) (wX E b x) [] ((congrArg (fun z => wX E b x ++ z) (List.append_nil _)).symm) (congrArg (fun z => wX E b x ++ z) (List.append_nil _)) (wR_fst E a _ _) (ci := 6) (q0 := 0) rfl rfl rfl rfl rfl (Nat.le_of_ble_eq_true rfl) ⟨Nat.le_of_ble_eq_true rfl, Nat.le_of_ble_eq_true rfl⟩ dL_law_482 ?_
  exact vn_icmp_eq (tgt := 750) hX dL_law_485 (by decide) (fun _ => k _ _ h) (fun c9 => absurd (sim_held h (xs (i + 1)) (xs (i + 2)) (xs (i + 3))) c9)
set_option maxHeartbeats 4000000 in
theorem law_case14 {p : Program} {l : Launch} {e : Env} {s : State} {m : MethodId} {below : List Frame} {meth : Method} {c : Code} {E : ET} {b0 L : Nat} {xs : Nat → Int32} (hL : LX p s m meth c E b0 L xs) {b : Nat → Nat → Nat} {a : Nat → Nat} {x : XV} {r : RV} (h : XR x r) {i : Nat} (hi : i + 5 ≤ L) (k : ∀ x2 r2, XR x2 r2 → VL p l e s m below meth c E b0 (wX E b x2 ++ wR E a r2) [.ref b0, .ref (b 0 0), .ref (a 0), .int (nI i)] 750 []) : VL p l e s m below meth c E b0 (wX E b x ++ wR E a r) [.ref b0, .ref (b 0 0), .ref (a 0), .int (nI i)] 490 [] := by
  have hX := hL.1
  have hLb := hL.2.2.2
  have hbA : ¬ (fun q : Nat => s.heap.size ≤ q) b0 := Nat.not_le.mpr hL.2.2.1
  refine vn_aload_n hX dL_law_490 rfl ?_
  refine vn_aload_n hX dL_law_491 rfl ?_
  refine vn_iload_n hX dL_law_492 rfl ?_
  refine vn_iconst (x := (1 : Int32)) hX dL_law_493 (by decide) ?_
  refine vn_iadd (z := nI (i + 1)) hX dL_law_494 (nI_add i 1) ?_
  refine vn_sld (i := i + 1) hX hL.2.1 hL.2.2.1 hbA (by omega) (by omega) dL_law_495 ?_
  refine vn_aload_n hX dL_law_496 rfl ?_
  refine vn_iload_n hX dL_law_497 rfl ?_
  refine vn_iconst (x := (2 : Int32)) hX dL_law_498 (by decide) ?_
  refine vn_iadd (z := nI (i + 2)) hX dL_law_499 (nI_add i 2) ?_
  refine vn_sld (i := i + 2) hX hL.2.1 hL.2.2.1 hbA (by omega) (by omega) dL_law_500 ?_
  refine vn_callVi (r := X_counter x (xs (i + 1)) (xs (i + 2))) (rest := []) (ws' := wX E b x ++ wR E a r) hX (fun sz => c_X5_counter l E b sz x (xs (i + 1)) (xs (i + 2))) (cwV 2 hX.2.2.2.2.1 gL_law_X5_counter rfl rfl rfl (by decide +kernel) ⟨Nat.le_of_ble_eq_true rfl, Nat.le_of_ble_eq_true rfl⟩) [] (wR E a r) rfl rfl (wX_fst E b _ _) (ci := 5) (q0 := 0) rfl rfl rfl rfl rfl (Nat.le_of_ble_eq_true rfl) ⟨Nat.le_of_ble_eq_true rfl, Nat.le_of_ble_eq_true rfl⟩ dL_law_501 ?_
  refine vn_aload_n hX dL_law_504 rfl ?_
  refine vn_aload_n hX dL_law_505 rfl ?_
  refine vn_iload_n hX dL_law_506 rfl ?_
  refine vn_iconst (x := (1 : Int32)) hX dL_law_507 (by decide) ?_
  refine vn_iadd (z := nI (i + 1)) hX dL_law_508 (nI_add i 1) ?_
  refine vn_sld (i := i + 1) hX hL.2.1 hL.2.2.1 hbA (by omega) (by omega) dL_law_509 ?_
  refine vn_aload_n hX dL_law_510 rfl ?_
  refine vn_iload_n hX dL_law_511 rfl ?_
  refine vn_iconst (x := (2 : Int32)) hX dL_law_512 (by decide) ?_
  refine vn_iadd (z := nI (i + 2)) hX dL_law_513 (nI_add i 2) ?_
  refine vn_sld (i := i + 2) hX hL.2.1 hL.2.2.1 hbA (by omega) (by omega) dL_law_514 ?_
  refine vn_callVi (r := R_counter r (xs (i + 1)) (xs (i + 2))) (rest := [.int (X_counter x (xs (i + 1)) (xs (i + 2)))]) (ws' := wX E b x ++ wR E a r) hX (fun sz => c_X6_counter l E a sz r (xs (i + 1)) (xs (i + 2))) (cwV 2 hX.2.2.2.2.1 gL_law_X6_counter rfl rfl rfl (by decide +kernel) ⟨Nat.le_of_ble_eq_true rfl, Nat.le_of_ble_eq_true rfl⟩) (wX E b x) [] ((congrArg (fun z => wX E b x ++ z) (List.append_nil _)).symm) (congrArg (fun z => wX E b x ++ z) (List.append_nil _)) (wR_fst E a _ _) (ci := 6) (q0 := 0) rfl rfl rfl rfl rfl (Nat.le_of_ble_eq_true rfl) ⟨Nat.le_of_ble_eq_true rfl, Nat.le_of_ble_eq_true rfl⟩ dL_law_515 ?_
  exact vn_icmp_eq (tgt := 750) hX dL_law_518 (by decide) (fun _ => k _ _ h) (fun c9 => absurd (sim_counter h (xs (i + 1)) (xs (i + 2))) c9)
set_option maxHeartbeats 4000000 in
theorem law_case15 {p : Program} {l : Launch} {e : Env} {s : State} {m : MethodId} {below : List Frame} {meth : Method} {c : Code} {E : ET} {b0 L : Nat} {xs : Nat → Int32} (hL : LX p s m meth c E b0 L xs) {b : Nat → Nat → Nat} {a : Nat → Nat} {x : XV} {r : RV} (h : XR x r) {i : Nat} (hi : i + 5 ≤ L) (k : ∀ x2 r2, XR x2 r2 → VL p l e s m below meth c E b0 (wX E b x2 ++ wR E a r2) [.ref b0, .ref (b 0 0), .ref (a 0), .int (nI i)] 750 []) : VL p l e s m below meth c E b0 (wX E b x ++ wR E a r) [.ref b0, .ref (b 0 0), .ref (a 0), .int (nI i)] 523 [] := by
  have hX := hL.1
  have hLb := hL.2.2.2
  have hbA : ¬ (fun q : Nat => s.heap.size ≤ q) b0 := Nat.not_le.mpr hL.2.2.1
  refine vn_aload_n hX dL_law_523 rfl ?_
  refine vn_aload_n hX dL_law_524 rfl ?_
  refine vn_iload_n hX dL_law_525 rfl ?_
  refine vn_iconst (x := (1 : Int32)) hX dL_law_526 (by decide) ?_
  refine vn_iadd (z := nI (i + 1)) hX dL_law_527 (nI_add i 1) ?_
  refine vn_sld (i := i + 1) hX hL.2.1 hL.2.2.1 hbA (by omega) (by omega) dL_law_528 ?_
  refine vn_aload_n hX dL_law_529 rfl ?_
  refine vn_iload_n hX dL_law_530 rfl ?_
  refine vn_iconst (x := (2 : Int32)) hX dL_law_531 (by decide) ?_
  refine vn_iadd (z := nI (i + 2)) hX dL_law_532 (nI_add i 2) ?_
  refine vn_sld (i := i + 2) hX hL.2.1 hL.2.2.1 hbA (by omega) (by omega) dL_law_533 ?_
  refine vn_callVi (r := X_bit x (xs (i + 1)) (xs (i + 2))) (rest := []) (ws' := wX E b x ++ wR E a r) hX (fun sz => c_X5_bit l E b sz x (xs (i + 1)) (xs (i + 2))) (cwV 2 hX.2.2.2.2.1 gL_law_X5_bit rfl rfl rfl (by decide +kernel) ⟨Nat.le_of_ble_eq_true rfl, Nat.le_of_ble_eq_true rfl⟩) [] (wR E a r) rfl rfl (wX_fst E b _ _) (ci := 5) (q0 := 0) rfl rfl rfl rfl rfl (Nat.le_of_ble_eq_true rfl) ⟨Nat.le_of_ble_eq_true rfl, Nat.le_of_ble_eq_true rfl⟩ dL_law_534 ?_
  refine vn_aload_n hX dL_law_537 rfl ?_
  refine vn_aload_n hX dL_law_538 rfl ?_
  refine vn_iload_n hX dL_law_539 rfl ?_
  refine vn_iconst (x := (1 : Int32)) hX dL_law_540 (by decide) ?_
  refine vn_iadd (z := nI (i + 1)) hX dL_law_541 (nI_add i 1) ?_
  refine vn_sld (i := i + 1) hX hL.2.1 hL.2.2.1 hbA (by omega) (by omega) dL_law_542 ?_
  refine vn_aload_n hX dL_law_543 rfl ?_
  refine vn_iload_n hX dL_law_544 rfl ?_
  refine vn_iconst (x := (2 : Int32)) hX dL_law_545 (by decide) ?_
  refine vn_iadd (z := nI (i + 2)) hX dL_law_546 (nI_add i 2) ?_
  refine vn_sld (i := i + 2) hX hL.2.1 hL.2.2.1 hbA (by omega) (by omega) dL_law_547 ?_
  refine vn_callVi (r := R_bit r (xs (i + 1)) (xs (i + 2))) (rest := [.int (X_bit x (xs (i + 1)) (xs (i + 2)))]) (ws' := wX E b x ++ wR E a r) hX (fun sz => c_X6_bit l E a sz r (xs (i + 1)) (xs (i + 2))) (cwV 2 hX.2.2.2.2.1 gL_law_X6_bit rfl rfl rfl (by decide +kernel) ⟨Nat.le_of_ble_eq_true rfl, Nat.le_of_ble_eq_true rfl⟩) (wX E b x) [] ((congrArg (fun z => wX E b x ++ z) (List.append_nil _)).symm) (congrArg (fun z => wX E b x ++ z) (List.append_nil _)) (wR_fst E a _ _) (ci := 6) (q0 := 0) rfl rfl rfl rfl rfl (Nat.le_of_ble_eq_true rfl) ⟨Nat.le_of_ble_eq_true rfl, Nat.le_of_ble_eq_true rfl⟩ dL_law_548 ?_
  exact vn_icmp_eq (tgt := 750) hX dL_law_551 (by decide) (fun _ => k _ _ h) (fun c9 => absurd (sim_bit h (xs (i + 1)) (xs (i + 2))) c9)
