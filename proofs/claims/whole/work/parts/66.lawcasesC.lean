set_option maxHeartbeats 4000000 in
theorem law_case16 {p : Program} {l : Launch} {e : Env} {s : State} {m : MethodId} {below : List Frame} {meth : Method} {c : Code} {E : ET} {b0 L : Nat} {xs : Nat → Int32} (hL : LX p s m meth c E b0 L xs) {b : Nat → Nat → Nat} {a : Nat → Nat} {x : XV} {r : RV} (h : XR x r) {i : Nat} (hi : i + 5 ≤ L) (k : ∀ x2 r2, XR x2 r2 → VL p l e s m below meth c E b0 (wX E b x2 ++ wR E a r2) [.ref b0, .ref (b 0 0), .ref (a 0), .int (nI i)] 750 []) : VL p l e s m below meth c E b0 (wX E b x ++ wR E a r) [.ref b0, .ref (b 0 0), .ref (a 0), .int (nI i)] 556 [] := by
  have hX := hL.1
  have hLb := hL.2.2.2
  have hbA : ¬ (fun q : Nat => s.heap.size ≤ q) b0 := Nat.not_le.mpr hL.2.2.1
  refine vn_aload_n hX dL_law_556 rfl ?_
  refine vn_aload_n hX dL_law_557 rfl ?_
  refine vn_iload_n hX dL_law_558 rfl ?_
  refine vn_iconst (x := (1 : Int32)) hX dL_law_559 (by decide) ?_
  refine vn_iadd (z := nI (i + 1)) hX dL_law_560 (nI_add i 1) ?_
  refine vn_sld (i := i + 1) hX hL.2.1 hL.2.2.1 hbA (by omega) (by omega) dL_law_561 ?_
  refine vn_aload_n hX dL_law_562 rfl ?_
  refine vn_iload_n hX dL_law_563 rfl ?_
  refine vn_iconst (x := (2 : Int32)) hX dL_law_564 (by decide) ?_
  refine vn_iadd (z := nI (i + 2)) hX dL_law_565 (nI_add i 2) ?_
  refine vn_sld (i := i + 2) hX hL.2.1 hL.2.2.1 hbA (by omega) (by omega) dL_law_566 ?_
  refine vn_callVi (r := X_line x (xs (i + 1)) (xs (i + 2))) (rest := []) (ws' := wX E b x ++ wR E a r) hX (fun sz => c_X5_line l E b sz x (xs (i + 1)) (xs (i + 2))) (cwV 2 hX.2.2.2.2.1 gL_law_X5_line rfl rfl rfl (by decide +kernel) ⟨Nat.le_of_ble_eq_true rfl, Nat.le_of_ble_eq_true rfl⟩) [] (wR E a r) rfl rfl (wX_fst E b _ _) (ci := 5) (q0 := 0) rfl rfl rfl rfl rfl (Nat.le_of_ble_eq_true rfl) ⟨Nat.le_of_ble_eq_true rfl, Nat.le_of_ble_eq_true rfl⟩ dL_law_567 ?_
  refine vn_aload_n hX dL_law_570 rfl ?_
  refine vn_aload_n hX dL_law_571 rfl ?_
  refine vn_iload_n hX dL_law_572 rfl ?_
  refine vn_iconst (x := (1 : Int32)) hX dL_law_573 (by decide) ?_
  refine vn_iadd (z := nI (i + 1)) hX dL_law_574 (nI_add i 1) ?_
  refine vn_sld (i := i + 1) hX hL.2.1 hL.2.2.1 hbA (by omega) (by omega) dL_law_575 ?_
  refine vn_aload_n hX dL_law_576 rfl ?_
  refine vn_iload_n hX dL_law_577 rfl ?_
  refine vn_iconst (x := (2 : Int32)) hX dL_law_578 (by decide) ?_
  refine vn_iadd (z := nI (i + 2)) hX dL_law_579 (nI_add i 2) ?_
  refine vn_sld (i := i + 2) hX hL.2.1 hL.2.2.1 hbA (by omega) (by omega) dL_law_580 ?_
  refine vn_callVi (r := R_line r (xs (i + 1)) (xs (i + 2))) (rest := [.int (X_line x (xs (i + 1)) (xs (i + 2)))]) (ws' := wX E b x ++ wR E a r) hX (fun sz => c_X6_line l E a sz r (xs (i + 1)) (xs (i + 2))) (cwV 2 hX.2.2.2.2.1 gL_law_X6_line rfl rfl rfl (by decide +kernel) ⟨Nat.le_of_ble_eq_true rfl, Nat.le_of_ble_eq_true rfl⟩) (wX E b x) [] ((congrArg (fun z => wX E b x ++ z) (List.append_nil _)).symm) (congrArg (fun z => wX E b x ++ z) (List.append_nil _)) (wR_fst E a _ _) (ci := 6) (q0 := 0) rfl rfl rfl rfl rfl (Nat.le_of_ble_eq_true rfl) ⟨Nat.le_of_ble_eq_true rfl, Nat.le_of_ble_eq_true rfl⟩ dL_law_581 ?_
  exact vn_icmp_eq (tgt := 750) hX dL_law_584 (by decide) (fun _ => k _ _ h) (fun c9 => absurd (sim_line h (xs (i + 1)) (xs (i + 2))) c9)
set_option maxHeartbeats 4000000 in
theorem law_case17 {p : Program} {l : Launch} {e : Env} {s : State} {m : MethodId} {below : List Frame} {meth : Method} {c : Code} {E : ET} {b0 L : Nat} {xs : Nat → Int32} (hL : LX p s m meth c E b0 L xs) {b : Nat → Nat → Nat} {a : Nat → Nat} {x : XV} {r : RV} (h : XR x r) {i : Nat} (hi : i + 5 ≤ L) (k : ∀ x2 r2, XR x2 r2 → VL p l e s m below meth c E b0 (wX E b x2 ++ wR E a r2) [.ref b0, .ref (b 0 0), .ref (a 0), .int (nI i)] 750 []) : VL p l e s m below meth c E b0 (wX E b x ++ wR E a r) [.ref b0, .ref (b 0 0), .ref (a 0), .int (nI i)] 589 [] := by
  have hX := hL.1
  have hLb := hL.2.2.2
  have hbA : ¬ (fun q : Nat => s.heap.size ≤ q) b0 := Nat.not_le.mpr hL.2.2.1
  refine vn_aload_n hX dL_law_589 rfl ?_
  refine vn_aload_n hX dL_law_590 rfl ?_
  refine vn_iload_n hX dL_law_591 rfl ?_
  refine vn_iconst (x := (1 : Int32)) hX dL_law_592 (by decide) ?_
  refine vn_iadd (z := nI (i + 1)) hX dL_law_593 (nI_add i 1) ?_
  refine vn_sld (i := i + 1) hX hL.2.1 hL.2.2.1 hbA (by omega) (by omega) dL_law_594 ?_
  refine vn_aload_n hX dL_law_595 rfl ?_
  refine vn_iload_n hX dL_law_596 rfl ?_
  refine vn_iconst (x := (2 : Int32)) hX dL_law_597 (by decide) ?_
  refine vn_iadd (z := nI (i + 2)) hX dL_law_598 (nI_add i 2) ?_
  refine vn_sld (i := i + 2) hX hL.2.1 hL.2.2.1 hbA (by omega) (by omega) dL_law_599 ?_
  refine vn_callVi (r := X_reason x (xs (i + 1)) (xs (i + 2))) (rest := []) (ws' := wX E b x ++ wR E a r) hX (fun sz => c_X5_reason l E b sz x (xs (i + 1)) (xs (i + 2))) (cwV 2 hX.2.2.2.2.1 gL_law_X5_reason rfl rfl rfl (by decide +kernel) ⟨Nat.le_of_ble_eq_true rfl, Nat.le_of_ble_eq_true rfl⟩) [] (wR E a r) rfl rfl (wX_fst E b _ _) (ci := 5) (q0 := 0) rfl rfl rfl rfl rfl (Nat.le_of_ble_eq_true rfl) ⟨Nat.le_of_ble_eq_true rfl, Nat.le_of_ble_eq_true rfl⟩ dL_law_600 ?_
  refine vn_aload_n hX dL_law_603 rfl ?_
  refine vn_aload_n hX dL_law_604 rfl ?_
  refine vn_iload_n hX dL_law_605 rfl ?_
  refine vn_iconst (x := (1 : Int32)) hX dL_law_606 (by decide) ?_
  refine vn_iadd (z := nI (i + 1)) hX dL_law_607 (nI_add i 1) ?_
  refine vn_sld (i := i + 1) hX hL.2.1 hL.2.2.1 hbA (by omega) (by omega) dL_law_608 ?_
  refine vn_aload_n hX dL_law_609 rfl ?_
  refine vn_iload_n hX dL_law_610 rfl ?_
  refine vn_iconst (x := (2 : Int32)) hX dL_law_611 (by decide) ?_
  refine vn_iadd (z := nI (i + 2)) hX dL_law_612 (nI_add i 2) ?_
  refine vn_sld (i := i + 2) hX hL.2.1 hL.2.2.1 hbA (by omega) (by omega) dL_law_613 ?_
  refine vn_callVi (r := R_reason r (xs (i + 1)) (xs (i + 2))) (rest := [.int (X_reason x (xs (i + 1)) (xs (i + 2)))]) (ws' := wX E b x ++ wR E a r) hX (fun sz => c_X6_reason l E a sz r (xs (i + 1)) (xs (i + 2))) (cwV 2 hX.2.2.2.2.1 gL_law_X6_reason rfl rfl rfl (by decide +kernel) ⟨Nat.le_of_ble_eq_true rfl, Nat.le_of_ble_eq_true rfl⟩) (wX E b x) [] ((congrArg (fun z => wX E b x ++ z) (List.append_nil _)).symm) (congrArg (fun z => wX E b x ++ z) (List.append_nil _)) (wR_fst E a _ _) (ci := 6) (q0 := 0) rfl rfl rfl rfl rfl (Nat.le_of_ble_eq_true rfl) ⟨Nat.le_of_ble_eq_true rfl, Nat.le_of_ble_eq_true rfl⟩ dL_law_614 ?_
  exact vn_icmp_eq (tgt := 750) hX dL_law_617 (by decide) (fun _ => k _ _ h) (fun c9 => absurd (sim_reason h (xs (i + 1)) (xs (i + 2))) c9)
set_option maxHeartbeats 4000000 in
theorem law_case18 {p : Program} {l : Launch} {e : Env} {s : State} {m : MethodId} {below : List Frame} {meth : Method} {c : Code} {E : ET} {b0 L : Nat} {xs : Nat → Int32} (hL : LX p s m meth c E b0 L xs) {b : Nat → Nat → Nat} {a : Nat → Nat} {x : XV} {r : RV} (h : XR x r) {i : Nat} (hi : i + 5 ≤ L) (k : ∀ x2 r2, XR x2 r2 → VL p l e s m below meth c E b0 (wX E b x2 ++ wR E a r2) [.ref b0, .ref (b 0 0), .ref (a 0), .int (nI i)] 750 []) : VL p l e s m below meth c E b0 (wX E b x ++ wR E a r) [.ref b0, .ref (b 0 0), .ref (a 0), .int (nI i)] 622 [] := by
  have hX := hL.1
  have hLb := hL.2.2.2
  have hbA : ¬ (fun q : Nat => s.heap.size ≤ q) b0 := Nat.not_le.mpr hL.2.2.1
  refine vn_aload_n hX dL_law_622 rfl ?_
  refine vn_aload_n hX dL_law_623 rfl ?_
  refine vn_iload_n hX dL_law_624 rfl ?_
  refine vn_iconst (x := (1 : Int32)) hX dL_law_625 (by decide) ?_
  refine vn_iadd (z := nI (i + 1)) hX dL_law_626 (nI_add i 1) ?_
  refine vn_sld (i := i + 1) hX hL.2.1 hL.2.2.1 hbA (by omega) (by omega) dL_law_627 ?_
  refine vn_aload_n hX dL_law_628 rfl ?_
  refine vn_iload_n hX dL_law_629 rfl ?_
  refine vn_iconst (x := (2 : Int32)) hX dL_law_630 (by decide) ?_
  refine vn_iadd (z := nI (i + 2)) hX dL_law_631 (nI_add i 2) ?_
  refine vn_sld (i := i + 2) hX hL.2.1 hL.2.2.1 hbA (by omega) (by omega) dL_law_632 ?_
  refine vn_aload_n hX dL_law_633 rfl ?_
  refine vn_iload_n hX dL_law_634 rfl ?_
  refine vn_iconst (x := (3 : Int32)) hX dL_law_635 (by decide) ?_
  refine vn_iadd (z := nI (i + 3)) hX dL_law_636 (nI_add i 3) ?_
  refine vn_sld (i := i + 3) hX hL.2.1 hL.2.2.1 hbA (by omega) (by omega) dL_law_637 ?_
  refine vn_if_eq (tgt := 645) hX dL_law_638 (by decide) (fun c1 => ?_) (fun c1 => ?_)
  · refine vn_iconst (x := (0 : Int32)) hX dL_law_645 (by decide) ?_
    refine vn_aload_n hX dL_law_646 rfl ?_
    refine vn_iload_n hX dL_law_647 rfl ?_
    refine vn_iconst (x := (4 : Int32)) hX dL_law_648 (by decide) ?_
    refine vn_iadd (z := nI (i + 4)) hX dL_law_649 (nI_add i 4) ?_
    refine vn_sld (i := i + 4) hX hL.2.1 hL.2.2.1 hbA (by omega) (by omega) dL_law_650 ?_
    refine vn_callVi (r := (X_cost x (xs (i + 1)) (xs (i + 2)) false (xs (i + 4))).1) (rest := []) (ws' := wX E b ((X_cost x (xs (i + 1)) (xs (i + 2)) false (xs (i + 4))).2) ++ wR E a r) hX (fun sz => c_X5_cost l E b sz x (xs (i + 1)) (xs (i + 2)) false (xs (i + 4))) (cwV 4 hX.2.2.2.2.1 gL_law_X5_cost rfl rfl rfl (by decide +kernel) ⟨Nat.le_of_ble_eq_true rfl, Nat.le_of_ble_eq_true rfl⟩) [] (wR E a r) rfl rfl (wX_fst E b _ _) (ci := 5) (q0 := 0) rfl rfl rfl rfl rfl (Nat.le_of_ble_eq_true rfl) ⟨Nat.le_of_ble_eq_true rfl, Nat.le_of_ble_eq_true rfl⟩ dL_law_651 ?_
    refine vn_aload_n hX dL_law_654 rfl ?_
    refine vn_aload_n hX dL_law_655 rfl ?_
    refine vn_iload_n hX dL_law_656 rfl ?_
    refine vn_iconst (x := (1 : Int32)) hX dL_law_657 (by decide) ?_
    refine vn_iadd (z := nI (i + 1)) hX dL_law_658 (nI_add i 1) ?_
    refine vn_sld (i := i + 1) hX hL.2.1 hL.2.2.1 hbA (by omega) (by omega) dL_law_659 ?_
    refine vn_aload_n hX dL_law_660 rfl ?_
    refine vn_iload_n hX dL_law_661 rfl ?_
    refine vn_iconst (x := (2 : Int32)) hX dL_law_662 (by decide) ?_
    refine vn_iadd (z := nI (i + 2)) hX dL_law_663 (nI_add i 2) ?_
    refine vn_sld (i := i + 2) hX hL.2.1 hL.2.2.1 hbA (by omega) (by omega) dL_law_664 ?_
    refine vn_aload_n hX dL_law_665 rfl ?_
    refine vn_iload_n hX dL_law_666 rfl ?_
    refine vn_iconst (x := (3 : Int32)) hX dL_law_667 (by decide) ?_
    refine vn_iadd (z := nI (i + 3)) hX dL_law_668 (nI_add i 3) ?_
    refine vn_sld (i := i + 3) hX hL.2.1 hL.2.2.1 hbA (by omega) (by omega) dL_law_669 ?_
    refine vn_if_eq (tgt := 677) hX dL_law_670 (by decide) (fun _ => ?_) (fun c2 => absurd c1 c2)
    refine vn_iconst (x := (0 : Int32)) hX dL_law_677 (by decide) ?_
    refine vn_aload_n hX dL_law_678 rfl ?_
    refine vn_iload_n hX dL_law_679 rfl ?_
    refine vn_iconst (x := (4 : Int32)) hX dL_law_680 (by decide) ?_
    refine vn_iadd (z := nI (i + 4)) hX dL_law_681 (nI_add i 4) ?_
    refine vn_sld (i := i + 4) hX hL.2.1 hL.2.2.1 hbA (by omega) (by omega) dL_law_682 ?_
    refine vn_callVi (r := (R_cost r (xs (i + 1)) (xs (i + 2)) false (xs (i + 4))).1) (rest := [.int ((X_cost x (xs (i + 1)) (xs (i + 2)) false (xs (i + 4))).1)]) (ws' := wX E b ((X_cost x (xs (i + 1)) (xs (i + 2)) false (xs (i + 4))).2) ++ wR E a ((R_cost r (xs (i + 1)) (xs (i + 2)) false (xs (i + 4))).2)) hX (fun sz => c_X6_cost l E a sz r (xs (i + 1)) (xs (i + 2)) false (xs (i + 4))) (cwV 4 hX.2.2.2.2.1 gL_law_X6_cost rfl rfl rfl (by decide +kernel) ⟨Nat.le_of_ble_eq_true rfl, Nat.le_of_ble_eq_true rfl⟩) (wX E b ((X_cost x (xs (i + 1)) (xs (i + 2)) false (xs (i + 4))).2)) [] ((congrArg (fun z => wX E b ((X_cost x (xs (i + 1)) (xs (i + 2)) false (xs (i + 4))).2) ++ z) (List.append_nil _)).symm) (congrArg (fun z => wX E b ((X_cost x (xs (i + 1)) (xs (i + 2)) false (xs (i + 4))).2) ++ z) (List.append_nil _)) (wR_fst E a _ _) (ci := 6) (q0 := 0) rfl rfl rfl rfl rfl (Nat.le_of_ble_eq_true rfl) ⟨Nat.le_of_ble_eq_true rfl, Nat.le_of_ble_eq_true rfl⟩ dL_law_683 ?_
    exact vn_icmp_eq (tgt := 750) hX dL_law_686 (by decide) (fun _ => k _ _ (sim_cost h (xs (i + 1)) (xs (i + 2)) false (xs (i + 4))).2) (fun c9 => absurd (sim_cost h (xs (i + 1)) (xs (i + 2)) false (xs (i + 4))).1 c9)
  · refine vn_iconst (x := (1 : Int32)) hX dL_law_641 (by decide) ?_
    refine vn_goto (tgt := 646) hX dL_law_642 (by decide) ?_
    refine vn_aload_n hX dL_law_646 rfl ?_
    refine vn_iload_n hX dL_law_647 rfl ?_
    refine vn_iconst (x := (4 : Int32)) hX dL_law_648 (by decide) ?_
    refine vn_iadd (z := nI (i + 4)) hX dL_law_649 (nI_add i 4) ?_
    refine vn_sld (i := i + 4) hX hL.2.1 hL.2.2.1 hbA (by omega) (by omega) dL_law_650 ?_
    refine vn_callVi (r := (X_cost x (xs (i + 1)) (xs (i + 2)) true (xs (i + 4))).1) (rest := []) (ws' := wX E b ((X_cost x (xs (i + 1)) (xs (i + 2)) true (xs (i + 4))).2) ++ wR E a r) hX (fun sz => c_X5_cost l E b sz x (xs (i + 1)) (xs (i + 2)) true (xs (i + 4))) (cwV 4 hX.2.2.2.2.1 gL_law_X5_cost rfl rfl rfl (by decide +kernel) ⟨Nat.le_of_ble_eq_true rfl, Nat.le_of_ble_eq_true rfl⟩) [] (wR E a r) rfl rfl (wX_fst E b _ _) (ci := 5) (q0 := 0) rfl rfl rfl rfl rfl (Nat.le_of_ble_eq_true rfl) ⟨Nat.le_of_ble_eq_true rfl, Nat.le_of_ble_eq_true rfl⟩ dL_law_651 ?_
    refine vn_aload_n hX dL_law_654 rfl ?_
    refine vn_aload_n hX dL_law_655 rfl ?_
    refine vn_iload_n hX dL_law_656 rfl ?_
    refine vn_iconst (x := (1 : Int32)) hX dL_law_657 (by decide) ?_
    refine vn_iadd (z := nI (i + 1)) hX dL_law_658 (nI_add i 1) ?_
    refine vn_sld (i := i + 1) hX hL.2.1 hL.2.2.1 hbA (by omega) (by omega) dL_law_659 ?_
    refine vn_aload_n hX dL_law_660 rfl ?_
    refine vn_iload_n hX dL_law_661 rfl ?_
    refine vn_iconst (x := (2 : Int32)) hX dL_law_662 (by decide) ?_
    refine vn_iadd (z := nI (i + 2)) hX dL_law_663 (nI_add i 2) ?_
    refine vn_sld (i := i + 2) hX hL.2.1 hL.2.2.1 hbA (by omega) (by omega) dL_law_664 ?_
    refine vn_aload_n hX dL_law_665 rfl ?_
    refine vn_iload_n hX dL_law_666 rfl ?_
    refine vn_iconst (x := (3 : Int32)) hX dL_law_667 (by decide) ?_
    refine vn_iadd (z := nI (i + 3)) hX dL_law_668 (nI_add i 3) ?_
    refine vn_sld (i := i + 3) hX hL.2.1 hL.2.2.1 hbA (by omega) (by omega) dL_law_669 ?_
    refine vn_if_eq (tgt := 677) hX dL_law_670 (by decide) (fun c2 => absurd c2 c1) (fun _ => ?_)
    refine vn_iconst (x := (1 : Int32)) hX dL_law_673 (by decide) ?_
    refine vn_goto (tgt := 678) hX dL_law_674 (by decide) ?_
    refine vn_aload_n hX dL_law_678 rfl ?_
    refine vn_iload_n hX dL_law_679 rfl ?_
    refine vn_iconst (x := (4 : Int32)) hX dL_law_680 (by decide) ?_
    refine vn_iadd (z := nI (i + 4)) hX dL_law_681 (nI_add i 4) ?_
    refine vn_sld (i := i + 4) hX hL.2.1 hL.2.2.1 hbA (by omega) (by omega) dL_law_682 ?_
    refine vn_callVi (r := (R_cost r (xs (i + 1)) (xs (i + 2)) true (xs (i + 4))).1) (rest := [.int ((X_cost x (xs (i + 1)) (xs (i + 2)) true (xs (i + 4))).1)]) (ws' := wX E b ((X_cost x (xs (i + 1)) (xs (i + 2)) true (xs (i + 4))).2) ++ wR E a ((R_cost r (xs (i + 1)) (xs (i + 2)) true (xs (i + 4))).2)) hX (fun sz => c_X6_cost l E a sz r (xs (i + 1)) (xs (i + 2)) true (xs (i + 4))) (cwV 4 hX.2.2.2.2.1 gL_law_X6_cost rfl rfl rfl (by decide +kernel) ⟨Nat.le_of_ble_eq_true rfl, Nat.le_of_ble_eq_true rfl⟩) (wX E b ((X_cost x (xs (i + 1)) (xs (i + 2)) true (xs (i + 4))).2)) [] ((congrArg (fun z => wX E b ((X_cost x (xs (i + 1)) (xs (i + 2)) true (xs (i + 4))).2) ++ z) (List.append_nil _)).symm) (congrArg (fun z => wX E b ((X_cost x (xs (i + 1)) (xs (i + 2)) true (xs (i + 4))).2) ++ z) (List.append_nil _)) (wR_fst E a _ _) (ci := 6) (q0 := 0) rfl rfl rfl rfl rfl (Nat.le_of_ble_eq_true rfl) ⟨Nat.le_of_ble_eq_true rfl, Nat.le_of_ble_eq_true rfl⟩ dL_law_683 ?_
    exact vn_icmp_eq (tgt := 750) hX dL_law_686 (by decide) (fun _ => k _ _ (sim_cost h (xs (i + 1)) (xs (i + 2)) true (xs (i + 4))).2) (fun c9 => absurd (sim_cost h (xs (i + 1)) (xs (i + 2)) true (xs (i + 4))).1 c9)
set_option maxHeartbeats 4000000 in
theorem law_case19 {p : Program} {l : Launch} {e : Env} {s : State} {m : MethodId} {below : List Frame} {meth : Method} {c : Code} {E : ET} {b0 L : Nat} {xs : Nat → Int32} (hL : LX p s m meth c E b0 L xs) {b : Nat → Nat → Nat} {a : Nat → Nat} {x : XV} {r : RV} (h : XR x r) {i : Nat} (hi : i + 5 ≤ L) (k : ∀ x2 r2, XR x2 r2 → VL p l e s m below meth c E b0 (wX E b x2 ++ wR E a r2) [.ref b0, .ref (b 0 0), .ref (a 0), .int (nI i)] 750 []) : VL p l e s m below meth c E b0 (wX E b x ++ wR E a r) [.ref b0, .ref (b 0 0), .ref (a 0), .int (nI i)] 691 [] := by
  have hX := hL.1
  have hLb := hL.2.2.2
  have hbA : ¬ (fun q : Nat => s.heap.size ≤ q) b0 := Nat.not_le.mpr hL.2.2.1
  refine vn_aload_n hX dL_law_691 rfl ?_
  refine vn_aload_n hX dL_law_692 rfl ?_
  refine vn_iload_n hX dL_law_693 rfl ?_
  refine vn_iconst (x := (1 : Int32)) hX dL_law_694 (by decide) ?_
  refine vn_iadd (z := nI (i + 1)) hX dL_law_695 (nI_add i 1) ?_
  refine vn_sld (i := i + 1) hX hL.2.1 hL.2.2.1 hbA (by omega) (by omega) dL_law_696 ?_
  refine vn_callVi (r := X_vain x (xs (i + 1))) (rest := []) (ws' := wX E b x ++ wR E a r) hX (fun sz => c_X5_vain l E b sz x (xs (i + 1))) (cwV 1 hX.2.2.2.2.1 gL_law_X5_vain rfl rfl rfl (by decide +kernel) ⟨Nat.le_of_ble_eq_true rfl, Nat.le_of_ble_eq_true rfl⟩) [] (wR E a r) rfl rfl (wX_fst E b _ _) (ci := 5) (q0 := 0) rfl rfl rfl rfl rfl (Nat.le_of_ble_eq_true rfl) ⟨Nat.le_of_ble_eq_true rfl, Nat.le_of_ble_eq_true rfl⟩ dL_law_697 ?_
  refine vn_aload_n hX dL_law_700 rfl ?_
  refine vn_aload_n hX dL_law_701 rfl ?_
  refine vn_iload_n hX dL_law_702 rfl ?_
  refine vn_iconst (x := (1 : Int32)) hX dL_law_703 (by decide) ?_
  refine vn_iadd (z := nI (i + 1)) hX dL_law_704 (nI_add i 1) ?_
  refine vn_sld (i := i + 1) hX hL.2.1 hL.2.2.1 hbA (by omega) (by omega) dL_law_705 ?_
  refine vn_callVi (r := R_vain r (xs (i + 1))) (rest := [.int (X_vain x (xs (i + 1)))]) (ws' := wX E b x ++ wR E a r) hX (fun sz => c_X6_vain l E a sz r (xs (i + 1))) (cwV 1 hX.2.2.2.2.1 gL_law_X6_vain rfl rfl rfl (by decide +kernel) ⟨Nat.le_of_ble_eq_true rfl, Nat.le_of_ble_eq_true rfl⟩) (wX E b x) [] ((congrArg (fun z => wX E b x ++ z) (List.append_nil _)).symm) (congrArg (fun z => wX E b x ++ z) (List.append_nil _)) (wR_fst E a _ _) (ci := 6) (q0 := 0) rfl rfl rfl rfl rfl (Nat.le_of_ble_eq_true rfl) ⟨Nat.le_of_ble_eq_true rfl, Nat.le_of_ble_eq_true rfl⟩ dL_law_706 ?_
  exact vn_icmp_eq (tgt := 750) hX dL_law_709 (by decide) (fun _ => k _ _ h) (fun c9 => absurd (sim_vain h (xs (i + 1))) c9)
set_option maxHeartbeats 4000000 in
theorem law_case20 {p : Program} {l : Launch} {e : Env} {s : State} {m : MethodId} {below : List Frame} {meth : Method} {c : Code} {E : ET} {b0 L : Nat} {xs : Nat → Int32} (hL : LX p s m meth c E b0 L xs) {b : Nat → Nat → Nat} {a : Nat → Nat} {x : XV} {r : RV} (h : XR x r) {i : Nat} (hi : i + 5 ≤ L) (k : ∀ x2 r2, XR x2 r2 → VL p l e s m below meth c E b0 (wX E b x2 ++ wR E a r2) [.ref b0, .ref (b 0 0), .ref (a 0), .int (nI i)] 750 []) : VL p l e s m below meth c E b0 (wX E b x ++ wR E a r) [.ref b0, .ref (b 0 0), .ref (a 0), .int (nI i)] 714 [] := by
  have hX := hL.1
  have hLb := hL.2.2.2
  have hbA : ¬ (fun q : Nat => s.heap.size ≤ q) b0 := Nat.not_le.mpr hL.2.2.1
  refine vn_aload_n hX dL_law_714 rfl ?_
  refine vn_callVi (r := X_worst x) (rest := []) (ws' := wX E b x ++ wR E a r) hX (fun sz => c_X5_worst l E b sz x ) (cwV 0 hX.2.2.2.2.1 gL_law_X5_worst rfl rfl rfl (by decide +kernel) ⟨Nat.le_of_ble_eq_true rfl, Nat.le_of_ble_eq_true rfl⟩) [] (wR E a r) rfl rfl (wX_fst E b _ _) (ci := 5) (q0 := 0) rfl rfl rfl rfl rfl (Nat.le_of_ble_eq_true rfl) ⟨Nat.le_of_ble_eq_true rfl, Nat.le_of_ble_eq_true rfl⟩ dL_law_715 ?_
  refine vn_aload_n hX dL_law_718 rfl ?_
  refine vn_callVi (r := R_worst r) (rest := [.int (X_worst x)]) (ws' := wX E b x ++ wR E a r) hX (fun sz => c_X6_worst l E a sz r ) (cwV 0 hX.2.2.2.2.1 gL_law_X6_worst rfl rfl rfl (by decide +kernel) ⟨Nat.le_of_ble_eq_true rfl, Nat.le_of_ble_eq_true rfl⟩) (wX E b x) [] ((congrArg (fun z => wX E b x ++ z) (List.append_nil _)).symm) (congrArg (fun z => wX E b x ++ z) (List.append_nil _)) (wR_fst E a _ _) (ci := 6) (q0 := 0) rfl rfl rfl rfl rfl (Nat.le_of_ble_eq_true rfl) ⟨Nat.le_of_ble_eq_true rfl, Nat.le_of_ble_eq_true rfl⟩ dL_law_719 ?_
  exact vn_icmp_eq (tgt := 750) hX dL_law_722 (by decide) (fun _ => k _ _ h) (fun c9 => absurd (sim_worst h ) c9)
set_option maxHeartbeats 4000000 in
theorem law_case21 {p : Program} {l : Launch} {e : Env} {s : State} {m : MethodId} {below : List Frame} {meth : Method} {c : Code} {E : ET} {b0 L : Nat} {xs : Nat → Int32} (hL : LX p s m meth c E b0 L xs) {b : Nat → Nat → Nat} {a : Nat → Nat} {x : XV} {r : RV} (h : XR x r) {i : Nat} (hi : i + 5 ≤ L) (k : ∀ x2 r2, XR x2 r2 → VL p l e s m below meth c E b0 (wX E b x2 ++ wR E a r2) [.ref b0, .ref (b 0 0), .ref (a 0), .int (nI i)] 750 []) : VL p l e s m below meth c E b0 (wX E b x ++ wR E a r) [.ref b0, .ref (b 0 0), .ref (a 0), .int (nI i)] 727 [] := by
  have hX := hL.1
  have hLb := hL.2.2.2
  have hbA : ¬ (fun q : Nat => s.heap.size ≤ q) b0 := Nat.not_le.mpr hL.2.2.1
  refine vn_aload_n hX dL_law_727 rfl ?_
  refine vn_aload_n hX dL_law_728 rfl ?_
  refine vn_iload_n hX dL_law_729 rfl ?_
  refine vn_iconst (x := (1 : Int32)) hX dL_law_730 (by decide) ?_
  refine vn_iadd (z := nI (i + 1)) hX dL_law_731 (nI_add i 1) ?_
  refine vn_sld (i := i + 1) hX hL.2.1 hL.2.2.1 hbA (by omega) (by omega) dL_law_732 ?_
  refine vn_callVi (r := X_count x (xs (i + 1))) (rest := []) (ws' := wX E b x ++ wR E a r) hX (fun sz => c_X5_count l E b sz x (xs (i + 1))) (cwV 1 hX.2.2.2.2.1 gL_law_X5_count rfl rfl rfl (by decide +kernel) ⟨Nat.le_of_ble_eq_true rfl, Nat.le_of_ble_eq_true rfl⟩) [] (wR E a r) rfl rfl (wX_fst E b _ _) (ci := 5) (q0 := 0) rfl rfl rfl rfl rfl (Nat.le_of_ble_eq_true rfl) ⟨Nat.le_of_ble_eq_true rfl, Nat.le_of_ble_eq_true rfl⟩ dL_law_733 ?_
  refine vn_aload_n hX dL_law_736 rfl ?_
  refine vn_aload_n hX dL_law_737 rfl ?_
  refine vn_iload_n hX dL_law_738 rfl ?_
  refine vn_iconst (x := (1 : Int32)) hX dL_law_739 (by decide) ?_
  refine vn_iadd (z := nI (i + 1)) hX dL_law_740 (nI_add i 1) ?_
  refine vn_sld (i := i + 1) hX hL.2.1 hL.2.2.1 hbA (by omega) (by omega) dL_law_741 ?_
  refine vn_callVi (r := R_count r (xs (i + 1))) (rest := [.int (X_count x (xs (i + 1)))]) (ws' := wX E b x ++ wR E a r) hX (fun sz => c_X6_count l E a sz r (xs (i + 1))) (cwV 1 hX.2.2.2.2.1 gL_law_X6_count rfl rfl rfl (by decide +kernel) ⟨Nat.le_of_ble_eq_true rfl, Nat.le_of_ble_eq_true rfl⟩) (wX E b x) [] ((congrArg (fun z => wX E b x ++ z) (List.append_nil _)).symm) (congrArg (fun z => wX E b x ++ z) (List.append_nil _)) (wR_fst E a _ _) (ci := 6) (q0 := 0) rfl rfl rfl rfl rfl (Nat.le_of_ble_eq_true rfl) ⟨Nat.le_of_ble_eq_true rfl, Nat.le_of_ble_eq_true rfl⟩ dL_law_742 ?_
  exact vn_icmp_eq (tgt := 750) hX dL_law_745 (by decide) (fun _ => k _ _ h) (fun c9 => absurd (sim_count h (xs (i + 1))) c9)
