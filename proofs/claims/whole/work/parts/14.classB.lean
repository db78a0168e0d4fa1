set_option maxHeartbeats 4000000 in
set_option maxRecDepth 100000 in
theorem c_X5_cost (l : Launch) (E : ET) (b : Nat → Nat → Nat) (sz : Nat) (v : XV) (co : Int32) (li : Int32) (bw : Bool) (w : Int32) : Met l yX5_cost wsX5_cost ({ frames := 5, cells := 0, slots := 0, locals := 113 }) (mPc E [.ref (b 0 0), .int (co), .int (li), .int (bI (bw)), .int (w)] sz (wX E b v)) (mQi E ((X_cost v co li bw w).1) (wX E b v) (wX E b ((X_cost v co li bw w).2)) sz) 0 0 (va_A (wX E b v) sz) := by
  refine v_start (cc := cX5_cost) (maxL := 5) (ret := (some .int)) (by decide) rfl (Nat.le_of_ble_eq_true rfl) rfl ?_
  intro p e s m args below meth c hsz hr hX
  have hX : Xc p s m args meth c E 5 (va_A (wX E b v) sz) cX5_cost RX5 wsX5_cost := hX
  have in_X5 : ∀ w ∈ u_ws RX5 TX5 9, w ∈ wsX5_cost := by decide +kernel
  have fl_16 : Cond.fieldLink RX5 16 RX5 "trial" "LSnoopFilter$Machine;" ∈ wsX5_cost := by decide +kernel
  have fl_12 : Cond.fieldLink RX5 12 RX5 "now" "LSnoopFilter$Machine;" ∈ wsX5_cost := by decide +kernel
  have in_X3 : ∀ w ∈ u_ws RX3 TX3 6, w ∈ wsX5_cost := by decide +kernel
  have fl_204 : Cond.fieldLink RX5 204 RX3 "writtenBack" "I" ∈ wsX5_cost := by decide +kernel
  refine v_iload_n hX dX5_cost_0 rfl ?_
  refine v_callSi (r := bI (S_within co (0 : Int32) (3 : Int32))) (rest := []) (ws' := wX E b v) hX (fun sz => c_X5_isCore l E sz co) (va_cwS 1 hX.2.2.2.2.1 gX5_cost_X5_isCore rfl rfl rfl (by decide +kernel) ⟨Nat.le_of_ble_eq_true rfl, Nat.le_of_ble_eq_true rfl⟩) ([]) (wX E b v) (rfl) rfl (rfl) rfl rfl (Nat.le_of_ble_eq_true rfl) dX5_cost_1 ?_
  refine v_if_eq (tgt := 14) hX dX5_cost_4 (by decide) (fun c1 => ?_) (fun c1 => ?_)
  · replace c1 := bI_0.mp c1
    refine v_iconst (x := (-1 : Int32)) hX dX5_cost_14 (by decide) ?_
    exact v_iret hX hr hsz dX5_cost_15 rfl rfl (by (first | rfl | (simp only [X_cost, X_try, c1, if_true, if_false, reduceIte, Bool.false_eq_true, reduceCtorEq, decide_true, decide_false, Bool.and_true, Bool.and_false, Bool.true_and, Bool.false_and, Bool.or_true, Bool.or_false, Bool.true_or, Bool.false_or, not_true_eq_false, not_false_eq_true, Bool.not_true, Bool.not_false, eq_self, Nat.reduceEqDiff]; done) | (simp only [X_cost, X_try, c1, if_true, if_false, reduceIte, Bool.false_eq_true, reduceCtorEq, decide_true, decide_false, Bool.and_true, Bool.and_false, Bool.true_and, Bool.false_and, Bool.or_true, Bool.or_false, Bool.true_or, Bool.false_or, not_true_eq_false, not_false_eq_true, Bool.not_true, Bool.not_false, eq_self, Nat.reduceEqDiff]; rfl) | contradiction | (exfalso; omega))) (by (first | rfl | (simp only [X_cost, X_try, c1, if_true, if_false, reduceIte, Bool.false_eq_true, reduceCtorEq, decide_true, decide_false, Bool.and_true, Bool.and_false, Bool.true_and, Bool.false_and, Bool.or_true, Bool.or_false, Bool.true_or, Bool.false_or, not_true_eq_false, not_false_eq_true, Bool.not_true, Bool.not_false, eq_self, Nat.reduceEqDiff]; done) | (simp only [X_cost, X_try, c1, if_true, if_false, reduceIte, Bool.false_eq_true, reduceCtorEq, decide_true, decide_false, Bool.and_true, Bool.and_false, Bool.true_and, Bool.false_and, Bool.or_true, Bool.or_false, Bool.true_or, Bool.false_or, not_true_eq_false, not_false_eq_true, Bool.not_true, Bool.not_false, eq_self, Nat.reduceEqDiff]; rfl) | contradiction | (exfalso; omega)))
  · replace c1 := bI_n0.mp c1
    refine v_iload_n hX dX5_cost_7 rfl ?_
    refine v_callSi (r := bI (S_within li (0 : Int32) (255 : Int32))) (rest := []) (ws' := wX E b v) hX (fun sz => c_X5_isLine l E sz li) (va_cwS 1 hX.2.2.2.2.1 gX5_cost_X5_isLine rfl rfl rfl (by decide +kernel) ⟨Nat.le_of_ble_eq_true rfl, Nat.le_of_ble_eq_true rfl⟩) ([]) (wX E b v) (rfl) rfl (rfl) rfl rfl (Nat.le_of_ble_eq_true rfl) dX5_cost_8 ?_
    refine v_if_ne (tgt := 16) hX dX5_cost_11 (by decide) (fun c2 => ?_) (fun c2 => ?_)
    · replace c2 := bI_n0.mp c2
      refine v_iload hX dX5_cost_16 rfl ?_
      refine v_iconst (x := (0 : Int32)) hX dX5_cost_18 (by decide) ?_
      refine v_iconst (x := (3 : Int32)) hX dX5_cost_19 (by decide) ?_
      refine v_callSi (r := bI (S_within w (0 : Int32) (3 : Int32))) (rest := []) (ws' := wX E b v) hX (fun sz => c_X5_isWithin l E sz w (0 : Int32) (3 : Int32)) (va_cwS 3 hX.2.2.2.2.1 gX5_cost_X5_isWithin rfl rfl rfl (by decide +kernel) ⟨Nat.le_of_ble_eq_true rfl, Nat.le_of_ble_eq_true rfl⟩) ([]) (wX E b v) (rfl) rfl (rfl) rfl rfl (Nat.le_of_ble_eq_true rfl) dX5_cost_20 ?_
      refine v_if_ne (tgt := 29) hX dX5_cost_23 (by decide) (fun c3 => ?_) (fun c3 => ?_)
      · replace c3 := bI_n0.mp c3
        obtain ⟨r, hle_r, heq_r⟩ := within_nat (B := 3) rfl (by decide) c1
        subst heq_r
        have ec_r : cN (nI r) = r := cN_nI (by omega)
        obtain ⟨n, heq_n⟩ := within_fin c2
        subst heq_n
        have hlt_n := n.isLt
        have el_n := lF_nI n
        obtain ⟨j, hle_j, heq_j⟩ := within_nat (B := 3) rfl (by decide) c3
        subst heq_j
        have ec_j : cN (nI j) = j := cN_nI (by omega)
        refine v_aload_n hX dX5_cost_29 rfl ?_
        refine v_get (C := RX5) (T := TX5) (N := 9) (ci := 5) (v := .ref (b 2 0)) hX in_X5 0 rfl rfl 1 (by decide) fl_16 rfl rfl dX5_cost_30 ?_
        refine v_aload_n hX dX5_cost_33 rfl ?_
        refine v_get (C := RX5) (T := TX5) (N := 9) (ci := 5) (v := .ref (b 1 0)) hX in_X5 0 rfl rfl 0 (by decide) fl_12 rfl rfl dX5_cost_34 ?_
        obtain ⟨v4, hv4⟩ : ∃ z_ : XV, z_ = X_setTrial v v.1 := ⟨_, rfl⟩
        refine v_callVv2s (rest := []) (ws' := wX E b v4) (x1 := wM E (b 2) v.2.1) (x2 := wM E (b 1) v.1) (x1' := wM E (b 2) v.1) hX (fun sz => c_X3_copyFrom l E (b 2) (b 1) sz v.2.1 v.1) (cwV 1 hX.2.2.2.2.1 gX5_cost_X3_copyFrom rfl rfl rfl (by decide +kernel) ⟨Nat.le_of_ble_eq_true rfl, Nat.le_of_ble_eq_true rfl⟩) (w1X b v) ([]) (wM E (b 3) v.2.2.1 ++ (wH E (hA b) v.2.2.2.1 ++ (wP E (b 9) v.2.2.2.2.1))) rfl (by rw [hv4]; rfl) (wM_fst E (b 2) _ _) (ci := 3) (q0 := 0) rfl rfl rfl rfl rfl (Nat.le_of_ble_eq_true rfl) dX5_cost_37 ?_
        refine v_iload_n hX dX5_cost_40 rfl ?_
        refine v_if_eq (tgt := 58) hX dX5_cost_41 (by decide) (fun c5 => ?_) (fun c5 => ?_)
        · replace c5 := bI_0.mp c5
          refine v_aload_n hX dX5_cost_58 rfl ?_
          refine v_get (C := RX5) (T := TX5) (N := 9) (ci := 5) (v := .ref (b 2 0)) hX in_X5 0 rfl rfl 1 (by decide) fl_16 rfl rfl dX5_cost_59 ?_
          refine v_iload_n hX dX5_cost_62 rfl ?_
          refine v_iload_n hX dX5_cost_63 rfl ?_
          obtain ⟨v6, hv6⟩ : ∃ z_ : XV, z_ = X_setTrial v4 ((M_read v4.2.1 r n).1) := ⟨_, rfl⟩
          refine v_callVi (r := (M_read v4.2.1 r n).2) (rest := []) (ws' := wX E b v6) hX (fun sz => c_X3_readLine l E (b 2) sz v4.2.1 r (by first | omega | exact Nat.le_of_ble_eq_true rfl) n) (cwV 2 hX.2.2.2.2.1 gX5_cost_X3_readLine rfl rfl rfl (by decide +kernel) ⟨Nat.le_of_ble_eq_true rfl, Nat.le_of_ble_eq_true rfl⟩) (w1X b v4 ++ (wM E (b 1) v4.1 ++ ([]))) (([]) ++ (wM E (b 3) v4.2.2.1 ++ (wH E (hA b) v4.2.2.2.1 ++ (wP E (b 9) v4.2.2.2.2.1)))) (lift1 ((List.append_nil _).symm)) (by rw [hv6]; exact (lift1 (y := wM E (b 2) ((M_read v4.2.1 r n).1)) (List.append_nil _).symm).symm) (wM_fst E (b 2) _ _) (ci := 3) (q0 := 0) rfl rfl rfl rfl rfl (Nat.le_of_ble_eq_true rfl) dX5_cost_64 ?_
          refine v_pop hX dX5_cost_67 rfl ?_
          refine v_iload hX dX5_cost_68 rfl ?_
          by_cases k7 : j = 0
          · have k7t := eq_true k7
            refine v_tableIn (tgt := 96) (off := 26) hX dX5_cost_70 (by rw [k7]; decide) (by rw [k7]; decide) (by rw [k7]; decide) (by decide) ?_
            refine v_aload_n hX dX5_cost_96 rfl ?_
            refine v_get (C := RX5) (T := TX5) (N := 9) (ci := 5) (v := .ref (b 2 0)) hX in_X5 0 rfl rfl 1 (by decide) fl_16 rfl rfl dX5_cost_97 ?_
            refine v_iconst (x := (2 : Int32)) hX dX5_cost_100 (by decide) ?_
            refine v_callVi (r := M_sum v6.2.1 2) (rest := []) (ws' := wX E b v6) hX (fun sz => c_X3_sumOf l E (b 2) sz v6.2.1 2 (by first | omega | exact Nat.le_of_ble_eq_true rfl)) (cwV 1 hX.2.2.2.2.1 gX5_cost_X3_sumOf rfl rfl rfl (by decide +kernel) ⟨Nat.le_of_ble_eq_true rfl, Nat.le_of_ble_eq_true rfl⟩) (w1X b v6 ++ (wM E (b 1) v6.1 ++ ([]))) (([]) ++ (wM E (b 3) v6.2.2.1 ++ (wH E (hA b) v6.2.2.2.1 ++ (wP E (b 9) v6.2.2.2.2.1)))) (lift1 ((List.append_nil _).symm)) (lift1 ((List.append_nil _).symm)).symm (wM_fst E (b 2) _ _) (ci := 3) (q0 := 0) rfl rfl rfl rfl rfl (Nat.le_of_ble_eq_true rfl) dX5_cost_101 ?_
            refine v_aload_n hX dX5_cost_104 rfl ?_
            refine v_get (C := RX5) (T := TX5) (N := 9) (ci := 5) (v := .ref (b 1 0)) hX in_X5 0 rfl rfl 0 (by decide) fl_12 rfl rfl dX5_cost_105 ?_
            refine v_iconst (x := (2 : Int32)) hX dX5_cost_108 (by decide) ?_
            refine v_callVi (r := M_sum v6.1 2) (rest := [.int (M_sum v6.2.1 2)]) (ws' := wX E b v6) hX (fun sz => c_X3_sumOf l E (b 1) sz v6.1 2 (by first | omega | exact Nat.le_of_ble_eq_true rfl)) (cwV 1 hX.2.2.2.2.1 gX5_cost_X3_sumOf rfl rfl rfl (by decide +kernel) ⟨Nat.le_of_ble_eq_true rfl, Nat.le_of_ble_eq_true rfl⟩) (w1X b v6 ++ ([])) (([]) ++ (wM E (b 2) v6.2.1 ++ (wM E (b 3) v6.2.2.1 ++ (wH E (hA b) v6.2.2.2.1 ++ (wP E (b 9) v6.2.2.2.2.1))))) (lift0 ((List.append_nil _).symm)) (lift0 ((List.append_nil _).symm)).symm (wM_fst E (b 1) _ _) (ci := 3) (q0 := 0) rfl rfl rfl rfl rfl (Nat.le_of_ble_eq_true rfl) dX5_cost_109 ?_
            refine v_isub (z := (M_sum v6.2.1 2 - M_sum v6.1 2)) hX dX5_cost_112 (rfl) ?_
            exact v_iret hX hr hsz dX5_cost_113 rfl rfl (by (subst hv6; subst hv4; first | rfl | (simp only [X_cost, X_try, c1, c2, c3, ec_r, el_n, ec_j, c5, k7t, if_true, if_false, reduceIte, Bool.false_eq_true, reduceCtorEq, decide_true, decide_false, Bool.and_true, Bool.and_false, Bool.true_and, Bool.false_and, Bool.or_true, Bool.or_false, Bool.true_or, Bool.false_or, not_true_eq_false, not_false_eq_true, Bool.not_true, Bool.not_false, eq_self, Nat.reduceEqDiff]; done) | (simp only [X_cost, X_try, c1, c2, c3, ec_r, el_n, ec_j, c5, k7t, if_true, if_false, reduceIte, Bool.false_eq_true, reduceCtorEq, decide_true, decide_false, Bool.and_true, Bool.and_false, Bool.true_and, Bool.false_and, Bool.or_true, Bool.or_false, Bool.true_or, Bool.false_or, not_true_eq_false, not_false_eq_true, Bool.not_true, Bool.not_false, eq_self, Nat.reduceEqDiff]; rfl) | contradiction | (exfalso; omega))) (by (subst hv6; subst hv4; first | rfl | (simp only [X_cost, X_try, c1, c2, c3, ec_r, el_n, ec_j, c5, k7t, if_true, if_false, reduceIte, Bool.false_eq_true, reduceCtorEq, decide_true, decide_false, Bool.and_true, Bool.and_false, Bool.true_and, Bool.false_and, Bool.or_true, Bool.or_false, Bool.true_or, Bool.false_or, not_true_eq_false, not_false_eq_true, Bool.not_true, Bool.not_false, eq_self, Nat.reduceEqDiff]; done) | (simp only [X_cost, X_try, c1, c2, c3, ec_r, el_n, ec_j, c5, k7t, if_true, if_false, reduceIte, Bool.false_eq_true, reduceCtorEq, decide_true, decide_false, Bool.and_true, Bool.and_false, Bool.true_and, Bool.false_and, Bool.or_true, Bool.or_false, Bool.true_or, Bool.false_or, not_true_eq_false, not_false_eq_true, Bool.not_true, Bool.not_false, eq_self, Nat.reduceEqDiff]; rfl) | contradiction | (exfalso; omega)))
          by_cases k8 : j = 1
          · have k8t := eq_true k8
            refine v_tableIn (tgt := 114) (off := 44) hX dX5_cost_70 (by rw [k8]; decide) (by rw [k8]; decide) (by rw [k8]; decide) (by decide) ?_
            refine v_aload_n hX dX5_cost_114 rfl ?_
            refine v_get (C := RX5) (T := TX5) (N := 9) (ci := 5) (v := .ref (b 2 0)) hX in_X5 0 rfl rfl 1 (by decide) fl_16 rfl rfl dX5_cost_115 ?_
            refine v_iconst (x := (3 : Int32)) hX dX5_cost_118 (by decide) ?_
            refine v_callVi (r := M_sum v6.2.1 3) (rest := []) (ws' := wX E b v6) hX (fun sz => c_X3_sumOf l E (b 2) sz v6.2.1 3 (by first | omega | exact Nat.le_of_ble_eq_true rfl)) (cwV 1 hX.2.2.2.2.1 gX5_cost_X3_sumOf rfl rfl rfl (by decide +kernel) ⟨Nat.le_of_ble_eq_true rfl, Nat.le_of_ble_eq_true rfl⟩) (w1X b v6 ++ (wM E (b 1) v6.1 ++ ([]))) (([]) ++ (wM E (b 3) v6.2.2.1 ++ (wH E (hA b) v6.2.2.2.1 ++ (wP E (b 9) v6.2.2.2.2.1)))) (lift1 ((List.append_nil _).symm)) (lift1 ((List.append_nil _).symm)).symm (wM_fst E (b 2) _ _) (ci := 3) (q0 := 0) rfl rfl rfl rfl rfl (Nat.le_of_ble_eq_true rfl) dX5_cost_119 ?_
            refine v_aload_n hX dX5_cost_122 rfl ?_
            refine v_get (C := RX5) (T := TX5) (N := 9) (ci := 5) (v := .ref (b 1 0)) hX in_X5 0 rfl rfl 0 (by decide) fl_12 rfl rfl dX5_cost_123 ?_
            refine v_iconst (x := (3 : Int32)) hX dX5_cost_126 (by decide) ?_
            refine v_callVi (r := M_sum v6.1 3) (rest := [.int (M_sum v6.2.1 3)]) (ws' := wX E b v6) hX (fun sz => c_X3_sumOf l E (b 1) sz v6.1 3 (by first | omega | exact Nat.le_of_ble_eq_true rfl)) (cwV 1 hX.2.2.2.2.1 gX5_cost_X3_sumOf rfl rfl rfl (by decide +kernel) ⟨Nat.le_of_ble_eq_true rfl, Nat.le_of_ble_eq_true rfl⟩) (w1X b v6 ++ ([])) (([]) ++ (wM E (b 2) v6.2.1 ++ (wM E (b 3) v6.2.2.1 ++ (wH E (hA b) v6.2.2.2.1 ++ (wP E (b 9) v6.2.2.2.2.1))))) (lift0 ((List.append_nil _).symm)) (lift0 ((List.append_nil _).symm)).symm (wM_fst E (b 1) _ _) (ci := 3) (q0 := 0) rfl rfl rfl rfl rfl (Nat.le_of_ble_eq_true rfl) dX5_cost_127 ?_
            refine v_isub (z := (M_sum v6.2.1 3 - M_sum v6.1 3)) hX dX5_cost_130 (rfl) ?_
            exact v_iret hX hr hsz dX5_cost_131 rfl rfl (by (subst hv6; subst hv4; first | rfl | (simp only [X_cost, X_try, c1, c2, c3, ec_r, el_n, ec_j, c5, k7, k8t, if_true, if_false, reduceIte, Bool.false_eq_true, reduceCtorEq, decide_true, decide_false, Bool.and_true, Bool.and_false, Bool.true_and, Bool.false_and, Bool.or_true, Bool.or_false, Bool.true_or, Bool.false_or, not_true_eq_false, not_false_eq_true, Bool.not_true, Bool.not_false, eq_self, Nat.reduceEqDiff]; done) | (simp only [X_cost, X_try, c1, c2, c3, ec_r, el_n, ec_j, c5, k7, k8t, if_true, if_false, reduceIte, Bool.false_eq_true, reduceCtorEq, decide_true, decide_false, Bool.and_true, Bool.and_false, Bool.true_and, Bool.false_and, Bool.or_true, Bool.or_false, Bool.true_or, Bool.false_or, not_true_eq_false, not_false_eq_true, Bool.not_true, Bool.not_false, eq_self, Nat.reduceEqDiff]; rfl) | contradiction | (exfalso; omega))) (by (subst hv6; subst hv4; first | rfl | (simp only [X_cost, X_try, c1, c2, c3, ec_r, el_n, ec_j, c5, k7, k8t, if_true, if_false, reduceIte, Bool.false_eq_true, reduceCtorEq, decide_true, decide_false, Bool.and_true, Bool.and_false, Bool.true_and, Bool.false_and, Bool.or_true, Bool.or_false, Bool.true_or, Bool.false_or, not_true_eq_false, not_false_eq_true, Bool.not_true, Bool.not_false, eq_self, Nat.reduceEqDiff]; done) | (simp only [X_cost, X_try, c1, c2, c3, ec_r, el_n, ec_j, c5, k7, k8t, if_true, if_false, reduceIte, Bool.false_eq_true, reduceCtorEq, decide_true, decide_false, Bool.and_true, Bool.and_false, Bool.true_and, Bool.false_and, Bool.or_true, Bool.or_false, Bool.true_or, Bool.false_or, not_true_eq_false, not_false_eq_true, Bool.not_true, Bool.not_false, eq_self, Nat.reduceEqDiff]; rfl) | contradiction | (exfalso; omega)))
          by_cases k9 : j = 2
          · have k9t := eq_true k9
            refine v_tableIn (tgt := 132) (off := 62) hX dX5_cost_70 (by rw [k9]; decide) (by rw [k9]; decide) (by rw [k9]; decide) (by decide) ?_
            refine v_aload_n hX dX5_cost_132 rfl ?_
            refine v_get (C := RX5) (T := TX5) (N := 9) (ci := 5) (v := .ref (b 2 0)) hX in_X5 0 rfl rfl 1 (by decide) fl_16 rfl rfl dX5_cost_133 ?_
            refine v_get (C := RX3) (T := TX3) (N := 6) (ci := 3) (v := .int (v6.2.1.2.2.2.2.1)) hX in_X3 _ (atR (atR (atL (rfl : (wM E (b 2) v6.2.1)[0]? = _)))) rfl 4 (by decide) fl_204 rfl rfl dX5_cost_136 ?_
            refine v_aload_n hX dX5_cost_139 rfl ?_
            refine v_get (C := RX5) (T := TX5) (N := 9) (ci := 5) (v := .ref (b 1 0)) hX in_X5 0 rfl rfl 0 (by decide) fl_12 rfl rfl dX5_cost_140 ?_
            refine v_get (C := RX3) (T := TX3) (N := 6) (ci := 3) (v := .int (v6.1.2.2.2.2.1)) hX in_X3 _ (atR (atL (rfl : (wM E (b 1) v6.1)[0]? = _))) rfl 4 (by decide) fl_204 rfl rfl dX5_cost_143 ?_
            refine v_isub (z := (v6.2.1.2.2.2.2.1 - v6.1.2.2.2.2.1)) hX dX5_cost_146 (rfl) ?_
            exact v_iret hX hr hsz dX5_cost_147 rfl rfl (by (subst hv6; subst hv4; first | rfl | (simp only [X_cost, X_try, c1, c2, c3, ec_r, el_n, ec_j, c5, k7, k8, k9t, if_true, if_false, reduceIte, Bool.false_eq_true, reduceCtorEq, decide_true, decide_false, Bool.and_true, Bool.and_false, Bool.true_and, Bool.false_and, Bool.or_true, Bool.or_false, Bool.true_or, Bool.false_or, not_true_eq_false, not_false_eq_true, Bool.not_true, Bool.not_false, eq_self, Nat.reduceEqDiff]; done) | (simp only [X_cost, X_try, c1, c2, c3, ec_r, el_n, ec_j, c5, k7, k8, k9t, if_true, if_false, reduceIte, Bool.false_eq_true, reduceCtorEq, decide_true, decide_false, Bool.and_true, Bool.and_false, Bool.true_and, Bool.false_and, Bool.or_true, Bool.or_false, Bool.true_or, Bool.false_or, not_true_eq_false, not_false_eq_true, Bool.not_true, Bool.not_false, eq_self, Nat.reduceEqDiff]; rfl) | contradiction | (exfalso; omega))) (by (subst hv6; subst hv4; first | rfl | (simp only [X_cost, X_try, c1, c2, c3, ec_r, el_n, ec_j, c5, k7, k8, k9t, if_true, if_false, reduceIte, Bool.false_eq_true, reduceCtorEq, decide_true, decide_false, Bool.and_true, Bool.and_false, Bool.true_and, Bool.false_and, Bool.or_true, Bool.or_false, Bool.true_or, Bool.false_or, not_true_eq_false, not_false_eq_true, Bool.not_true, Bool.not_false, eq_self, Nat.reduceEqDiff]; done) | (simp only [X_cost, X_try, c1, c2, c3, ec_r, el_n, ec_j, c5, k7, k8, k9t, if_true, if_false, reduceIte, Bool.false_eq_true, reduceCtorEq, decide_true, decide_false, Bool.and_true, Bool.and_false, Bool.true_and, Bool.false_and, Bool.or_true, Bool.or_false, Bool.true_or, Bool.false_or, not_true_eq_false, not_false_eq_true, Bool.not_true, Bool.not_false, eq_self, Nat.reduceEqDiff]; rfl) | contradiction | (exfalso; omega)))
          refine v_tableOut (tgt := 148) hX dX5_cost_70 (Or.inr (by rw [nI_toInt (by omega)]; omega)) (by decide) ?_
          refine v_aload_n hX dX5_cost_148 rfl ?_
          refine v_get (C := RX5) (T := TX5) (N := 9) (ci := 5) (v := .ref (b 2 0)) hX in_X5 0 rfl rfl 1 (by decide) fl_16 rfl rfl dX5_cost_149 ?_
          refine v_iconst (x := (5 : Int32)) hX dX5_cost_152 (by decide) ?_
          refine v_callVi (r := M_sum v6.2.1 5) (rest := []) (ws' := wX E b v6) hX (fun sz => c_X3_sumOf l E (b 2) sz v6.2.1 5 (by first | omega | exact Nat.le_of_ble_eq_true rfl)) (cwV 1 hX.2.2.2.2.1 gX5_cost_X3_sumOf rfl rfl rfl (by decide +kernel) ⟨Nat.le_of_ble_eq_true rfl, Nat.le_of_ble_eq_true rfl⟩) (w1X b v6 ++ (wM E (b 1) v6.1 ++ ([]))) (([]) ++ (wM E (b 3) v6.2.2.1 ++ (wH E (hA b) v6.2.2.2.1 ++ (wP E (b 9) v6.2.2.2.2.1)))) (lift1 ((List.append_nil _).symm)) (lift1 ((List.append_nil _).symm)).symm (wM_fst E (b 2) _ _) (ci := 3) (q0 := 0) rfl rfl rfl rfl rfl (Nat.le_of_ble_eq_true rfl) dX5_cost_153 ?_
          refine v_aload_n hX dX5_cost_156 rfl ?_
          refine v_get (C := RX5) (T := TX5) (N := 9) (ci := 5) (v := .ref (b 1 0)) hX in_X5 0 rfl rfl 0 (by decide) fl_12 rfl rfl dX5_cost_157 ?_
          refine v_iconst (x := (5 : Int32)) hX dX5_cost_160 (by decide) ?_
          refine v_callVi (r := M_sum v6.1 5) (rest := [.int (M_sum v6.2.1 5)]) (ws' := wX E b v6) hX (fun sz => c_X3_sumOf l E (b 1) sz v6.1 5 (by first | omega | exact Nat.le_of_ble_eq_true rfl)) (cwV 1 hX.2.2.2.2.1 gX5_cost_X3_sumOf rfl rfl rfl (by decide +kernel) ⟨Nat.le_of_ble_eq_true rfl, Nat.le_of_ble_eq_true rfl⟩) (w1X b v6 ++ ([])) (([]) ++ (wM E (b 2) v6.2.1 ++ (wM E (b 3) v6.2.2.1 ++ (wH E (hA b) v6.2.2.2.1 ++ (wP E (b 9) v6.2.2.2.2.1))))) (lift0 ((List.append_nil _).symm)) (lift0 ((List.append_nil _).symm)).symm (wM_fst E (b 1) _ _) (ci := 3) (q0 := 0) rfl rfl rfl rfl rfl (Nat.le_of_ble_eq_true rfl) dX5_cost_161 ?_
          refine v_isub (z := (M_sum v6.2.1 5 - M_sum v6.1 5)) hX dX5_cost_164 (rfl) ?_
          exact v_iret hX hr hsz dX5_cost_165 rfl rfl (by (subst hv6; subst hv4; first | rfl | (simp only [X_cost, X_try, c1, c2, c3, ec_r, el_n, ec_j, c5, k7, k8, k9, if_true, if_false, reduceIte, Bool.false_eq_true, reduceCtorEq, decide_true, decide_false, Bool.and_true, Bool.and_false, Bool.true_and, Bool.false_and, Bool.or_true, Bool.or_false, Bool.true_or, Bool.false_or, not_true_eq_false, not_false_eq_true, Bool.not_true, Bool.not_false, eq_self, Nat.reduceEqDiff]; done) | (simp only [X_cost, X_try, c1, c2, c3, ec_r, el_n, ec_j, c5, k7, k8, k9, if_true, if_false, reduceIte, Bool.false_eq_true, reduceCtorEq, decide_true, decide_false, Bool.and_true, Bool.and_false, Bool.true_and, Bool.false_and, Bool.or_true, Bool.or_false, Bool.true_or, Bool.false_or, not_true_eq_false, not_false_eq_true, Bool.not_true, Bool.not_false, eq_self, Nat.reduceEqDiff]; rfl) | contradiction | (exfalso; omega))) (by (subst hv6; subst hv4; first | rfl | (simp only [X_cost, X_try, c1, c2, c3, ec_r, el_n, ec_j, c5, k7, k8, k9, if_true, if_false, reduceIte, Bool.false_eq_true, reduceCtorEq, decide_true, decide_false, Bool.and_true, Bool.and_false, Bool.true_and, Bool.false_and, Bool.or_true, Bool.or_false, Bool.true_or, Bool.false_or, not_true_eq_false, not_false_eq_true, Bool.not_true, Bool.not_false, eq_self, Nat.reduceEqDiff]; done) | (simp only [X_cost, X_try, c1, c2, c3, ec_r, el_n, ec_j, c5, k7, k8, k9, if_true, if_false, reduceIte, Bool.false_eq_true, reduceCtorEq, decide_true, decide_false, Bool.and_true, Bool.and_false, Bool.true_and, Bool.false_and, Bool.or_true, Bool.or_false, Bool.true_or, Bool.false_or, not_true_eq_false, not_false_eq_true, Bool.not_true, Bool.not_false, eq_self, Nat.reduceEqDiff]; rfl) | contradiction | (exfalso; omega)))
        · replace c5 := bI_n0.mp c5
          refine v_aload_n hX dX5_cost_44 rfl ?_
          refine v_get (C := RX5) (T := TX5) (N := 9) (ci := 5) (v := .ref (b 2 0)) hX in_X5 0 rfl rfl 1 (by decide) fl_16 rfl rfl dX5_cost_45 ?_
          refine v_iload_n hX dX5_cost_48 rfl ?_
          refine v_iload_n hX dX5_cost_49 rfl ?_
          refine v_iconst (x := (0 : Int32)) hX dX5_cost_50 (by decide) ?_
          obtain ⟨v10, hv10⟩ : ∃ z_ : XV, z_ = X_setTrial v4 ((M_write v4.2.1 r n (0 : Int32)).1) := ⟨_, rfl⟩
          refine v_callVi (r := (M_write v4.2.1 r n (0 : Int32)).2) (rest := []) (ws' := wX E b v10) hX (fun sz => c_X3_writeLine l E (b 2) sz v4.2.1 r (by first | omega | exact Nat.le_of_ble_eq_true rfl) n (0 : Int32)) (cwV 3 hX.2.2.2.2.1 gX5_cost_X3_writeLine rfl rfl rfl (by decide +kernel) ⟨Nat.le_of_ble_eq_true rfl, Nat.le_of_ble_eq_true rfl⟩) (w1X b v4 ++ (wM E (b 1) v4.1 ++ ([]))) (([]) ++ (wM E (b 3) v4.2.2.1 ++ (wH E (hA b) v4.2.2.2.1 ++ (wP E (b 9) v4.2.2.2.2.1)))) (lift1 ((List.append_nil _).symm)) (by rw [hv10]; exact (lift1 (y := wM E (b 2) ((M_write v4.2.1 r n (0 : Int32)).1)) (List.append_nil _).symm).symm) (wM_fst E (b 2) _ _) (ci := 3) (q0 := 0) rfl rfl rfl rfl rfl (Nat.le_of_ble_eq_true rfl) dX5_cost_51 ?_
          refine v_pop hX dX5_cost_54 rfl ?_
          refine v_goto (tgt := 68) hX dX5_cost_55 (by decide) ?_
          refine v_iload hX dX5_cost_68 rfl ?_
          by_cases k11 : j = 0
          · have k11t := eq_true k11
            refine v_tableIn (tgt := 96) (off := 26) hX dX5_cost_70 (by rw [k11]; decide) (by rw [k11]; decide) (by rw [k11]; decide) (by decide) ?_
            refine v_aload_n hX dX5_cost_96 rfl ?_
            refine v_get (C := RX5) (T := TX5) (N := 9) (ci := 5) (v := .ref (b 2 0)) hX in_X5 0 rfl rfl 1 (by decide) fl_16 rfl rfl dX5_cost_97 ?_
            refine v_iconst (x := (2 : Int32)) hX dX5_cost_100 (by decide) ?_
            refine v_callVi (r := M_sum v10.2.1 2) (rest := []) (ws' := wX E b v10) hX (fun sz => c_X3_sumOf l E (b 2) sz v10.2.1 2 (by first | omega | exact Nat.le_of_ble_eq_true rfl)) (cwV 1 hX.2.2.2.2.1 gX5_cost_X3_sumOf rfl rfl rfl (by decide +kernel) ⟨Nat.le_of_ble_eq_true rfl, Nat.le_of_ble_eq_true rfl⟩) (w1X b v10 ++ (wM E (b 1) v10.1 ++ ([]))) (([]) ++ (wM E (b 3) v10.2.2.1 ++ (wH E (hA b) v10.2.2.2.1 ++ (wP E (b 9) v10.2.2.2.2.1)))) (lift1 ((List.append_nil _).symm)) (lift1 ((List.append_nil _).symm)).symm (wM_fst E (b 2) _ _) (ci := 3) (q0 := 0) rfl rfl rfl rfl rfl (Nat.le_of_ble_eq_true rfl) dX5_cost_101 ?_
            refine v_aload_n hX dX5_cost_104 rfl ?_
            refine v_get (C := RX5) (T := TX5) (N := 9) (ci := 5) (v := .ref (b 1 0)) hX in_X5 0 rfl rfl 0 (by decide) fl_12 rfl rfl dX5_cost_105 ?_
            refine v_iconst (x := (2 : Int32)) hX dX5_cost_108 (by decide) ?_
            refine v_callVi (r := M_sum v10.1 2) (rest := [.int (M_sum v10.2.1 2)]) (ws' := wX E b v10) hX (fun sz => c_X3_sumOf l E (b 1) sz v10.1 2 (by first | omega | exact Nat.le_of_ble_eq_true rfl)) (cwV 1 hX.2.2.2.2.1 gX5_cost_X3_sumOf rfl rfl rfl (by decide +kernel) ⟨Nat.le_of_ble_eq_true rfl, Nat.le_of_ble_eq_true rfl⟩) (w1X b v10 ++ ([])) (([]) ++ (wM E (b 2) v10.2.1 ++ (wM E (b 3) v10.2.2.1 ++ (wH E (hA b) v10.2.2.2.1 ++ (wP E (b 9) v10.2.2.2.2.1))))) (lift0 ((List.append_nil _).symm)) (lift0 ((List.append_nil _).symm)).symm (wM_fst E (b 1) _ _) (ci := 3) (q0 := 0) rfl rfl rfl rfl rfl (Nat.le_of_ble_eq_true rfl) dX5_cost_109 ?_
            refine v_isub (z := (M_sum v10.2.1 2 - M_sum v10.1 2)) hX dX5_cost_112 (rfl) ?_
            exact v_iret hX hr hsz dX5_cost_113 rfl rfl (by (subst hv10; subst hv4; first | rfl | (simp only [X_cost, X_try, c1, c2, c3, ec_r, el_n, ec_j, c5, k11t, if_true, if_false, reduceIte, Bool.false_eq_true, reduceCtorEq, decide_true, decide_false, Bool.and_true, Bool.and_false, Bool.true_and, Bool.false_and, Bool.or_true, Bool.or_false, Bool.true_or, Bool.false_or, not_true_eq_false, not_false_eq_true, Bool.not_true, Bool.not_false, eq_self, Nat.reduceEqDiff]; done) | (simp only [X_cost, X_try, c1, c2, c3, ec_r, el_n, ec_j, c5, k11t, if_true, if_false, reduceIte, Bool.false_eq_true, reduceCtorEq, decide_true, decide_false, Bool.and_true, Bool.and_false, Bool.true_and, Bool.false_and, Bool.or_true, Bool.or_false, Bool.true_or, Bool.false_or, not_true_eq_false, not_false_eq_true, Bool.not_true, Bool.not_false, eq_self, Nat.reduceEqDiff]; rfl) | contradiction | (exfalso; omega))) (by (subst hv10; subst hv4; first | rfl | (simp only [X_cost, X_try, c1, c2, c3, ec_r, el_n, ec_j, c5, k11t, if_true, if_false, reduceIte, Bool.false_eq_true, reduceCtorEq, decide_true, decide_false, Bool.and_true, Bool.and_false, Bool.true_and, Bool.false_and, Bool.or_true, Bool.or_false, Bool.true_or, Bool.false_or, not_true_eq_false, not_false_eq_true, Bool.not_true, Bool.not_false, eq_self, Nat.reduceEqDiff]; done) | (simp only [X_cost, X_try, c1, c2, c3, ec_r, el_n, ec_j, c5, k11t, if_true, if_false, reduceIte, Bool.false_eq_true, reduceCtorEq, decide_true, decide_false, Bool.and_true, Bool.and_false, Bool.true_and, Bool.false_and, Bool.or_true, Bool.or_false, Bool.true_or, Bool.false_or, not_true_eq_false, not_false_eq_true, Bool.not_true, Bool.not_false, eq_self, Nat.reduceEqDiff]; rfl) | contradiction | (exfalso; omega)))
          by_cases k12 : j = 1
          · have k12t := eq_true k12
            refine v_tableIn (tgt := 114) (off := 44) hX dX5_cost_70 (by rw [k12]; decide) (by rw [k12]; decide) (by rw [k12]; decide) (by decide) ?_
            refine v_aload_n hX dX5_cost_114 rfl ?_
            refine v_get (C := RX5) (T := TX5) (N := 9) (ci := 5) (v := .ref (b 2 0)) hX in_X5 0 rfl rfl 1 (by decide) fl_16 rfl rfl dX5_cost_115 ?_
            refine v_iconst (x := (3 : Int32)) hX dX5_cost_118 (by decide) ?_
            refine v_callVi (r := M_sum v10.2.1 3) (rest := []) (ws' := wX E b v10) hX (fun sz => c_X3_sumOf l E (b 2) sz v10.2.1 3 (by first | omega | exact Nat.le_of_ble_eq_true rfl)) (cwV 1 hX.2.2.2.2.1 gX5_cost_X3_sumOf rfl rfl rfl (by decide +kernel) ⟨Nat.le_of_ble_eq_true rfl, Nat.le_of_ble_eq_true rfl⟩) (w1X b v10 ++ (wM E (b 1) v10.1 ++ ([]))) (([]) ++ (wM E (b 3) v10.2.2.1 ++ (wH E (hA b) v10.2.2.2.1 ++ (wP E (b 9) v10.2.2.2.2.1)))) (lift1 ((List.append_nil _).symm)) (lift1 ((List.append_nil _).symm)).symm (wM_fst E (b 2) _ _) (ci := 3) (q0 := 0) rfl rfl rfl rfl rfl (Nat.le_of_ble_eq_true rfl) dX5_cost_119 ?_
            refine v_aload_n hX dX5_cost_122 rfl ?_
            refine v_get (C := RX5) (T := TX5) (N := 9) (ci := 5) (v := .ref (b 1 0)) hX in_X5 0 rfl rfl 0 (by decide) fl_12 rfl rfl dX5_cost_123 ?_
            refine v_iconst (x := (3 : Int32)) hX dX5_cost_126 (by decide) ?_
            refine v_callVi (r := M_sum v10.1 3) (rest := [.int (M_sum v10.2.1 3)]) (ws' := wX E b v10) hX (fun sz => c_X3_sumOf l E (b 1) sz v10.1 3 (by first | omega | exact Nat.le_of_ble_eq_true rfl)) (cwV 1 hX.2.2.2.2.1 gX5_cost_X3_sumOf rfl rfl rfl (by decide +kernel) ⟨Nat.le_of_ble_eq_true rfl, Nat.le_of_ble_eq_true rfl⟩) (w1X b v10 ++ ([])) (([]) ++ (wM E (b 2) v10.2.1 ++ (wM E (b 3) v10.2.2.1 ++ (wH E (hA b) v10.2.2.2.1 ++ (wP E (b 9) v10.2.2.2.2.1))))) (lift0 ((List.append_nil _).symm)) (lift0 ((List.append_nil _).symm)).symm (wM_fst E (b 1) _ _) (ci := 3) (q0 := 0) rfl rfl rfl rfl rfl (Nat.le_of_ble_eq_true rfl) dX5_cost_127 ?_
            refine v_isub (z := (M_sum v10.2.1 3 - M_sum v10.1 3)) hX dX5_cost_130 (rfl) ?_
            exact v_iret hX hr hsz dX5_cost_131 rfl rfl (by (subst hv10; subst hv4; first | rfl | (simp only [X_cost, X_try, c1, c2, c3, ec_r, el_n, ec_j, c5, k11, k12t, if_true, if_false, reduceIte, Bool.false_eq_true, reduceCtorEq, decide_true, decide_false, Bool.and_true, Bool.and_false, Bool.true_and, Bool.false_and, Bool.or_true, Bool.or_false, Bool.true_or, Bool.false_or, not_true_eq_false, not_false_eq_true, Bool.not_true, Bool.not_false, eq_self, Nat.reduceEqDiff]; done) | (simp only [X_cost, X_try, c1, c2, c3, ec_r, el_n, ec_j, c5, k11, k12t, if_true, if_false, reduceIte, Bool.false_eq_true, reduceCtorEq, decide_true, decide_false, Bool.and_true, Bool.and_false, Bool.true_and, Bool.false_and, Bool.or_true, Bool.or_false, Bool.true_or, Bool.false_or, not_true_eq_false, not_false_eq_true, Bool.not_true, Bool.not_false, eq_self, Nat.reduceEqDiff]; rfl) | contradiction | (exfalso; omega))) (by (subst hv10; subst hv4; first | rfl | (simp only [X_cost, X_try, c1, c2, c3, ec_r, el_n, ec_j, c5, k11, k12t, if_true, if_false, reduceIte, Bool.false_eq_true, reduceCtorEq, decide_true, decide_false, Bool.and_true, Bool.and_false, Bool.true_and, Bool.false_and, Bool.or_true, Bool.or_false, Bool.true_or, Bool.false_or, not_true_eq_false, not_false_eq_true, Bool.not_true, Bool.not_false, eq_self, Nat.reduceEqDiff]; done) | (simp only [X_cost, X_try, c1, c2, c3, ec_r, el_n, ec_j, c5, k11, k12t, if_true, if_false, reduceIte, Bool.false_eq_true, reduceCtorEq, decide_true, decide_false, Bool.and_true, Bool.and_false, Bool.true_and, Bool.false_and, Bool.or_true, Bool.or_false, Bool.true_or, Bool.false_or, not_true_eq_false, not_false_eq_true, Bool.not_true, Bool.not_false, eq_self, Nat.reduceEqDiff]; rfl) | contradiction | (exfalso; omega)))
          by_cases k13 : j = 2
          · have k13t := eq_true k13
            refine v_tableIn (tgt := 132) (off := 62) hX dX5_cost_70 (by rw [k13]; decide) (by rw [k13]; decide) (by rw [k13]; decide) (by decide) ?_
            refine v_aload_n hX dX5_cost_132 rfl ?_
            refine v_get (C := RX5) (T := TX5) (N := 9) (ci := 5) (v := .ref (b 2 0)) hX in_X5 0 rfl rfl 1 (by decide) fl_16 rfl rfl dX5_cost_133 ?_
            refine v_get (C := RX3) (T := TX3) (N := 6) (ci := 3) (v := .int (v10.2.1.2.2.2.2.1)) hX in_X3 _ (atR (atR (atL (rfl : (wM E (b 2) v10.2.1)[0]? = _)))) rfl 4 (by decide) fl_204 rfl rfl dX5_cost_136 ?_
            refine v_aload_n hX dX5_cost_139 rfl ?_
            refine v_get (C := RX5) (T := TX5) (N := 9) (ci := 5) (v := .ref (b 1 0)) hX in_X5 0 rfl rfl 0 (by decide) fl_12 rfl rfl dX5_cost_140 ?_
            refine v_get (C := RX3) (T := TX3) (N := 6) (ci := 3) (v := .int (v10.1.2.2.2.2.1)) hX in_X3 _ (atR (atL (rfl : (wM E (b 1) v10.1)[0]? = _))) rfl 4 (by decide) fl_204 rfl rfl dX5_cost_143 ?_
            refine v_isub (z := (v10.2.1.2.2.2.2.1 - v10.1.2.2.2.2.1)) hX dX5_cost_146 (rfl) ?_
            exact v_iret hX hr hsz dX5_cost_147 rfl rfl (by (subst hv10; subst hv4; first | rfl | (simp only [X_cost, X_try, c1, c2, c3, ec_r, el_n, ec_j, c5, k11, k12, k13t, if_true, if_false, reduceIte, Bool.false_eq_true, reduceCtorEq, decide_true, decide_false, Bool.and_true, Bool.and_false, Bool.true_and, Bool.false_and, Bool.or_true, Bool.or_false, Bool.true_or, Bool.false_or, not_true_eq_false, not_false_eq_true, Bool.not_true, Bool.not_false, eq_self, Nat.reduceEqDiff]; done) | (simp only [X_cost, X_try, c1, c2, c3, ec_r, el_n, ec_j, c5, k11, k12, k13t, if_true, if_false, reduceIte, Bool.false_eq_true, reduceCtorEq, decide_true, decide_false, Bool.and_true, Bool.and_false, Bool.true_and, Bool.false_and, Bool.or_true, Bool.or_false, Bool.true_or, Bool.false_or, not_true_eq_false, not_false_eq_true, Bool.not_true, Bool.not_false, eq_self, Nat.reduceEqDiff]; rfl) | contradiction | (exfalso; omega))) (by (subst hv10; subst hv4; first | rfl | (simp only [X_cost, X_try, c1, c2, c3, ec_r, el_n, ec_j, c5, k11, k12, k13t, if_true, if_false, reduceIte, Bool.false_eq_true, reduceCtorEq, decide_true, decide_false, Bool.and_true, Bool.and_false, Bool.true_and, Bool.false_and, Bool.or_true, Bool.or_false, Bool.true_or, Bool.false_or, not_true_eq_false, not_false_eq_true, Bool.not_true, Bool.not_false, eq_self, Nat.reduceEqDiff]; done) | (simp only [X_cost, X_try, c1, c2, c3, ec_r, el_n, ec_j, c5, k11, k12, k13t, if_true, if_false, reduceIte, Bool.false_eq_true, reduceCtorEq, decide_true, decide_false, Bool.and_true, Bool.and_false, Bool.true_and, Bool.false_and, Bool.or_true, Bool.or_false, Bool.true_or, Bool.false_or, not_true_eq_false, not_false_eq_true, Bool.not_true, Bool.not_false, eq_self, Nat.reduceEqDiff]; rfl) | contradiction | (exfalso; omega)))
          refine v_tableOut (tgt := 148) hX dX5_cost_70 (Or.inr (by rw [nI_toInt (by omega)]; omega)) (by decide) ?_
          refine v_aload_n hX dX5_cost_148 rfl ?_
          refine v_get (C := RX5) (T := TX5) (N := 9) (ci := 5) (v := .ref (b 2 0)) hX in_X5 0 rfl rfl 1 (by decide) fl_16 rfl rfl dX5_cost_149 ?_
          refine v_iconst (x := (5 : Int32)) hX dX5_cost_152 (by decide) ?_
          refine v_callVi (r := M_sum v10.2.1 5) (rest := []) (ws' := wX E b v10) hX (fun sz => c_X3_sumOf l E (b 2) sz v10.2.1 5 (by first | omega | exact Nat.le_of_ble_eq_true rfl)) (cwV 1 hX.2.2.2.2.1 gX5_cost_X3_sumOf rfl rfl rfl (by decide +kernel) ⟨Nat.le_of_ble_eq_true rfl, Nat.le_of_ble_eq_true rfl⟩) (w1X b v10 ++ (wM E (b 1) v10.1 ++ ([]))) (([]) ++ (wM E (b 3) v10.2.2.1 ++ (wH E (hA b) v10.2.2.2.1 ++ (wP E (b 9) v10.2.2.2.2.1)))) (lift1 ((List.append_nil _).symm)) (lift1 ((List.append_nil _).symm)).symm (wM_fst E (b 2) _ _) (ci := 3) (q0 := 0) rfl rfl rfl rfl rfl (Nat.le_of_ble_eq_true rfl) dX5_cost_153 ?_
          refine v_aload_n hX dX5_cost_156 rfl ?_
          refine v_get (C := RX5) (T := TX5) (N := 9) (ci := 5) (v := .ref (b 1 0)) hX in_X5 0 rfl rfl 0 (by decide) fl_12 rfl rfl dX5_cost_157 ?_
          refine v_iconst (x := (5 : Int32)) hX dX5_cost_160 (by decide) ?_
          refine v_callVi (r := M_sum v10.1 5) (rest := [.int (M_sum v10.2.1 5)]) (ws' := wX E b v10) hX (fun sz => c_X3_sumOf l E (b 1) sz v10.1 5 (by first | omega | exact Nat.le_of_ble_eq_true rfl)) (cwV 1 hX.2.2.2.2.1 gX5_cost_X3_sumOf rfl rfl rfl (by decide +kernel) ⟨Nat.le_of_ble_eq_true rfl, Nat.le_of_ble_eq_true rfl⟩) (w1X b v10 ++ ([])) (([]) ++ (wM E (b 2) v10.2.1 ++ (wM E (b 3) v10.2.2.1 ++ (wH E (hA b) v10.2.2.2.1 ++ (wP E (b 9) v10.2.2.2.2.1))))) (lift0 ((List.append_nil _).symm)) (lift0 ((List.append_nil _).symm)).symm (wM_fst E (b 1) _ _) (ci := 3) (q0 := 0) rfl rfl rfl rfl rfl (Nat.le_of_ble_eq_true rfl) dX5_cost_161 ?_
          refine v_isub (z := (M_sum v10.2.1 5 - M_sum v10.1 5)) hX dX5_cost_164 (rfl) ?_
          exact v_iret hX hr hsz dX5_cost_165 rfl rfl (by (subst hv10; subst hv4; first | rfl | (simp only [X_cost, X_try, c1, c2, c3, ec_r, el_n, ec_j, c5, k11, k12, k13, if_true, if_false, reduceIte, Bool.false_eq_true, reduceCtorEq, decide_true, decide_false, Bool.and_true, Bool.and_false, Bool.true_and, Bool.false_and, Bool.or_true, Bool.or_false, Bool.true_or, Bool.false_or, not_true_eq_false, not_false_eq_true, Bool.not_true, Bool.not_false, eq_self, Nat.reduceEqDiff]; done) | (simp only [X_cost, X_try, c1, c2, c3, ec_r, el_n, ec_j, c5, k11, k12, k13, if_true, if_false, reduceIte, Bool.false_eq_true, reduceCtorEq, decide_true, decide_false, Bool.and_true, Bool.and_false, Bool.true_and, Bool.false_and, Bool.or_true, Bool.or_false, Bool.true_or, Bool.false_or, not_true_eq_false, not_false_eq_true, Bool.not_true, Bool.not_false, eq_self, Nat.reduceEqDiff]; rfl) | contradiction | (exfalso; omega))) (by (subst hv10; subst hv4; first | rfl | (simp only [X_cost, X_try, c1, c2, c3, ec_r, el_n, ec_j, c5, k11, k12, k13, if_true, if_false, reduceIte, Bool.false_eq_true, reduceCtorEq, decide_true, decide_false, Bool.and_true, Bool.and_false, Bool.true_and, Bool.false_and, Bool.or_true, Bool.or_false, Bool.true_or, Bool.false_or, not_true_eq_false, not_false_eq_true, Bool.not_true, Bool.not_false, eq_self, Nat.reduceEqDiff]; done) | (simp only [X_cost, X_try, c1, c2, c3, ec_r, el_n, ec_j, c5, k11, k12, k13, if_true, if_false, reduceIte, Bool.false_eq_true, reduceCtorEq, decide_true, decide_false, Bool.and_true, Bool.and_false, Bool.true_and, Bool.false_and, Bool.or_true, Bool.or_false, Bool.true_or, Bool.false_or, not_true_eq_false, not_false_eq_true, Bool.not_true, Bool.not_false, eq_self, Nat.reduceEqDiff]; rfl) | contradiction | (exfalso; omega)))
      · replace c3 := bI_0.mp c3
        refine v_bipush (x := (-2 : Int32)) hX dX5_cost_26 (by decide) ?_
        exact v_iret hX hr hsz dX5_cost_28 rfl rfl (by (first | rfl | (simp only [X_cost, X_try, c1, c2, c3, if_true, if_false, reduceIte, Bool.false_eq_true, reduceCtorEq, decide_true, decide_false, Bool.and_true, Bool.and_false, Bool.true_and, Bool.false_and, Bool.or_true, Bool.or_false, Bool.true_or, Bool.false_or, not_true_eq_false, not_false_eq_true, Bool.not_true, Bool.not_false, eq_self, Nat.reduceEqDiff]; done) | (simp only [X_cost, X_try, c1, c2, c3, if_true, if_false, reduceIte, Bool.false_eq_true, reduceCtorEq, decide_true, decide_false, Bool.and_true, Bool.and_false, Bool.true_and, Bool.false_and, Bool.or_true, Bool.or_false, Bool.true_or, Bool.false_or, not_true_eq_false, not_false_eq_true, Bool.not_true, Bool.not_false, eq_self, Nat.reduceEqDiff]; rfl) | contradiction | (exfalso; omega))) (by (first | rfl | (simp only [X_cost, X_try, c1, c2, c3, if_true, if_false, reduceIte, Bool.false_eq_true, reduceCtorEq, decide_true, decide_false, Bool.and_true, Bool.and_false, Bool.true_and, Bool.false_and, Bool.or_true, Bool.or_false, Bool.true_or, Bool.false_or, not_true_eq_false, not_false_eq_true, Bool.not_true, Bool.not_false, eq_self, Nat.reduceEqDiff]; done) | (simp only [X_cost, X_try, c1, c2, c3, if_true, if_false, reduceIte, Bool.false_eq_true, reduceCtorEq, decide_true, decide_false, Bool.and_true, Bool.and_false, Bool.true_and, Bool.false_and, Bool.or_true, Bool.or_false, Bool.true_or, Bool.false_or, not_true_eq_false, not_false_eq_true, Bool.not_true, Bool.not_false, eq_self, Nat.reduceEqDiff]; rfl) | contradiction | (exfalso; omega)))
    · replace c2 := bI_0.mp c2
      refine v_iconst (x := (-1 : Int32)) hX dX5_cost_14 (by decide) ?_
      exact v_iret hX hr hsz dX5_cost_15 rfl rfl (by (first | rfl | (simp only [X_cost, X_try, c1, c2, if_true, if_false, reduceIte, Bool.false_eq_true, reduceCtorEq, decide_true, decide_false, Bool.and_true, Bool.and_false, Bool.true_and, Bool.false_and, Bool.or_true, Bool.or_false, Bool.true_or, Bool.false_or, not_true_eq_false, not_false_eq_true, Bool.not_true, Bool.not_false, eq_self, Nat.reduceEqDiff]; done) | (simp only [X_cost, X_try, c1, c2, if_true, if_false, reduceIte, Bool.false_eq_true, reduceCtorEq, decide_true, decide_false, Bool.and_true, Bool.and_false, Bool.true_and, Bool.false_and, Bool.or_true, Bool.or_false, Bool.true_or, Bool.false_or, not_true_eq_false, not_false_eq_true, Bool.not_true, Bool.not_false, eq_self, Nat.reduceEqDiff]; rfl) | contradiction | (exfalso; omega))) (by (first | rfl | (simp only [X_cost, X_try, c1, c2, if_true, if_false, reduceIte, Bool.false_eq_true, reduceCtorEq, decide_true, decide_false, Bool.and_true, Bool.and_false, Bool.true_and, Bool.false_and, Bool.or_true, Bool.or_false, Bool.true_or, Bool.false_or, not_true_eq_false, not_false_eq_true, Bool.not_true, Bool.not_false, eq_self, Nat.reduceEqDiff]; done) | (simp only [X_cost, X_try, c1, c2, if_true, if_false, reduceIte, Bool.false_eq_true, reduceCtorEq, decide_true, decide_false, Bool.and_true, Bool.and_false, Bool.true_and, Bool.false_and, Bool.or_true, Bool.or_false, Bool.true_or, Bool.false_or, not_true_eq_false, not_false_eq_true, Bool.not_true, Bool.not_false, eq_self, Nat.reduceEqDiff]; rfl) | contradiction | (exfalso; omega)))
set_option maxHeartbeats 4000000 in
set_option maxRecDepth 100000 in
theorem c_X5_vain (l : Launch) (E : ET) (b : Nat → Nat → Nat) (sz : Nat) (v : XV) (co : Int32) : Met l yX5_vain wsX5_vain ({ frames := 2, cells := 0, slots := 0, locals := 42 }) (mPc E [.ref (b 0 0), .int (co)] sz (wX E b v)) (mQi E (X_vain v co) (wX E b v) (wX E b v) sz) 0 0 (va_A (wX E b v) sz) := by
  refine v_start (cc := cX5_vain) (maxL := 5) (ret := (some .int)) (by decide) rfl (Nat.le_of_ble_eq_true rfl) rfl ?_
  intro p e s m args below meth c hsz hr hX
  have hX : Xc p s m args meth c E 5 (va_A (wX E b v) sz) cX5_vain RX5 wsX5_vain := hX
  have in_X5 : ∀ w ∈ u_ws RX5 TX5 9, w ∈ wsX5_vain := by decide +kernel
  have fl_12 : Cond.fieldLink RX5 12 RX5 "now" "LSnoopFilter$Machine;" ∈ wsX5_vain := by decide +kernel
  have in_X3 : ∀ w ∈ u_ws RX3 TX3 6, w ∈ wsX5_vain := by decide +kernel
  have fl_59 : Cond.fieldLink RX5 59 RX3 "cores" "[LSnoopFilter$Core;" ∈ wsX5_vain := by decide +kernel
  have in_X0 : ∀ w ∈ u_ws RX0 TX0 5, w ∈ wsX5_vain := by decide +kernel
  have fl_142 : Cond.fieldLink RX5 142 RX0 "filter" "LSnoopFilter$Filter;" ∈ wsX5_vain := by decide +kernel
  refine v_iload_n hX dX5_vain_0 rfl ?_
  refine v_callSi (r := bI (S_within co (0 : Int32) (3 : Int32))) (rest := []) (ws' := wX E b v) hX (fun sz => c_X5_isCore l E sz co) (va_cwS 1 hX.2.2.2.2.1 gX5_vain_X5_isCore rfl rfl rfl (by decide +kernel) ⟨Nat.le_of_ble_eq_true rfl, Nat.le_of_ble_eq_true rfl⟩) ([]) (wX E b v) (rfl) rfl (rfl) rfl rfl (Nat.le_of_ble_eq_true rfl) dX5_vain_1 ?_
  refine v_if_ne (tgt := 9) hX dX5_vain_4 (by decide) (fun c1 => ?_) (fun c1 => ?_)
  · replace c1 := bI_n0.mp c1
    obtain ⟨r, hle_r, heq_r⟩ := within_nat (B := 3) rfl (by decide) c1
    subst heq_r
    have ec_r : cN (nI r) = r := cN_nI (by omega)
    refine v_aload_n hX dX5_vain_9 rfl ?_
    refine v_get (C := RX5) (T := TX5) (N := 9) (ci := 5) (v := .ref (b 1 0)) hX in_X5 0 rfl rfl 0 (by decide) fl_12 rfl rfl dX5_vain_10 ?_
    refine v_get (C := RX3) (T := TX3) (N := 6) (ci := 3) (v := .ref ((b 1) 2)) hX in_X3 _ (atR (atL (rfl : (wM E (b 1) v.1)[0]? = _))) rfl 1 (by decide) fl_59 rfl rfl dX5_vain_13 ?_
    refine v_iload_n hX dX5_vain_16 rfl ?_
    refine v_aaldK (b := (b 1) (3 + 9 * (r))) hX _ (atR (atL (rfl : (wM E (b 1) v.1)[2]? = _))) (vp_in_nI (by omega : r < 4) (by omega)) (by simp only [nI_clamp (show r < 2 ^ 31 by omega)]) dX5_vain_17 ?_
    refine v_astore_n (lv' := [.ref (b 0 0), .int (nI (r)), .ref ((b 1) (3 + 9 * (r)))]) hX dX5_vain_18 (Nat.le_of_ble_eq_true rfl) (Nat.le_of_ble_eq_true rfl) rfl rfl ?_
    refine v_iconst (x := (0 : Int32)) hX dX5_vain_19 (by decide) ?_
    refine v_istore_n (lv' := [.ref (b 0 0), .int (nI (r)), .ref ((b 1) (3 + 9 * (r))), .int ((0 : Int32))]) hX dX5_vain_20 (Nat.le_of_ble_eq_true rfl) (Nat.le_of_ble_eq_true rfl) rfl rfl ?_
    refine v_iconst (x := (0 : Int32)) hX dX5_vain_21 (by decide) ?_
    refine v_istore (lv' := [.ref (b 0 0), .int (nI (r)), .ref ((b 1) (3 + 9 * (r))), .int ((0 : Int32)), .int ((0 : Int32))]) hX dX5_vain_22 (Nat.le_of_ble_eq_true rfl) (Nat.le_of_ble_eq_true rfl) rfl rfl ?_
    have loop_24 : ∀ (fu i : Nat), i + fu = 256 → V p l e ({ frames := 2, cells := 0, slots := 0, locals := 42 } : Room) s m args below meth c E 5 (va_A (wX E b v) sz) (MQ below (mQi E (X_vain v (nI r)) (wX E b v) (wX E b v) sz) args s 0 0 (va_A (wX E b v) sz)) (wX E b v) [.ref (b 0 0), .int (nI (r)), .ref ((b 1) (3 + 9 * (r))), .int (it (X_vainF (v.1.2.1 r)) i 0), .int (nI (i))] 24 [] := by
      intro fu
      induction fu with
      | zero =>
        intro i  hin 
        have hi0 : i = 256 := by omega
        subst hi0
        refine v_iload hX dX5_vain_24 rfl ?_
        refine v_sipush (x := (256 : Int32)) hX dX5_vain_26 (by decide) ?_
        refine v_icmp_ge (tgt := 62) hX dX5_vain_29 (by decide) (fun c2 => ?_) (fun c2 => ?_)
        · replace c2 := (nI_leI (a := 256) (b := 256) (by omega) (by omega)).mp c2
          refine v_iload_n hX dX5_vain_62 rfl ?_
          exact v_iret hX hr hsz dX5_vain_63 rfl rfl (by (first | rfl | (simp only [X_vain, c1, ec_r, c2, if_true, if_false, reduceIte, Bool.false_eq_true, reduceCtorEq, decide_true, decide_false, Bool.and_true, Bool.and_false, Bool.true_and, Bool.false_and, Bool.or_true, Bool.or_false, Bool.true_or, Bool.false_or, not_true_eq_false, not_false_eq_true, Bool.not_true, Bool.not_false, eq_self, Nat.reduceEqDiff]; done) | (simp only [X_vain, c1, ec_r, c2, if_true, if_false, reduceIte, Bool.false_eq_true, reduceCtorEq, decide_true, decide_false, Bool.and_true, Bool.and_false, Bool.true_and, Bool.false_and, Bool.or_true, Bool.or_false, Bool.true_or, Bool.false_or, not_true_eq_false, not_false_eq_true, Bool.not_true, Bool.not_false, eq_self, Nat.reduceEqDiff]; rfl) | contradiction | (exfalso; omega))) rfl
        · replace c2 := (not_congr (nI_leI (a := 256) (b := 256) (by omega) (by omega))).mp c2
          exfalso; omega
      | succ fu ih =>
        intro i  hin 
        refine v_iload hX dX5_vain_24 rfl ?_
        refine v_sipush (x := (256 : Int32)) hX dX5_vain_26 (by decide) ?_
        refine v_icmp_ge (tgt := 62) hX dX5_vain_29 (by decide) (fun c3 => ?_) (fun c3 => ?_)
        · replace c3 := (nI_leI (a := 256) (b := i) (by omega) (by omega)).mp c3
          exfalso; omega
        · replace c3 := (not_congr (nI_leI (a := 256) (b := i) (by omega) (by omega))).mp c3
          obtain ⟨n, heq_n⟩ : ∃ n : Fin 256, i = n.val := ⟨⟨i, by omega⟩, rfl⟩
          subst heq_n
          have hlt_n := n.isLt
          have ef_n : f256 n.val = n := Fin.ext (f256_val n.isLt)
          refine v_aload_n hX dX5_vain_32 rfl ?_
          refine v_get (C := RX0) (T := TX0) (N := 5) (ci := 0) (v := .ref ((kA (b 1) r) 5)) hX in_X0 _ (atR (atL (mAt E (b 1) v.1 (by omega : r < 4) 0 rfl))) rfl 4 (by decide) fl_142 rfl rfl dX5_vain_33 ?_
          refine v_iload hX dX5_vain_36 rfl ?_
          refine v_callVi (r := bI (F_may ((v.1.2.1 r).2.2.2.2) ((n).val))) (rest := []) (ws' := wX E b v) hX (fun sz => c_X1_mayHave l E (fA (kA (b 1) r)) sz ((v.1.2.1 r).2.2.2.2) ((n).val) (by first | omega | exact Nat.le_of_ble_eq_true rfl)) (cwV 1 hX.2.2.2.2.1 gX5_vain_X1_mayHave rfl rfl rfl (by decide +kernel) ⟨Nat.le_of_ble_eq_true rfl, Nat.le_of_ble_eq_true rfl⟩) (w1X b v ++ (fPre E (b 1) v.1 r)) ((mPost E (b 1) v.1 r) ++ (wM E (b 2) v.2.1 ++ (wM E (b 3) v.2.2.1 ++ (wH E (hA b) v.2.2.2.1 ++ (wP E (b 9) v.2.2.2.2.1))))) (lift0 (wM_cutF E (b 1) v.1 (by omega : r < 4))) (lift0 (wM_cutF E (b 1) v.1 (by omega : r < 4))).symm (wF_fst E (fA (kA (b 1) r)) _ _) (ci := 1) (q0 := 0) rfl rfl rfl rfl rfl (Nat.le_of_ble_eq_true rfl) dX5_vain_38 ?_
          refine v_if_eq (tgt := 56) hX dX5_vain_41 (by decide) (fun c4 => ?_) (fun c4 => ?_)
          · replace c4 := bI_0.mp c4
            refine v_iinc (y := nI (((n).val) + 1)) (lv' := [.ref (b 0 0), .int (nI (r)), .ref ((b 1) (3 + 9 * (r))), .int (it (X_vainF (v.1.2.1 r)) n.val 0), .int (nI (((n).val) + 1))]) hX dX5_vain_56 rfl (nI_inc _) (Nat.le_of_ble_eq_true rfl) (Nat.le_of_ble_eq_true rfl) rfl rfl ?_
            refine v_goto (tgt := 24) hX dX5_vain_59 (by decide) ?_
            have e5 : it (X_vainF (v.1.2.1 r)) n.val 0 = it (X_vainF (v.1.2.1 r)) (n.val + 1) 0 := by first | rfl | (simp only [X_vainF, c1, ec_r, c3, ef_n, c4, it, if_true, if_false, reduceIte, Bool.false_eq_true, Bool.and_true, Bool.and_false, Bool.true_and, Bool.false_and, not_true_eq_false, not_false_eq_true, eq_self, ne_eq, reduceCtorEq, decide_true, decide_false, Bool.not_true, Bool.not_false]; done) | (simp only [X_vainF, c1, ec_r, c3, ef_n, c4, it, if_true, if_false, reduceIte, Bool.false_eq_true, Bool.and_true, Bool.and_false, Bool.true_and, Bool.false_and, not_true_eq_false, not_false_eq_true, eq_self, ne_eq, reduceCtorEq, decide_true, decide_false, Bool.not_true, Bool.not_false]; rfl)
            rw [e5]
            exact ih (n.val + 1)  (by omega) 
          · replace c4 := bI_n0.mp c4
            refine v_aload_n hX dX5_vain_44 rfl ?_
            refine v_iload hX dX5_vain_45 rfl ?_
            refine v_callVi (r := bI (K_holds (v.1.2.1 r) n)) (rest := []) (ws' := wX E b v) hX (fun sz => c_X0_holds l E (kA (b 1) r) sz (v.1.2.1 r) n) (cwV 1 hX.2.2.2.2.1 gX5_vain_X0_holds rfl rfl rfl (by decide +kernel) ⟨Nat.le_of_ble_eq_true rfl, Nat.le_of_ble_eq_true rfl⟩) (w1X b v ++ (mPre E (b 1) v.1 r)) ((mPost E (b 1) v.1 r) ++ (wM E (b 2) v.2.1 ++ (wM E (b 3) v.2.2.1 ++ (wH E (hA b) v.2.2.2.1 ++ (wP E (b 9) v.2.2.2.2.1))))) (lift0 (wM_cut E (b 1) v.1 (by omega : r < 4))) (lift0 (wM_cut E (b 1) v.1 (by omega : r < 4))).symm (wK_fst E (kA (b 1) r) _ _) (ci := 0) (q0 := 0) rfl rfl rfl rfl rfl (Nat.le_of_ble_eq_true rfl) dX5_vain_47 ?_
            refine v_if_ne (tgt := 56) hX dX5_vain_50 (by decide) (fun c6 => ?_) (fun c6 => ?_)
            · replace c6 := bI_n0.mp c6
              refine v_iinc (y := nI (((n).val) + 1)) (lv' := [.ref (b 0 0), .int (nI (r)), .ref ((b 1) (3 + 9 * (r))), .int (it (X_vainF (v.1.2.1 r)) n.val 0), .int (nI (((n).val) + 1))]) hX dX5_vain_56 rfl (nI_inc _) (Nat.le_of_ble_eq_true rfl) (Nat.le_of_ble_eq_true rfl) rfl rfl ?_
              refine v_goto (tgt := 24) hX dX5_vain_59 (by decide) ?_
              have e7 : it (X_vainF (v.1.2.1 r)) n.val 0 = it (X_vainF (v.1.2.1 r)) (n.val + 1) 0 := by first | rfl | (simp only [X_vainF, c1, ec_r, c3, ef_n, c4, c6, it, if_true, if_false, reduceIte, Bool.false_eq_true, Bool.and_true, Bool.and_false, Bool.true_and, Bool.false_and, not_true_eq_false, not_false_eq_true, eq_self, ne_eq, reduceCtorEq, decide_true, decide_false, Bool.not_true, Bool.not_false]; done) | (simp only [X_vainF, c1, ec_r, c3, ef_n, c4, c6, it, if_true, if_false, reduceIte, Bool.false_eq_true, Bool.and_true, Bool.and_false, Bool.true_and, Bool.false_and, not_true_eq_false, not_false_eq_true, eq_self, ne_eq, reduceCtorEq, decide_true, decide_false, Bool.not_true, Bool.not_false]; rfl)
              rw [e7]
              exact ih (n.val + 1)  (by omega) 
            · replace c6 := bI_0.mp c6
              refine v_iinc (y := (it (X_vainF (v.1.2.1 r)) n.val 0 + 1)) (lv' := [.ref (b 0 0), .int (nI (r)), .ref ((b 1) (3 + 9 * (r))), .int ((it (X_vainF (v.1.2.1 r)) n.val 0 + 1)), .int (nI (n).val)]) hX dX5_vain_53 rfl (rfl) (Nat.le_of_ble_eq_true rfl) (Nat.le_of_ble_eq_true rfl) rfl rfl ?_
              refine v_iinc (y := nI (((n).val) + 1)) (lv' := [.ref (b 0 0), .int (nI (r)), .ref ((b 1) (3 + 9 * (r))), .int ((it (X_vainF (v.1.2.1 r)) n.val 0 + 1)), .int (nI (((n).val) + 1))]) hX dX5_vain_56 rfl (nI_inc _) (Nat.le_of_ble_eq_true rfl) (Nat.le_of_ble_eq_true rfl) rfl rfl ?_
              refine v_goto (tgt := 24) hX dX5_vain_59 (by decide) ?_
              have e8 : (it (X_vainF (v.1.2.1 r)) n.val 0 + 1) = it (X_vainF (v.1.2.1 r)) (n.val + 1) 0 := by first | rfl | (simp only [X_vainF, c1, ec_r, c3, ef_n, c4, c6, it, if_true, if_false, reduceIte, Bool.false_eq_true, Bool.and_true, Bool.and_false, Bool.true_and, Bool.false_and, not_true_eq_false, not_false_eq_true, eq_self, ne_eq, reduceCtorEq, decide_true, decide_false, Bool.not_true, Bool.not_false]; done) | (simp only [X_vainF, c1, ec_r, c3, ef_n, c4, c6, it, if_true, if_false, reduceIte, Bool.false_eq_true, Bool.and_true, Bool.and_false, Bool.true_and, Bool.false_and, not_true_eq_false, not_false_eq_true, eq_self, ne_eq, reduceCtorEq, decide_true, decide_false, Bool.not_true, Bool.not_false]; rfl)
              rw [e8]
              exact ih (n.val + 1)  (by omega) 
    exact loop_24 256 0  (by omega) 
  · replace c1 := bI_0.mp c1
    refine v_iconst (x := (-1 : Int32)) hX dX5_vain_7 (by decide) ?_
    exact v_iret hX hr hsz dX5_vain_8 rfl rfl (by (first | rfl | (simp only [X_vain, c1, if_true, if_false, reduceIte, Bool.false_eq_true, reduceCtorEq, decide_true, decide_false, Bool.and_true, Bool.and_false, Bool.true_and, Bool.false_and, Bool.or_true, Bool.or_false, Bool.true_or, Bool.false_or, not_true_eq_false, not_false_eq_true, Bool.not_true, Bool.not_false, eq_self, Nat.reduceEqDiff]; done) | (simp only [X_vain, c1, if_true, if_false, reduceIte, Bool.false_eq_true, reduceCtorEq, decide_true, decide_false, Bool.and_true, Bool.and_false, Bool.true_and, Bool.false_and, Bool.or_true, Bool.or_false, Bool.true_or, Bool.false_or, not_true_eq_false, not_false_eq_true, Bool.not_true, Bool.not_false, eq_self, Nat.reduceEqDiff]; rfl) | contradiction | (exfalso; omega))) rfl
set_option maxHeartbeats 4000000 in
set_option maxRecDepth 100000 in
theorem c_X5_worst (l : Launch) (E : ET) (b : Nat → Nat → Nat) (sz : Nat) (v : XV) : Met l yX5_worst wsX5_worst ({ frames := 0, cells := 0, slots := 0, locals := 0 }) (mPc E [.ref (b 0 0)] sz (wX E b v)) (mQi E (X_worst v) (wX E b v) (wX E b v) sz) 0 0 (va_A (wX E b v) sz) := by
  refine v_start (cc := cX5_worst) (maxL := 5) (ret := (some .int)) (by decide) rfl (Nat.le_of_ble_eq_true rfl) rfl ?_
  intro p e s m args below meth c hsz hr hX
  have hX : Xc p s m args meth c E 5 (va_A (wX E b v) sz) cX5_worst RX5 wsX5_worst := hX
  have in_X5 : ∀ w ∈ u_ws RX5 TX5 9, w ∈ wsX5_worst := by decide +kernel
  have fl_12 : Cond.fieldLink RX5 12 RX5 "now" "LSnoopFilter$Machine;" ∈ wsX5_worst := by decide +kernel
  have in_X3 : ∀ w ∈ u_ws RX3 TX3 6, w ∈ wsX5_worst := by decide +kernel
  have fl_59 : Cond.fieldLink RX5 59 RX3 "cores" "[LSnoopFilter$Core;" ∈ wsX5_worst := by decide +kernel
  have in_X0 : ∀ w ∈ u_ws RX0 TX0 5, w ∈ wsX5_worst := by decide +kernel
  have fl_157 : Cond.fieldLink RX5 157 RX0 "tallies" "[I" ∈ wsX5_worst := by decide +kernel
  refine v_bipush (x := (-5 : Int32)) hX dX5_worst_0 (by decide) ?_
  refine v_istore_n (lv' := [.ref (b 0 0), .int ((-5 : Int32))]) hX dX5_worst_2 (Nat.le_of_ble_eq_true rfl) (Nat.le_of_ble_eq_true rfl) rfl rfl ?_
  refine v_iconst (x := (0 : Int32)) hX dX5_worst_3 (by decide) ?_
  refine v_istore_n (lv' := [.ref (b 0 0), .int ((-5 : Int32)), .int ((0 : Int32))]) hX dX5_worst_4 (Nat.le_of_ble_eq_true rfl) (Nat.le_of_ble_eq_true rfl) rfl rfl ?_
  refine v_iconst (x := (0 : Int32)) hX dX5_worst_5 (by decide) ?_
  refine v_istore_n (lv' := [.ref (b 0 0), .int ((-5 : Int32)), .int ((0 : Int32)), .int ((0 : Int32))]) hX dX5_worst_6 (Nat.le_of_ble_eq_true rfl) (Nat.le_of_ble_eq_true rfl) rfl rfl ?_
  have loop_7 : ∀ (fu i : Nat), i + fu = 4 → V p l e ({ frames := 0, cells := 0, slots := 0, locals := 0 } : Room) s m args below meth c E 5 (va_A (wX E b v) sz) (MQ below (mQi E (X_worst v) (wX E b v) (wX E b v) sz) args s 0 0 (va_A (wX E b v) sz)) (wX E b v) [.ref (b 0 0), .int ((it (X_worstF v.1) i (-5, 0)).1), .int ((it (X_worstF v.1) i (-5, 0)).2), .int (nI (i))] 7 [] := by
    intro fu
    induction fu with
    | zero =>
      intro i  hin 
      have hi0 : i = 4 := by omega
      subst hi0
      refine v_iload_n hX dX5_worst_7 rfl ?_
      refine v_iconst (x := (4 : Int32)) hX dX5_worst_8 (by decide) ?_
      refine v_icmp_ge (tgt := 45) hX dX5_worst_9 (by decide) (fun c1 => ?_) (fun c1 => ?_)
      · replace c1 := (nI_leI (a := 4) (b := 4) (by omega) (by omega)).mp c1
        refine v_iload_n hX dX5_worst_45 rfl ?_
        exact v_iret hX hr hsz dX5_worst_46 rfl rfl (by (first | rfl | (simp only [X_worst, c1, if_true, if_false, reduceIte, Bool.false_eq_true, reduceCtorEq, decide_true, decide_false, Bool.and_true, Bool.and_false, Bool.true_and, Bool.false_and, Bool.or_true, Bool.or_false, Bool.true_or, Bool.false_or, not_true_eq_false, not_false_eq_true, Bool.not_true, Bool.not_false, eq_self, Nat.reduceEqDiff]; done) | (simp only [X_worst, c1, if_true, if_false, reduceIte, Bool.false_eq_true, reduceCtorEq, decide_true, decide_false, Bool.and_true, Bool.and_false, Bool.true_and, Bool.false_and, Bool.or_true, Bool.or_false, Bool.true_or, Bool.false_or, not_true_eq_false, not_false_eq_true, Bool.not_true, Bool.not_false, eq_self, Nat.reduceEqDiff]; rfl) | contradiction | (exfalso; omega))) rfl
      · replace c1 := (not_congr (nI_leI (a := 4) (b := 4) (by omega) (by omega))).mp c1
        exfalso; omega
    | succ fu ih =>
      intro i  hin 
      refine v_iload_n hX dX5_worst_7 rfl ?_
      refine v_iconst (x := (4 : Int32)) hX dX5_worst_8 (by decide) ?_
      refine v_icmp_ge (tgt := 45) hX dX5_worst_9 (by decide) (fun c2 => ?_) (fun c2 => ?_)
      · replace c2 := (nI_leI (a := 4) (b := i) (by omega) (by omega)).mp c2
        exfalso; omega
      · replace c2 := (not_congr (nI_leI (a := 4) (b := i) (by omega) (by omega))).mp c2
        refine v_aload_n hX dX5_worst_12 rfl ?_
        refine v_get (C := RX5) (T := TX5) (N := 9) (ci := 5) (v := .ref (b 1 0)) hX in_X5 0 rfl rfl 0 (by decide) fl_12 rfl rfl dX5_worst_13 ?_
        refine v_get (C := RX3) (T := TX3) (N := 6) (ci := 3) (v := .ref ((b 1) 2)) hX in_X3 _ (atR (atL (rfl : (wM E (b 1) v.1)[0]? = _))) rfl 1 (by decide) fl_59 rfl rfl dX5_worst_16 ?_
        refine v_iload_n hX dX5_worst_19 rfl ?_
        refine v_aaldK (b := (b 1) (3 + 9 * (i))) hX _ (atR (atL (rfl : (wM E (b 1) v.1)[2]? = _))) (vp_in_nI (by omega : i < 4) (by omega)) (by simp only [nI_clamp (show i < 2 ^ 31 by omega)]) dX5_worst_20 ?_
        refine v_get (C := RX0) (T := TX0) (N := 5) (ci := 0) (v := .ref ((kA (b 1) i) 4)) hX in_X0 _ (atR (atL (mAt E (b 1) v.1 (by omega : i < 4) 0 rfl))) rfl 3 (by decide) fl_157 rfl rfl dX5_worst_21 ?_
        refine v_iconst (x := (3 : Int32)) hX dX5_worst_24 (by decide) ?_
        refine v_iald (z := (v.1.2.1 i).2.2.2.1 (3)) hX _ (atR (atL (mAt E (b 1) v.1 (by omega : i < 4) 4 rfl))) (vp_in_nI (by omega : 3 < 6) (by omega)) rfl dX5_worst_25 ?_
        refine v_istore (lv' := [.ref (b 0 0), .int ((it (X_worstF v.1) i (-5, 0)).1), .int ((it (X_worstF v.1) i (-5, 0)).2), .int (nI (i)), .int ((v.1.2.1 i).2.2.2.1 (3))]) hX dX5_worst_26 (Nat.le_of_ble_eq_true rfl) (Nat.le_of_ble_eq_true rfl) rfl rfl ?_
        refine v_iload hX dX5_worst_28 rfl ?_
        refine v_iload_n hX dX5_worst_30 rfl ?_
        refine v_icmp_le (tgt := 39) hX dX5_worst_31 (by decide) (fun c3 => ?_) (fun c3 => ?_)
        · refine v_iinc (y := nI (i + 1)) (lv' := [.ref (b 0 0), .int ((it (X_worstF v.1) i (-5, 0)).1), .int ((it (X_worstF v.1) i (-5, 0)).2), .int (nI (i + 1)), .int ((v.1.2.1 i).2.2.2.1 (3))]) hX dX5_worst_39 rfl (nI_inc _) (Nat.le_of_ble_eq_true rfl) (Nat.le_of_ble_eq_true rfl) rfl rfl ?_
          refine v_goto (tgt := 7) hX dX5_worst_42 (by decide) ?_
          have e4 : (it (X_worstF v.1) i (-5, 0)).1 = (it (X_worstF v.1) (i + 1) (-5, 0)).1 := by first | rfl | (simp only [X_worstF, c2, c3, it, if_true, if_false, reduceIte, Bool.false_eq_true, Bool.and_true, Bool.and_false, Bool.true_and, Bool.false_and, not_true_eq_false, not_false_eq_true, eq_self, ne_eq, reduceCtorEq, decide_true, decide_false, Bool.not_true, Bool.not_false]; done) | (simp only [X_worstF, c2, c3, it, if_true, if_false, reduceIte, Bool.false_eq_true, Bool.and_true, Bool.and_false, Bool.true_and, Bool.false_and, not_true_eq_false, not_false_eq_true, eq_self, ne_eq, reduceCtorEq, decide_true, decide_false, Bool.not_true, Bool.not_false]; rfl)
          rw [e4]
          have e5 : (it (X_worstF v.1) i (-5, 0)).2 = (it (X_worstF v.1) (i + 1) (-5, 0)).2 := by first | rfl | (simp only [X_worstF, c2, c3, it, if_true, if_false, reduceIte, Bool.false_eq_true, Bool.and_true, Bool.and_false, Bool.true_and, Bool.false_and, not_true_eq_false, not_false_eq_true, eq_self, ne_eq, reduceCtorEq, decide_true, decide_false, Bool.not_true, Bool.not_false]; done) | (simp only [X_worstF, c2, c3, it, if_true, if_false, reduceIte, Bool.false_eq_true, Bool.and_true, Bool.and_false, Bool.true_and, Bool.false_and, not_true_eq_false, not_false_eq_true, eq_self, ne_eq, reduceCtorEq, decide_true, decide_false, Bool.not_true, Bool.not_false]; rfl)
          rw [e5]
          exact v_fewer 4 rfl (ih (i + 1)  (by omega) )
        · refine v_iload hX dX5_worst_34 rfl ?_
          refine v_istore_n (lv' := [.ref (b 0 0), .int ((it (X_worstF v.1) i (-5, 0)).1), .int ((v.1.2.1 i).2.2.2.1 (3)), .int (nI (i)), .int ((v.1.2.1 i).2.2.2.1 (3))]) hX dX5_worst_36 (Nat.le_of_ble_eq_true rfl) (Nat.le_of_ble_eq_true rfl) rfl rfl ?_
          refine v_iload_n hX dX5_worst_37 rfl ?_
          refine v_istore_n (lv' := [.ref (b 0 0), .int (nI (i)), .int ((v.1.2.1 i).2.2.2.1 (3)), .int (nI (i)), .int ((v.1.2.1 i).2.2.2.1 (3))]) hX dX5_worst_38 (Nat.le_of_ble_eq_true rfl) (Nat.le_of_ble_eq_true rfl) rfl rfl ?_
          refine v_iinc (y := nI (i + 1)) (lv' := [.ref (b 0 0), .int (nI (i)), .int ((v.1.2.1 i).2.2.2.1 (3)), .int (nI (i + 1)), .int ((v.1.2.1 i).2.2.2.1 (3))]) hX dX5_worst_39 rfl (nI_inc _) (Nat.le_of_ble_eq_true rfl) (Nat.le_of_ble_eq_true rfl) rfl rfl ?_
          refine v_goto (tgt := 7) hX dX5_worst_42 (by decide) ?_
          have e6 : nI (i) = (it (X_worstF v.1) (i + 1) (-5, 0)).1 := by first | rfl | (simp only [X_worstF, c2, c3, it, if_true, if_false, reduceIte, Bool.false_eq_true, Bool.and_true, Bool.and_false, Bool.true_and, Bool.false_and, not_true_eq_false, not_false_eq_true, eq_self, ne_eq, reduceCtorEq, decide_true, decide_false, Bool.not_true, Bool.not_false]; done) | (simp only [X_worstF, c2, c3, it, if_true, if_false, reduceIte, Bool.false_eq_true, Bool.and_true, Bool.and_false, Bool.true_and, Bool.false_and, not_true_eq_false, not_false_eq_true, eq_self, ne_eq, reduceCtorEq, decide_true, decide_false, Bool.not_true, Bool.not_false]; rfl)
          rw [e6]
          have e7 : (v.1.2.1 i).2.2.2.1 (3) = (it (X_worstF v.1) (i + 1) (-5, 0)).2 := by first | rfl | (simp only [X_worstF, c2, c3, it, if_true, if_false, reduceIte, Bool.false_eq_true, Bool.and_true, Bool.and_false, Bool.true_and, Bool.false_and, not_true_eq_false, not_false_eq_true, eq_self, ne_eq, reduceCtorEq, decide_true, decide_false, Bool.not_true, Bool.not_false]; done) | (simp only [X_worstF, c2, c3, it, if_true, if_false, reduceIte, Bool.false_eq_true, Bool.and_true, Bool.and_false, Bool.true_and, Bool.false_and, not_true_eq_false, not_false_eq_true, eq_self, ne_eq, reduceCtorEq, decide_true, decide_false, Bool.not_true, Bool.not_false]; rfl)
          rw [e7]
          exact v_fewer 4 rfl (ih (i + 1)  (by omega) )
  exact loop_7 4 0  (by omega) 
set_option maxHeartbeats 4000000 in
set_option maxRecDepth 100000 in
theorem c_X5_count (l : Launch) (E : ET) (b : Nat → Nat → Nat) (sz : Nat) (v : XV) (w : Int32) : Met l yX5_count wsX5_count ({ frames := 3, cells := 0, slots := 0, locals := 67 }) (mPc E [.ref (b 0 0), .int (w)] sz (wX E b v)) (mQi E (X_count v w) (wX E b v) (wX E b v) sz) 0 0 (va_A (wX E b v) sz) := by
  refine v_start (cc := cX5_count) (maxL := 2) (ret := (some .int)) (by decide) rfl (Nat.le_of_ble_eq_true rfl) rfl ?_
  intro p e s m args below meth c hsz hr hX
  have hX : Xc p s m args meth c E 2 (va_A (wX E b v) sz) cX5_count RX5 wsX5_count := hX
  have in_X5 : ∀ w ∈ u_ws RX5 TX5 9, w ∈ wsX5_count := by decide +kernel
  have fl_12 : Cond.fieldLink RX5 12 RX5 "now" "LSnoopFilter$Machine;" ∈ wsX5_count := by decide +kernel
  have in_X3 : ∀ w ∈ u_ws RX3 TX3 6, w ∈ wsX5_count := by decide +kernel
  have fl_204 : Cond.fieldLink RX5 204 RX3 "writtenBack" "I" ∈ wsX5_count := by decide +kernel
  have fl_210 : Cond.fieldLink RX5 210 RX3 "writings" "I" ∈ wsX5_count := by decide +kernel
  have fl_79 : Cond.fieldLink RX5 79 RX3 "limit" "I" ∈ wsX5_count := by decide +kernel
  have fl_83 : Cond.fieldLink RX5 83 RX3 "fullFrom" "I" ∈ wsX5_count := by decide +kernel
  have fl_25 : Cond.fieldLink RX5 25 RX5 "history" "LSnoopFilter$History;" ∈ wsX5_count := by decide +kernel
  have in_X2 : ∀ w ∈ u_ws RX2 TX2 3, w ∈ wsX5_count := by decide +kernel
  have fl_124 : Cond.fieldLink RX5 124 RX2 "size" "I" ∈ wsX5_count := by decide +kernel
  have fl_32 : Cond.fieldLink RX5 32 RX5 "program" "LSnoopFilter$Program;" ∈ wsX5_count := by decide +kernel
  have in_X4 : ∀ w ∈ u_ws RX4 TX4 8, w ∈ wsX5_count := by decide +kernel
  have fl_90 : Cond.fieldLink RX5 90 RX4 "length" "I" ∈ wsX5_count := by decide +kernel
  refine v_iload_n hX dX5_count_0 rfl ?_
  rcases pk_ix w (n := 14) (by decide) with h1 | h1 | ⟨j, hle_j, heq_j⟩
  · have hS_w : S_within w 0 (13 : Int32) = false := within_lo h1
    refine v_tableOut (tgt := 190) hX dX5_count_1 (Or.inl (i_lt0 h1)) (by decide) ?_
    refine v_bipush (x := (-2 : Int32)) hX dX5_count_190 (by decide) ?_
    exact v_iret hX hr hsz dX5_count_192 rfl rfl (by (first | rfl | (simp only [X_count, hS_w, if_true, if_false, reduceIte, Bool.false_eq_true, reduceCtorEq, decide_true, decide_false, Bool.and_true, Bool.and_false, Bool.true_and, Bool.false_and, Bool.or_true, Bool.or_false, Bool.true_or, Bool.false_or, not_true_eq_false, not_false_eq_true, Bool.not_true, Bool.not_false, eq_self, Nat.reduceEqDiff]; done) | (simp only [X_count, hS_w, if_true, if_false, reduceIte, Bool.false_eq_true, reduceCtorEq, decide_true, decide_false, Bool.and_true, Bool.and_false, Bool.true_and, Bool.false_and, Bool.or_true, Bool.or_false, Bool.true_or, Bool.false_or, not_true_eq_false, not_false_eq_true, Bool.not_true, Bool.not_false, eq_self, Nat.reduceEqDiff]; rfl) | contradiction | (exfalso; omega))) rfl
  · have hS_w : S_within w 0 (13 : Int32) = false := within_hi (B := 13) rfl (by decide) h1
    refine v_tableOut (tgt := 190) hX dX5_count_1 (Or.inr (by have := i_hi h1 (by decide); omega)) (by decide) ?_
    refine v_bipush (x := (-2 : Int32)) hX dX5_count_190 (by decide) ?_
    exact v_iret hX hr hsz dX5_count_192 rfl rfl (by (first | rfl | (simp only [X_count, hS_w, if_true, if_false, reduceIte, Bool.false_eq_true, reduceCtorEq, decide_true, decide_false, Bool.and_true, Bool.and_false, Bool.true_and, Bool.false_and, Bool.or_true, Bool.or_false, Bool.true_or, Bool.false_or, not_true_eq_false, not_false_eq_true, Bool.not_true, Bool.not_false, eq_self, Nat.reduceEqDiff]; done) | (simp only [X_count, hS_w, if_true, if_false, reduceIte, Bool.false_eq_true, reduceCtorEq, decide_true, decide_false, Bool.and_true, Bool.and_false, Bool.true_and, Bool.false_and, Bool.or_true, Bool.or_false, Bool.true_or, Bool.false_or, not_true_eq_false, not_false_eq_true, Bool.not_true, Bool.not_false, eq_self, Nat.reduceEqDiff]; rfl) | contradiction | (exfalso; omega))) rfl
  subst heq_j
  have ec_j : cN (nI j) = j := cN_nI (by omega)
  have hS_w : S_within (nI j) 0 (13 : Int32) = true := within_nI (B := 13) rfl (by omega) (by decide)
  by_cases k2 : j = 0
  · have k2t := eq_true k2
    refine v_tableIn (tgt := 72) (off := 71) hX dX5_count_1 (by rw [k2]; decide) (by rw [k2]; decide) (by rw [k2]; decide) (by decide) ?_
    refine v_aload_n hX dX5_count_72 rfl ?_
    refine v_get (C := RX5) (T := TX5) (N := 9) (ci := 5) (v := .ref (b 1 0)) hX in_X5 0 rfl rfl 0 (by decide) fl_12 rfl rfl dX5_count_73 ?_
    refine v_callVi (r := M_held v.1) (rest := []) (ws' := wX E b v) hX (fun sz => c_X3_heldByAll l E (b 1) sz v.1 ) (cwV 0 hX.2.2.2.2.1 gX5_count_X3_heldByAll rfl rfl rfl (by decide +kernel) ⟨Nat.le_of_ble_eq_true rfl, Nat.le_of_ble_eq_true rfl⟩) (w1X b v ++ ([])) (([]) ++ (wM E (b 2) v.2.1 ++ (wM E (b 3) v.2.2.1 ++ (wH E (hA b) v.2.2.2.1 ++ (wP E (b 9) v.2.2.2.2.1))))) (lift0 ((List.append_nil _).symm)) (lift0 ((List.append_nil _).symm)).symm (wM_fst E (b 1) _ _) (ci := 3) (q0 := 0) rfl rfl rfl rfl rfl (Nat.le_of_ble_eq_true rfl) dX5_count_76 ?_
    exact v_iret hX hr hsz dX5_count_79 rfl rfl (by (first | rfl | (simp only [X_count, ec_j, hS_w, k2t, if_true, if_false, reduceIte, Bool.false_eq_true, reduceCtorEq, decide_true, decide_false, Bool.and_true, Bool.and_false, Bool.true_and, Bool.false_and, Bool.or_true, Bool.or_false, Bool.true_or, Bool.false_or, not_true_eq_false, not_false_eq_true, Bool.not_true, Bool.not_false, eq_self, Nat.reduceEqDiff]; done) | (simp only [X_count, ec_j, hS_w, k2t, if_true, if_false, reduceIte, Bool.false_eq_true, reduceCtorEq, decide_true, decide_false, Bool.and_true, Bool.and_false, Bool.true_and, Bool.false_and, Bool.or_true, Bool.or_false, Bool.true_or, Bool.false_or, not_true_eq_false, not_false_eq_true, Bool.not_true, Bool.not_false, eq_self, Nat.reduceEqDiff]; rfl) | contradiction | (exfalso; omega))) rfl
  by_cases k3 : j = 1
  · have k3t := eq_true k3
    refine v_tableIn (tgt := 80) (off := 79) hX dX5_count_1 (by rw [k3]; decide) (by rw [k3]; decide) (by rw [k3]; decide) (by decide) ?_
    refine v_aload_n hX dX5_count_80 rfl ?_
    refine v_get (C := RX5) (T := TX5) (N := 9) (ci := 5) (v := .ref (b 1 0)) hX in_X5 0 rfl rfl 0 (by decide) fl_12 rfl rfl dX5_count_81 ?_
    refine v_callVi (r := M_dirty v.1) (rest := []) (ws' := wX E b v) hX (fun sz => c_X3_dirtyOfAll l E (b 1) sz v.1 ) (cwV 0 hX.2.2.2.2.1 gX5_count_X3_dirtyOfAll rfl rfl rfl (by decide +kernel) ⟨Nat.le_of_ble_eq_true rfl, Nat.le_of_ble_eq_true rfl⟩) (w1X b v ++ ([])) (([]) ++ (wM E (b 2) v.2.1 ++ (wM E (b 3) v.2.2.1 ++ (wH E (hA b) v.2.2.2.1 ++ (wP E (b 9) v.2.2.2.2.1))))) (lift0 ((List.append_nil _).symm)) (lift0 ((List.append_nil _).symm)).symm (wM_fst E (b 1) _ _) (ci := 3) (q0 := 0) rfl rfl rfl rfl rfl (Nat.le_of_ble_eq_true rfl) dX5_count_84 ?_
    exact v_iret hX hr hsz dX5_count_87 rfl rfl (by (first | rfl | (simp only [X_count, ec_j, hS_w, k2, k3t, if_true, if_false, reduceIte, Bool.false_eq_true, reduceCtorEq, decide_true, decide_false, Bool.and_true, Bool.and_false, Bool.true_and, Bool.false_and, Bool.or_true, Bool.or_false, Bool.true_or, Bool.false_or, not_true_eq_false, not_false_eq_true, Bool.not_true, Bool.not_false, eq_self, Nat.reduceEqDiff]; done) | (simp only [X_count, ec_j, hS_w, k2, k3t, if_true, if_false, reduceIte, Bool.false_eq_true, reduceCtorEq, decide_true, decide_false, Bool.and_true, Bool.and_false, Bool.true_and, Bool.false_and, Bool.or_true, Bool.or_false, Bool.true_or, Bool.false_or, not_true_eq_false, not_false_eq_true, Bool.not_true, Bool.not_false, eq_self, Nat.reduceEqDiff]; rfl) | contradiction | (exfalso; omega))) rfl
  by_cases k4 : j = 2
  · have k4t := eq_true k4
    refine v_tableIn (tgt := 88) (off := 87) hX dX5_count_1 (by rw [k4]; decide) (by rw [k4]; decide) (by rw [k4]; decide) (by decide) ?_
    refine v_aload_n hX dX5_count_88 rfl ?_
    refine v_get (C := RX5) (T := TX5) (N := 9) (ci := 5) (v := .ref (b 1 0)) hX in_X5 0 rfl rfl 0 (by decide) fl_12 rfl rfl dX5_count_89 ?_
    refine v_iconst (x := (2 : Int32)) hX dX5_count_92 (by decide) ?_
    refine v_callVi (r := M_sum v.1 2) (rest := []) (ws' := wX E b v) hX (fun sz => c_X3_sumOf l E (b 1) sz v.1 2 (by first | omega | exact Nat.le_of_ble_eq_true rfl)) (cwV 1 hX.2.2.2.2.1 gX5_count_X3_sumOf rfl rfl rfl (by decide +kernel) ⟨Nat.le_of_ble_eq_true rfl, Nat.le_of_ble_eq_true rfl⟩) (w1X b v ++ ([])) (([]) ++ (wM E (b 2) v.2.1 ++ (wM E (b 3) v.2.2.1 ++ (wH E (hA b) v.2.2.2.1 ++ (wP E (b 9) v.2.2.2.2.1))))) (lift0 ((List.append_nil _).symm)) (lift0 ((List.append_nil _).symm)).symm (wM_fst E (b 1) _ _) (ci := 3) (q0 := 0) rfl rfl rfl rfl rfl (Nat.le_of_ble_eq_true rfl) dX5_count_93 ?_
    exact v_iret hX hr hsz dX5_count_96 rfl rfl (by (first | rfl | (simp only [X_count, ec_j, hS_w, k2, k3, k4t, if_true, if_false, reduceIte, Bool.false_eq_true, reduceCtorEq, decide_true, decide_false, Bool.and_true, Bool.and_false, Bool.true_and, Bool.false_and, Bool.or_true, Bool.or_false, Bool.true_or, Bool.false_or, not_true_eq_false, not_false_eq_true, Bool.not_true, Bool.not_false, eq_self, Nat.reduceEqDiff]; done) | (simp only [X_count, ec_j, hS_w, k2, k3, k4t, if_true, if_false, reduceIte, Bool.false_eq_true, reduceCtorEq, decide_true, decide_false, Bool.and_true, Bool.and_false, Bool.true_and, Bool.false_and, Bool.or_true, Bool.or_false, Bool.true_or, Bool.false_or, not_true_eq_false, not_false_eq_true, Bool.not_true, Bool.not_false, eq_self, Nat.reduceEqDiff]; rfl) | contradiction | (exfalso; omega))) rfl
  by_cases k5 : j = 3
  · have k5t := eq_true k5
    refine v_tableIn (tgt := 97) (off := 96) hX dX5_count_1 (by rw [k5]; decide) (by rw [k5]; decide) (by rw [k5]; decide) (by decide) ?_
    refine v_aload_n hX dX5_count_97 rfl ?_
    refine v_get (C := RX5) (T := TX5) (N := 9) (ci := 5) (v := .ref (b 1 0)) hX in_X5 0 rfl rfl 0 (by decide) fl_12 rfl rfl dX5_count_98 ?_
    refine v_iconst (x := (3 : Int32)) hX dX5_count_101 (by decide) ?_
    refine v_callVi (r := M_sum v.1 3) (rest := []) (ws' := wX E b v) hX (fun sz => c_X3_sumOf l E (b 1) sz v.1 3 (by first | omega | exact Nat.le_of_ble_eq_true rfl)) (cwV 1 hX.2.2.2.2.1 gX5_count_X3_sumOf rfl rfl rfl (by decide +kernel) ⟨Nat.le_of_ble_eq_true rfl, Nat.le_of_ble_eq_true rfl⟩) (w1X b v ++ ([])) (([]) ++ (wM E (b 2) v.2.1 ++ (wM E (b 3) v.2.2.1 ++ (wH E (hA b) v.2.2.2.1 ++ (wP E (b 9) v.2.2.2.2.1))))) (lift0 ((List.append_nil _).symm)) (lift0 ((List.append_nil _).symm)).symm (wM_fst E (b 1) _ _) (ci := 3) (q0 := 0) rfl rfl rfl rfl rfl (Nat.le_of_ble_eq_true rfl) dX5_count_102 ?_
    exact v_iret hX hr hsz dX5_count_105 rfl rfl (by (first | rfl | (simp only [X_count, ec_j, hS_w, k2, k3, k4, k5t, if_true, if_false, reduceIte, Bool.false_eq_true, reduceCtorEq, decide_true, decide_false, Bool.and_true, Bool.and_false, Bool.true_and, Bool.false_and, Bool.or_true, Bool.or_false, Bool.true_or, Bool.false_or, not_true_eq_false, not_false_eq_true, Bool.not_true, Bool.not_false, eq_self, Nat.reduceEqDiff]; done) | (simp only [X_count, ec_j, hS_w, k2, k3, k4, k5t, if_true, if_false, reduceIte, Bool.false_eq_true, reduceCtorEq, decide_true, decide_false, Bool.and_true, Bool.and_false, Bool.true_and, Bool.false_and, Bool.or_true, Bool.or_false, Bool.true_or, Bool.false_or, not_true_eq_false, not_false_eq_true, Bool.not_true, Bool.not_false, eq_self, Nat.reduceEqDiff]; rfl) | contradiction | (exfalso; omega))) rfl
  by_cases k6 : j = 4
  · have k6t := eq_true k6
    refine v_tableIn (tgt := 106) (off := 105) hX dX5_count_1 (by rw [k6]; decide) (by rw [k6]; decide) (by rw [k6]; decide) (by decide) ?_
    refine v_aload_n hX dX5_count_106 rfl ?_
    refine v_get (C := RX5) (T := TX5) (N := 9) (ci := 5) (v := .ref (b 1 0)) hX in_X5 0 rfl rfl 0 (by decide) fl_12 rfl rfl dX5_count_107 ?_
    refine v_iconst (x := (4 : Int32)) hX dX5_count_110 (by decide) ?_
    refine v_callVi (r := M_sum v.1 4) (rest := []) (ws' := wX E b v) hX (fun sz => c_X3_sumOf l E (b 1) sz v.1 4 (by first | omega | exact Nat.le_of_ble_eq_true rfl)) (cwV 1 hX.2.2.2.2.1 gX5_count_X3_sumOf rfl rfl rfl (by decide +kernel) ⟨Nat.le_of_ble_eq_true rfl, Nat.le_of_ble_eq_true rfl⟩) (w1X b v ++ ([])) (([]) ++ (wM E (b 2) v.2.1 ++ (wM E (b 3) v.2.2.1 ++ (wH E (hA b) v.2.2.2.1 ++ (wP E (b 9) v.2.2.2.2.1))))) (lift0 ((List.append_nil _).symm)) (lift0 ((List.append_nil _).symm)).symm (wM_fst E (b 1) _ _) (ci := 3) (q0 := 0) rfl rfl rfl rfl rfl (Nat.le_of_ble_eq_true rfl) dX5_count_111 ?_
    exact v_iret hX hr hsz dX5_count_114 rfl rfl (by (first | rfl | (simp only [X_count, ec_j, hS_w, k2, k3, k4, k5, k6t, if_true, if_false, reduceIte, Bool.false_eq_true, reduceCtorEq, decide_true, decide_false, Bool.and_true, Bool.and_false, Bool.true_and, Bool.false_and, Bool.or_true, Bool.or_false, Bool.true_or, Bool.false_or, not_true_eq_false, not_false_eq_true, Bool.not_true, Bool.not_false, eq_self, Nat.reduceEqDiff]; done) | (simp only [X_count, ec_j, hS_w, k2, k3, k4, k5, k6t, if_true, if_false, reduceIte, Bool.false_eq_true, reduceCtorEq, decide_true, decide_false, Bool.and_true, Bool.and_false, Bool.true_and, Bool.false_and, Bool.or_true, Bool.or_false, Bool.true_or, Bool.false_or, not_true_eq_false, not_false_eq_true, Bool.not_true, Bool.not_false, eq_self, Nat.reduceEqDiff]; rfl) | contradiction | (exfalso; omega))) rfl
  by_cases k7 : j = 5
  · have k7t := eq_true k7
    refine v_tableIn (tgt := 115) (off := 114) hX dX5_count_1 (by rw [k7]; decide) (by rw [k7]; decide) (by rw [k7]; decide) (by decide) ?_
    refine v_aload_n hX dX5_count_115 rfl ?_
    refine v_get (C := RX5) (T := TX5) (N := 9) (ci := 5) (v := .ref (b 1 0)) hX in_X5 0 rfl rfl 0 (by decide) fl_12 rfl rfl dX5_count_116 ?_
    refine v_get (C := RX3) (T := TX3) (N := 6) (ci := 3) (v := .int (v.1.2.2.2.2.1)) hX in_X3 _ (atR (atL (rfl : (wM E (b 1) v.1)[0]? = _))) rfl 4 (by decide) fl_204 rfl rfl dX5_count_119 ?_
    exact v_iret hX hr hsz dX5_count_122 rfl rfl (by (first | rfl | (simp only [X_count, ec_j, hS_w, k2, k3, k4, k5, k6, k7t, if_true, if_false, reduceIte, Bool.false_eq_true, reduceCtorEq, decide_true, decide_false, Bool.and_true, Bool.and_false, Bool.true_and, Bool.false_and, Bool.or_true, Bool.or_false, Bool.true_or, Bool.false_or, not_true_eq_false, not_false_eq_true, Bool.not_true, Bool.not_false, eq_self, Nat.reduceEqDiff]; done) | (simp only [X_count, ec_j, hS_w, k2, k3, k4, k5, k6, k7t, if_true, if_false, reduceIte, Bool.false_eq_true, reduceCtorEq, decide_true, decide_false, Bool.and_true, Bool.and_false, Bool.true_and, Bool.false_and, Bool.or_true, Bool.or_false, Bool.true_or, Bool.false_or, not_true_eq_false, not_false_eq_true, Bool.not_true, Bool.not_false, eq_self, Nat.reduceEqDiff]; rfl) | contradiction | (exfalso; omega))) rfl
  by_cases k8 : j = 6
  · have k8t := eq_true k8
    refine v_tableIn (tgt := 123) (off := 122) hX dX5_count_1 (by rw [k8]; decide) (by rw [k8]; decide) (by rw [k8]; decide) (by decide) ?_
    refine v_aload_n hX dX5_count_123 rfl ?_
    refine v_get (C := RX5) (T := TX5) (N := 9) (ci := 5) (v := .ref (b 1 0)) hX in_X5 0 rfl rfl 0 (by decide) fl_12 rfl rfl dX5_count_124 ?_
    refine v_iconst (x := (5 : Int32)) hX dX5_count_127 (by decide) ?_
    refine v_callVi (r := M_sum v.1 5) (rest := []) (ws' := wX E b v) hX (fun sz => c_X3_sumOf l E (b 1) sz v.1 5 (by first | omega | exact Nat.le_of_ble_eq_true rfl)) (cwV 1 hX.2.2.2.2.1 gX5_count_X3_sumOf rfl rfl rfl (by decide +kernel) ⟨Nat.le_of_ble_eq_true rfl, Nat.le_of_ble_eq_true rfl⟩) (w1X b v ++ ([])) (([]) ++ (wM E (b 2) v.2.1 ++ (wM E (b 3) v.2.2.1 ++ (wH E (hA b) v.2.2.2.1 ++ (wP E (b 9) v.2.2.2.2.1))))) (lift0 ((List.append_nil _).symm)) (lift0 ((List.append_nil _).symm)).symm (wM_fst E (b 1) _ _) (ci := 3) (q0 := 0) rfl rfl rfl rfl rfl (Nat.le_of_ble_eq_true rfl) dX5_count_128 ?_
    exact v_iret hX hr hsz dX5_count_131 rfl rfl (by (first | rfl | (simp only [X_count, ec_j, hS_w, k2, k3, k4, k5, k6, k7, k8t, if_true, if_false, reduceIte, Bool.false_eq_true, reduceCtorEq, decide_true, decide_false, Bool.and_true, Bool.and_false, Bool.true_and, Bool.false_and, Bool.or_true, Bool.or_false, Bool.true_or, Bool.false_or, not_true_eq_false, not_false_eq_true, Bool.not_true, Bool.not_false, eq_self, Nat.reduceEqDiff]; done) | (simp only [X_count, ec_j, hS_w, k2, k3, k4, k5, k6, k7, k8t, if_true, if_false, reduceIte, Bool.false_eq_true, reduceCtorEq, decide_true, decide_false, Bool.and_true, Bool.and_false, Bool.true_and, Bool.false_and, Bool.or_true, Bool.or_false, Bool.true_or, Bool.false_or, not_true_eq_false, not_false_eq_true, Bool.not_true, Bool.not_false, eq_self, Nat.reduceEqDiff]; rfl) | contradiction | (exfalso; omega))) rfl
  by_cases k9 : j = 7
  · have k9t := eq_true k9
    refine v_tableIn (tgt := 132) (off := 131) hX dX5_count_1 (by rw [k9]; decide) (by rw [k9]; decide) (by rw [k9]; decide) (by decide) ?_
    refine v_aload_n hX dX5_count_132 rfl ?_
    refine v_get (C := RX5) (T := TX5) (N := 9) (ci := 5) (v := .ref (b 1 0)) hX in_X5 0 rfl rfl 0 (by decide) fl_12 rfl rfl dX5_count_133 ?_
    refine v_iconst (x := (0 : Int32)) hX dX5_count_136 (by decide) ?_
    refine v_callVi (r := M_sum v.1 0) (rest := []) (ws' := wX E b v) hX (fun sz => c_X3_sumOf l E (b 1) sz v.1 0 (by first | omega | exact Nat.le_of_ble_eq_true rfl)) (cwV 1 hX.2.2.2.2.1 gX5_count_X3_sumOf rfl rfl rfl (by decide +kernel) ⟨Nat.le_of_ble_eq_true rfl, Nat.le_of_ble_eq_true rfl⟩) (w1X b v ++ ([])) (([]) ++ (wM E (b 2) v.2.1 ++ (wM E (b 3) v.2.2.1 ++ (wH E (hA b) v.2.2.2.1 ++ (wP E (b 9) v.2.2.2.2.1))))) (lift0 ((List.append_nil _).symm)) (lift0 ((List.append_nil _).symm)).symm (wM_fst E (b 1) _ _) (ci := 3) (q0 := 0) rfl rfl rfl rfl rfl (Nat.le_of_ble_eq_true rfl) dX5_count_137 ?_
    exact v_iret hX hr hsz dX5_count_140 rfl rfl (by (first | rfl | (simp only [X_count, ec_j, hS_w, k2, k3, k4, k5, k6, k7, k8, k9t, if_true, if_false, reduceIte, Bool.false_eq_true, reduceCtorEq, decide_true, decide_false, Bool.and_true, Bool.and_false, Bool.true_and, Bool.false_and, Bool.or_true, Bool.or_false, Bool.true_or, Bool.false_or, not_true_eq_false, not_false_eq_true, Bool.not_true, Bool.not_false, eq_self, Nat.reduceEqDiff]; done) | (simp only [X_count, ec_j, hS_w, k2, k3, k4, k5, k6, k7, k8, k9t, if_true, if_false, reduceIte, Bool.false_eq_true, reduceCtorEq, decide_true, decide_false, Bool.and_true, Bool.and_false, Bool.true_and, Bool.false_and, Bool.or_true, Bool.or_false, Bool.true_or, Bool.false_or, not_true_eq_false, not_false_eq_true, Bool.not_true, Bool.not_false, eq_self, Nat.reduceEqDiff]; rfl) | contradiction | (exfalso; omega))) rfl
  by_cases k10 : j = 8
  · have k10t := eq_true k10
    refine v_tableIn (tgt := 141) (off := 140) hX dX5_count_1 (by rw [k10]; decide) (by rw [k10]; decide) (by rw [k10]; decide) (by decide) ?_
    refine v_aload_n hX dX5_count_141 rfl ?_
    refine v_get (C := RX5) (T := TX5) (N := 9) (ci := 5) (v := .ref (b 1 0)) hX in_X5 0 rfl rfl 0 (by decide) fl_12 rfl rfl dX5_count_142 ?_
    refine v_iconst (x := (1 : Int32)) hX dX5_count_145 (by decide) ?_
    refine v_callVi (r := M_sum v.1 1) (rest := []) (ws' := wX E b v) hX (fun sz => c_X3_sumOf l E (b 1) sz v.1 1 (by first | omega | exact Nat.le_of_ble_eq_true rfl)) (cwV 1 hX.2.2.2.2.1 gX5_count_X3_sumOf rfl rfl rfl (by decide +kernel) ⟨Nat.le_of_ble_eq_true rfl, Nat.le_of_ble_eq_true rfl⟩) (w1X b v ++ ([])) (([]) ++ (wM E (b 2) v.2.1 ++ (wM E (b 3) v.2.2.1 ++ (wH E (hA b) v.2.2.2.1 ++ (wP E (b 9) v.2.2.2.2.1))))) (lift0 ((List.append_nil _).symm)) (lift0 ((List.append_nil _).symm)).symm (wM_fst E (b 1) _ _) (ci := 3) (q0 := 0) rfl rfl rfl rfl rfl (Nat.le_of_ble_eq_true rfl) dX5_count_146 ?_
    exact v_iret hX hr hsz dX5_count_149 rfl rfl (by (first | rfl | (simp only [X_count, ec_j, hS_w, k2, k3, k4, k5, k6, k7, k8, k9, k10t, if_true, if_false, reduceIte, Bool.false_eq_true, reduceCtorEq, decide_true, decide_false, Bool.and_true, Bool.and_false, Bool.true_and, Bool.false_and, Bool.or_true, Bool.or_false, Bool.true_or, Bool.false_or, not_true_eq_false, not_false_eq_true, Bool.not_true, Bool.not_false, eq_self, Nat.reduceEqDiff]; done) | (simp only [X_count, ec_j, hS_w, k2, k3, k4, k5, k6, k7, k8, k9, k10t, if_true, if_false, reduceIte, Bool.false_eq_true, reduceCtorEq, decide_true, decide_false, Bool.and_true, Bool.and_false, Bool.true_and, Bool.false_and, Bool.or_true, Bool.or_false, Bool.true_or, Bool.false_or, not_true_eq_false, not_false_eq_true, Bool.not_true, Bool.not_false, eq_self, Nat.reduceEqDiff]; rfl) | contradiction | (exfalso; omega))) rfl
  by_cases k11 : j = 9
  · have k11t := eq_true k11
    refine v_tableIn (tgt := 150) (off := 149) hX dX5_count_1 (by rw [k11]; decide) (by rw [k11]; decide) (by rw [k11]; decide) (by decide) ?_
    refine v_aload_n hX dX5_count_150 rfl ?_
    refine v_get (C := RX5) (T := TX5) (N := 9) (ci := 5) (v := .ref (b 1 0)) hX in_X5 0 rfl rfl 0 (by decide) fl_12 rfl rfl dX5_count_151 ?_
    refine v_get (C := RX3) (T := TX3) (N := 6) (ci := 3) (v := .int (v.1.2.2.2.2.2)) hX in_X3 _ (atR (atL (rfl : (wM E (b 1) v.1)[0]? = _))) rfl 5 (by decide) fl_210 rfl rfl dX5_count_154 ?_
    exact v_iret hX hr hsz dX5_count_157 rfl rfl (by (first | rfl | (simp only [X_count, ec_j, hS_w, k2, k3, k4, k5, k6, k7, k8, k9, k10, k11t, if_true, if_false, reduceIte, Bool.false_eq_true, reduceCtorEq, decide_true, decide_false, Bool.and_true, Bool.and_false, Bool.true_and, Bool.false_and, Bool.or_true, Bool.or_false, Bool.true_or, Bool.false_or, not_true_eq_false, not_false_eq_true, Bool.not_true, Bool.not_false, eq_self, Nat.reduceEqDiff]; done) | (simp only [X_count, ec_j, hS_w, k2, k3, k4, k5, k6, k7, k8, k9, k10, k11t, if_true, if_false, reduceIte, Bool.false_eq_true, reduceCtorEq, decide_true, decide_false, Bool.and_true, Bool.and_false, Bool.true_and, Bool.false_and, Bool.or_true, Bool.or_false, Bool.true_or, Bool.false_or, not_true_eq_false, not_false_eq_true, Bool.not_true, Bool.not_false, eq_self, Nat.reduceEqDiff]; rfl) | contradiction | (exfalso; omega))) rfl
  by_cases k12 : j = 10
  · have k12t := eq_true k12
    refine v_tableIn (tgt := 158) (off := 157) hX dX5_count_1 (by rw [k12]; decide) (by rw [k12]; decide) (by rw [k12]; decide) (by decide) ?_
    refine v_aload_n hX dX5_count_158 rfl ?_
    refine v_get (C := RX5) (T := TX5) (N := 9) (ci := 5) (v := .ref (b 1 0)) hX in_X5 0 rfl rfl 0 (by decide) fl_12 rfl rfl dX5_count_159 ?_
    refine v_get (C := RX3) (T := TX3) (N := 6) (ci := 3) (v := .int (v.1.2.2.1)) hX in_X3 _ (atR (atL (rfl : (wM E (b 1) v.1)[0]? = _))) rfl 2 (by decide) fl_79 rfl rfl dX5_count_162 ?_
    exact v_iret hX hr hsz dX5_count_165 rfl rfl (by (first | rfl | (simp only [X_count, ec_j, hS_w, k2, k3, k4, k5, k6, k7, k8, k9, k10, k11, k12t, if_true, if_false, reduceIte, Bool.false_eq_true, reduceCtorEq, decide_true, decide_false, Bool.and_true, Bool.and_false, Bool.true_and, Bool.false_and, Bool.or_true, Bool.or_false, Bool.true_or, Bool.false_or, not_true_eq_false, not_false_eq_true, Bool.not_true, Bool.not_false, eq_self, Nat.reduceEqDiff]; done) | (simp only [X_count, ec_j, hS_w, k2, k3, k4, k5, k6, k7, k8, k9, k10, k11, k12t, if_true, if_false, reduceIte, Bool.false_eq_true, reduceCtorEq, decide_true, decide_false, Bool.and_true, Bool.and_false, Bool.true_and, Bool.false_and, Bool.or_true, Bool.or_false, Bool.true_or, Bool.false_or, not_true_eq_false, not_false_eq_true, Bool.not_true, Bool.not_false, eq_self, Nat.reduceEqDiff]; rfl) | contradiction | (exfalso; omega))) rfl
  by_cases k13 : j = 11
  · have k13t := eq_true k13
    refine v_tableIn (tgt := 166) (off := 165) hX dX5_count_1 (by rw [k13]; decide) (by rw [k13]; decide) (by rw [k13]; decide) (by decide) ?_
    refine v_aload_n hX dX5_count_166 rfl ?_
    refine v_get (C := RX5) (T := TX5) (N := 9) (ci := 5) (v := .ref (b 1 0)) hX in_X5 0 rfl rfl 0 (by decide) fl_12 rfl rfl dX5_count_167 ?_
    refine v_get (C := RX3) (T := TX3) (N := 6) (ci := 3) (v := .int (v.1.2.2.2.1)) hX in_X3 _ (atR (atL (rfl : (wM E (b 1) v.1)[0]? = _))) rfl 3 (by decide) fl_83 rfl rfl dX5_count_170 ?_
    exact v_iret hX hr hsz dX5_count_173 rfl rfl (by (first | rfl | (simp only [X_count, ec_j, hS_w, k2, k3, k4, k5, k6, k7, k8, k9, k10, k11, k12, k13t, if_true, if_false, reduceIte, Bool.false_eq_true, reduceCtorEq, decide_true, decide_false, Bool.and_true, Bool.and_false, Bool.true_and, Bool.false_and, Bool.or_true, Bool.or_false, Bool.true_or, Bool.false_or, not_true_eq_false, not_false_eq_true, Bool.not_true, Bool.not_false, eq_self, Nat.reduceEqDiff]; done) | (simp only [X_count, ec_j, hS_w, k2, k3, k4, k5, k6, k7, k8, k9, k10, k11, k12, k13t, if_true, if_false, reduceIte, Bool.false_eq_true, reduceCtorEq, decide_true, decide_false, Bool.and_true, Bool.and_false, Bool.true_and, Bool.false_and, Bool.or_true, Bool.or_false, Bool.true_or, Bool.false_or, not_true_eq_false, not_false_eq_true, Bool.not_true, Bool.not_false, eq_self, Nat.reduceEqDiff]; rfl) | contradiction | (exfalso; omega))) rfl
  by_cases k14 : j = 12
  · have k14t := eq_true k14
    refine v_tableIn (tgt := 174) (off := 173) hX dX5_count_1 (by rw [k14]; decide) (by rw [k14]; decide) (by rw [k14]; decide) (by decide) ?_
    refine v_aload_n hX dX5_count_174 rfl ?_
    refine v_get (C := RX5) (T := TX5) (N := 9) (ci := 5) (v := .ref (b 4 0)) hX in_X5 0 rfl rfl 3 (by decide) fl_25 rfl rfl dX5_count_175 ?_
    refine v_get (C := RX2) (T := TX2) (N := 3) (ci := 2) (v := .int (nI (v.2.2.2.1.2.2.val))) hX in_X2 _ (atR (atR (atR (atR (atL (rfl : (wH E (hA b) v.2.2.2.1)[0]? = _)))))) rfl 2 (by decide) fl_124 rfl rfl dX5_count_178 ?_
    have hb15 := (v.2.2.2.1.2.2).isLt
    exact v_iret hX hr hsz dX5_count_181 rfl rfl (by (first | rfl | (simp only [X_count, ec_j, hS_w, k2, k3, k4, k5, k6, k7, k8, k9, k10, k11, k12, k13, k14t, if_true, if_false, reduceIte, Bool.false_eq_true, reduceCtorEq, decide_true, decide_false, Bool.and_true, Bool.and_false, Bool.true_and, Bool.false_and, Bool.or_true, Bool.or_false, Bool.true_or, Bool.false_or, not_true_eq_false, not_false_eq_true, Bool.not_true, Bool.not_false, eq_self, Nat.reduceEqDiff]; done) | (simp only [X_count, ec_j, hS_w, k2, k3, k4, k5, k6, k7, k8, k9, k10, k11, k12, k13, k14t, if_true, if_false, reduceIte, Bool.false_eq_true, reduceCtorEq, decide_true, decide_false, Bool.and_true, Bool.and_false, Bool.true_and, Bool.false_and, Bool.or_true, Bool.or_false, Bool.true_or, Bool.false_or, not_true_eq_false, not_false_eq_true, Bool.not_true, Bool.not_false, eq_self, Nat.reduceEqDiff]; rfl) | contradiction | (exfalso; omega))) rfl
  by_cases k16 : j = 13
  · have k16t := eq_true k16
    refine v_tableIn (tgt := 182) (off := 181) hX dX5_count_1 (by rw [k16]; decide) (by rw [k16]; decide) (by rw [k16]; decide) (by decide) ?_
    refine v_aload_n hX dX5_count_182 rfl ?_
    refine v_get (C := RX5) (T := TX5) (N := 9) (ci := 5) (v := .ref (b 9 0)) hX in_X5 0 rfl rfl 4 (by decide) fl_32 rfl rfl dX5_count_183 ?_
    refine v_get (C := RX4) (T := TX4) (N := 8) (ci := 4) (v := .int (nI (v.2.2.2.2.1.2.2.2.2.2.1.val))) hX in_X4 _ (atR (atR (atR (atR (atR (rfl : (wP E (b 9) v.2.2.2.2.1)[0]? = _)))))) rfl 5 (by decide) fl_90 rfl rfl dX5_count_186 ?_
    have hb17 := (v.2.2.2.2.1.2.2.2.2.2.1).isLt
    exact v_iret hX hr hsz dX5_count_189 rfl rfl (by (first | rfl | (simp only [X_count, ec_j, hS_w, k2, k3, k4, k5, k6, k7, k8, k9, k10, k11, k12, k13, k14, k16t, if_true, if_false, reduceIte, Bool.false_eq_true, reduceCtorEq, decide_true, decide_false, Bool.and_true, Bool.and_false, Bool.true_and, Bool.false_and, Bool.or_true, Bool.or_false, Bool.true_or, Bool.false_or, not_true_eq_false, not_false_eq_true, Bool.not_true, Bool.not_false, eq_self, Nat.reduceEqDiff]; done) | (simp only [X_count, ec_j, hS_w, k2, k3, k4, k5, k6, k7, k8, k9, k10, k11, k12, k13, k14, k16t, if_true, if_false, reduceIte, Bool.false_eq_true, reduceCtorEq, decide_true, decide_false, Bool.and_true, Bool.and_false, Bool.true_and, Bool.false_and, Bool.or_true, Bool.or_false, Bool.true_or, Bool.false_or, not_true_eq_false, not_false_eq_true, Bool.not_true, Bool.not_false, eq_self, Nat.reduceEqDiff]; rfl) | contradiction | (exfalso; omega))) rfl
  exfalso; omega
set_option maxHeartbeats 4000000 in
set_option maxRecDepth 100000 in
theorem c_X5_perform (l : Launch) (E : ET) (b : Nat → Nat → Nat) (sz : Nat) (v : XV) : Met l yX5_perform wsX5_perform ({ frames := 6, cells := 0, slots := 0, locals := 138 }) (mPc E [.ref (b 0 0)] sz (wX E b v)) (mQi E ((X_perform v).1) (wX E b v) (wX E b ((X_perform v).2)) sz) 0 0 (va_A (wX E b v) sz) := by
  refine v_start (cc := cX5_perform) (maxL := 5) (ret := (some .int)) (by decide) rfl (Nat.le_of_ble_eq_true rfl) rfl ?_
  intro p e s m args below meth c hsz hr hX
  have hX : Xc p s m args meth c E 5 (va_A (wX E b v) sz) cX5_perform RX5 wsX5_perform := hX
  have in_X5 : ∀ w ∈ u_ws RX5 TX5 9, w ∈ wsX5_perform := by decide +kernel
  have fl_32 : Cond.fieldLink RX5 32 RX5 "program" "LSnoopFilter$Program;" ∈ wsX5_perform := by decide +kernel
  have fl_16 : Cond.fieldLink RX5 16 RX5 "trial" "LSnoopFilter$Machine;" ∈ wsX5_perform := by decide +kernel
  have fl_12 : Cond.fieldLink RX5 12 RX5 "now" "LSnoopFilter$Machine;" ∈ wsX5_perform := by decide +kernel
  have in_X4 : ∀ w ∈ u_ws RX4 TX4 8, w ∈ wsX5_perform := by decide +kernel
  have fl_100 : Cond.fieldLink RX5 100 RX4 "commands" "I" ∈ wsX5_perform := by decide +kernel
  have fl_25 : Cond.fieldLink RX5 25 RX5 "history" "LSnoopFilter$History;" ∈ wsX5_perform := by decide +kernel
  refine v_aload_n hX dX5_perform_0 rfl ?_
  refine v_get (C := RX5) (T := TX5) (N := 9) (ci := 5) (v := .ref (b 9 0)) hX in_X5 0 rfl rfl 4 (by decide) fl_32 rfl rfl dX5_perform_1 ?_
  obtain ⟨v1, hv1⟩ : ∃ z_ : XV, z_ = X_setProg v ((P_ff v.2.2.2.2.1).2) := ⟨_, rfl⟩
  refine v_callVi (r := (P_ff v.2.2.2.2.1).1) (rest := []) (ws' := wX E b v1) hX (fun sz => c_X4_findFault l E (b 9) sz v.2.2.2.2.1 ) (cwV 0 hX.2.2.2.2.1 gX5_perform_X4_findFault rfl rfl rfl (by decide +kernel) ⟨Nat.le_of_ble_eq_true rfl, Nat.le_of_ble_eq_true rfl⟩) (w1X b v ++ (wM E (b 1) v.1 ++ (wM E (b 2) v.2.1 ++ (wM E (b 3) v.2.2.1 ++ (wH E (hA b) v.2.2.2.1 ++ []))))) ([]) (lift5 ((List.append_nil _).symm)) (by rw [hv1]; exact (lift5 (y := wP E (b 9) ((P_ff v.2.2.2.2.1).2)) (List.append_nil _).symm).symm) (wP_fst E (b 9) _ _) (ci := 4) (q0 := 0) rfl rfl rfl rfl rfl (Nat.le_of_ble_eq_true rfl) dX5_perform_4 ?_
  refine v_istore_n (lv' := [.ref (b 0 0), .int ((P_ff v.2.2.2.2.1).1)]) hX dX5_perform_7 (Nat.le_of_ble_eq_true rfl) (Nat.le_of_ble_eq_true rfl) rfl rfl ?_
  refine v_iload_n hX dX5_perform_8 rfl ?_
  refine v_if_lt (tgt := 17) hX dX5_perform_9 (by decide) (fun c2 => ?_) (fun c2 => ?_)
  · refine v_aload_n hX dX5_perform_17 rfl ?_
    refine v_get (C := RX5) (T := TX5) (N := 9) (ci := 5) (v := .ref (b 2 0)) hX in_X5 0 rfl rfl 1 (by decide) fl_16 rfl rfl dX5_perform_18 ?_
    refine v_aload_n hX dX5_perform_21 rfl ?_
    refine v_get (C := RX5) (T := TX5) (N := 9) (ci := 5) (v := .ref (b 1 0)) hX in_X5 0 rfl rfl 0 (by decide) fl_12 rfl rfl dX5_perform_22 ?_
    obtain ⟨v3, hv3⟩ : ∃ z_ : XV, z_ = X_setTrial v1 v1.1 := ⟨_, rfl⟩
    refine v_callVv2s (rest := []) (ws' := wX E b v3) (x1 := wM E (b 2) v1.2.1) (x2 := wM E (b 1) v1.1) (x1' := wM E (b 2) v1.1) hX (fun sz => c_X3_copyFrom l E (b 2) (b 1) sz v1.2.1 v1.1) (cwV 1 hX.2.2.2.2.1 gX5_perform_X3_copyFrom rfl rfl rfl (by decide +kernel) ⟨Nat.le_of_ble_eq_true rfl, Nat.le_of_ble_eq_true rfl⟩) (w1X b v1) ([]) (wM E (b 3) v1.2.2.1 ++ (wH E (hA b) v1.2.2.2.1 ++ (wP E (b 9) v1.2.2.2.2.1))) rfl (by rw [hv3]; rfl) (wM_fst E (b 2) _ _) (ci := 3) (q0 := 0) rfl rfl rfl rfl rfl (Nat.le_of_ble_eq_true rfl) dX5_perform_25 ?_
    refine v_iconst (x := (0 : Int32)) hX dX5_perform_28 (by decide) ?_
    refine v_istore_n (lv' := [.ref (b 0 0), .int ((P_ff v.2.2.2.2.1).1), .int ((0 : Int32))]) hX dX5_perform_29 (Nat.le_of_ble_eq_true rfl) (Nat.le_of_ble_eq_true rfl) rfl rfl ?_
    refine v_iconst (x := (0 : Int32)) hX dX5_perform_30 (by decide) ?_
    refine v_istore_n (lv' := [.ref (b 0 0), .int ((P_ff v.2.2.2.2.1).1), .int ((0 : Int32)), .int ((0 : Int32))]) hX dX5_perform_31 (Nat.le_of_ble_eq_true rfl) (Nat.le_of_ble_eq_true rfl) rfl rfl ?_
    have loop_32 : ∀ (fu : Nat) (w : XV) (sm : Int32) (i : Nat), i + fu = (P_ff v.2.2.2.2.1).2.2.2.2.2.2.2.1.val → X_runL w.2.2.2.2.1 fu i w.2.1 sm = X_runL (P_ff v.2.2.2.2.1).2 (P_ff v.2.2.2.2.1).2.2.2.2.2.2.2.1.val 0 v.1 0 → w = X_setTrial (X_setProg v (P_ff v.2.2.2.2.1).2) w.2.1 → V p l e ({ frames := 6, cells := 0, slots := 0, locals := 138 } : Room) s m args below meth c E 5 (va_A (wX E b v) sz) (MQ below (mQi E ((X_perform v).1) (wX E b v) (wX E b ((X_perform v).2)) sz) args s 0 0 (va_A (wX E b v) sz)) (wX E b w) [.ref (b 0 0), .int ((P_ff v.2.2.2.2.1).1), .int (sm), .int (nI (i))] 32 [] := by
      intro fu
      induction fu with
      | zero =>
        intro w sm i inv0 inv1 inv2
        have hw5 : w.2.2.2.2.1 = (P_ff v.2.2.2.2.1).2 := congrArg (fun z : XV => z.2.2.2.2.1) inv2
        have hw6 : w.2.2.2.2.1.2.2.2.2.2.2.1.val = (P_ff v.2.2.2.2.1).2.2.2.2.2.2.2.1.val := congrArg (fun z : XV => z.2.2.2.2.1.2.2.2.2.2.2.1.val) inv2
        have hst : ∀ t, X_setTrial w t = X_setTrial (X_ff v) t := fun t => by rw [inv2]; rfl
        have hcm28 := (P_ff v.2.2.2.2.1).2.2.2.2.2.2.2.1.isLt
        refine v_iload_n hX dX5_perform_32 rfl ?_
        refine v_aload_n hX dX5_perform_33 rfl ?_
        refine v_get (C := RX5) (T := TX5) (N := 9) (ci := 5) (v := .ref (b 9 0)) hX in_X5 0 rfl rfl 4 (by decide) fl_32 rfl rfl dX5_perform_34 ?_
        refine v_get (C := RX4) (T := TX4) (N := 8) (ci := 4) (v := .int (nI (w.2.2.2.2.1.2.2.2.2.2.2.1.val))) hX in_X4 _ (atR (atR (atR (atR (atR (rfl : (wP E (b 9) w.2.2.2.2.1)[0]? = _)))))) rfl 6 (by decide) fl_100 rfl rfl dX5_perform_37 ?_
        have hb4 := (w.2.2.2.2.1.2.2.2.2.2.2.1).isLt
        refine v_icmp_ge (tgt := 101) hX dX5_perform_40 (by decide) (fun c5 => ?_) (fun c5 => ?_)
        · replace c5 := (nI_leI (a := w.2.2.2.2.1.2.2.2.2.2.2.1.val) (b := i) (by omega) (by omega)).mp c5
          refine v_aload_n hX dX5_perform_101 rfl ?_
          refine v_get (C := RX5) (T := TX5) (N := 9) (ci := 5) (v := .ref (b 4 0)) hX in_X5 0 rfl rfl 3 (by decide) fl_25 rfl rfl dX5_perform_102 ?_
          refine v_aload_n hX dX5_perform_105 rfl ?_
          refine v_get (C := RX5) (T := TX5) (N := 9) (ci := 5) (v := .ref (b 1 0)) hX in_X5 0 rfl rfl 0 (by decide) fl_12 rfl rfl dX5_perform_106 ?_
          obtain ⟨v6, hv6⟩ : ∃ z_ : XV, z_ = X_setHist w (H_rec w.2.2.2.1 w.1) := ⟨_, rfl⟩
          refine v_callVv2s (rest := []) (ws' := wX E b v6) (x1 := wH E (hA b) w.2.2.2.1) (x2 := wM E (b 1) w.1) (x1' := wH E (hA b) (H_rec w.2.2.2.1 w.1)) hX (fun sz => c_X2_record l E (b 1) (hA b) sz (w.2.2.2.1, w.1)) (cwV 1 hX.2.2.2.2.1 gX5_perform_X2_record rfl rfl rfl (by decide +kernel) ⟨Nat.le_of_ble_eq_true rfl, Nat.le_of_ble_eq_true rfl⟩) (w1X b w) (wM E (b 2) w.2.1 ++ wM E (b 3) w.2.2.1) (wP E (b 9) w.2.2.2.2.1) (by simp only [wX, List.append_assoc]) (by rw [hv6]; simp only [wX, List.append_assoc]; rfl) (wH_fst E (hA b) _ _) (ci := 2) (q0 := 0) rfl rfl rfl rfl rfl (Nat.le_of_ble_eq_true rfl) dX5_perform_109 ?_
          refine v_aload_n hX dX5_perform_112 rfl ?_
          refine v_get (C := RX5) (T := TX5) (N := 9) (ci := 5) (v := .ref (b 1 0)) hX in_X5 0 rfl rfl 0 (by decide) fl_12 rfl rfl dX5_perform_113 ?_
          refine v_aload_n hX dX5_perform_116 rfl ?_
          refine v_get (C := RX5) (T := TX5) (N := 9) (ci := 5) (v := .ref (b 2 0)) hX in_X5 0 rfl rfl 1 (by decide) fl_16 rfl rfl dX5_perform_117 ?_
          obtain ⟨v7, hv7⟩ : ∃ z_ : XV, z_ = X_setNow v6 v6.2.1 := ⟨_, rfl⟩
          refine v_callVv2 (rest := []) (ws' := wX E b v7) (x1 := wM E (b 1) v6.1) (x2 := wM E (b 2) v6.2.1) (x1' := wM E (b 1) v6.2.1) hX (fun sz => c_X3_copyFrom l E (b 1) (b 2) sz v6.1 v6.2.1) (cwV 1 hX.2.2.2.2.1 gX5_perform_X3_copyFrom rfl rfl rfl (by decide +kernel) ⟨Nat.le_of_ble_eq_true rfl, Nat.le_of_ble_eq_true rfl⟩) (w1X b v6) ([]) (wM E (b 3) v6.2.2.1 ++ (wH E (hA b) v6.2.2.2.1 ++ (wP E (b 9) v6.2.2.2.2.1))) rfl (by rw [hv7]; rfl) (wM_fst E (b 1) _ _) (ci := 3) (q0 := 0) rfl rfl rfl rfl rfl (Nat.le_of_ble_eq_true rfl) dX5_perform_120 ?_
          refine v_iload_n hX dX5_perform_123 rfl ?_
          exact v_iret hX hr hsz dX5_perform_124 rfl rfl (by (subst hv7; subst hv6; subst hv3; subst hv1; unfold X_perform X_runs; rw [if_pos c2, ← inv1]; simp only [X_runL])) (by (subst hv7; subst hv6; subst hv3; subst hv1; unfold X_perform X_runs; rw [if_pos c2, ← inv1]; simp only [X_runL]; unfold X_ff; rw [← inv2]; first | done | rfl))
        · replace c5 := (not_congr (nI_leI (a := w.2.2.2.2.1.2.2.2.2.2.2.1.val) (b := i) (by omega) (by omega))).mp c5
          exfalso; omega
      | succ fu ih =>
        intro w sm i inv0 inv1 inv2
        have hw5 : w.2.2.2.2.1 = (P_ff v.2.2.2.2.1).2 := congrArg (fun z : XV => z.2.2.2.2.1) inv2
        have hw6 : w.2.2.2.2.1.2.2.2.2.2.2.1.val = (P_ff v.2.2.2.2.1).2.2.2.2.2.2.2.1.val := congrArg (fun z : XV => z.2.2.2.2.1.2.2.2.2.2.2.1.val) inv2
        have hst : ∀ t, X_setTrial w t = X_setTrial (X_ff v) t := fun t => by rw [inv2]; rfl
        have hcm28 := (P_ff v.2.2.2.2.1).2.2.2.2.2.2.2.1.isLt
        refine v_iload_n hX dX5_perform_32 rfl ?_
        refine v_aload_n hX dX5_perform_33 rfl ?_
        refine v_get (C := RX5) (T := TX5) (N := 9) (ci := 5) (v := .ref (b 9 0)) hX in_X5 0 rfl rfl 4 (by decide) fl_32 rfl rfl dX5_perform_34 ?_
        refine v_get (C := RX4) (T := TX4) (N := 8) (ci := 4) (v := .int (nI (w.2.2.2.2.1.2.2.2.2.2.2.1.val))) hX in_X4 _ (atR (atR (atR (atR (atR (rfl : (wP E (b 9) w.2.2.2.2.1)[0]? = _)))))) rfl 6 (by decide) fl_100 rfl rfl dX5_perform_37 ?_
        have hb8 := (w.2.2.2.2.1.2.2.2.2.2.2.1).isLt
        refine v_icmp_ge (tgt := 101) hX dX5_perform_40 (by decide) (fun c9 => ?_) (fun c9 => ?_)
        · replace c9 := (nI_leI (a := w.2.2.2.2.1.2.2.2.2.2.2.1.val) (b := i) (by omega) (by omega)).mp c9
          exfalso; omega
        · replace c9 := (not_congr (nI_leI (a := w.2.2.2.2.1.2.2.2.2.2.2.1.val) (b := i) (by omega) (by omega))).mp c9
          refine v_aload_n hX dX5_perform_43 rfl ?_
          refine v_get (C := RX5) (T := TX5) (N := 9) (ci := 5) (v := .ref (b 9 0)) hX in_X5 0 rfl rfl 4 (by decide) fl_32 rfl rfl dX5_perform_44 ?_
          refine v_iload_n hX dX5_perform_47 rfl ?_
          refine v_aload_n hX dX5_perform_48 rfl ?_
          refine v_get (C := RX5) (T := TX5) (N := 9) (ci := 5) (v := .ref (b 2 0)) hX in_X5 0 rfl rfl 1 (by decide) fl_16 rfl rfl dX5_perform_49 ?_
          obtain ⟨v10, hv10⟩ : ∃ z_ : XV, z_ = X_setTrial w (P_run w.2.2.2.2.1 w.2.1 (i)).1 := ⟨_, rfl⟩
          refine v_callViB (r := (P_run w.2.2.2.2.1 w.2.1 (i)).2) (rest := []) (ws' := wX E b v10) (x1 := wP E (b 9) w.2.2.2.2.1) (x2 := wM E (b 2) w.2.1) (x1' := wP E (b 9) w.2.2.2.2.1) (x2' := wM E (b 2) (P_run w.2.2.2.2.1 w.2.1 (i)).1) hX (fun sz => c_X4_runCommand l E (b 2) (b 9) sz w.2.1 w.2.2.2.2.1 (i) (by omega)) (cwV 2 hX.2.2.2.2.1 gX5_perform_X4_runCommand rfl rfl rfl (by decide +kernel) ⟨Nat.le_of_ble_eq_true rfl, Nat.le_of_ble_eq_true rfl⟩) (w1X b w ++ wM E (b 1) w.1) (wM E (b 3) w.2.2.1 ++ wH E (hA b) w.2.2.2.1) [] (by simp only [wX, List.append_assoc, List.append_nil]) (by rw [hv10]; simp only [wX, List.append_assoc, List.append_nil]; rfl) rfl (wM_fst E (b 2) _ _) (ci := 4) (q0 := 0) rfl rfl rfl rfl rfl (Nat.le_of_ble_eq_true rfl) dX5_perform_52 ?_
          refine v_istore (lv' := [.ref (b 0 0), .int ((P_ff v.2.2.2.2.1).1), .int (sm), .int (nI (i)), .int ((P_run w.2.2.2.2.1 w.2.1 (i)).2)]) hX dX5_perform_55 (Nat.le_of_ble_eq_true rfl) (Nat.le_of_ble_eq_true rfl) rfl rfl ?_
          refine v_iload hX dX5_perform_57 rfl ?_
          refine v_if_ge (tgt := 79) hX dX5_perform_59 (by decide) (fun c11 => ?_) (fun c11 => ?_)
          · refine v_aload_n hX dX5_perform_79 rfl ?_
            refine v_get (C := RX5) (T := TX5) (N := 9) (ci := 5) (v := .ref (b 9 0)) hX in_X5 0 rfl rfl 4 (by decide) fl_32 rfl rfl dX5_perform_80 ?_
            refine v_iload_n hX dX5_perform_83 rfl ?_
            refine v_callVi (r := bI (decide ((v10.2.2.2.2.1.2.1 i).val = 114))) (rest := []) (ws' := wX E b v10) hX (fun sz => c_X4_isReading l E (b 9) sz v10.2.2.2.2.1 i (by first | omega | exact Nat.le_of_ble_eq_true rfl)) (cwV 1 hX.2.2.2.2.1 gX5_perform_X4_isReading rfl rfl rfl (by decide +kernel) ⟨Nat.le_of_ble_eq_true rfl, Nat.le_of_ble_eq_true rfl⟩) (w1X b v10 ++ (wM E (b 1) v10.1 ++ (wM E (b 2) v10.2.1 ++ (wM E (b 3) v10.2.2.1 ++ (wH E (hA b) v10.2.2.2.1 ++ []))))) ([]) (lift5 ((List.append_nil _).symm)) (lift5 ((List.append_nil _).symm)).symm (wP_fst E (b 9) _ _) (ci := 4) (q0 := 0) rfl rfl rfl rfl rfl (Nat.le_of_ble_eq_true rfl) dX5_perform_84 ?_
            refine v_if_eq (tgt := 95) hX dX5_perform_87 (by decide) (fun c12 => ?_) (fun c12 => ?_)
            · replace c12 := bI_0.mp c12
              refine v_iinc (y := nI (i + 1)) (lv' := [.ref (b 0 0), .int ((P_ff v.2.2.2.2.1).1), .int (sm), .int (nI (i + 1)), .int ((P_run w.2.2.2.2.1 w.2.1 (i)).2)]) hX dX5_perform_95 rfl (nI_inc _) (Nat.le_of_ble_eq_true rfl) (Nat.le_of_ble_eq_true rfl) rfl rfl ?_
              refine v_goto (tgt := 32) hX dX5_perform_98 (by decide) ?_
              exact v_fewer 4 rfl (ih v10 sm (i + 1) (by omega) (by subst hv10; subst hv3; subst hv1; have hk : decide ((w.2.2.2.2.1.2.1 i).val = 114) = false := c12; rw [← inv1]; simp only [X_runL, hk, c2, c9, c11, if_true, if_false, reduceIte, Bool.false_eq_true]; first | done | rfl) (by subst hv10; subst hv3; subst hv1; exact hst _))
            · replace c12 := bI_n0.mp c12
              refine v_iload_n hX dX5_perform_90 rfl ?_
              refine v_iload hX dX5_perform_91 rfl ?_
              refine v_iadd (z := (sm + (P_run w.2.2.2.2.1 w.2.1 (i)).2)) hX dX5_perform_93 (rfl) ?_
              refine v_istore_n (lv' := [.ref (b 0 0), .int ((P_ff v.2.2.2.2.1).1), .int ((sm + (P_run w.2.2.2.2.1 w.2.1 (i)).2)), .int (nI (i)), .int ((P_run w.2.2.2.2.1 w.2.1 (i)).2)]) hX dX5_perform_94 (Nat.le_of_ble_eq_true rfl) (Nat.le_of_ble_eq_true rfl) rfl rfl ?_
              refine v_iinc (y := nI (i + 1)) (lv' := [.ref (b 0 0), .int ((P_ff v.2.2.2.2.1).1), .int ((sm + (P_run w.2.2.2.2.1 w.2.1 (i)).2)), .int (nI (i + 1)), .int ((P_run w.2.2.2.2.1 w.2.1 (i)).2)]) hX dX5_perform_95 rfl (nI_inc _) (Nat.le_of_ble_eq_true rfl) (Nat.le_of_ble_eq_true rfl) rfl rfl ?_
              refine v_goto (tgt := 32) hX dX5_perform_98 (by decide) ?_
              exact v_fewer 4 rfl (ih v10 (sm + (P_run w.2.2.2.2.1 w.2.1 (i)).2) (i + 1) (by omega) (by subst hv10; subst hv3; subst hv1; have hk : decide ((w.2.2.2.2.1.2.1 i).val = 114) = true := c12; rw [← inv1]; simp only [X_runL, hk, c2, c9, c11, if_true, if_false, reduceIte, Bool.false_eq_true]; first | done | rfl) (by subst hv10; subst hv3; subst hv1; exact hst _))
          · refine v_iload hX dX5_perform_62 rfl ?_
            refine v_bipush (x := (-5 : Int32)) hX dX5_perform_64 (by decide) ?_
            refine v_icmp_eq (tgt := 79) hX dX5_perform_66 (by decide) (fun c13 => ?_) (fun c13 => ?_)
            · have c13t := eq_true c13
              refine v_aload_n hX dX5_perform_79 rfl ?_
              refine v_get (C := RX5) (T := TX5) (N := 9) (ci := 5) (v := .ref (b 9 0)) hX in_X5 0 rfl rfl 4 (by decide) fl_32 rfl rfl dX5_perform_80 ?_
              refine v_iload_n hX dX5_perform_83 rfl ?_
              refine v_callVi (r := bI (decide ((v10.2.2.2.2.1.2.1 i).val = 114))) (rest := []) (ws' := wX E b v10) hX (fun sz => c_X4_isReading l E (b 9) sz v10.2.2.2.2.1 i (by first | omega | exact Nat.le_of_ble_eq_true rfl)) (cwV 1 hX.2.2.2.2.1 gX5_perform_X4_isReading rfl rfl rfl (by decide +kernel) ⟨Nat.le_of_ble_eq_true rfl, Nat.le_of_ble_eq_true rfl⟩) (w1X b v10 ++ (wM E (b 1) v10.1 ++ (wM E (b 2) v10.2.1 ++ (wM E (b 3) v10.2.2.1 ++ (wH E (hA b) v10.2.2.2.1 ++ []))))) ([]) (lift5 ((List.append_nil _).symm)) (lift5 ((List.append_nil _).symm)).symm (wP_fst E (b 9) _ _) (ci := 4) (q0 := 0) rfl rfl rfl rfl rfl (Nat.le_of_ble_eq_true rfl) dX5_perform_84 ?_
              refine v_if_eq (tgt := 95) hX dX5_perform_87 (by decide) (fun c14 => ?_) (fun c14 => ?_)
              · replace c14 := bI_0.mp c14
                refine v_iinc (y := nI (i + 1)) (lv' := [.ref (b 0 0), .int ((P_ff v.2.2.2.2.1).1), .int (sm), .int (nI (i + 1)), .int ((P_run w.2.2.2.2.1 w.2.1 (i)).2)]) hX dX5_perform_95 rfl (nI_inc _) (Nat.le_of_ble_eq_true rfl) (Nat.le_of_ble_eq_true rfl) rfl rfl ?_
                refine v_goto (tgt := 32) hX dX5_perform_98 (by decide) ?_
                exact v_fewer 4 rfl (ih v10 sm (i + 1) (by omega) (by subst hv10; subst hv3; subst hv1; have hk : decide ((w.2.2.2.2.1.2.1 i).val = 114) = false := c14; rw [← inv1]; simp only [X_runL, hk, c2, c9, c11, c13t, if_true, if_false, reduceIte, Bool.false_eq_true]; first | done | rfl) (by subst hv10; subst hv3; subst hv1; exact hst _))
              · replace c14 := bI_n0.mp c14
                refine v_iload_n hX dX5_perform_90 rfl ?_
                refine v_iload hX dX5_perform_91 rfl ?_
                refine v_iadd (z := (sm + (P_run w.2.2.2.2.1 w.2.1 (i)).2)) hX dX5_perform_93 (rfl) ?_
                refine v_istore_n (lv' := [.ref (b 0 0), .int ((P_ff v.2.2.2.2.1).1), .int ((sm + (P_run w.2.2.2.2.1 w.2.1 (i)).2)), .int (nI (i)), .int ((P_run w.2.2.2.2.1 w.2.1 (i)).2)]) hX dX5_perform_94 (Nat.le_of_ble_eq_true rfl) (Nat.le_of_ble_eq_true rfl) rfl rfl ?_
                refine v_iinc (y := nI (i + 1)) (lv' := [.ref (b 0 0), .int ((P_ff v.2.2.2.2.1).1), .int ((sm + (P_run w.2.2.2.2.1 w.2.1 (i)).2)), .int (nI (i + 1)), .int ((P_run w.2.2.2.2.1 w.2.1 (i)).2)]) hX dX5_perform_95 rfl (nI_inc _) (Nat.le_of_ble_eq_true rfl) (Nat.le_of_ble_eq_true rfl) rfl rfl ?_
                refine v_goto (tgt := 32) hX dX5_perform_98 (by decide) ?_
                exact v_fewer 4 rfl (ih v10 (sm + (P_run w.2.2.2.2.1 w.2.1 (i)).2) (i + 1) (by omega) (by subst hv10; subst hv3; subst hv1; have hk : decide ((w.2.2.2.2.1.2.1 i).val = 114) = true := c14; rw [← inv1]; simp only [X_runL, hk, c2, c9, c11, c13t, if_true, if_false, reduceIte, Bool.false_eq_true]; first | done | rfl) (by subst hv10; subst hv3; subst hv1; exact hst _))
            · refine v_aload_n hX dX5_perform_69 rfl ?_
              refine v_iload_n hX dX5_perform_70 rfl ?_
              refine v_iload hX dX5_perform_71 rfl ?_
              obtain ⟨v15, hv15⟩ : ∃ z_ : XV, z_ = X_stop v10 i ((P_run w.2.2.2.2.1 w.2.1 (i)).2) := ⟨_, rfl⟩
              refine v_callVv (rest := []) (ws' := wX E b v15) hX (fun sz => c_X5_noteStop l E b sz v10 i ((P_run w.2.2.2.2.1 w.2.1 (i)).2)) (cwV 2 hX.2.2.2.2.1 gX5_perform_X5_noteStop rfl rfl rfl (by decide +kernel) ⟨Nat.le_of_ble_eq_true rfl, Nat.le_of_ble_eq_true rfl⟩) ([]) ([]) ((List.append_nil _).symm) (by rw [hv15]; exact List.append_nil _) (wX_fst E b _ _) (ci := 5) (q0 := 0) rfl rfl rfl rfl rfl (Nat.le_of_ble_eq_true rfl) dX5_perform_73 ?_
              refine v_bipush (x := (-4 : Int32)) hX dX5_perform_76 (by decide) ?_
              exact v_iret hX hr hsz dX5_perform_78 rfl rfl (by (subst hv15; subst hv10; subst hv3; subst hv1; unfold X_perform X_runs; rw [if_pos c2, ← inv1]; simp only [X_runL, c2, c9, c11, c13, if_true, if_false, reduceIte, Bool.false_eq_true])) (by (subst hv15; subst hv10; subst hv3; subst hv1; unfold X_perform X_runs; rw [if_pos c2, ← inv1]; simp only [X_runL, c2, c9, c11, c13, if_true, if_false, reduceIte, Bool.false_eq_true]; rw [hst]; first | done | rfl))
    subst hv3
    subst hv1
    exact loop_32 (P_ff v.2.2.2.2.1).2.2.2.2.2.2.2.1.val _ (0 : Int32) 0 (by omega) rfl rfl
  · refine v_bipush (x := (-100 : Int32)) hX dX5_perform_12 (by decide) ?_
    refine v_iload_n hX dX5_perform_14 rfl ?_
    refine v_isub (z := ((-100 : Int32) - (P_ff v.2.2.2.2.1).1)) hX dX5_perform_15 (rfl) ?_
    exact v_iret hX hr hsz dX5_perform_16 rfl rfl (by (unfold X_perform; rw [if_neg c2])) (by (subst hv1; unfold X_perform; rw [if_neg c2]; first | done | rfl))
