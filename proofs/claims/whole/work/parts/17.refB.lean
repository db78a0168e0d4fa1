set_option maxHeartbeats 4000000 in
set_option maxRecDepth 100000 in
theorem c_X6_forgets (l : Launch) (E : ET) (a : Nat → Nat) (sz : Nat) (v : RV) (o : Nat) (ho : o < 4) (kept : Option (Fin 256)) : Met l yX6_forgets wsX6_forgets ({ frames := 4, cells := 0, slots := 0, locals := 93 }) (mPc E [.ref (a 0), .int (nI (o)), .int (enc5 (kept))] sz (wR E a v)) (mQi E ((Q_fg v.1 o kept).2) (wR E a v) (wR E a (R_setS v ((Q_fg v.1 o kept).1))) sz) 0 0 (va_A (wR E a v) sz) := by
  refine v_start (cc := cX6_forgets) (maxL := 6) (ret := (some .int)) (by decide) rfl (Nat.le_of_ble_eq_true rfl) rfl ?_
  intro p e s m args below meth c hsz hr hX
  have hX : Xc p s m args meth c E 6 (va_A (wR E a v) sz) cX6_forgets RX6 wsX6_forgets := hX
  have in_X6 : ∀ w ∈ u_ws RX6 TX6 18, w ∈ wsX6_forgets := by decide +kernel
  have fl_7 : Cond.fieldLink RX6 7 RX6 "s" "[I" ∈ wsX6_forgets := by decide +kernel
  refine v_iconst (x := (0 : Int32)) hX dX6_forgets_0 (by decide) ?_
  refine v_istore_n (lv' := [.ref (a 0), .int (nI (o)), .int (enc5 (kept)), .int ((0 : Int32))]) hX dX6_forgets_1 (Nat.le_of_ble_eq_true rfl) (Nat.le_of_ble_eq_true rfl) rfl rfl ?_
  refine v_bipush (x := (8 : Int32)) hX dX6_forgets_2 (by decide) ?_
  refine v_iload_n hX dX6_forgets_4 rfl ?_
  refine v_imul (z := nI (8 * o)) hX dX6_forgets_5 (pk_mul 8 o) ?_
  refine v_istore (lv' := [.ref (a 0), .int (nI (o)), .int (enc5 (kept)), .int ((0 : Int32)), .int (nI (8 * o))]) hX dX6_forgets_6 (Nat.le_of_ble_eq_true rfl) (Nat.le_of_ble_eq_true rfl) rfl rfl ?_
  have loop_8 : ∀ (fu i : Nat), i + fu = 8 → V p l e ({ frames := 4, cells := 0, slots := 0, locals := 93 } : Room) s m args below meth c E 6 (va_A (wR E a v) sz) (MQ below (mQi E ((Q_fg v.1 o kept).2) (wR E a v) (wR E a (R_setS v ((Q_fg v.1 o kept).1))) sz) args s 0 0 (va_A (wR E a v) sz)) (wR E a (R_setS v ((it (Q_fgF o kept) i (v.1, 0)).1))) [.ref (a 0), .int (nI (o)), .int (enc5 (kept)), .int ((it (Q_fgF o kept) i (v.1, 0)).2), .int (nI (8 * o + i))] 8 [] := by
    intro fu
    induction fu with
    | zero =>
      intro i  hin 
      have hi0 : i = 8 := by omega
      subst hi0
      obtain ⟨m1, hm1⟩ : ∃ z_ : MV, z_ = ((it (Q_fgF o kept) 8 (v.1, 0)).1) := ⟨_, rfl⟩
      rw [← hm1]
      refine v_iload hX dX6_forgets_8 rfl ?_
      refine v_bipush (x := (8 : Int32)) hX dX6_forgets_10 (by decide) ?_
      refine v_iload_n hX dX6_forgets_12 rfl ?_
      refine v_imul (z := nI (8 * o)) hX dX6_forgets_13 (pk_mul 8 o) ?_
      refine v_bipush (x := (8 : Int32)) hX dX6_forgets_14 (by decide) ?_
      refine v_iadd (z := nI ((8 * o) + 8)) hX dX6_forgets_16 (nI_add (8 * o) 8) ?_
      refine v_icmp_ge (tgt := 85) hX dX6_forgets_17 (by decide) (fun c2 => ?_) (fun c2 => ?_)
      · replace c2 := (nI_leI (a := (8 * o) + 8) (b := 8 * o + 8) (by omega) (by omega)).mp c2
        refine v_aload_n hX dX6_forgets_85 rfl ?_
        refine v_iload_n hX dX6_forgets_86 rfl ?_
        obtain ⟨m3, hm3⟩ : ∃ z_ : MV, z_ = (Q_clears m1 o) := ⟨_, rfl⟩
        refine v_callVv (rest := []) (ws' := wR E a (R_setS v m3)) hX (fun sz => c_X6_clears l E a sz (R_setS v m1) o (by first | omega | exact Nat.le_of_ble_eq_true rfl)) (cwV 1 hX.2.2.2.2.1 gX6_forgets_X6_clears rfl rfl rfl (by decide +kernel) ⟨Nat.le_of_ble_eq_true rfl, Nat.le_of_ble_eq_true rfl⟩) ([]) ([]) ((List.append_nil _).symm) (by rw [hm3]; exact List.append_nil _) (wR_fst E a _ _) (ci := 6) (q0 := 0) rfl rfl rfl rfl rfl (Nat.le_of_ble_eq_true rfl) dX6_forgets_87 ?_
        refine v_aload_n hX dX6_forgets_90 rfl ?_
        refine v_get (C := RX6) (T := TX6) (N := 18) (ci := 6) (v := .ref (a 1)) hX in_X6 0 rfl rfl 0 (by decide) fl_7 rfl rfl dX6_forgets_91 ?_
        refine v_iload_n hX dX6_forgets_94 rfl ?_
        refine v_iconst (x := (5 : Int32)) hX dX6_forgets_95 (by decide) ?_
        refine v_callSi (r := nI (512 + (6 * o) + 5)) (rest := [.ref (a 1)]) (ws' := wR E a (R_setS v m3)) hX (fun sz => c_X6_told l E sz o (by first | omega | exact Nat.le_of_ble_eq_true rfl) 5 (by first | omega | exact Nat.le_of_ble_eq_true rfl)) (va_cwS 2 hX.2.2.2.2.1 gX6_forgets_X6_told rfl rfl rfl (by decide +kernel) ⟨Nat.le_of_ble_eq_true rfl, Nat.le_of_ble_eq_true rfl⟩) ([]) (wR E a (R_setS v m3)) (rfl) rfl (rfl) rfl rfl (Nat.le_of_ble_eq_true rfl) dX6_forgets_96 ?_
        refine v_dup2 hX dX6_forgets_99 rfl rfl ?_
        refine v_iald (z := (m3.2.1 o).2.2.2.1 (5)) hX 1 rfl (vp_in_nI (by omega : 512 + (6 * o) + 5 < 544) (by omega)) (by simp only [nI_clamp (show 512 + (6 * o) + 5 < 2 ^ 31 by omega)]; exact gS_tal m3 (o := o) (q := 5) (by omega) (by omega) (by omega)) dX6_forgets_100 ?_
        refine v_iconst (x := (1 : Int32)) hX dX6_forgets_101 (by decide) ?_
        refine v_iadd (z := ((m3.2.1 o).2.2.2.1 (5) + (1 : Int32))) hX dX6_forgets_102 (rfl) ?_
        obtain ⟨m4, hm4⟩ : ∃ z_ : MV, z_ = M_setK m3 o (K_setT (m3.2.1 o) (5) (((m3.2.1 o).2.2.2.1 (5) + (1 : Int32)))) := ⟨_, rfl⟩
        refine v_iast (ws' := wR E a (R_setS v m4)) hX 1 rfl (vp_in_nI (by omega : 512 + (6 * o) + 5 < 544) (by omega)) (by rw [hm4]; exact sR_s E a (R_setS v m3) (k := 512 + (6 * o) + 5) (by omega) (pS_tal m3 (o := o) (q := 5) (((m3.2.1 o).2.2.2.1 (5) + (1 : Int32))) (by omega) (by omega) (by omega))) dX6_forgets_103 ?_
        refine v_iload_n hX dX6_forgets_104 rfl ?_
        exact v_iret hX hr hsz dX6_forgets_105 rfl rfl (by (subst hm4; subst hm3; subst hm1; first | (simp only [Q_fg, Q_tick, c2, if_true, if_false, reduceIte, Bool.false_eq_true, reduceCtorEq, decide_true, decide_false, Bool.and_true, Bool.and_false, Bool.true_and, Bool.false_and, Bool.or_true, Bool.or_false, Bool.true_or, Bool.false_or, not_true_eq_false, not_false_eq_true, Bool.not_true, Bool.not_false, eq_self, Nat.reduceEqDiff]; done) | rfl | (simp only [Q_fg, Q_tick, c2, if_true, if_false, reduceIte, Bool.false_eq_true, reduceCtorEq, decide_true, decide_false, Bool.and_true, Bool.and_false, Bool.true_and, Bool.false_and, Bool.or_true, Bool.or_false, Bool.true_or, Bool.false_or, not_true_eq_false, not_false_eq_true, Bool.not_true, Bool.not_false, eq_self, Nat.reduceEqDiff]; rfl) | contradiction | (exfalso; omega))) (by (subst hm4; subst hm3; subst hm1; first | (simp only [Q_fg, Q_tick, c2, if_true, if_false, reduceIte, Bool.false_eq_true, reduceCtorEq, decide_true, decide_false, Bool.and_true, Bool.and_false, Bool.true_and, Bool.false_and, Bool.or_true, Bool.or_false, Bool.true_or, Bool.false_or, not_true_eq_false, not_false_eq_true, Bool.not_true, Bool.not_false, eq_self, Nat.reduceEqDiff]; done) | rfl | (simp only [Q_fg, Q_tick, c2, if_true, if_false, reduceIte, Bool.false_eq_true, reduceCtorEq, decide_true, decide_false, Bool.and_true, Bool.and_false, Bool.true_and, Bool.false_and, Bool.or_true, Bool.or_false, Bool.true_or, Bool.false_or, not_true_eq_false, not_false_eq_true, Bool.not_true, Bool.not_false, eq_self, Nat.reduceEqDiff]; rfl) | contradiction | (exfalso; omega)))
      · replace c2 := (not_congr (nI_leI (a := (8 * o) + 8) (b := 8 * o + 8) (by omega) (by omega))).mp c2
        exfalso; omega
    | succ fu ih =>
      intro i  hin 
      refine v_iload hX dX6_forgets_8 rfl ?_
      refine v_bipush (x := (8 : Int32)) hX dX6_forgets_10 (by decide) ?_
      refine v_iload_n hX dX6_forgets_12 rfl ?_
      refine v_imul (z := nI (8 * o)) hX dX6_forgets_13 (pk_mul 8 o) ?_
      refine v_bipush (x := (8 : Int32)) hX dX6_forgets_14 (by decide) ?_
      refine v_iadd (z := nI ((8 * o) + 8)) hX dX6_forgets_16 (nI_add (8 * o) 8) ?_
      refine v_icmp_ge (tgt := 85) hX dX6_forgets_17 (by decide) (fun c5 => ?_) (fun c5 => ?_)
      · replace c5 := (nI_leI (a := (8 * o) + 8) (b := 8 * o + i) (by omega) (by omega)).mp c5
        exfalso; omega
      · replace c5 := (not_congr (nI_leI (a := (8 * o) + 8) (b := 8 * o + i) (by omega) (by omega))).mp c5
        refine v_aload_n hX dX6_forgets_20 rfl ?_
        refine v_get (C := RX6) (T := TX6) (N := 18) (ci := 6) (v := .ref (a 1)) hX in_X6 0 rfl rfl 0 (by decide) fl_7 rfl rfl dX6_forgets_21 ?_
        refine v_sipush (x := (256 : Int32)) hX dX6_forgets_24 (by decide) ?_
        refine v_iload hX dX6_forgets_27 rfl ?_
        refine v_iadd (z := nI (256 + (8 * o + i))) hX dX6_forgets_29 (nI_add 256 (8 * o + i)) ?_
        refine v_iald (z := enc5 ((((it (Q_fgF o kept) i (v.1, 0)).1).2.1 o).1 (i))) hX 1 rfl (vp_in_nI (by omega : 256 + (8 * o + i) < 544) (by omega)) (by simp only [nI_clamp (show 256 + (8 * o + i) < 2 ^ 31 by omega)]; exact gS_line ((it (Q_fgF o kept) i (v.1, 0)).1) (o := o) (q := i) (by omega) (by omega) (by omega)) dX6_forgets_30 ?_
        refine v_bipush (x := (-5 : Int32)) hX dX6_forgets_31 (by decide) ?_
        refine v_icmp_eq (tgt := 55) hX dX6_forgets_33 (by decide) (fun c6 => ?_) (fun c6 => ?_)
        · replace c6 := enc5_m5.mp c6
          refine v_iconst (x := (0 : Int32)) hX dX6_forgets_55 (by decide) ?_
          refine v_istore (lv' := [.ref (a 0), .int (nI (o)), .int (enc5 (kept)), .int ((it (Q_fgF o kept) i (v.1, 0)).2), .int (nI (8 * o + i)), .int ((0 : Int32))]) hX dX6_forgets_56 (Nat.le_of_ble_eq_true rfl) (Nat.le_of_ble_eq_true rfl) rfl rfl ?_
          refine v_iload hX dX6_forgets_58 rfl ?_
          refine v_if_eq (tgt := 79) hX dX6_forgets_60 (by decide) (fun c7 => ?_) (fun c7 => ?_)
          · replace c7 := (nI_eq (a := 0) (b := 0) (by omega) (by omega)).mp c7
            have c7t := eq_true c7
            refine v_iinc (y := nI ((8 * o + i) + 1)) (lv' := [.ref (a 0), .int (nI (o)), .int (enc5 (kept)), .int ((it (Q_fgF o kept) i (v.1, 0)).2), .int (nI ((8 * o + i) + 1)), .int ((0 : Int32))]) hX dX6_forgets_79 rfl (nI_inc _) (Nat.le_of_ble_eq_true rfl) (Nat.le_of_ble_eq_true rfl) rfl rfl ?_
            refine v_goto (tgt := 8) hX dX6_forgets_82 (by decide) ?_
            have e8 : (it (Q_fgF o kept) i (v.1, 0)).2 = (it (Q_fgF o kept) (i + 1) (v.1, 0)).2 := by first | (simp only [Q_fgF, c5, c6, c7t, it, if_true, if_false, reduceIte, Bool.false_eq_true, Bool.and_true, Bool.and_false, Bool.true_and, Bool.false_and, not_true_eq_false, not_false_eq_true, eq_self, ne_eq, reduceCtorEq, decide_true, decide_false, Bool.not_true, Bool.not_false]; done) | rfl | (simp only [Q_fgF, c5, c6, c7t, it, if_true, if_false, reduceIte, Bool.false_eq_true, Bool.and_true, Bool.and_false, Bool.true_and, Bool.false_and, not_true_eq_false, not_false_eq_true, eq_self, ne_eq, reduceCtorEq, decide_true, decide_false, Bool.not_true, Bool.not_false]; rfl) | contradiction
            rw [e8]
            have e9 : R_setS v ((it (Q_fgF o kept) i (v.1, 0)).1) = R_setS v ((it (Q_fgF o kept) (i + 1) (v.1, 0)).1) := by first | rfl | (simp only [Q_fgF, c5, c6, c7t, it, if_true, if_false, reduceIte, Bool.false_eq_true, Bool.and_true, Bool.and_false, Bool.true_and, Bool.false_and, not_true_eq_false, not_false_eq_true, eq_self, ne_eq, reduceCtorEq, decide_true, decide_false, Bool.not_true, Bool.not_false]; done) | (simp only [Q_fgF, c5, c6, c7t, it, if_true, if_false, reduceIte, Bool.false_eq_true, Bool.and_true, Bool.and_false, Bool.true_and, Bool.false_and, not_true_eq_false, not_false_eq_true, eq_self, ne_eq, reduceCtorEq, decide_true, decide_false, Bool.not_true, Bool.not_false]; rfl)
            rw [e9]
            have e10 : (8 * o + i) + 1 = 8 * o + (i + 1) := by omega
            rw [e10]
            exact v_fewer 5 rfl (ih (i + 1)  (by omega) )
          · replace c7 := (not_congr (nI_eq (a := 0) (b := 0) (by omega) (by omega))).mp c7
            exfalso; omega
        · obtain ⟨n11, c6⟩ := enc5_ex c6
          have hn11 := n11.isLt
          try rw [show enc5 ((((it (Q_fgF o kept) i (v.1, 0)).1).2.1 o).1 (i)) = nI (n11).val from by rw [c6]; rfl]
          refine v_aload_n hX dX6_forgets_36 rfl ?_
          refine v_get (C := RX6) (T := TX6) (N := 18) (ci := 6) (v := .ref (a 1)) hX in_X6 0 rfl rfl 0 (by decide) fl_7 rfl rfl dX6_forgets_37 ?_
          refine v_sipush (x := (256 : Int32)) hX dX6_forgets_40 (by decide) ?_
          refine v_iload hX dX6_forgets_43 rfl ?_
          refine v_iadd (z := nI (256 + (8 * o + i))) hX dX6_forgets_45 (nI_add 256 (8 * o + i)) ?_
          refine v_iald (z := enc5 ((((it (Q_fgF o kept) i (v.1, 0)).1).2.1 o).1 (i))) hX 1 rfl (vp_in_nI (by omega : 256 + (8 * o + i) < 544) (by omega)) (by simp only [nI_clamp (show 256 + (8 * o + i) < 2 ^ 31 by omega)]; exact gS_line ((it (Q_fgF o kept) i (v.1, 0)).1) (o := o) (q := i) (by omega) (by omega) (by omega)) dX6_forgets_46 ?_
          rw [show enc5 ((((it (Q_fgF o kept) i (v.1, 0)).1).2.1 o).1 (i)) = nI (n11).val from by rw [c6]; rfl]
          refine v_iload_n hX dX6_forgets_47 rfl ?_
          refine v_icmp_eq (tgt := 55) hX dX6_forgets_48 (by decide) (fun c12 => ?_) (fun c12 => ?_)
          · replace c12 := eq_true (enc5_eq.mp c12.symm)
            refine v_iconst (x := (0 : Int32)) hX dX6_forgets_55 (by decide) ?_
            refine v_istore (lv' := [.ref (a 0), .int (nI (o)), .int (enc5 (kept)), .int ((it (Q_fgF o kept) i (v.1, 0)).2), .int (nI (8 * o + i)), .int ((0 : Int32))]) hX dX6_forgets_56 (Nat.le_of_ble_eq_true rfl) (Nat.le_of_ble_eq_true rfl) rfl rfl ?_
            refine v_iload hX dX6_forgets_58 rfl ?_
            refine v_if_eq (tgt := 79) hX dX6_forgets_60 (by decide) (fun c13 => ?_) (fun c13 => ?_)
            · replace c13 := (nI_eq (a := 0) (b := 0) (by omega) (by omega)).mp c13
              have c13t := eq_true c13
              refine v_iinc (y := nI ((8 * o + i) + 1)) (lv' := [.ref (a 0), .int (nI (o)), .int (enc5 (kept)), .int ((it (Q_fgF o kept) i (v.1, 0)).2), .int (nI ((8 * o + i) + 1)), .int ((0 : Int32))]) hX dX6_forgets_79 rfl (nI_inc _) (Nat.le_of_ble_eq_true rfl) (Nat.le_of_ble_eq_true rfl) rfl rfl ?_
              refine v_goto (tgt := 8) hX dX6_forgets_82 (by decide) ?_
              have e14 : (it (Q_fgF o kept) i (v.1, 0)).2 = (it (Q_fgF o kept) (i + 1) (v.1, 0)).2 := by first | (simp only [Q_fgF, c5, c6, c12, c13t, it, if_true, if_false, reduceIte, Bool.false_eq_true, Bool.and_true, Bool.and_false, Bool.true_and, Bool.false_and, not_true_eq_false, not_false_eq_true, eq_self, ne_eq, reduceCtorEq, decide_true, decide_false, Bool.not_true, Bool.not_false]; done) | rfl | (simp only [Q_fgF, c5, c6, c12, c13t, it, if_true, if_false, reduceIte, Bool.false_eq_true, Bool.and_true, Bool.and_false, Bool.true_and, Bool.false_and, not_true_eq_false, not_false_eq_true, eq_self, ne_eq, reduceCtorEq, decide_true, decide_false, Bool.not_true, Bool.not_false]; rfl) | contradiction
              rw [e14]
              have e15 : R_setS v ((it (Q_fgF o kept) i (v.1, 0)).1) = R_setS v ((it (Q_fgF o kept) (i + 1) (v.1, 0)).1) := by first | rfl | (simp only [Q_fgF, c5, c6, c12, c13t, it, if_true, if_false, reduceIte, Bool.false_eq_true, Bool.and_true, Bool.and_false, Bool.true_and, Bool.false_and, not_true_eq_false, not_false_eq_true, eq_self, ne_eq, reduceCtorEq, decide_true, decide_false, Bool.not_true, Bool.not_false]; done) | (simp only [Q_fgF, c5, c6, c12, c13t, it, if_true, if_false, reduceIte, Bool.false_eq_true, Bool.and_true, Bool.and_false, Bool.true_and, Bool.false_and, not_true_eq_false, not_false_eq_true, eq_self, ne_eq, reduceCtorEq, decide_true, decide_false, Bool.not_true, Bool.not_false]; rfl)
              rw [e15]
              have e16 : (8 * o + i) + 1 = 8 * o + (i + 1) := by omega
              rw [e16]
              exact v_fewer 5 rfl (ih (i + 1)  (by omega) )
            · replace c13 := (not_congr (nI_eq (a := 0) (b := 0) (by omega) (by omega))).mp c13
              exfalso; omega
          · replace c12 : ¬ kept = some n11 := fun q => c12 (enc5_eq.mpr q).symm
            refine v_iconst (x := (1 : Int32)) hX dX6_forgets_51 (by decide) ?_
            refine v_goto (tgt := 56) hX dX6_forgets_52 (by decide) ?_
            refine v_istore (lv' := [.ref (a 0), .int (nI (o)), .int (enc5 (kept)), .int ((it (Q_fgF o kept) i (v.1, 0)).2), .int (nI (8 * o + i)), .int ((1 : Int32))]) hX dX6_forgets_56 (Nat.le_of_ble_eq_true rfl) (Nat.le_of_ble_eq_true rfl) rfl rfl ?_
            refine v_iload hX dX6_forgets_58 rfl ?_
            refine v_if_eq (tgt := 79) hX dX6_forgets_60 (by decide) (fun c17 => ?_) (fun c17 => ?_)
            · replace c17 := (nI_eq (a := 1) (b := 0) (by omega) (by omega)).mp c17
              have c17t := eq_true c17
              exfalso; omega
            · replace c17 := (not_congr (nI_eq (a := 1) (b := 0) (by omega) (by omega))).mp c17
              refine v_aload_n hX dX6_forgets_63 rfl ?_
              refine v_iload hX dX6_forgets_64 rfl ?_
              obtain ⟨m18, hm18⟩ : ∃ z_ : MV, z_ = (Q_wb ((it (Q_fgF o kept) i (v.1, 0)).1) o i) := ⟨_, rfl⟩
              refine v_callVv (rest := []) (ws' := wR E a (R_setS v m18)) hX (fun sz => c_X6_writesBack l E a sz (R_setS v ((it (Q_fgF o kept) i (v.1, 0)).1)) o (by first | omega | exact Nat.le_of_ble_eq_true rfl) i (by first | omega | exact Nat.le_of_ble_eq_true rfl)) (cwV 1 hX.2.2.2.2.1 gX6_forgets_X6_writesBack rfl rfl rfl (by decide +kernel) ⟨Nat.le_of_ble_eq_true rfl, Nat.le_of_ble_eq_true rfl⟩) ([]) ([]) ((List.append_nil _).symm) (by rw [hm18]; exact List.append_nil _) (wR_fst E a _ _) (ci := 6) (q0 := 0) rfl rfl rfl rfl rfl (Nat.le_of_ble_eq_true rfl) dX6_forgets_66 ?_
              refine v_aload_n hX dX6_forgets_69 rfl ?_
              refine v_iload_n hX dX6_forgets_70 rfl ?_
              refine v_iload hX dX6_forgets_71 rfl ?_
              obtain ⟨m19, hm19⟩ : ∃ z_ : MV, z_ = (Q_lv m18 o i) := ⟨_, rfl⟩
              refine v_callVv (rest := []) (ws' := wR E a (R_setS v m19)) hX (fun sz => c_X6_leaves l E a sz (R_setS v m18) o (by first | omega | exact Nat.le_of_ble_eq_true rfl) i (by first | omega | exact Nat.le_of_ble_eq_true rfl)) (cwV 2 hX.2.2.2.2.1 gX6_forgets_X6_leaves rfl rfl rfl (by decide +kernel) ⟨Nat.le_of_ble_eq_true rfl, Nat.le_of_ble_eq_true rfl⟩) ([]) ([]) ((List.append_nil _).symm) (by rw [hm19]; exact List.append_nil _) (wR_fst E a _ _) (ci := 6) (q0 := 0) rfl rfl rfl rfl rfl (Nat.le_of_ble_eq_true rfl) dX6_forgets_73 ?_
              refine v_iinc (y := ((it (Q_fgF o kept) i (v.1, 0)).2 + 1)) (lv' := [.ref (a 0), .int (nI (o)), .int (enc5 (kept)), .int (((it (Q_fgF o kept) i (v.1, 0)).2 + 1)), .int (nI (8 * o + i)), .int ((1 : Int32))]) hX dX6_forgets_76 rfl (rfl) (Nat.le_of_ble_eq_true rfl) (Nat.le_of_ble_eq_true rfl) rfl rfl ?_
              refine v_iinc (y := nI ((8 * o + i) + 1)) (lv' := [.ref (a 0), .int (nI (o)), .int (enc5 (kept)), .int (((it (Q_fgF o kept) i (v.1, 0)).2 + 1)), .int (nI ((8 * o + i) + 1)), .int ((1 : Int32))]) hX dX6_forgets_79 rfl (nI_inc _) (Nat.le_of_ble_eq_true rfl) (Nat.le_of_ble_eq_true rfl) rfl rfl ?_
              refine v_goto (tgt := 8) hX dX6_forgets_82 (by decide) ?_
              have e20 : ((it (Q_fgF o kept) i (v.1, 0)).2 + 1) = (it (Q_fgF o kept) (i + 1) (v.1, 0)).2 := by subst hm19; subst hm18; first | (simp only [Q_fgF, c5, c6, c12, c17, it, if_true, if_false, reduceIte, Bool.false_eq_true, Bool.and_true, Bool.and_false, Bool.true_and, Bool.false_and, not_true_eq_false, not_false_eq_true, eq_self, ne_eq, reduceCtorEq, decide_true, decide_false, Bool.not_true, Bool.not_false]; done) | rfl | (simp only [Q_fgF, c5, c6, c12, c17, it, if_true, if_false, reduceIte, Bool.false_eq_true, Bool.and_true, Bool.and_false, Bool.true_and, Bool.false_and, not_true_eq_false, not_false_eq_true, eq_self, ne_eq, reduceCtorEq, decide_true, decide_false, Bool.not_true, Bool.not_false]; rfl) | contradiction
              rw [e20]
              have e21 : R_setS v m19 = R_setS v ((it (Q_fgF o kept) (i + 1) (v.1, 0)).1) := by subst hm19; subst hm18; first | rfl | (simp only [Q_fgF, c5, c6, c12, c17, it, if_true, if_false, reduceIte, Bool.false_eq_true, Bool.and_true, Bool.and_false, Bool.true_and, Bool.false_and, not_true_eq_false, not_false_eq_true, eq_self, ne_eq, reduceCtorEq, decide_true, decide_false, Bool.not_true, Bool.not_false]; done) | (simp only [Q_fgF, c5, c6, c12, c17, it, if_true, if_false, reduceIte, Bool.false_eq_true, Bool.and_true, Bool.and_false, Bool.true_and, Bool.false_and, not_true_eq_false, not_false_eq_true, eq_self, ne_eq, reduceCtorEq, decide_true, decide_false, Bool.not_true, Bool.not_false]; rfl)
              rw [e21]
              have e22 : (8 * o + i) + 1 = 8 * o + (i + 1) := by omega
              rw [e22]
              exact v_fewer 5 rfl (ih (i + 1)  (by omega) )
  exact loop_8 8 0  (by omega) 
set_option maxHeartbeats 4000000 in
set_option maxRecDepth 100000 in
theorem c_X6_isSnooped (l : Launch) (E : ET) (a : Nat → Nat) (sz : Nat) (v : RV) (o : Nat) (ho : o < 4) (n : Fin 256) (b : Bool) : Met l yX6_isSnooped wsX6_isSnooped ({ frames := 4, cells := 0, slots := 0, locals := 93 }) (mPc E [.ref (a 0), .int (nI (o)), .int (nI (n).val), .int (bI (b))] sz (wR E a v)) (mQi E (bI (Q_may v.1 o n.val)) (wR E a v) (wR E a (R_setS v (Q_snoop v.1 o n b))) sz) 0 0 (va_A (wR E a v) sz) := by
  refine v_start (cc := cX6_isSnooped) (maxL := 4) (ret := (some .boolean)) (by decide) rfl (Nat.le_of_ble_eq_true rfl) rfl ?_
  intro p e s m args below meth c hsz hr hX
  have hX : Xc p s m args meth c E 4 (va_A (wR E a v) sz) cX6_isSnooped RX6 wsX6_isSnooped := hX
  have in_X6 : ∀ w ∈ u_ws RX6 TX6 18, w ∈ wsX6_isSnooped := by decide +kernel
  have fl_7 : Cond.fieldLink RX6 7 RX6 "s" "[I" ∈ wsX6_isSnooped := by decide +kernel
  have hlt_n := n.isLt
  refine v_aload_n hX dX6_isSnooped_0 rfl ?_
  refine v_iload_n hX dX6_isSnooped_1 rfl ?_
  refine v_iload_n hX dX6_isSnooped_2 rfl ?_
  refine v_callVi (r := bI (Q_may v.1 o ((n).val))) (rest := []) (ws' := wR E a v) hX (fun sz => c_X6_mayHave l E a sz v o (by first | omega | exact Nat.le_of_ble_eq_true rfl) ((n).val) (by first | omega | exact Nat.le_of_ble_eq_true rfl)) (cwV 2 hX.2.2.2.2.1 gX6_isSnooped_X6_mayHave rfl rfl rfl (by decide +kernel) ⟨Nat.le_of_ble_eq_true rfl, Nat.le_of_ble_eq_true rfl⟩) ([]) ([]) ((List.append_nil _).symm) ((List.append_nil _).symm).symm (wR_fst E a _ _) (ci := 6) (q0 := 0) rfl rfl rfl rfl rfl (Nat.le_of_ble_eq_true rfl) dX6_isSnooped_3 ?_
  refine v_if_ne (tgt := 25) hX dX6_isSnooped_6 (by decide) (fun c1 => ?_) (fun c1 => ?_)
  · replace c1 := bI_n0.mp c1
    refine v_aload_n hX dX6_isSnooped_25 rfl ?_
    refine v_get (C := RX6) (T := TX6) (N := 18) (ci := 6) (v := .ref (a 1)) hX in_X6 0 rfl rfl 0 (by decide) fl_7 rfl rfl dX6_isSnooped_26 ?_
    refine v_iload_n hX dX6_isSnooped_29 rfl ?_
    refine v_iconst (x := (2 : Int32)) hX dX6_isSnooped_30 (by decide) ?_
    refine v_callSi (r := nI (512 + (6 * o) + 2)) (rest := [.ref (a 1)]) (ws' := wR E a v) hX (fun sz => c_X6_told l E sz o (by first | omega | exact Nat.le_of_ble_eq_true rfl) 2 (by first | omega | exact Nat.le_of_ble_eq_true rfl)) (va_cwS 2 hX.2.2.2.2.1 gX6_isSnooped_X6_told rfl rfl rfl (by decide +kernel) ⟨Nat.le_of_ble_eq_true rfl, Nat.le_of_ble_eq_true rfl⟩) ([]) (wR E a v) (rfl) rfl (rfl) rfl rfl (Nat.le_of_ble_eq_true rfl) dX6_isSnooped_31 ?_
    refine v_dup2 hX dX6_isSnooped_34 rfl rfl ?_
    refine v_iald (z := (v.1.2.1 o).2.2.2.1 (2)) hX 1 rfl (vp_in_nI (by omega : 512 + (6 * o) + 2 < 544) (by omega)) (by simp only [nI_clamp (show 512 + (6 * o) + 2 < 2 ^ 31 by omega)]; exact gS_tal v.1 (o := o) (q := 2) (by omega) (by omega) (by omega)) dX6_isSnooped_35 ?_
    refine v_iconst (x := (1 : Int32)) hX dX6_isSnooped_36 (by decide) ?_
    refine v_iadd (z := ((v.1.2.1 o).2.2.2.1 (2) + (1 : Int32))) hX dX6_isSnooped_37 (rfl) ?_
    obtain ⟨m2, hm2⟩ : ∃ z_ : MV, z_ = M_setK v.1 o (K_setT (v.1.2.1 o) (2) (((v.1.2.1 o).2.2.2.1 (2) + (1 : Int32)))) := ⟨_, rfl⟩
    refine v_iast (ws' := wR E a (R_setS v m2)) hX 1 rfl (vp_in_nI (by omega : 512 + (6 * o) + 2 < 544) (by omega)) (by rw [hm2]; exact sR_s E a v (k := 512 + (6 * o) + 2) (by omega) (pS_tal v.1 (o := o) (q := 2) (((v.1.2.1 o).2.2.2.1 (2) + (1 : Int32))) (by omega) (by omega) (by omega))) dX6_isSnooped_38 ?_
    refine v_aload_n hX dX6_isSnooped_39 rfl ?_
    refine v_iload_n hX dX6_isSnooped_40 rfl ?_
    refine v_iload_n hX dX6_isSnooped_41 rfl ?_
    refine v_callVi (r := bI (Q_holds m2 o n)) (rest := []) (ws' := wR E a (R_setS v m2)) hX (fun sz => c_X6_holds l E a sz (R_setS v m2) o (by first | omega | exact Nat.le_of_ble_eq_true rfl) n) (cwV 2 hX.2.2.2.2.1 gX6_isSnooped_X6_holds rfl rfl rfl (by decide +kernel) ⟨Nat.le_of_ble_eq_true rfl, Nat.le_of_ble_eq_true rfl⟩) ([]) ([]) ((List.append_nil _).symm) ((List.append_nil _).symm).symm (wR_fst E a _ _) (ci := 6) (q0 := 0) rfl rfl rfl rfl rfl (Nat.le_of_ble_eq_true rfl) dX6_isSnooped_42 ?_
    refine v_if_ne (tgt := 65) hX dX6_isSnooped_45 (by decide) (fun c3 => ?_) (fun c3 => ?_)
    · replace c3 := bI_n0.mp c3
      refine v_iload_n hX dX6_isSnooped_65 rfl ?_
      refine v_if_eq (tgt := 82) hX dX6_isSnooped_66 (by decide) (fun c4 => ?_) (fun c4 => ?_)
      · replace c4 := bI_0.mp c4
        refine v_aload_n hX dX6_isSnooped_82 rfl ?_
        refine v_iload_n hX dX6_isSnooped_83 rfl ?_
        refine v_iload_n hX dX6_isSnooped_84 rfl ?_
        refine v_callSi (r := nI (8 * o + ((n).val) % 8)) (rest := [.ref (a 0)]) (ws' := wR E a (R_setS v m2)) hX (fun sz => c_X6_placeOf l E sz o (by first | omega | exact Nat.le_of_ble_eq_true rfl) ((n).val) (by first | omega | exact Nat.le_of_ble_eq_true rfl)) (va_cwS 2 hX.2.2.2.2.1 gX6_isSnooped_X6_placeOf rfl rfl rfl (by decide +kernel) ⟨Nat.le_of_ble_eq_true rfl, Nat.le_of_ble_eq_true rfl⟩) ([]) (wR E a (R_setS v m2)) (rfl) rfl (rfl) rfl rfl (Nat.le_of_ble_eq_true rfl) dX6_isSnooped_85 ?_
        obtain ⟨m5, hm5⟩ : ∃ z_ : MV, z_ = (Q_wb m2 o (((n).val) % 8)) := ⟨_, rfl⟩
        refine v_callVv (rest := []) (ws' := wR E a (R_setS v m5)) hX (fun sz => c_X6_writesBack l E a sz (R_setS v m2) o (by first | omega | exact Nat.le_of_ble_eq_true rfl) (((n).val) % 8) (by first | omega | exact Nat.le_of_ble_eq_true rfl)) (cwV 1 hX.2.2.2.2.1 gX6_isSnooped_X6_writesBack rfl rfl rfl (by decide +kernel) ⟨Nat.le_of_ble_eq_true rfl, Nat.le_of_ble_eq_true rfl⟩) ([]) ([]) ((List.append_nil _).symm) (by rw [hm5]; exact List.append_nil _) (wR_fst E a _ _) (ci := 6) (q0 := 0) rfl rfl rfl rfl rfl (Nat.le_of_ble_eq_true rfl) dX6_isSnooped_88 ?_
        refine v_iconst (x := (1 : Int32)) hX dX6_isSnooped_91 (by decide) ?_
        exact v_zret hX hr hsz dX6_isSnooped_92 rfl rfl (bI_narrow (true)) (congrArg bI (by (subst hm5; subst hm2; first | (simp only [Q_snoop, Q_tick, c1, c3, c4, if_true, if_false, reduceIte, Bool.false_eq_true, reduceCtorEq, decide_true, decide_false, Bool.and_true, Bool.and_false, Bool.true_and, Bool.false_and, Bool.or_true, Bool.or_false, Bool.true_or, Bool.false_or, not_true_eq_false, not_false_eq_true, Bool.not_true, Bool.not_false, eq_self, Nat.reduceEqDiff]; done) | rfl | (simp only [Q_snoop, Q_tick, c1, c3, c4, if_true, if_false, reduceIte, Bool.false_eq_true, reduceCtorEq, decide_true, decide_false, Bool.and_true, Bool.and_false, Bool.true_and, Bool.false_and, Bool.or_true, Bool.or_false, Bool.true_or, Bool.false_or, not_true_eq_false, not_false_eq_true, Bool.not_true, Bool.not_false, eq_self, Nat.reduceEqDiff]; rfl) | contradiction | (exfalso; omega)) : true = Q_may v.1 o n.val)) (by (subst hm5; subst hm2; first | (simp only [Q_snoop, Q_tick, c1, c3, c4, if_true, if_false, reduceIte, Bool.false_eq_true, reduceCtorEq, decide_true, decide_false, Bool.and_true, Bool.and_false, Bool.true_and, Bool.false_and, Bool.or_true, Bool.or_false, Bool.true_or, Bool.false_or, not_true_eq_false, not_false_eq_true, Bool.not_true, Bool.not_false, eq_self, Nat.reduceEqDiff]; done) | rfl | (simp only [Q_snoop, Q_tick, c1, c3, c4, if_true, if_false, reduceIte, Bool.false_eq_true, reduceCtorEq, decide_true, decide_false, Bool.and_true, Bool.and_false, Bool.true_and, Bool.false_and, Bool.or_true, Bool.or_false, Bool.true_or, Bool.false_or, not_true_eq_false, not_false_eq_true, Bool.not_true, Bool.not_false, eq_self, Nat.reduceEqDiff]; rfl) | contradiction | (exfalso; omega)))
      · replace c4 := bI_n0.mp c4
        refine v_aload_n hX dX6_isSnooped_69 rfl ?_
        refine v_iload_n hX dX6_isSnooped_70 rfl ?_
        refine v_iload_n hX dX6_isSnooped_71 rfl ?_
        refine v_iload_n hX dX6_isSnooped_72 rfl ?_
        refine v_callSi (r := nI (8 * o + ((n).val) % 8)) (rest := [.int (nI (o)), .ref (a 0)]) (ws' := wR E a (R_setS v m2)) hX (fun sz => c_X6_placeOf l E sz o (by first | omega | exact Nat.le_of_ble_eq_true rfl) ((n).val) (by first | omega | exact Nat.le_of_ble_eq_true rfl)) (va_cwS 2 hX.2.2.2.2.1 gX6_isSnooped_X6_placeOf rfl rfl rfl (by decide +kernel) ⟨Nat.le_of_ble_eq_true rfl, Nat.le_of_ble_eq_true rfl⟩) ([]) (wR E a (R_setS v m2)) (rfl) rfl (rfl) rfl rfl (Nat.le_of_ble_eq_true rfl) dX6_isSnooped_73 ?_
        obtain ⟨m6, hm6⟩ : ∃ z_ : MV, z_ = (Q_lv m2 o (((n).val) % 8)) := ⟨_, rfl⟩
        refine v_callVv (rest := []) (ws' := wR E a (R_setS v m6)) hX (fun sz => c_X6_leaves l E a sz (R_setS v m2) o (by first | omega | exact Nat.le_of_ble_eq_true rfl) (((n).val) % 8) (by first | omega | exact Nat.le_of_ble_eq_true rfl)) (cwV 2 hX.2.2.2.2.1 gX6_isSnooped_X6_leaves rfl rfl rfl (by decide +kernel) ⟨Nat.le_of_ble_eq_true rfl, Nat.le_of_ble_eq_true rfl⟩) ([]) ([]) ((List.append_nil _).symm) (by rw [hm6]; exact List.append_nil _) (wR_fst E a _ _) (ci := 6) (q0 := 0) rfl rfl rfl rfl rfl (Nat.le_of_ble_eq_true rfl) dX6_isSnooped_76 ?_
        refine v_goto (tgt := 91) hX dX6_isSnooped_79 (by decide) ?_
        refine v_iconst (x := (1 : Int32)) hX dX6_isSnooped_91 (by decide) ?_
        exact v_zret hX hr hsz dX6_isSnooped_92 rfl rfl (bI_narrow (true)) (congrArg bI (by (subst hm6; subst hm2; first | (simp only [Q_snoop, Q_tick, c1, c3, c4, if_true, if_false, reduceIte, Bool.false_eq_true, reduceCtorEq, decide_true, decide_false, Bool.and_true, Bool.and_false, Bool.true_and, Bool.false_and, Bool.or_true, Bool.or_false, Bool.true_or, Bool.false_or, not_true_eq_false, not_false_eq_true, Bool.not_true, Bool.not_false, eq_self, Nat.reduceEqDiff]; done) | rfl | (simp only [Q_snoop, Q_tick, c1, c3, c4, if_true, if_false, reduceIte, Bool.false_eq_true, reduceCtorEq, decide_true, decide_false, Bool.and_true, Bool.and_false, Bool.true_and, Bool.false_and, Bool.or_true, Bool.or_false, Bool.true_or, Bool.false_or, not_true_eq_false, not_false_eq_true, Bool.not_true, Bool.not_false, eq_self, Nat.reduceEqDiff]; rfl) | contradiction | (exfalso; omega)) : true = Q_may v.1 o n.val)) (by (subst hm6; subst hm2; first | (simp only [Q_snoop, Q_tick, c1, c3, c4, if_true, if_false, reduceIte, Bool.false_eq_true, reduceCtorEq, decide_true, decide_false, Bool.and_true, Bool.and_false, Bool.true_and, Bool.false_and, Bool.or_true, Bool.or_false, Bool.true_or, Bool.false_or, not_true_eq_false, not_false_eq_true, Bool.not_true, Bool.not_false, eq_self, Nat.reduceEqDiff]; done) | rfl | (simp only [Q_snoop, Q_tick, c1, c3, c4, if_true, if_false, reduceIte, Bool.false_eq_true, reduceCtorEq, decide_true, decide_false, Bool.and_true, Bool.and_false, Bool.true_and, Bool.false_and, Bool.or_true, Bool.or_false, Bool.true_or, Bool.false_or, not_true_eq_false, not_false_eq_true, Bool.not_true, Bool.not_false, eq_self, Nat.reduceEqDiff]; rfl) | contradiction | (exfalso; omega)))
    · replace c3 := bI_0.mp c3
      refine v_aload_n hX dX6_isSnooped_48 rfl ?_
      refine v_get (C := RX6) (T := TX6) (N := 18) (ci := 6) (v := .ref (a 1)) hX in_X6 0 rfl rfl 0 (by decide) fl_7 rfl rfl dX6_isSnooped_49 ?_
      refine v_iload_n hX dX6_isSnooped_52 rfl ?_
      refine v_iconst (x := (3 : Int32)) hX dX6_isSnooped_53 (by decide) ?_
      refine v_callSi (r := nI (512 + (6 * o) + 3)) (rest := [.ref (a 1)]) (ws' := wR E a (R_setS v m2)) hX (fun sz => c_X6_told l E sz o (by first | omega | exact Nat.le_of_ble_eq_true rfl) 3 (by first | omega | exact Nat.le_of_ble_eq_true rfl)) (va_cwS 2 hX.2.2.2.2.1 gX6_isSnooped_X6_told rfl rfl rfl (by decide +kernel) ⟨Nat.le_of_ble_eq_true rfl, Nat.le_of_ble_eq_true rfl⟩) ([]) (wR E a (R_setS v m2)) (rfl) rfl (rfl) rfl rfl (Nat.le_of_ble_eq_true rfl) dX6_isSnooped_54 ?_
      refine v_dup2 hX dX6_isSnooped_57 rfl rfl ?_
      refine v_iald (z := (m2.2.1 o).2.2.2.1 (3)) hX 1 rfl (vp_in_nI (by omega : 512 + (6 * o) + 3 < 544) (by omega)) (by simp only [nI_clamp (show 512 + (6 * o) + 3 < 2 ^ 31 by omega)]; exact gS_tal m2 (o := o) (q := 3) (by omega) (by omega) (by omega)) dX6_isSnooped_58 ?_
      refine v_iconst (x := (1 : Int32)) hX dX6_isSnooped_59 (by decide) ?_
      refine v_iadd (z := ((m2.2.1 o).2.2.2.1 (3) + (1 : Int32))) hX dX6_isSnooped_60 (rfl) ?_
      obtain ⟨m7, hm7⟩ : ∃ z_ : MV, z_ = M_setK m2 o (K_setT (m2.2.1 o) (3) (((m2.2.1 o).2.2.2.1 (3) + (1 : Int32)))) := ⟨_, rfl⟩
      refine v_iast (ws' := wR E a (R_setS v m7)) hX 1 rfl (vp_in_nI (by omega : 512 + (6 * o) + 3 < 544) (by omega)) (by rw [hm7]; exact sR_s E a (R_setS v m2) (k := 512 + (6 * o) + 3) (by omega) (pS_tal m2 (o := o) (q := 3) (((m2.2.1 o).2.2.2.1 (3) + (1 : Int32))) (by omega) (by omega) (by omega))) dX6_isSnooped_61 ?_
      refine v_goto (tgt := 91) hX dX6_isSnooped_62 (by decide) ?_
      refine v_iconst (x := (1 : Int32)) hX dX6_isSnooped_91 (by decide) ?_
      exact v_zret hX hr hsz dX6_isSnooped_92 rfl rfl (bI_narrow (true)) (congrArg bI (by (subst hm7; subst hm2; first | (simp only [Q_snoop, Q_tick, c1, c3, if_true, if_false, reduceIte, Bool.false_eq_true, reduceCtorEq, decide_true, decide_false, Bool.and_true, Bool.and_false, Bool.true_and, Bool.false_and, Bool.or_true, Bool.or_false, Bool.true_or, Bool.false_or, not_true_eq_false, not_false_eq_true, Bool.not_true, Bool.not_false, eq_self, Nat.reduceEqDiff]; done) | rfl | (simp only [Q_snoop, Q_tick, c1, c3, if_true, if_false, reduceIte, Bool.false_eq_true, reduceCtorEq, decide_true, decide_false, Bool.and_true, Bool.and_false, Bool.true_and, Bool.false_and, Bool.or_true, Bool.or_false, Bool.true_or, Bool.false_or, not_true_eq_false, not_false_eq_true, Bool.not_true, Bool.not_false, eq_self, Nat.reduceEqDiff]; rfl) | contradiction | (exfalso; omega)) : true = Q_may v.1 o n.val)) (by (subst hm7; subst hm2; first | (simp only [Q_snoop, Q_tick, c1, c3, if_true, if_false, reduceIte, Bool.false_eq_true, reduceCtorEq, decide_true, decide_false, Bool.and_true, Bool.and_false, Bool.true_and, Bool.false_and, Bool.or_true, Bool.or_false, Bool.true_or, Bool.false_or, not_true_eq_false, not_false_eq_true, Bool.not_true, Bool.not_false, eq_self, Nat.reduceEqDiff]; done) | rfl | (simp only [Q_snoop, Q_tick, c1, c3, if_true, if_false, reduceIte, Bool.false_eq_true, reduceCtorEq, decide_true, decide_false, Bool.and_true, Bool.and_false, Bool.true_and, Bool.false_and, Bool.or_true, Bool.or_false, Bool.true_or, Bool.false_or, not_true_eq_false, not_false_eq_true, Bool.not_true, Bool.not_false, eq_self, Nat.reduceEqDiff]; rfl) | contradiction | (exfalso; omega)))
  · replace c1 := bI_0.mp c1
    refine v_aload_n hX dX6_isSnooped_9 rfl ?_
    refine v_get (C := RX6) (T := TX6) (N := 18) (ci := 6) (v := .ref (a 1)) hX in_X6 0 rfl rfl 0 (by decide) fl_7 rfl rfl dX6_isSnooped_10 ?_
    refine v_iload_n hX dX6_isSnooped_13 rfl ?_
    refine v_iconst (x := (4 : Int32)) hX dX6_isSnooped_14 (by decide) ?_
    refine v_callSi (r := nI (512 + (6 * o) + 4)) (rest := [.ref (a 1)]) (ws' := wR E a v) hX (fun sz => c_X6_told l E sz o (by first | omega | exact Nat.le_of_ble_eq_true rfl) 4 (by first | omega | exact Nat.le_of_ble_eq_true rfl)) (va_cwS 2 hX.2.2.2.2.1 gX6_isSnooped_X6_told rfl rfl rfl (by decide +kernel) ⟨Nat.le_of_ble_eq_true rfl, Nat.le_of_ble_eq_true rfl⟩) ([]) (wR E a v) (rfl) rfl (rfl) rfl rfl (Nat.le_of_ble_eq_true rfl) dX6_isSnooped_15 ?_
    refine v_dup2 hX dX6_isSnooped_18 rfl rfl ?_
    refine v_iald (z := (v.1.2.1 o).2.2.2.1 (4)) hX 1 rfl (vp_in_nI (by omega : 512 + (6 * o) + 4 < 544) (by omega)) (by simp only [nI_clamp (show 512 + (6 * o) + 4 < 2 ^ 31 by omega)]; exact gS_tal v.1 (o := o) (q := 4) (by omega) (by omega) (by omega)) dX6_isSnooped_19 ?_
    refine v_iconst (x := (1 : Int32)) hX dX6_isSnooped_20 (by decide) ?_
    refine v_iadd (z := ((v.1.2.1 o).2.2.2.1 (4) + (1 : Int32))) hX dX6_isSnooped_21 (rfl) ?_
    obtain ⟨m8, hm8⟩ : ∃ z_ : MV, z_ = M_setK v.1 o (K_setT (v.1.2.1 o) (4) (((v.1.2.1 o).2.2.2.1 (4) + (1 : Int32)))) := ⟨_, rfl⟩
    refine v_iast (ws' := wR E a (R_setS v m8)) hX 1 rfl (vp_in_nI (by omega : 512 + (6 * o) + 4 < 544) (by omega)) (by rw [hm8]; exact sR_s E a v (k := 512 + (6 * o) + 4) (by omega) (pS_tal v.1 (o := o) (q := 4) (((v.1.2.1 o).2.2.2.1 (4) + (1 : Int32))) (by omega) (by omega) (by omega))) dX6_isSnooped_22 ?_
    refine v_iconst (x := (0 : Int32)) hX dX6_isSnooped_23 (by decide) ?_
    exact v_zret hX hr hsz dX6_isSnooped_24 rfl rfl (bI_narrow (false)) (congrArg bI (by (subst hm8; first | (simp only [Q_snoop, Q_tick, c1, if_true, if_false, reduceIte, Bool.false_eq_true, reduceCtorEq, decide_true, decide_false, Bool.and_true, Bool.and_false, Bool.true_and, Bool.false_and, Bool.or_true, Bool.or_false, Bool.true_or, Bool.false_or, not_true_eq_false, not_false_eq_true, Bool.not_true, Bool.not_false, eq_self, Nat.reduceEqDiff]; done) | rfl | (simp only [Q_snoop, Q_tick, c1, if_true, if_false, reduceIte, Bool.false_eq_true, reduceCtorEq, decide_true, decide_false, Bool.and_true, Bool.and_false, Bool.true_and, Bool.false_and, Bool.or_true, Bool.or_false, Bool.true_or, Bool.false_or, not_true_eq_false, not_false_eq_true, Bool.not_true, Bool.not_false, eq_self, Nat.reduceEqDiff]; rfl) | contradiction | (exfalso; omega)) : false = Q_may v.1 o n.val)) (by (subst hm8; first | (simp only [Q_snoop, Q_tick, c1, if_true, if_false, reduceIte, Bool.false_eq_true, reduceCtorEq, decide_true, decide_false, Bool.and_true, Bool.and_false, Bool.true_and, Bool.false_and, Bool.or_true, Bool.or_false, Bool.true_or, Bool.false_or, not_true_eq_false, not_false_eq_true, Bool.not_true, Bool.not_false, eq_self, Nat.reduceEqDiff]; done) | rfl | (simp only [Q_snoop, Q_tick, c1, if_true, if_false, reduceIte, Bool.false_eq_true, reduceCtorEq, decide_true, decide_false, Bool.and_true, Bool.and_false, Bool.true_and, Bool.false_and, Bool.or_true, Bool.or_false, Bool.true_or, Bool.false_or, not_true_eq_false, not_false_eq_true, Bool.not_true, Bool.not_false, eq_self, Nat.reduceEqDiff]; rfl) | contradiction | (exfalso; omega)))
set_option maxHeartbeats 4000000 in
set_option maxRecDepth 100000 in
theorem c_X6_linesOf (l : Launch) (E : ET) (a : Nat → Nat) (sz : Nat) (v : RV) (o : Nat) (ho : o < 4) : Met l yX6_linesOf wsX6_linesOf ({ frames := 0, cells := 0, slots := 0, locals := 0 }) (mPc E [.ref (a 0), .int (nI (o))] sz (wR E a v)) (mQi E (Q_lines v.1 o) (wR E a v) (wR E a v) sz) 0 0 (va_A (wR E a v) sz) := by
  refine v_start (cc := cX6_linesOf) (maxL := 4) (ret := (some .int)) (by decide) rfl (Nat.le_of_ble_eq_true rfl) rfl ?_
  intro p e s m args below meth c hsz hr hX
  have hX : Xc p s m args meth c E 4 (va_A (wR E a v) sz) cX6_linesOf RX6 wsX6_linesOf := hX
  have in_X6 : ∀ w ∈ u_ws RX6 TX6 18, w ∈ wsX6_linesOf := by decide +kernel
  have fl_7 : Cond.fieldLink RX6 7 RX6 "s" "[I" ∈ wsX6_linesOf := by decide +kernel
  refine v_iconst (x := (0 : Int32)) hX dX6_linesOf_0 (by decide) ?_
  refine v_istore_n (lv' := [.ref (a 0), .int (nI (o)), .int ((0 : Int32))]) hX dX6_linesOf_1 (Nat.le_of_ble_eq_true rfl) (Nat.le_of_ble_eq_true rfl) rfl rfl ?_
  refine v_bipush (x := (8 : Int32)) hX dX6_linesOf_2 (by decide) ?_
  refine v_iload_n hX dX6_linesOf_4 rfl ?_
  refine v_imul (z := nI (8 * o)) hX dX6_linesOf_5 (pk_mul 8 o) ?_
  refine v_istore_n (lv' := [.ref (a 0), .int (nI (o)), .int ((0 : Int32)), .int (nI (8 * o))]) hX dX6_linesOf_6 (Nat.le_of_ble_eq_true rfl) (Nat.le_of_ble_eq_true rfl) rfl rfl ?_
  have loop_7 : ∀ (fu i : Nat), i + fu = 8 → V p l e ({ frames := 0, cells := 0, slots := 0, locals := 0 } : Room) s m args below meth c E 4 (va_A (wR E a v) sz) (MQ below (mQi E (Q_lines v.1 o) (wR E a v) (wR E a v) sz) args s 0 0 (va_A (wR E a v) sz)) (wR E a v) [.ref (a 0), .int (nI (o)), .int (it (Q_linesF v.1 o) i 0), .int (nI (8 * o + i))] 7 [] := by
    intro fu
    induction fu with
    | zero =>
      intro i  hin 
      have hi0 : i = 8 := by omega
      subst hi0
      refine v_iload_n hX dX6_linesOf_7 rfl ?_
      refine v_bipush (x := (8 : Int32)) hX dX6_linesOf_8 (by decide) ?_
      refine v_iload_n hX dX6_linesOf_10 rfl ?_
      refine v_imul (z := nI (8 * o)) hX dX6_linesOf_11 (pk_mul 8 o) ?_
      refine v_bipush (x := (8 : Int32)) hX dX6_linesOf_12 (by decide) ?_
      refine v_iadd (z := nI ((8 * o) + 8)) hX dX6_linesOf_14 (nI_add (8 * o) 8) ?_
      refine v_icmp_ge (tgt := 47) hX dX6_linesOf_15 (by decide) (fun c1 => ?_) (fun c1 => ?_)
      · replace c1 := (nI_leI (a := (8 * o) + 8) (b := 8 * o + 8) (by omega) (by omega)).mp c1
        refine v_iload_n hX dX6_linesOf_47 rfl ?_
        exact v_iret hX hr hsz dX6_linesOf_48 rfl rfl (by (first | (simp only [Q_lines, c1, if_true, if_false, reduceIte, Bool.false_eq_true, reduceCtorEq, decide_true, decide_false, Bool.and_true, Bool.and_false, Bool.true_and, Bool.false_and, Bool.or_true, Bool.or_false, Bool.true_or, Bool.false_or, not_true_eq_false, not_false_eq_true, Bool.not_true, Bool.not_false, eq_self, Nat.reduceEqDiff]; done) | rfl | (simp only [Q_lines, c1, if_true, if_false, reduceIte, Bool.false_eq_true, reduceCtorEq, decide_true, decide_false, Bool.and_true, Bool.and_false, Bool.true_and, Bool.false_and, Bool.or_true, Bool.or_false, Bool.true_or, Bool.false_or, not_true_eq_false, not_false_eq_true, Bool.not_true, Bool.not_false, eq_self, Nat.reduceEqDiff]; rfl) | contradiction | (exfalso; omega))) rfl
      · replace c1 := (not_congr (nI_leI (a := (8 * o) + 8) (b := 8 * o + 8) (by omega) (by omega))).mp c1
        exfalso; omega
    | succ fu ih =>
      intro i  hin 
      refine v_iload_n hX dX6_linesOf_7 rfl ?_
      refine v_bipush (x := (8 : Int32)) hX dX6_linesOf_8 (by decide) ?_
      refine v_iload_n hX dX6_linesOf_10 rfl ?_
      refine v_imul (z := nI (8 * o)) hX dX6_linesOf_11 (pk_mul 8 o) ?_
      refine v_bipush (x := (8 : Int32)) hX dX6_linesOf_12 (by decide) ?_
      refine v_iadd (z := nI ((8 * o) + 8)) hX dX6_linesOf_14 (nI_add (8 * o) 8) ?_
      refine v_icmp_ge (tgt := 47) hX dX6_linesOf_15 (by decide) (fun c2 => ?_) (fun c2 => ?_)
      · replace c2 := (nI_leI (a := (8 * o) + 8) (b := 8 * o + i) (by omega) (by omega)).mp c2
        exfalso; omega
      · replace c2 := (not_congr (nI_leI (a := (8 * o) + 8) (b := 8 * o + i) (by omega) (by omega))).mp c2
        refine v_iload_n hX dX6_linesOf_18 rfl ?_
        refine v_aload_n hX dX6_linesOf_19 rfl ?_
        refine v_get (C := RX6) (T := TX6) (N := 18) (ci := 6) (v := .ref (a 1)) hX in_X6 0 rfl rfl 0 (by decide) fl_7 rfl rfl dX6_linesOf_20 ?_
        refine v_sipush (x := (256 : Int32)) hX dX6_linesOf_23 (by decide) ?_
        refine v_iload_n hX dX6_linesOf_26 rfl ?_
        refine v_iadd (z := nI (256 + (8 * o + i))) hX dX6_linesOf_27 (nI_add 256 (8 * o + i)) ?_
        refine v_iald (z := enc5 ((v.1.2.1 o).1 (i))) hX 1 rfl (vp_in_nI (by omega : 256 + (8 * o + i) < 544) (by omega)) (by simp only [nI_clamp (show 256 + (8 * o + i) < 2 ^ 31 by omega)]; exact gS_line v.1 (o := o) (q := i) (by omega) (by omega) (by omega)) dX6_linesOf_28 ?_
        refine v_bipush (x := (-5 : Int32)) hX dX6_linesOf_29 (by decide) ?_
        refine v_icmp_ne (tgt := 38) hX dX6_linesOf_31 (by decide) (fun c3 => ?_) (fun c3 => ?_)
        · obtain ⟨n4, c3⟩ := enc5_ex c3
          have hn4 := n4.isLt
          try rw [show enc5 ((v.1.2.1 o).1 (i)) = nI (n4).val from by rw [c3]; rfl]
          refine v_iconst (x := (1 : Int32)) hX dX6_linesOf_38 (by decide) ?_
          refine v_iadd (z := (it (Q_linesF v.1 o) i 0 + (1 : Int32))) hX dX6_linesOf_39 (rfl) ?_
          refine v_istore_n (lv' := [.ref (a 0), .int (nI (o)), .int ((it (Q_linesF v.1 o) i 0 + (1 : Int32))), .int (nI (8 * o + i))]) hX dX6_linesOf_40 (Nat.le_of_ble_eq_true rfl) (Nat.le_of_ble_eq_true rfl) rfl rfl ?_
          refine v_iinc (y := nI ((8 * o + i) + 1)) (lv' := [.ref (a 0), .int (nI (o)), .int ((it (Q_linesF v.1 o) i 0 + (1 : Int32))), .int (nI ((8 * o + i) + 1))]) hX dX6_linesOf_41 rfl (nI_inc _) (Nat.le_of_ble_eq_true rfl) (Nat.le_of_ble_eq_true rfl) rfl rfl ?_
          refine v_goto (tgt := 7) hX dX6_linesOf_44 (by decide) ?_
          have e5 : (it (Q_linesF v.1 o) i 0 + (1 : Int32)) = it (Q_linesF v.1 o) (i + 1) 0 := by first | (simp only [Q_linesF, c2, c3, it, if_true, if_false, reduceIte, Bool.false_eq_true, Bool.and_true, Bool.and_false, Bool.true_and, Bool.false_and, not_true_eq_false, not_false_eq_true, eq_self, ne_eq, reduceCtorEq, decide_true, decide_false, Bool.not_true, Bool.not_false]; done) | rfl | (simp only [Q_linesF, c2, c3, it, if_true, if_false, reduceIte, Bool.false_eq_true, Bool.and_true, Bool.and_false, Bool.true_and, Bool.false_and, not_true_eq_false, not_false_eq_true, eq_self, ne_eq, reduceCtorEq, decide_true, decide_false, Bool.not_true, Bool.not_false]; rfl) | contradiction
          rw [e5]
          have e6 : (8 * o + i) + 1 = 8 * o + (i + 1) := by omega
          rw [e6]
          exact ih (i + 1)  (by omega) 
        · replace c3 := enc5_m5.mp c3
          refine v_iconst (x := (0 : Int32)) hX dX6_linesOf_34 (by decide) ?_
          refine v_goto (tgt := 39) hX dX6_linesOf_35 (by decide) ?_
          refine v_iadd (z := (it (Q_linesF v.1 o) i 0 + (0 : Int32))) hX dX6_linesOf_39 (rfl) ?_
          refine v_istore_n (lv' := [.ref (a 0), .int (nI (o)), .int ((it (Q_linesF v.1 o) i 0 + (0 : Int32))), .int (nI (8 * o + i))]) hX dX6_linesOf_40 (Nat.le_of_ble_eq_true rfl) (Nat.le_of_ble_eq_true rfl) rfl rfl ?_
          refine v_iinc (y := nI ((8 * o + i) + 1)) (lv' := [.ref (a 0), .int (nI (o)), .int ((it (Q_linesF v.1 o) i 0 + (0 : Int32))), .int (nI ((8 * o + i) + 1))]) hX dX6_linesOf_41 rfl (nI_inc _) (Nat.le_of_ble_eq_true rfl) (Nat.le_of_ble_eq_true rfl) rfl rfl ?_
          refine v_goto (tgt := 7) hX dX6_linesOf_44 (by decide) ?_
          have e7 : (it (Q_linesF v.1 o) i 0 + (0 : Int32)) = it (Q_linesF v.1 o) (i + 1) 0 := by first | (simp only [Q_linesF, c2, c3, it, if_true, if_false, reduceIte, Bool.false_eq_true, Bool.and_true, Bool.and_false, Bool.true_and, Bool.false_and, not_true_eq_false, not_false_eq_true, eq_self, ne_eq, reduceCtorEq, decide_true, decide_false, Bool.not_true, Bool.not_false]; done) | rfl | (simp only [Q_linesF, c2, c3, it, if_true, if_false, reduceIte, Bool.false_eq_true, Bool.and_true, Bool.and_false, Bool.true_and, Bool.false_and, not_true_eq_false, not_false_eq_true, eq_self, ne_eq, reduceCtorEq, decide_true, decide_false, Bool.not_true, Bool.not_false]; rfl) | contradiction
          rw [e7]
          have e8 : (8 * o + i) + 1 = 8 * o + (i + 1) := by omega
          rw [e8]
          exact ih (i + 1)  (by omega) 
  exact loop_7 8 0  (by omega) 
set_option maxHeartbeats 4000000 in
set_option maxRecDepth 100000 in
theorem c_X6_dirtyOf (l : Launch) (E : ET) (a : Nat → Nat) (sz : Nat) (v : RV) (o : Nat) (ho : o < 4) : Met l yX6_dirtyOf wsX6_dirtyOf ({ frames := 0, cells := 0, slots := 0, locals := 0 }) (mPc E [.ref (a 0), .int (nI (o))] sz (wR E a v)) (mQi E (Q_dirty v.1 o) (wR E a v) (wR E a v) sz) 0 0 (va_A (wR E a v) sz) := by
  refine v_start (cc := cX6_dirtyOf) (maxL := 4) (ret := (some .int)) (by decide) rfl (Nat.le_of_ble_eq_true rfl) rfl ?_
  intro p e s m args below meth c hsz hr hX
  have hX : Xc p s m args meth c E 4 (va_A (wR E a v) sz) cX6_dirtyOf RX6 wsX6_dirtyOf := hX
  have in_X6 : ∀ w ∈ u_ws RX6 TX6 18, w ∈ wsX6_dirtyOf := by decide +kernel
  have fl_7 : Cond.fieldLink RX6 7 RX6 "s" "[I" ∈ wsX6_dirtyOf := by decide +kernel
  refine v_iconst (x := (0 : Int32)) hX dX6_dirtyOf_0 (by decide) ?_
  refine v_istore_n (lv' := [.ref (a 0), .int (nI (o)), .int ((0 : Int32))]) hX dX6_dirtyOf_1 (Nat.le_of_ble_eq_true rfl) (Nat.le_of_ble_eq_true rfl) rfl rfl ?_
  refine v_bipush (x := (8 : Int32)) hX dX6_dirtyOf_2 (by decide) ?_
  refine v_iload_n hX dX6_dirtyOf_4 rfl ?_
  refine v_imul (z := nI (8 * o)) hX dX6_dirtyOf_5 (pk_mul 8 o) ?_
  refine v_istore_n (lv' := [.ref (a 0), .int (nI (o)), .int ((0 : Int32)), .int (nI (8 * o))]) hX dX6_dirtyOf_6 (Nat.le_of_ble_eq_true rfl) (Nat.le_of_ble_eq_true rfl) rfl rfl ?_
  have loop_7 : ∀ (fu i : Nat), i + fu = 8 → V p l e ({ frames := 0, cells := 0, slots := 0, locals := 0 } : Room) s m args below meth c E 4 (va_A (wR E a v) sz) (MQ below (mQi E (Q_dirty v.1 o) (wR E a v) (wR E a v) sz) args s 0 0 (va_A (wR E a v) sz)) (wR E a v) [.ref (a 0), .int (nI (o)), .int (it (Q_dirtyF v.1 o) i 0), .int (nI (8 * o + i))] 7 [] := by
    intro fu
    induction fu with
    | zero =>
      intro i  hin 
      have hi0 : i = 8 := by omega
      subst hi0
      refine v_iload_n hX dX6_dirtyOf_7 rfl ?_
      refine v_bipush (x := (8 : Int32)) hX dX6_dirtyOf_8 (by decide) ?_
      refine v_iload_n hX dX6_dirtyOf_10 rfl ?_
      refine v_imul (z := nI (8 * o)) hX dX6_dirtyOf_11 (pk_mul 8 o) ?_
      refine v_bipush (x := (8 : Int32)) hX dX6_dirtyOf_12 (by decide) ?_
      refine v_iadd (z := nI ((8 * o) + 8)) hX dX6_dirtyOf_14 (nI_add (8 * o) 8) ?_
      refine v_icmp_ge (tgt := 37) hX dX6_dirtyOf_15 (by decide) (fun c1 => ?_) (fun c1 => ?_)
      · replace c1 := (nI_leI (a := (8 * o) + 8) (b := 8 * o + 8) (by omega) (by omega)).mp c1
        refine v_iload_n hX dX6_dirtyOf_37 rfl ?_
        exact v_iret hX hr hsz dX6_dirtyOf_38 rfl rfl (by (first | (simp only [Q_dirty, c1, if_true, if_false, reduceIte, Bool.false_eq_true, reduceCtorEq, decide_true, decide_false, Bool.and_true, Bool.and_false, Bool.true_and, Bool.false_and, Bool.or_true, Bool.or_false, Bool.true_or, Bool.false_or, not_true_eq_false, not_false_eq_true, Bool.not_true, Bool.not_false, eq_self, Nat.reduceEqDiff]; done) | rfl | (simp only [Q_dirty, c1, if_true, if_false, reduceIte, Bool.false_eq_true, reduceCtorEq, decide_true, decide_false, Bool.and_true, Bool.and_false, Bool.true_and, Bool.false_and, Bool.or_true, Bool.or_false, Bool.true_or, Bool.false_or, not_true_eq_false, not_false_eq_true, Bool.not_true, Bool.not_false, eq_self, Nat.reduceEqDiff]; rfl) | contradiction | (exfalso; omega))) rfl
      · replace c1 := (not_congr (nI_leI (a := (8 * o) + 8) (b := 8 * o + 8) (by omega) (by omega))).mp c1
        exfalso; omega
    | succ fu ih =>
      intro i  hin 
      refine v_iload_n hX dX6_dirtyOf_7 rfl ?_
      refine v_bipush (x := (8 : Int32)) hX dX6_dirtyOf_8 (by decide) ?_
      refine v_iload_n hX dX6_dirtyOf_10 rfl ?_
      refine v_imul (z := nI (8 * o)) hX dX6_dirtyOf_11 (pk_mul 8 o) ?_
      refine v_bipush (x := (8 : Int32)) hX dX6_dirtyOf_12 (by decide) ?_
      refine v_iadd (z := nI ((8 * o) + 8)) hX dX6_dirtyOf_14 (nI_add (8 * o) 8) ?_
      refine v_icmp_ge (tgt := 37) hX dX6_dirtyOf_15 (by decide) (fun c2 => ?_) (fun c2 => ?_)
      · replace c2 := (nI_leI (a := (8 * o) + 8) (b := 8 * o + i) (by omega) (by omega)).mp c2
        exfalso; omega
      · replace c2 := (not_congr (nI_leI (a := (8 * o) + 8) (b := 8 * o + i) (by omega) (by omega))).mp c2
        refine v_iload_n hX dX6_dirtyOf_18 rfl ?_
        refine v_aload_n hX dX6_dirtyOf_19 rfl ?_
        refine v_get (C := RX6) (T := TX6) (N := 18) (ci := 6) (v := .ref (a 1)) hX in_X6 0 rfl rfl 0 (by decide) fl_7 rfl rfl dX6_dirtyOf_20 ?_
        refine v_sipush (x := (320 : Int32)) hX dX6_dirtyOf_23 (by decide) ?_
        refine v_iload_n hX dX6_dirtyOf_26 rfl ?_
        refine v_iadd (z := nI (320 + (8 * o + i))) hX dX6_dirtyOf_27 (nI_add 320 (8 * o + i)) ?_
        refine v_iald (z := bI ((v.1.2.1 o).2.2.1 (i))) hX 1 rfl (vp_in_nI (by omega : 320 + (8 * o + i) < 544) (by omega)) (by simp only [nI_clamp (show 320 + (8 * o + i) < 2 ^ 31 by omega)]; exact gS_dirty v.1 (o := o) (q := i) (by omega) (by omega) (by omega)) dX6_dirtyOf_28 ?_
        refine v_iadd (z := (it (Q_dirtyF v.1 o) i 0 + bI ((v.1.2.1 o).2.2.1 (i)))) hX dX6_dirtyOf_29 (rfl) ?_
        refine v_istore_n (lv' := [.ref (a 0), .int (nI (o)), .int ((it (Q_dirtyF v.1 o) i 0 + bI ((v.1.2.1 o).2.2.1 (i)))), .int (nI (8 * o + i))]) hX dX6_dirtyOf_30 (Nat.le_of_ble_eq_true rfl) (Nat.le_of_ble_eq_true rfl) rfl rfl ?_
        refine v_iinc (y := nI ((8 * o + i) + 1)) (lv' := [.ref (a 0), .int (nI (o)), .int ((it (Q_dirtyF v.1 o) i 0 + bI ((v.1.2.1 o).2.2.1 (i)))), .int (nI ((8 * o + i) + 1))]) hX dX6_dirtyOf_31 rfl (nI_inc _) (Nat.le_of_ble_eq_true rfl) (Nat.le_of_ble_eq_true rfl) rfl rfl ?_
        refine v_goto (tgt := 7) hX dX6_dirtyOf_34 (by decide) ?_
        have e3 : (it (Q_dirtyF v.1 o) i 0 + bI ((v.1.2.1 o).2.2.1 (i))) = it (Q_dirtyF v.1 o) (i + 1) 0 := by first | (simp only [Q_dirtyF, c2, it, if_true, if_false, reduceIte, Bool.false_eq_true, Bool.and_true, Bool.and_false, Bool.true_and, Bool.false_and, not_true_eq_false, not_false_eq_true, eq_self, ne_eq, reduceCtorEq, decide_true, decide_false, Bool.not_true, Bool.not_false]; done) | rfl | (simp only [Q_dirtyF, c2, it, if_true, if_false, reduceIte, Bool.false_eq_true, Bool.and_true, Bool.and_false, Bool.true_and, Bool.false_and, not_true_eq_false, not_false_eq_true, eq_self, ne_eq, reduceCtorEq, decide_true, decide_false, Bool.not_true, Bool.not_false]; rfl) | contradiction
        rw [e3]
        have e4 : (8 * o + i) + 1 = 8 * o + (i + 1) := by omega
        rw [e4]
        exact ih (i + 1)  (by omega) 
  exact loop_7 8 0  (by omega) 
set_option maxHeartbeats 4000000 in
set_option maxRecDepth 100000 in
theorem c_X6_sumOf (l : Launch) (E : ET) (a : Nat → Nat) (sz : Nat) (v : RV) (t : Nat) (ht : t < 6) : Met l yX6_sumOf wsX6_sumOf ({ frames := 1, cells := 0, slots := 0, locals := 21 }) (mPc E [.ref (a 0), .int (nI (t))] sz (wR E a v)) (mQi E (Q_sum v.1 t) (wR E a v) (wR E a v) sz) 0 0 (va_A (wR E a v) sz) := by
  refine v_start (cc := cX6_sumOf) (maxL := 4) (ret := (some .int)) (by decide) rfl (Nat.le_of_ble_eq_true rfl) rfl ?_
  intro p e s m args below meth c hsz hr hX
  have hX : Xc p s m args meth c E 4 (va_A (wR E a v) sz) cX6_sumOf RX6 wsX6_sumOf := hX
  have in_X6 : ∀ w ∈ u_ws RX6 TX6 18, w ∈ wsX6_sumOf := by decide +kernel
  have fl_7 : Cond.fieldLink RX6 7 RX6 "s" "[I" ∈ wsX6_sumOf := by decide +kernel
  refine v_iconst (x := (0 : Int32)) hX dX6_sumOf_0 (by decide) ?_
  refine v_istore_n (lv' := [.ref (a 0), .int (nI (t)), .int ((0 : Int32))]) hX dX6_sumOf_1 (Nat.le_of_ble_eq_true rfl) (Nat.le_of_ble_eq_true rfl) rfl rfl ?_
  refine v_iconst (x := (0 : Int32)) hX dX6_sumOf_2 (by decide) ?_
  refine v_istore_n (lv' := [.ref (a 0), .int (nI (t)), .int ((0 : Int32)), .int ((0 : Int32))]) hX dX6_sumOf_3 (Nat.le_of_ble_eq_true rfl) (Nat.le_of_ble_eq_true rfl) rfl rfl ?_
  have loop_4 : ∀ (fu i : Nat), i + fu = 4 → V p l e ({ frames := 1, cells := 0, slots := 0, locals := 21 } : Room) s m args below meth c E 4 (va_A (wR E a v) sz) (MQ below (mQi E (Q_sum v.1 t) (wR E a v) (wR E a v) sz) args s 0 0 (va_A (wR E a v) sz)) (wR E a v) [.ref (a 0), .int (nI (t)), .int (it (Q_sumF v.1 t) i 0), .int (nI (i))] 4 [] := by
    intro fu
    induction fu with
    | zero =>
      intro i  hin 
      have hi0 : i = 4 := by omega
      subst hi0
      refine v_iload_n hX dX6_sumOf_4 rfl ?_
      refine v_iconst (x := (4 : Int32)) hX dX6_sumOf_5 (by decide) ?_
      refine v_icmp_ge (tgt := 28) hX dX6_sumOf_6 (by decide) (fun c1 => ?_) (fun c1 => ?_)
      · replace c1 := (nI_leI (a := 4) (b := 4) (by omega) (by omega)).mp c1
        refine v_iload_n hX dX6_sumOf_28 rfl ?_
        exact v_iret hX hr hsz dX6_sumOf_29 rfl rfl (by (first | (simp only [Q_sum, c1, if_true, if_false, reduceIte, Bool.false_eq_true, reduceCtorEq, decide_true, decide_false, Bool.and_true, Bool.and_false, Bool.true_and, Bool.false_and, Bool.or_true, Bool.or_false, Bool.true_or, Bool.false_or, not_true_eq_false, not_false_eq_true, Bool.not_true, Bool.not_false, eq_self, Nat.reduceEqDiff]; done) | rfl | (simp only [Q_sum, c1, if_true, if_false, reduceIte, Bool.false_eq_true, reduceCtorEq, decide_true, decide_false, Bool.and_true, Bool.and_false, Bool.true_and, Bool.false_and, Bool.or_true, Bool.or_false, Bool.true_or, Bool.false_or, not_true_eq_false, not_false_eq_true, Bool.not_true, Bool.not_false, eq_self, Nat.reduceEqDiff]; rfl) | contradiction | (exfalso; omega))) rfl
      · replace c1 := (not_congr (nI_leI (a := 4) (b := 4) (by omega) (by omega))).mp c1
        exfalso; omega
    | succ fu ih =>
      intro i  hin 
      refine v_iload_n hX dX6_sumOf_4 rfl ?_
      refine v_iconst (x := (4 : Int32)) hX dX6_sumOf_5 (by decide) ?_
      refine v_icmp_ge (tgt := 28) hX dX6_sumOf_6 (by decide) (fun c2 => ?_) (fun c2 => ?_)
      · replace c2 := (nI_leI (a := 4) (b := i) (by omega) (by omega)).mp c2
        exfalso; omega
      · replace c2 := (not_congr (nI_leI (a := 4) (b := i) (by omega) (by omega))).mp c2
        refine v_iload_n hX dX6_sumOf_9 rfl ?_
        refine v_aload_n hX dX6_sumOf_10 rfl ?_
        refine v_get (C := RX6) (T := TX6) (N := 18) (ci := 6) (v := .ref (a 1)) hX in_X6 0 rfl rfl 0 (by decide) fl_7 rfl rfl dX6_sumOf_11 ?_
        refine v_iload_n hX dX6_sumOf_14 rfl ?_
        refine v_iload_n hX dX6_sumOf_15 rfl ?_
        refine v_callSi (r := nI (512 + (6 * i) + t)) (rest := [.ref (a 1), .int (it (Q_sumF v.1 t) i 0)]) (ws' := wR E a v) hX (fun sz => c_X6_told l E sz i (by first | omega | exact Nat.le_of_ble_eq_true rfl) t (by first | omega | exact Nat.le_of_ble_eq_true rfl)) (va_cwS 2 hX.2.2.2.2.1 gX6_sumOf_X6_told rfl rfl rfl (by decide +kernel) ⟨Nat.le_of_ble_eq_true rfl, Nat.le_of_ble_eq_true rfl⟩) ([]) (wR E a v) (rfl) rfl (rfl) rfl rfl (Nat.le_of_ble_eq_true rfl) dX6_sumOf_16 ?_
        refine v_iald (z := (v.1.2.1 i).2.2.2.1 (t)) hX 1 rfl (vp_in_nI (by omega : 512 + (6 * i) + t < 544) (by omega)) (by simp only [nI_clamp (show 512 + (6 * i) + t < 2 ^ 31 by omega)]; exact gS_tal v.1 (o := i) (q := t) (by omega) (by omega) (by omega)) dX6_sumOf_19 ?_
        refine v_iadd (z := (it (Q_sumF v.1 t) i 0 + (v.1.2.1 i).2.2.2.1 (t))) hX dX6_sumOf_20 (rfl) ?_
        refine v_istore_n (lv' := [.ref (a 0), .int (nI (t)), .int ((it (Q_sumF v.1 t) i 0 + (v.1.2.1 i).2.2.2.1 (t))), .int (nI (i))]) hX dX6_sumOf_21 (Nat.le_of_ble_eq_true rfl) (Nat.le_of_ble_eq_true rfl) rfl rfl ?_
        refine v_iinc (y := nI (i + 1)) (lv' := [.ref (a 0), .int (nI (t)), .int ((it (Q_sumF v.1 t) i 0 + (v.1.2.1 i).2.2.2.1 (t))), .int (nI (i + 1))]) hX dX6_sumOf_22 rfl (nI_inc _) (Nat.le_of_ble_eq_true rfl) (Nat.le_of_ble_eq_true rfl) rfl rfl ?_
        refine v_goto (tgt := 4) hX dX6_sumOf_25 (by decide) ?_
        have e3 : (it (Q_sumF v.1 t) i 0 + (v.1.2.1 i).2.2.2.1 (t)) = it (Q_sumF v.1 t) (i + 1) 0 := by first | (simp only [Q_sumF, c2, it, if_true, if_false, reduceIte, Bool.false_eq_true, Bool.and_true, Bool.and_false, Bool.true_and, Bool.false_and, not_true_eq_false, not_false_eq_true, eq_self, ne_eq, reduceCtorEq, decide_true, decide_false, Bool.not_true, Bool.not_false]; done) | rfl | (simp only [Q_sumF, c2, it, if_true, if_false, reduceIte, Bool.false_eq_true, Bool.and_true, Bool.and_false, Bool.true_and, Bool.false_and, not_true_eq_false, not_false_eq_true, eq_self, ne_eq, reduceCtorEq, decide_true, decide_false, Bool.not_true, Bool.not_false]; rfl) | contradiction
        rw [e3]
        exact ih (i + 1)  (by omega) 
  exact loop_4 4 0  (by omega) 
set_option maxHeartbeats 4000000 in
set_option maxRecDepth 100000 in
theorem c_X6_lines (l : Launch) (E : ET) (a : Nat → Nat) (sz : Nat) (v : RV) : Met l yX6_lines wsX6_lines ({ frames := 1, cells := 0, slots := 0, locals := 23 }) (mPc E [.ref (a 0)] sz (wR E a v)) (mQi E (Q_all v.1) (wR E a v) (wR E a v) sz) 0 0 (va_A (wR E a v) sz) := by
  refine v_start (cc := cX6_lines) (maxL := 1) (ret := (some .int)) (by decide) rfl (Nat.le_of_ble_eq_true rfl) rfl ?_
  intro p e s m args below meth c hsz hr hX
  have hX : Xc p s m args meth c E 1 (va_A (wR E a v) sz) cX6_lines RX6 wsX6_lines := hX
  refine v_aload_n hX dX6_lines_0 rfl ?_
  refine v_iconst (x := (0 : Int32)) hX dX6_lines_1 (by decide) ?_
  refine v_callVi (r := Q_lines v.1 0) (rest := []) (ws' := wR E a v) hX (fun sz => c_X6_linesOf l E a sz v 0 (by first | omega | exact Nat.le_of_ble_eq_true rfl)) (cwV 1 hX.2.2.2.2.1 gX6_lines_X6_linesOf rfl rfl rfl (by decide +kernel) ⟨Nat.le_of_ble_eq_true rfl, Nat.le_of_ble_eq_true rfl⟩) ([]) ([]) ((List.append_nil _).symm) ((List.append_nil _).symm).symm (wR_fst E a _ _) (ci := 6) (q0 := 0) rfl rfl rfl rfl rfl (Nat.le_of_ble_eq_true rfl) dX6_lines_2 ?_
  refine v_aload_n hX dX6_lines_5 rfl ?_
  refine v_iconst (x := (1 : Int32)) hX dX6_lines_6 (by decide) ?_
  refine v_callVi (r := Q_lines v.1 1) (rest := [.int (Q_lines v.1 0)]) (ws' := wR E a v) hX (fun sz => c_X6_linesOf l E a sz v 1 (by first | omega | exact Nat.le_of_ble_eq_true rfl)) (cwV 1 hX.2.2.2.2.1 gX6_lines_X6_linesOf rfl rfl rfl (by decide +kernel) ⟨Nat.le_of_ble_eq_true rfl, Nat.le_of_ble_eq_true rfl⟩) ([]) ([]) ((List.append_nil _).symm) ((List.append_nil _).symm).symm (wR_fst E a _ _) (ci := 6) (q0 := 0) rfl rfl rfl rfl rfl (Nat.le_of_ble_eq_true rfl) dX6_lines_7 ?_
  refine v_iadd (z := (Q_lines v.1 0 + Q_lines v.1 1)) hX dX6_lines_10 (rfl) ?_
  refine v_aload_n hX dX6_lines_11 rfl ?_
  refine v_iconst (x := (2 : Int32)) hX dX6_lines_12 (by decide) ?_
  refine v_callVi (r := Q_lines v.1 2) (rest := [.int ((Q_lines v.1 0 + Q_lines v.1 1))]) (ws' := wR E a v) hX (fun sz => c_X6_linesOf l E a sz v 2 (by first | omega | exact Nat.le_of_ble_eq_true rfl)) (cwV 1 hX.2.2.2.2.1 gX6_lines_X6_linesOf rfl rfl rfl (by decide +kernel) ⟨Nat.le_of_ble_eq_true rfl, Nat.le_of_ble_eq_true rfl⟩) ([]) ([]) ((List.append_nil _).symm) ((List.append_nil _).symm).symm (wR_fst E a _ _) (ci := 6) (q0 := 0) rfl rfl rfl rfl rfl (Nat.le_of_ble_eq_true rfl) dX6_lines_13 ?_
  refine v_iadd (z := ((Q_lines v.1 0 + Q_lines v.1 1) + Q_lines v.1 2)) hX dX6_lines_16 (rfl) ?_
  refine v_aload_n hX dX6_lines_17 rfl ?_
  refine v_iconst (x := (3 : Int32)) hX dX6_lines_18 (by decide) ?_
  refine v_callVi (r := Q_lines v.1 3) (rest := [.int (((Q_lines v.1 0 + Q_lines v.1 1) + Q_lines v.1 2))]) (ws' := wR E a v) hX (fun sz => c_X6_linesOf l E a sz v 3 (by first | omega | exact Nat.le_of_ble_eq_true rfl)) (cwV 1 hX.2.2.2.2.1 gX6_lines_X6_linesOf rfl rfl rfl (by decide +kernel) ⟨Nat.le_of_ble_eq_true rfl, Nat.le_of_ble_eq_true rfl⟩) ([]) ([]) ((List.append_nil _).symm) ((List.append_nil _).symm).symm (wR_fst E a _ _) (ci := 6) (q0 := 0) rfl rfl rfl rfl rfl (Nat.le_of_ble_eq_true rfl) dX6_lines_19 ?_
  refine v_iadd (z := (((Q_lines v.1 0 + Q_lines v.1 1) + Q_lines v.1 2) + Q_lines v.1 3)) hX dX6_lines_22 (rfl) ?_
  exact v_iret hX hr hsz dX6_lines_23 rfl rfl (by (first | (simp only [Q_all, if_true, if_false, reduceIte, Bool.false_eq_true, reduceCtorEq, decide_true, decide_false, Bool.and_true, Bool.and_false, Bool.true_and, Bool.false_and, Bool.or_true, Bool.or_false, Bool.true_or, Bool.false_or, not_true_eq_false, not_false_eq_true, Bool.not_true, Bool.not_false, eq_self, Nat.reduceEqDiff]; done) | rfl | (simp only [Q_all, if_true, if_false, reduceIte, Bool.false_eq_true, reduceCtorEq, decide_true, decide_false, Bool.and_true, Bool.and_false, Bool.true_and, Bool.false_and, Bool.or_true, Bool.or_false, Bool.true_or, Bool.false_or, not_true_eq_false, not_false_eq_true, Bool.not_true, Bool.not_false, eq_self, Nat.reduceEqDiff]; rfl) | contradiction | (exfalso; omega))) rfl
set_option maxHeartbeats 4000000 in
set_option maxRecDepth 100000 in
theorem c_X6_isEmpty (l : Launch) (E : ET) (a : Nat → Nat) (sz : Nat) (v : RV) (o : Nat) (ho : o < 4) : Met l yX6_isEmpty wsX6_isEmpty ({ frames := 1, cells := 0, slots := 0, locals := 24 }) (mPc E [.ref (a 0), .int (nI (o))] sz (wR E a v)) (mQi E (bI (Q_empty v.1 o)) (wR E a v) (wR E a v) sz) 0 0 (va_A (wR E a v) sz) := by
  refine v_start (cc := cX6_isEmpty) (maxL := 2) (ret := (some .boolean)) (by decide) rfl (Nat.le_of_ble_eq_true rfl) rfl ?_
  intro p e s m args below meth c hsz hr hX
  have hX : Xc p s m args meth c E 2 (va_A (wR E a v) sz) cX6_isEmpty RX6 wsX6_isEmpty := hX
  refine v_aload_n hX dX6_isEmpty_0 rfl ?_
  refine v_iload_n hX dX6_isEmpty_1 rfl ?_
  refine v_callVi (r := Q_lines v.1 o) (rest := []) (ws' := wR E a v) hX (fun sz => c_X6_linesOf l E a sz v o (by first | omega | exact Nat.le_of_ble_eq_true rfl)) (cwV 1 hX.2.2.2.2.1 gX6_isEmpty_X6_linesOf rfl rfl rfl (by decide +kernel) ⟨Nat.le_of_ble_eq_true rfl, Nat.le_of_ble_eq_true rfl⟩) ([]) ([]) ((List.append_nil _).symm) ((List.append_nil _).symm).symm (wR_fst E a _ _) (ci := 6) (q0 := 0) rfl rfl rfl rfl rfl (Nat.le_of_ble_eq_true rfl) dX6_isEmpty_2 ?_
  refine v_if_ne (tgt := 29) hX dX6_isEmpty_5 (by decide) (fun c1 => ?_) (fun c1 => ?_)
  · refine v_iconst (x := (0 : Int32)) hX dX6_isEmpty_29 (by decide) ?_
    exact v_zret hX hr hsz dX6_isEmpty_30 rfl rfl (bI_narrow (false)) (congrArg bI (by (first | (simp only [Q_empty, c1, if_true, if_false, reduceIte, Bool.false_eq_true, reduceCtorEq, decide_true, decide_false, Bool.and_true, Bool.and_false, Bool.true_and, Bool.false_and, Bool.or_true, Bool.or_false, Bool.true_or, Bool.false_or, not_true_eq_false, not_false_eq_true, Bool.not_true, Bool.not_false, eq_self, Nat.reduceEqDiff]; done) | rfl | (simp only [Q_empty, c1, if_true, if_false, reduceIte, Bool.false_eq_true, reduceCtorEq, decide_true, decide_false, Bool.and_true, Bool.and_false, Bool.true_and, Bool.false_and, Bool.or_true, Bool.or_false, Bool.true_or, Bool.false_or, not_true_eq_false, not_false_eq_true, Bool.not_true, Bool.not_false, eq_self, Nat.reduceEqDiff]; rfl) | contradiction | (exfalso; omega)) : false = Q_empty v.1 o)) rfl
  · have c1t := eq_true c1
    refine v_aload_n hX dX6_isEmpty_8 rfl ?_
    refine v_iload_n hX dX6_isEmpty_9 rfl ?_
    refine v_iconst (x := (1 : Int32)) hX dX6_isEmpty_10 (by decide) ?_
    refine v_callVi (r := Q_from v.1 o (1 : Int32)) (rest := []) (ws' := wR E a v) hX (fun sz => c_X6_countersFrom l E a sz v o (by first | omega | exact Nat.le_of_ble_eq_true rfl) (1 : Int32)) (cwV 2 hX.2.2.2.2.1 gX6_isEmpty_X6_countersFrom rfl rfl rfl (by decide +kernel) ⟨Nat.le_of_ble_eq_true rfl, Nat.le_of_ble_eq_true rfl⟩) ([]) ([]) ((List.append_nil _).symm) ((List.append_nil _).symm).symm (wR_fst E a _ _) (ci := 6) (q0 := 0) rfl rfl rfl rfl rfl (Nat.le_of_ble_eq_true rfl) dX6_isEmpty_11 ?_
    refine v_if_ne (tgt := 29) hX dX6_isEmpty_14 (by decide) (fun c2 => ?_) (fun c2 => ?_)
    · refine v_iconst (x := (0 : Int32)) hX dX6_isEmpty_29 (by decide) ?_
      exact v_zret hX hr hsz dX6_isEmpty_30 rfl rfl (bI_narrow (false)) (congrArg bI (by (first | (simp only [Q_empty, c1t, c2, if_true, if_false, reduceIte, Bool.false_eq_true, reduceCtorEq, decide_true, decide_false, Bool.and_true, Bool.and_false, Bool.true_and, Bool.false_and, Bool.or_true, Bool.or_false, Bool.true_or, Bool.false_or, not_true_eq_false, not_false_eq_true, Bool.not_true, Bool.not_false, eq_self, Nat.reduceEqDiff]; done) | rfl | (simp only [Q_empty, c1t, c2, if_true, if_false, reduceIte, Bool.false_eq_true, reduceCtorEq, decide_true, decide_false, Bool.and_true, Bool.and_false, Bool.true_and, Bool.false_and, Bool.or_true, Bool.or_false, Bool.true_or, Bool.false_or, not_true_eq_false, not_false_eq_true, Bool.not_true, Bool.not_false, eq_self, Nat.reduceEqDiff]; rfl) | contradiction | (exfalso; omega)) : false = Q_empty v.1 o)) rfl
    · have c2t := eq_true c2
      refine v_aload_n hX dX6_isEmpty_17 rfl ?_
      refine v_iload_n hX dX6_isEmpty_18 rfl ?_
      refine v_callVi (r := Q_bits v.1 o) (rest := []) (ws' := wR E a v) hX (fun sz => c_X6_bits l E a sz v o (by first | omega | exact Nat.le_of_ble_eq_true rfl)) (cwV 1 hX.2.2.2.2.1 gX6_isEmpty_X6_bits rfl rfl rfl (by decide +kernel) ⟨Nat.le_of_ble_eq_true rfl, Nat.le_of_ble_eq_true rfl⟩) ([]) ([]) ((List.append_nil _).symm) ((List.append_nil _).symm).symm (wR_fst E a _ _) (ci := 6) (q0 := 0) rfl rfl rfl rfl rfl (Nat.le_of_ble_eq_true rfl) dX6_isEmpty_19 ?_
      refine v_if_ne (tgt := 29) hX dX6_isEmpty_22 (by decide) (fun c3 => ?_) (fun c3 => ?_)
      · refine v_iconst (x := (0 : Int32)) hX dX6_isEmpty_29 (by decide) ?_
        exact v_zret hX hr hsz dX6_isEmpty_30 rfl rfl (bI_narrow (false)) (congrArg bI (by (first | (simp only [Q_empty, c1t, c2t, c3, if_true, if_false, reduceIte, Bool.false_eq_true, reduceCtorEq, decide_true, decide_false, Bool.and_true, Bool.and_false, Bool.true_and, Bool.false_and, Bool.or_true, Bool.or_false, Bool.true_or, Bool.false_or, not_true_eq_false, not_false_eq_true, Bool.not_true, Bool.not_false, eq_self, Nat.reduceEqDiff]; done) | rfl | (simp only [Q_empty, c1t, c2t, c3, if_true, if_false, reduceIte, Bool.false_eq_true, reduceCtorEq, decide_true, decide_false, Bool.and_true, Bool.and_false, Bool.true_and, Bool.false_and, Bool.or_true, Bool.or_false, Bool.true_or, Bool.false_or, not_true_eq_false, not_false_eq_true, Bool.not_true, Bool.not_false, eq_self, Nat.reduceEqDiff]; rfl) | contradiction | (exfalso; omega)) : false = Q_empty v.1 o)) rfl
      · have c3t := eq_true c3
        refine v_iconst (x := (1 : Int32)) hX dX6_isEmpty_25 (by decide) ?_
        refine v_goto (tgt := 30) hX dX6_isEmpty_26 (by decide) ?_
        exact v_zret hX hr hsz dX6_isEmpty_30 rfl rfl (bI_narrow (true)) (congrArg bI (by (first | (simp only [Q_empty, c1t, c2t, c3t, if_true, if_false, reduceIte, Bool.false_eq_true, reduceCtorEq, decide_true, decide_false, Bool.and_true, Bool.and_false, Bool.true_and, Bool.false_and, Bool.or_true, Bool.or_false, Bool.true_or, Bool.false_or, not_true_eq_false, not_false_eq_true, Bool.not_true, Bool.not_false, eq_self, Nat.reduceEqDiff]; done) | rfl | (simp only [Q_empty, c1t, c2t, c3t, if_true, if_false, reduceIte, Bool.false_eq_true, reduceCtorEq, decide_true, decide_false, Bool.and_true, Bool.and_false, Bool.true_and, Bool.false_and, Bool.or_true, Bool.or_false, Bool.true_or, Bool.false_or, not_true_eq_false, not_false_eq_true, Bool.not_true, Bool.not_false, eq_self, Nat.reduceEqDiff]; rfl) | contradiction | (exfalso; omega)) : true = Q_empty v.1 o)) rfl
