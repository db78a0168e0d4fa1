set_option maxHeartbeats 4000000 in
set_option maxRecDepth 100000 in
theorem c_X6_begins (l : Launch) (E : ET) (a : Nat → Nat) (sz : Nat) (v : RV) (o : Nat) (ho : o < 4) (n : Fin 256) (x : Int32) (b : Bool) : Met l yX6_begins wsX6_begins ({ frames := 5, cells := 0, slots := 0, locals := 118 }) (mPc E [.ref (a 0), .int (nI (o)), .int (nI (n).val), .int (x), .int (bI (b))] sz (wR E a v)) (mQv E (wR E a v) (wR E a (R_setS v (Q_begins v.1 o n x b))) sz) 0 0 (va_A (wR E a v) sz) := by
  refine v_start (cc := cX6_begins) (maxL := 7) (ret := none) (by decide) rfl (Nat.le_of_ble_eq_true rfl) rfl ?_
  intro p e s m args below meth c hsz hr hX
  have hX : Xc p s m args meth c E 7 (va_A (wR E a v) sz) cX6_begins RX6 wsX6_begins := hX
  have in_X6 : ∀ w ∈ u_ws RX6 TX6 18, w ∈ wsX6_begins := by decide +kernel
  have fl_7 : Cond.fieldLink RX6 7 RX6 "s" "[I" ∈ wsX6_begins := by decide +kernel
  have hlt_n := n.isLt
  refine v_iload_n hX dX6_begins_0 rfl ?_
  refine v_iload_n hX dX6_begins_1 rfl ?_
  refine v_callSi (r := nI (8 * o + ((n).val) % 8)) (rest := []) (ws' := wR E a v) hX (fun sz => c_X6_placeOf l E sz o (by first | omega | exact Nat.le_of_ble_eq_true rfl) ((n).val) (by first | omega | exact Nat.le_of_ble_eq_true rfl)) (va_cwS 2 hX.2.2.2.2.1 gX6_begins_X6_placeOf rfl rfl rfl (by decide +kernel) ⟨Nat.le_of_ble_eq_true rfl, Nat.le_of_ble_eq_true rfl⟩) ([]) (wR E a v) (rfl) rfl (rfl) rfl rfl (Nat.le_of_ble_eq_true rfl) dX6_begins_2 ?_
  refine v_istore (lv' := [.ref (a 0), .int (nI (o)), .int (nI (n).val), .int (x), .int (bI (b)), .int (nI (8 * o + ((n).val) % 8))]) hX dX6_begins_5 (Nat.le_of_ble_eq_true rfl) (Nat.le_of_ble_eq_true rfl) rfl rfl ?_
  refine v_aload_n hX dX6_begins_7 rfl ?_
  refine v_iload hX dX6_begins_8 rfl ?_
  obtain ⟨m1, hm1⟩ : ∃ z_ : MV, z_ = (Q_wb v.1 o (((n).val) % 8)) := ⟨_, rfl⟩
  refine v_callVv (rest := []) (ws' := wR E a (R_setS v m1)) hX (fun sz => c_X6_writesBack l E a sz v o (by first | omega | exact Nat.le_of_ble_eq_true rfl) (((n).val) % 8) (by first | omega | exact Nat.le_of_ble_eq_true rfl)) (cwV 1 hX.2.2.2.2.1 gX6_begins_X6_writesBack rfl rfl rfl (by decide +kernel) ⟨Nat.le_of_ble_eq_true rfl, Nat.le_of_ble_eq_true rfl⟩) ([]) ([]) ((List.append_nil _).symm) (by rw [hm1]; exact List.append_nil _) (wR_fst E a _ _) (ci := 6) (q0 := 0) rfl rfl rfl rfl rfl (Nat.le_of_ble_eq_true rfl) dX6_begins_10 ?_
  refine v_aload_n hX dX6_begins_13 rfl ?_
  refine v_iload_n hX dX6_begins_14 rfl ?_
  refine v_iload hX dX6_begins_15 rfl ?_
  obtain ⟨m2, hm2⟩ : ∃ z_ : MV, z_ = (Q_lv m1 o (((n).val) % 8)) := ⟨_, rfl⟩
  refine v_callVv (rest := []) (ws' := wR E a (R_setS v m2)) hX (fun sz => c_X6_leaves l E a sz (R_setS v m1) o (by first | omega | exact Nat.le_of_ble_eq_true rfl) (((n).val) % 8) (by first | omega | exact Nat.le_of_ble_eq_true rfl)) (cwV 2 hX.2.2.2.2.1 gX6_begins_X6_leaves rfl rfl rfl (by decide +kernel) ⟨Nat.le_of_ble_eq_true rfl, Nat.le_of_ble_eq_true rfl⟩) ([]) ([]) ((List.append_nil _).symm) (by rw [hm2]; exact List.append_nil _) (wR_fst E a _ _) (ci := 6) (q0 := 0) rfl rfl rfl rfl rfl (Nat.le_of_ble_eq_true rfl) dX6_begins_17 ?_
  refine v_aload_n hX dX6_begins_20 rfl ?_
  refine v_get (C := RX6) (T := TX6) (N := 18) (ci := 6) (v := .ref (a 1)) hX in_X6 0 rfl rfl 0 (by decide) fl_7 rfl rfl dX6_begins_21 ?_
  refine v_sipush (x := (256 : Int32)) hX dX6_begins_24 (by decide) ?_
  refine v_iload hX dX6_begins_27 rfl ?_
  refine v_iadd (z := nI (256 + (8 * o + ((n).val) % 8))) hX dX6_begins_29 (nI_add 256 (8 * o + ((n).val) % 8)) ?_
  refine v_iload_n hX dX6_begins_30 rfl ?_
  obtain ⟨m3, hm3⟩ : ∃ z_ : MV, z_ = M_setK m2 o (K_setL (m2.2.1 o) (((n).val) % 8) (some n)) := ⟨_, rfl⟩
  refine v_iast (ws' := wR E a (R_setS v m3)) hX 1 rfl (vp_in_nI (by omega : 256 + (8 * o + ((n).val) % 8) < 544) (by omega)) (by rw [hm3]; exact sR_s E a (R_setS v m2) (k := 256 + (8 * o + ((n).val) % 8)) (by omega) (pS_line m2 (o := o) (q := ((n).val) % 8) (some n) (by omega) (by omega) (by omega))) dX6_begins_31 ?_
  refine v_aload_n hX dX6_begins_32 rfl ?_
  refine v_get (C := RX6) (T := TX6) (N := 18) (ci := 6) (v := .ref (a 1)) hX in_X6 0 rfl rfl 0 (by decide) fl_7 rfl rfl dX6_begins_33 ?_
  refine v_sipush (x := (288 : Int32)) hX dX6_begins_36 (by decide) ?_
  refine v_iload hX dX6_begins_39 rfl ?_
  refine v_iadd (z := nI (288 + (8 * o + ((n).val) % 8))) hX dX6_begins_41 (nI_add 288 (8 * o + ((n).val) % 8)) ?_
  refine v_iload_n hX dX6_begins_42 rfl ?_
  obtain ⟨m4, hm4⟩ : ∃ z_ : MV, z_ = M_setK m3 o (K_setV (m3.2.1 o) (((n).val) % 8) (x)) := ⟨_, rfl⟩
  refine v_iast (ws' := wR E a (R_setS v m4)) hX 1 rfl (vp_in_nI (by omega : 288 + (8 * o + ((n).val) % 8) < 544) (by omega)) (by rw [hm4]; exact sR_s E a (R_setS v m3) (k := 288 + (8 * o + ((n).val) % 8)) (by omega) (pS_val m3 (o := o) (q := ((n).val) % 8) (x) (by omega) (by omega) (by omega))) dX6_begins_43 ?_
  refine v_aload_n hX dX6_begins_44 rfl ?_
  refine v_get (C := RX6) (T := TX6) (N := 18) (ci := 6) (v := .ref (a 1)) hX in_X6 0 rfl rfl 0 (by decide) fl_7 rfl rfl dX6_begins_45 ?_
  refine v_sipush (x := (320 : Int32)) hX dX6_begins_48 (by decide) ?_
  refine v_iload hX dX6_begins_51 rfl ?_
  refine v_iadd (z := nI (320 + (8 * o + ((n).val) % 8))) hX dX6_begins_53 (nI_add 320 (8 * o + ((n).val) % 8)) ?_
  refine v_iload hX dX6_begins_54 rfl ?_
  obtain ⟨m5, hm5⟩ : ∃ z_ : MV, z_ = M_setK m4 o (K_setD (m4.2.1 o) (((n).val) % 8) (b)) := ⟨_, rfl⟩
  refine v_iast (ws' := wR E a (R_setS v m5)) hX 1 rfl (vp_in_nI (by omega : 320 + (8 * o + ((n).val) % 8) < 544) (by omega)) (by rw [hm5]; exact sR_s E a (R_setS v m4) (k := 320 + (8 * o + ((n).val) % 8)) (by omega) (pS_dirty m4 (o := o) (q := ((n).val) % 8) (b) (by omega) (by omega) (by omega))) dX6_begins_56 ?_
  refine v_aload_n hX dX6_begins_57 rfl ?_
  refine v_iload_n hX dX6_begins_58 rfl ?_
  refine v_iload_n hX dX6_begins_59 rfl ?_
  obtain ⟨m6, hm6⟩ : ∃ z_ : MV, z_ = (Q_notes m5 o ((n).val)) := ⟨_, rfl⟩
  refine v_callVv (rest := []) (ws' := wR E a (R_setS v m6)) hX (fun sz => c_X6_notes l E a sz (R_setS v m5) o (by first | omega | exact Nat.le_of_ble_eq_true rfl) ((n).val) (by first | omega | exact Nat.le_of_ble_eq_true rfl)) (cwV 2 hX.2.2.2.2.1 gX6_begins_X6_notes rfl rfl rfl (by decide +kernel) ⟨Nat.le_of_ble_eq_true rfl, Nat.le_of_ble_eq_true rfl⟩) ([]) ([]) ((List.append_nil _).symm) (by rw [hm6]; exact List.append_nil _) (wR_fst E a _ _) (ci := 6) (q0 := 0) rfl rfl rfl rfl rfl (Nat.le_of_ble_eq_true rfl) dX6_begins_60 ?_
  refine v_aload_n hX dX6_begins_63 rfl ?_
  refine v_iload_n hX dX6_begins_64 rfl ?_
  refine v_iconst (x := (1 : Int32)) hX dX6_begins_65 (by decide) ?_
  refine v_callVi (r := Q_from m6 o (1 : Int32)) (rest := []) (ws' := wR E a (R_setS v m6)) hX (fun sz => c_X6_countersFrom l E a sz (R_setS v m6) o (by first | omega | exact Nat.le_of_ble_eq_true rfl) (1 : Int32)) (cwV 2 hX.2.2.2.2.1 gX6_begins_X6_countersFrom rfl rfl rfl (by decide +kernel) ⟨Nat.le_of_ble_eq_true rfl, Nat.le_of_ble_eq_true rfl⟩) ([]) ([]) ((List.append_nil _).symm) ((List.append_nil _).symm).symm (wR_fst E a _ _) (ci := 6) (q0 := 0) rfl rfl rfl rfl rfl (Nat.le_of_ble_eq_true rfl) dX6_begins_66 ?_
  refine v_aload_n hX dX6_begins_69 rfl ?_
  refine v_get (C := RX6) (T := TX6) (N := 18) (ci := 6) (v := .ref (a 1)) hX in_X6 0 rfl rfl 0 (by decide) fl_7 rfl rfl dX6_begins_70 ?_
  refine v_sipush (x := (537 : Int32)) hX dX6_begins_73 (by decide) ?_
  refine v_iald (z := m6.2.2.2.1) hX 1 rfl (vp_in_nI (by omega : 537 < 544) (by omega)) (by show encS _ 537 = _; exact gS_full m6 (by omega)) dX6_begins_76 ?_
  refine v_icmp_lt (tgt := 94) hX dX6_begins_77 (by decide) (fun c7 => ?_) (fun c7 => ?_)
  · exact v_vret hX hr hsz dX6_begins_94 rfl rfl (by (subst hm6; subst hm5; subst hm4; subst hm3; subst hm2; subst hm1; first | (simp only [Q_begins, Q_put, Q_in1, Q_in2, Q_in3, c7, if_true, if_false, reduceIte, Bool.false_eq_true, reduceCtorEq, decide_true, decide_false, Bool.and_true, Bool.and_false, Bool.true_and, Bool.false_and, Bool.or_true, Bool.or_false, Bool.true_or, Bool.false_or, not_true_eq_false, not_false_eq_true, Bool.not_true, Bool.not_false, eq_self, Nat.reduceEqDiff]; done) | rfl | (simp only [Q_begins, Q_put, Q_in1, Q_in2, Q_in3, c7, if_true, if_false, reduceIte, Bool.false_eq_true, reduceCtorEq, decide_true, decide_false, Bool.and_true, Bool.and_false, Bool.true_and, Bool.false_and, Bool.or_true, Bool.or_false, Bool.true_or, Bool.false_or, not_true_eq_false, not_false_eq_true, Bool.not_true, Bool.not_false, eq_self, Nat.reduceEqDiff]; rfl) | contradiction | (exfalso; omega)))
  · refine v_aload_n hX dX6_begins_80 rfl ?_
    refine v_iload_n hX dX6_begins_81 rfl ?_
    refine v_iload_n hX dX6_begins_82 rfl ?_
    obtain ⟨m8, hm8⟩ : ∃ z_ : MV, z_ = ((Q_fg m6 o (some n)).1) := ⟨_, rfl⟩
    refine v_callVi (r := (Q_fg m6 o (some n)).2) (rest := []) (ws' := wR E a (R_setS v m8)) hX (fun sz => c_X6_forgets l E a sz (R_setS v m6) o (by first | omega | exact Nat.le_of_ble_eq_true rfl) (some n)) (cwV 2 hX.2.2.2.2.1 gX6_begins_X6_forgets rfl rfl rfl (by decide +kernel) ⟨Nat.le_of_ble_eq_true rfl, Nat.le_of_ble_eq_true rfl⟩) ([]) ([]) ((List.append_nil _).symm) (by rw [hm8]; exact List.append_nil _) (wR_fst E a _ _) (ci := 6) (q0 := 0) rfl rfl rfl rfl rfl (Nat.le_of_ble_eq_true rfl) dX6_begins_83 ?_
    refine v_istore (lv' := [.ref (a 0), .int (nI (o)), .int (nI (n).val), .int (x), .int (bI (b)), .int (nI (8 * o + ((n).val) % 8)), .int ((Q_fg m6 o (some n)).2)]) hX dX6_begins_86 (Nat.le_of_ble_eq_true rfl) (Nat.le_of_ble_eq_true rfl) rfl rfl ?_
    refine v_aload_n hX dX6_begins_88 rfl ?_
    refine v_iload_n hX dX6_begins_89 rfl ?_
    refine v_iload_n hX dX6_begins_90 rfl ?_
    obtain ⟨m9, hm9⟩ : ∃ z_ : MV, z_ = (Q_notes m8 o ((n).val)) := ⟨_, rfl⟩
    refine v_callVv (rest := []) (ws' := wR E a (R_setS v m9)) hX (fun sz => c_X6_notes l E a sz (R_setS v m8) o (by first | omega | exact Nat.le_of_ble_eq_true rfl) ((n).val) (by first | omega | exact Nat.le_of_ble_eq_true rfl)) (cwV 2 hX.2.2.2.2.1 gX6_begins_X6_notes rfl rfl rfl (by decide +kernel) ⟨Nat.le_of_ble_eq_true rfl, Nat.le_of_ble_eq_true rfl⟩) ([]) ([]) ((List.append_nil _).symm) (by rw [hm9]; exact List.append_nil _) (wR_fst E a _ _) (ci := 6) (q0 := 0) rfl rfl rfl rfl rfl (Nat.le_of_ble_eq_true rfl) dX6_begins_91 ?_
    exact v_vret hX hr hsz dX6_begins_94 rfl rfl (by (subst hm9; subst hm8; subst hm6; subst hm5; subst hm4; subst hm3; subst hm2; subst hm1; first | (simp only [Q_begins, Q_put, Q_in1, Q_in2, Q_in3, c7, if_true, if_false, reduceIte, Bool.false_eq_true, reduceCtorEq, decide_true, decide_false, Bool.and_true, Bool.and_false, Bool.true_and, Bool.false_and, Bool.or_true, Bool.or_false, Bool.true_or, Bool.false_or, not_true_eq_false, not_false_eq_true, Bool.not_true, Bool.not_false, eq_self, Nat.reduceEqDiff]; done) | rfl | (simp only [Q_begins, Q_put, Q_in1, Q_in2, Q_in3, c7, if_true, if_false, reduceIte, Bool.false_eq_true, reduceCtorEq, decide_true, decide_false, Bool.and_true, Bool.and_false, Bool.true_and, Bool.false_and, Bool.or_true, Bool.or_false, Bool.true_or, Bool.false_or, not_true_eq_false, not_false_eq_true, Bool.not_true, Bool.not_false, eq_self, Nat.reduceEqDiff]; rfl) | contradiction | (exfalso; omega)))
set_option maxHeartbeats 4000000 in
set_option maxRecDepth 100000 in
theorem c_X6_snoops (l : Launch) (E : ET) (a : Nat → Nat) (sz : Nat) (v : RV) (r : Nat) (hro : r < 4) (n : Fin 256) (b : Bool) : Met l yX6_snoops wsX6_snoops ({ frames := 5, cells := 0, slots := 0, locals := 116 }) (mPc E [.ref (a 0), .int (nI (r)), .int (nI (n).val), .int (bI (b))] sz (wR E a v)) (mQi E ((Q_snoops v.1 r n b).2) (wR E a v) (wR E a (R_setS v ((Q_snoops v.1 r n b).1))) sz) 0 0 (va_A (wR E a v) sz) := by
  refine v_start (cc := cX6_snoops) (maxL := 6) (ret := (some .int)) (by decide) rfl (Nat.le_of_ble_eq_true rfl) rfl ?_
  intro p e s m args below meth c hsz hr hX
  have hX : Xc p s m args meth c E 6 (va_A (wR E a v) sz) cX6_snoops RX6 wsX6_snoops := hX
  have hlt_n := n.isLt
  refine v_iconst (x := (0 : Int32)) hX dX6_snoops_0 (by decide) ?_
  refine v_istore (lv' := [.ref (a 0), .int (nI (r)), .int (nI (n).val), .int (bI (b)), .int ((0 : Int32))]) hX dX6_snoops_1 (Nat.le_of_ble_eq_true rfl) (Nat.le_of_ble_eq_true rfl) rfl rfl ?_
  refine v_iconst (x := (0 : Int32)) hX dX6_snoops_3 (by decide) ?_
  refine v_istore (lv' := [.ref (a 0), .int (nI (r)), .int (nI (n).val), .int (bI (b)), .int ((0 : Int32)), .int ((0 : Int32))]) hX dX6_snoops_4 (Nat.le_of_ble_eq_true rfl) (Nat.le_of_ble_eq_true rfl) rfl rfl ?_
  have loop_6 : ∀ (fu i : Nat), i + fu = 4 → V p l e ({ frames := 5, cells := 0, slots := 0, locals := 116 } : Room) s m args below meth c E 6 (va_A (wR E a v) sz) (MQ below (mQi E ((Q_snoops v.1 r n b).2) (wR E a v) (wR E a (R_setS v ((Q_snoops v.1 r n b).1))) sz) args s 0 0 (va_A (wR E a v) sz)) (wR E a (R_setS v ((it (Q_snF r n b) i (v.1, 0)).1))) [.ref (a 0), .int (nI (r)), .int (nI (n).val), .int (bI (b)), .int ((it (Q_snF r n b) i (v.1, 0)).2), .int (nI (i))] 6 [] := by
    intro fu
    induction fu with
    | zero =>
      intro i  hin 
      have hi0 : i = 4 := by omega
      subst hi0
      obtain ⟨m1, hm1⟩ : ∃ z_ : MV, z_ = ((it (Q_snF r n b) 4 (v.1, 0)).1) := ⟨_, rfl⟩
      rw [← hm1]
      refine v_iload hX dX6_snoops_6 rfl ?_
      refine v_iconst (x := (4 : Int32)) hX dX6_snoops_8 (by decide) ?_
      refine v_icmp_ge (tgt := 45) hX dX6_snoops_9 (by decide) (fun c2 => ?_) (fun c2 => ?_)
      · replace c2 := (nI_leI (a := 4) (b := 4) (by omega) (by omega)).mp c2
        refine v_iload hX dX6_snoops_45 rfl ?_
        exact v_iret hX hr hsz dX6_snoops_47 rfl rfl (by (subst hm1; first | (simp only [Q_snoops, c2, if_true, if_false, reduceIte, Bool.false_eq_true, reduceCtorEq, decide_true, decide_false, Bool.and_true, Bool.and_false, Bool.true_and, Bool.false_and, Bool.or_true, Bool.or_false, Bool.true_or, Bool.false_or, not_true_eq_false, not_false_eq_true, Bool.not_true, Bool.not_false, eq_self, Nat.reduceEqDiff]; done) | rfl | (simp only [Q_snoops, c2, if_true, if_false, reduceIte, Bool.false_eq_true, reduceCtorEq, decide_true, decide_false, Bool.and_true, Bool.and_false, Bool.true_and, Bool.false_and, Bool.or_true, Bool.or_false, Bool.true_or, Bool.false_or, not_true_eq_false, not_false_eq_true, Bool.not_true, Bool.not_false, eq_self, Nat.reduceEqDiff]; rfl) | contradiction | (exfalso; omega))) (by (subst hm1; first | (simp only [Q_snoops, c2, if_true, if_false, reduceIte, Bool.false_eq_true, reduceCtorEq, decide_true, decide_false, Bool.and_true, Bool.and_false, Bool.true_and, Bool.false_and, Bool.or_true, Bool.or_false, Bool.true_or, Bool.false_or, not_true_eq_false, not_false_eq_true, Bool.not_true, Bool.not_false, eq_self, Nat.reduceEqDiff]; done) | rfl | (simp only [Q_snoops, c2, if_true, if_false, reduceIte, Bool.false_eq_true, reduceCtorEq, decide_true, decide_false, Bool.and_true, Bool.and_false, Bool.true_and, Bool.false_and, Bool.or_true, Bool.or_false, Bool.true_or, Bool.false_or, not_true_eq_false, not_false_eq_true, Bool.not_true, Bool.not_false, eq_self, Nat.reduceEqDiff]; rfl) | contradiction | (exfalso; omega)))
      · replace c2 := (not_congr (nI_leI (a := 4) (b := 4) (by omega) (by omega))).mp c2
        exfalso; omega
    | succ fu ih =>
      intro i  hin 
      refine v_iload hX dX6_snoops_6 rfl ?_
      refine v_iconst (x := (4 : Int32)) hX dX6_snoops_8 (by decide) ?_
      refine v_icmp_ge (tgt := 45) hX dX6_snoops_9 (by decide) (fun c3 => ?_) (fun c3 => ?_)
      · replace c3 := (nI_leI (a := 4) (b := i) (by omega) (by omega)).mp c3
        exfalso; omega
      · replace c3 := (not_congr (nI_leI (a := 4) (b := i) (by omega) (by omega))).mp c3
        refine v_iload hX dX6_snoops_12 rfl ?_
        refine v_iload hX dX6_snoops_14 rfl ?_
        refine v_iload_n hX dX6_snoops_16 rfl ?_
        refine v_icmp_eq (tgt := 35) hX dX6_snoops_17 (by decide) (fun c4 => ?_) (fun c4 => ?_)
        · replace c4 := (nI_eq (a := i) (b := r) (by omega) (by omega)).mp c4
          have c4t := eq_true c4
          refine v_iconst (x := (0 : Int32)) hX dX6_snoops_35 (by decide) ?_
          refine v_iadd (z := ((it (Q_snF r n b) i (v.1, 0)).2 + (0 : Int32))) hX dX6_snoops_36 (rfl) ?_
          refine v_istore (lv' := [.ref (a 0), .int (nI (r)), .int (nI (n).val), .int (bI (b)), .int (((it (Q_snF r n b) i (v.1, 0)).2 + (0 : Int32))), .int (nI (i))]) hX dX6_snoops_37 (Nat.le_of_ble_eq_true rfl) (Nat.le_of_ble_eq_true rfl) rfl rfl ?_
          refine v_iinc (y := nI (i + 1)) (lv' := [.ref (a 0), .int (nI (r)), .int (nI (n).val), .int (bI (b)), .int (((it (Q_snF r n b) i (v.1, 0)).2 + (0 : Int32))), .int (nI (i + 1))]) hX dX6_snoops_39 rfl (nI_inc _) (Nat.le_of_ble_eq_true rfl) (Nat.le_of_ble_eq_true rfl) rfl rfl ?_
          refine v_goto (tgt := 6) hX dX6_snoops_42 (by decide) ?_
          have e5 : ((it (Q_snF r n b) i (v.1, 0)).2 + (0 : Int32)) = (it (Q_snF r n b) (i + 1) (v.1, 0)).2 := by first | (simp only [Q_snF, c3, c4t, it, if_true, if_false, reduceIte, Bool.false_eq_true, Bool.and_true, Bool.and_false, Bool.true_and, Bool.false_and, not_true_eq_false, not_false_eq_true, eq_self, ne_eq, reduceCtorEq, decide_true, decide_false, Bool.not_true, Bool.not_false]; done) | rfl | (simp only [Q_snF, c3, c4t, it, if_true, if_false, reduceIte, Bool.false_eq_true, Bool.and_true, Bool.and_false, Bool.true_and, Bool.false_and, not_true_eq_false, not_false_eq_true, eq_self, ne_eq, reduceCtorEq, decide_true, decide_false, Bool.not_true, Bool.not_false]; rfl) | contradiction
          rw [e5]
          have e6 : R_setS v ((it (Q_snF r n b) i (v.1, 0)).1) = R_setS v ((it (Q_snF r n b) (i + 1) (v.1, 0)).1) := by first | rfl | (simp only [Q_snF, c3, c4t, it, if_true, if_false, reduceIte, Bool.false_eq_true, Bool.and_true, Bool.and_false, Bool.true_and, Bool.false_and, not_true_eq_false, not_false_eq_true, eq_self, ne_eq, reduceCtorEq, decide_true, decide_false, Bool.not_true, Bool.not_false]; done) | (simp only [Q_snF, c3, c4t, it, if_true, if_false, reduceIte, Bool.false_eq_true, Bool.and_true, Bool.and_false, Bool.true_and, Bool.false_and, not_true_eq_false, not_false_eq_true, eq_self, ne_eq, reduceCtorEq, decide_true, decide_false, Bool.not_true, Bool.not_false]; rfl)
          rw [e6]
          exact ih (i + 1)  (by omega) 
        · replace c4 := (not_congr (nI_eq (a := i) (b := r) (by omega) (by omega))).mp c4
          refine v_aload_n hX dX6_snoops_20 rfl ?_
          refine v_iload hX dX6_snoops_21 rfl ?_
          refine v_iload_n hX dX6_snoops_23 rfl ?_
          refine v_iload_n hX dX6_snoops_24 rfl ?_
          obtain ⟨m7, hm7⟩ : ∃ z_ : MV, z_ = (Q_snoop ((it (Q_snF r n b) i (v.1, 0)).1) i n b) := ⟨_, rfl⟩
          refine v_callVi (r := bI (Q_may ((it (Q_snF r n b) i (v.1, 0)).1) i n.val)) (rest := [.int ((it (Q_snF r n b) i (v.1, 0)).2)]) (ws' := wR E a (R_setS v m7)) hX (fun sz => c_X6_isSnooped l E a sz (R_setS v ((it (Q_snF r n b) i (v.1, 0)).1)) i (by first | omega | exact Nat.le_of_ble_eq_true rfl) n b) (cwV 3 hX.2.2.2.2.1 gX6_snoops_X6_isSnooped rfl rfl rfl (by decide +kernel) ⟨Nat.le_of_ble_eq_true rfl, Nat.le_of_ble_eq_true rfl⟩) ([]) ([]) ((List.append_nil _).symm) (by rw [hm7]; exact List.append_nil _) (wR_fst E a _ _) (ci := 6) (q0 := 0) rfl rfl rfl rfl rfl (Nat.le_of_ble_eq_true rfl) dX6_snoops_25 ?_
          refine v_if_eq (tgt := 35) hX dX6_snoops_28 (by decide) (fun c8 => ?_) (fun c8 => ?_)
          · replace c8 := bI_0.mp c8
            refine v_iconst (x := (0 : Int32)) hX dX6_snoops_35 (by decide) ?_
            refine v_iadd (z := ((it (Q_snF r n b) i (v.1, 0)).2 + (0 : Int32))) hX dX6_snoops_36 (rfl) ?_
            refine v_istore (lv' := [.ref (a 0), .int (nI (r)), .int (nI (n).val), .int (bI (b)), .int (((it (Q_snF r n b) i (v.1, 0)).2 + (0 : Int32))), .int (nI (i))]) hX dX6_snoops_37 (Nat.le_of_ble_eq_true rfl) (Nat.le_of_ble_eq_true rfl) rfl rfl ?_
            refine v_iinc (y := nI (i + 1)) (lv' := [.ref (a 0), .int (nI (r)), .int (nI (n).val), .int (bI (b)), .int (((it (Q_snF r n b) i (v.1, 0)).2 + (0 : Int32))), .int (nI (i + 1))]) hX dX6_snoops_39 rfl (nI_inc _) (Nat.le_of_ble_eq_true rfl) (Nat.le_of_ble_eq_true rfl) rfl rfl ?_
            refine v_goto (tgt := 6) hX dX6_snoops_42 (by decide) ?_
            have e9 : ((it (Q_snF r n b) i (v.1, 0)).2 + (0 : Int32)) = (it (Q_snF r n b) (i + 1) (v.1, 0)).2 := by subst hm7; first | (simp only [Q_snF, c3, c4, c8, it, if_true, if_false, reduceIte, Bool.false_eq_true, Bool.and_true, Bool.and_false, Bool.true_and, Bool.false_and, not_true_eq_false, not_false_eq_true, eq_self, ne_eq, reduceCtorEq, decide_true, decide_false, Bool.not_true, Bool.not_false]; done) | rfl | (simp only [Q_snF, c3, c4, c8, it, if_true, if_false, reduceIte, Bool.false_eq_true, Bool.and_true, Bool.and_false, Bool.true_and, Bool.false_and, not_true_eq_false, not_false_eq_true, eq_self, ne_eq, reduceCtorEq, decide_true, decide_false, Bool.not_true, Bool.not_false]; rfl) | contradiction
            rw [e9]
            have e10 : R_setS v m7 = R_setS v ((it (Q_snF r n b) (i + 1) (v.1, 0)).1) := by subst hm7; first | rfl | (simp only [Q_snF, c3, c4, c8, it, if_true, if_false, reduceIte, Bool.false_eq_true, Bool.and_true, Bool.and_false, Bool.true_and, Bool.false_and, not_true_eq_false, not_false_eq_true, eq_self, ne_eq, reduceCtorEq, decide_true, decide_false, Bool.not_true, Bool.not_false]; done) | (simp only [Q_snF, c3, c4, c8, it, if_true, if_false, reduceIte, Bool.false_eq_true, Bool.and_true, Bool.and_false, Bool.true_and, Bool.false_and, not_true_eq_false, not_false_eq_true, eq_self, ne_eq, reduceCtorEq, decide_true, decide_false, Bool.not_true, Bool.not_false]; rfl)
            rw [e10]
            exact ih (i + 1)  (by omega) 
          · replace c8 := bI_n0.mp c8
            refine v_iconst (x := (1 : Int32)) hX dX6_snoops_31 (by decide) ?_
            refine v_goto (tgt := 36) hX dX6_snoops_32 (by decide) ?_
            refine v_iadd (z := ((it (Q_snF r n b) i (v.1, 0)).2 + (1 : Int32))) hX dX6_snoops_36 (rfl) ?_
            refine v_istore (lv' := [.ref (a 0), .int (nI (r)), .int (nI (n).val), .int (bI (b)), .int (((it (Q_snF r n b) i (v.1, 0)).2 + (1 : Int32))), .int (nI (i))]) hX dX6_snoops_37 (Nat.le_of_ble_eq_true rfl) (Nat.le_of_ble_eq_true rfl) rfl rfl ?_
            refine v_iinc (y := nI (i + 1)) (lv' := [.ref (a 0), .int (nI (r)), .int (nI (n).val), .int (bI (b)), .int (((it (Q_snF r n b) i (v.1, 0)).2 + (1 : Int32))), .int (nI (i + 1))]) hX dX6_snoops_39 rfl (nI_inc _) (Nat.le_of_ble_eq_true rfl) (Nat.le_of_ble_eq_true rfl) rfl rfl ?_
            refine v_goto (tgt := 6) hX dX6_snoops_42 (by decide) ?_
            have e11 : ((it (Q_snF r n b) i (v.1, 0)).2 + (1 : Int32)) = (it (Q_snF r n b) (i + 1) (v.1, 0)).2 := by subst hm7; first | (simp only [Q_snF, c3, c4, c8, it, if_true, if_false, reduceIte, Bool.false_eq_true, Bool.and_true, Bool.and_false, Bool.true_and, Bool.false_and, not_true_eq_false, not_false_eq_true, eq_self, ne_eq, reduceCtorEq, decide_true, decide_false, Bool.not_true, Bool.not_false]; done) | rfl | (simp only [Q_snF, c3, c4, c8, it, if_true, if_false, reduceIte, Bool.false_eq_true, Bool.and_true, Bool.and_false, Bool.true_and, Bool.false_and, not_true_eq_false, not_false_eq_true, eq_self, ne_eq, reduceCtorEq, decide_true, decide_false, Bool.not_true, Bool.not_false]; rfl) | contradiction
            rw [e11]
            have e12 : R_setS v m7 = R_setS v ((it (Q_snF r n b) (i + 1) (v.1, 0)).1) := by subst hm7; first | rfl | (simp only [Q_snF, c3, c4, c8, it, if_true, if_false, reduceIte, Bool.false_eq_true, Bool.and_true, Bool.and_false, Bool.true_and, Bool.false_and, not_true_eq_false, not_false_eq_true, eq_self, ne_eq, reduceCtorEq, decide_true, decide_false, Bool.not_true, Bool.not_false]; done) | (simp only [Q_snF, c3, c4, c8, it, if_true, if_false, reduceIte, Bool.false_eq_true, Bool.and_true, Bool.and_false, Bool.true_and, Bool.false_and, not_true_eq_false, not_false_eq_true, eq_self, ne_eq, reduceCtorEq, decide_true, decide_false, Bool.not_true, Bool.not_false]; rfl)
            rw [e12]
            exact ih (i + 1)  (by omega) 
  exact loop_6 4 0  (by omega) 
set_option maxHeartbeats 4000000 in
set_option maxRecDepth 100000 in
theorem c_X6_reads (l : Launch) (E : ET) (a : Nat → Nat) (sz : Nat) (v : RV) (r : Nat) (hro : r < 4) (n : Fin 256) : Met l yX6_reads wsX6_reads ({ frames := 6, cells := 0, slots := 0, locals := 144 }) (mPc E [.ref (a 0), .int (nI (r)), .int (nI (n).val)] sz (wR E a v)) (mQi E ((Q_reads v.1 r n).2) (wR E a v) (wR E a (R_setS v ((Q_reads v.1 r n).1))) sz) 0 0 (va_A (wR E a v) sz) := by
  refine v_start (cc := cX6_reads) (maxL := 4) (ret := (some .int)) (by decide) rfl (Nat.le_of_ble_eq_true rfl) rfl ?_
  intro p e s m args below meth c hsz hr hX
  have hX : Xc p s m args meth c E 4 (va_A (wR E a v) sz) cX6_reads RX6 wsX6_reads := hX
  have in_X6 : ∀ w ∈ u_ws RX6 TX6 18, w ∈ wsX6_reads := by decide +kernel
  have fl_7 : Cond.fieldLink RX6 7 RX6 "s" "[I" ∈ wsX6_reads := by decide +kernel
  have hlt_n := n.isLt
  refine v_aload_n hX dX6_reads_0 rfl ?_
  refine v_iload_n hX dX6_reads_1 rfl ?_
  refine v_iload_n hX dX6_reads_2 rfl ?_
  refine v_callVi (r := bI (Q_holds v.1 r n)) (rest := []) (ws' := wR E a v) hX (fun sz => c_X6_holds l E a sz v r (by first | omega | exact Nat.le_of_ble_eq_true rfl) n) (cwV 2 hX.2.2.2.2.1 gX6_reads_X6_holds rfl rfl rfl (by decide +kernel) ⟨Nat.le_of_ble_eq_true rfl, Nat.le_of_ble_eq_true rfl⟩) ([]) ([]) ((List.append_nil _).symm) ((List.append_nil _).symm).symm (wR_fst E a _ _) (ci := 6) (q0 := 0) rfl rfl rfl rfl rfl (Nat.le_of_ble_eq_true rfl) dX6_reads_3 ?_
  refine v_if_eq (tgt := 38) hX dX6_reads_6 (by decide) (fun c1 => ?_) (fun c1 => ?_)
  · replace c1 := bI_0.mp c1
    refine v_aload_n hX dX6_reads_38 rfl ?_
    refine v_get (C := RX6) (T := TX6) (N := 18) (ci := 6) (v := .ref (a 1)) hX in_X6 0 rfl rfl 0 (by decide) fl_7 rfl rfl dX6_reads_39 ?_
    refine v_iload_n hX dX6_reads_42 rfl ?_
    refine v_iconst (x := (1 : Int32)) hX dX6_reads_43 (by decide) ?_
    refine v_callSi (r := nI (512 + (6 * r) + 1)) (rest := [.ref (a 1)]) (ws' := wR E a v) hX (fun sz => c_X6_told l E sz r (by first | omega | exact Nat.le_of_ble_eq_true rfl) 1 (by first | omega | exact Nat.le_of_ble_eq_true rfl)) (va_cwS 2 hX.2.2.2.2.1 gX6_reads_X6_told rfl rfl rfl (by decide +kernel) ⟨Nat.le_of_ble_eq_true rfl, Nat.le_of_ble_eq_true rfl⟩) ([]) (wR E a v) (rfl) rfl (rfl) rfl rfl (Nat.le_of_ble_eq_true rfl) dX6_reads_44 ?_
    refine v_dup2 hX dX6_reads_47 rfl rfl ?_
    refine v_iald (z := (v.1.2.1 r).2.2.2.1 (1)) hX 1 rfl (vp_in_nI (by omega : 512 + (6 * r) + 1 < 544) (by omega)) (by simp only [nI_clamp (show 512 + (6 * r) + 1 < 2 ^ 31 by omega)]; exact gS_tal v.1 (o := r) (q := 1) (by omega) (by omega) (by omega)) dX6_reads_48 ?_
    refine v_iconst (x := (1 : Int32)) hX dX6_reads_49 (by decide) ?_
    refine v_iadd (z := ((v.1.2.1 r).2.2.2.1 (1) + (1 : Int32))) hX dX6_reads_50 (rfl) ?_
    obtain ⟨m2, hm2⟩ : ∃ z_ : MV, z_ = M_setK v.1 r (K_setT (v.1.2.1 r) (1) (((v.1.2.1 r).2.2.2.1 (1) + (1 : Int32)))) := ⟨_, rfl⟩
    refine v_iast (ws' := wR E a (R_setS v m2)) hX 1 rfl (vp_in_nI (by omega : 512 + (6 * r) + 1 < 544) (by omega)) (by rw [hm2]; exact sR_s E a v (k := 512 + (6 * r) + 1) (by omega) (pS_tal v.1 (o := r) (q := 1) (((v.1.2.1 r).2.2.2.1 (1) + (1 : Int32))) (by omega) (by omega) (by omega))) dX6_reads_51 ?_
    refine v_aload_n hX dX6_reads_52 rfl ?_
    refine v_iload_n hX dX6_reads_53 rfl ?_
    refine v_iload_n hX dX6_reads_54 rfl ?_
    refine v_iconst (x := (0 : Int32)) hX dX6_reads_55 (by decide) ?_
    obtain ⟨m3, hm3⟩ : ∃ z_ : MV, z_ = ((Q_snoops m2 r n false).1) := ⟨_, rfl⟩
    refine v_callVi (r := (Q_snoops m2 r n false).2) (rest := []) (ws' := wR E a (R_setS v m3)) hX (fun sz => c_X6_snoops l E a sz (R_setS v m2) r (by first | omega | exact Nat.le_of_ble_eq_true rfl) n false) (cwV 3 hX.2.2.2.2.1 gX6_reads_X6_snoops rfl rfl rfl (by decide +kernel) ⟨Nat.le_of_ble_eq_true rfl, Nat.le_of_ble_eq_true rfl⟩) ([]) ([]) ((List.append_nil _).symm) (by rw [hm3]; exact List.append_nil _) (wR_fst E a _ _) (ci := 6) (q0 := 0) rfl rfl rfl rfl rfl (Nat.le_of_ble_eq_true rfl) dX6_reads_56 ?_
    refine v_istore_n (lv' := [.ref (a 0), .int (nI (r)), .int (nI (n).val), .int ((Q_snoops m2 r n false).2)]) hX dX6_reads_59 (Nat.le_of_ble_eq_true rfl) (Nat.le_of_ble_eq_true rfl) rfl rfl ?_
    refine v_aload_n hX dX6_reads_60 rfl ?_
    refine v_iload_n hX dX6_reads_61 rfl ?_
    refine v_iload_n hX dX6_reads_62 rfl ?_
    refine v_aload_n hX dX6_reads_63 rfl ?_
    refine v_get (C := RX6) (T := TX6) (N := 18) (ci := 6) (v := .ref (a 1)) hX in_X6 0 rfl rfl 0 (by decide) fl_7 rfl rfl dX6_reads_64 ?_
    refine v_iconst (x := (0 : Int32)) hX dX6_reads_67 (by decide) ?_
    refine v_iload_n hX dX6_reads_68 rfl ?_
    refine v_iadd (z := nI (0 + ((n).val))) hX dX6_reads_69 (nI_add 0 ((n).val)) ?_
    refine v_iald (z := m3.1 ((n).val)) hX 1 rfl (vp_in_nI (by omega : 0 + ((n).val) < 544) (by omega)) (by simp only [nI_clamp (show 0 + ((n).val) < 2 ^ 31 by omega)]; exact gS_mem m3 (n := (n).val) (by omega) (by omega)) dX6_reads_70 ?_
    refine v_iconst (x := (0 : Int32)) hX dX6_reads_71 (by decide) ?_
    obtain ⟨m4, hm4⟩ : ∃ z_ : MV, z_ = (Q_begins m3 r n (m3.1 ((n).val)) false) := ⟨_, rfl⟩
    refine v_callVv (rest := []) (ws' := wR E a (R_setS v m4)) hX (fun sz => c_X6_begins l E a sz (R_setS v m3) r (by first | omega | exact Nat.le_of_ble_eq_true rfl) n (m3.1 ((n).val)) false) (cwV 4 hX.2.2.2.2.1 gX6_reads_X6_begins rfl rfl rfl (by decide +kernel) ⟨Nat.le_of_ble_eq_true rfl, Nat.le_of_ble_eq_true rfl⟩) ([]) ([]) ((List.append_nil _).symm) (by rw [hm4]; exact List.append_nil _) (wR_fst E a _ _) (ci := 6) (q0 := 0) rfl rfl rfl rfl rfl (Nat.le_of_ble_eq_true rfl) dX6_reads_72 ?_
    refine v_aload_n hX dX6_reads_75 rfl ?_
    refine v_get (C := RX6) (T := TX6) (N := 18) (ci := 6) (v := .ref (a 1)) hX in_X6 0 rfl rfl 0 (by decide) fl_7 rfl rfl dX6_reads_76 ?_
    refine v_sipush (x := (288 : Int32)) hX dX6_reads_79 (by decide) ?_
    refine v_iload_n hX dX6_reads_82 rfl ?_
    refine v_iload_n hX dX6_reads_83 rfl ?_
    refine v_callSi (r := nI (8 * r + ((n).val) % 8)) (rest := [.int ((288 : Int32)), .ref (a 1)]) (ws' := wR E a (R_setS v m4)) hX (fun sz => c_X6_placeOf l E sz r (by first | omega | exact Nat.le_of_ble_eq_true rfl) ((n).val) (by first | omega | exact Nat.le_of_ble_eq_true rfl)) (va_cwS 2 hX.2.2.2.2.1 gX6_reads_X6_placeOf rfl rfl rfl (by decide +kernel) ⟨Nat.le_of_ble_eq_true rfl, Nat.le_of_ble_eq_true rfl⟩) ([]) (wR E a (R_setS v m4)) (rfl) rfl (rfl) rfl rfl (Nat.le_of_ble_eq_true rfl) dX6_reads_84 ?_
    refine v_iadd (z := nI (288 + (8 * r + ((n).val) % 8))) hX dX6_reads_87 (nI_add 288 (8 * r + ((n).val) % 8)) ?_
    refine v_iald (z := (m4.2.1 r).2.1 (((n).val) % 8)) hX 1 rfl (vp_in_nI (by omega : 288 + (8 * r + ((n).val) % 8) < 544) (by omega)) (by simp only [nI_clamp (show 288 + (8 * r + ((n).val) % 8) < 2 ^ 31 by omega)]; exact gS_val m4 (o := r) (q := ((n).val) % 8) (by omega) (by omega) (by omega)) dX6_reads_88 ?_
    exact v_iret hX hr hsz dX6_reads_89 rfl rfl (by (subst hm4; subst hm3; subst hm2; first | (simp only [Q_reads, Q_miss, Q_tick, c1, if_true, if_false, reduceIte, Bool.false_eq_true, reduceCtorEq, decide_true, decide_false, Bool.and_true, Bool.and_false, Bool.true_and, Bool.false_and, Bool.or_true, Bool.or_false, Bool.true_or, Bool.false_or, not_true_eq_false, not_false_eq_true, Bool.not_true, Bool.not_false, eq_self, Nat.reduceEqDiff]; done) | rfl | (simp only [Q_reads, Q_miss, Q_tick, c1, if_true, if_false, reduceIte, Bool.false_eq_true, reduceCtorEq, decide_true, decide_false, Bool.and_true, Bool.and_false, Bool.true_and, Bool.false_and, Bool.or_true, Bool.or_false, Bool.true_or, Bool.false_or, not_true_eq_false, not_false_eq_true, Bool.not_true, Bool.not_false, eq_self, Nat.reduceEqDiff]; rfl) | contradiction | (exfalso; omega))) (by (subst hm4; subst hm3; subst hm2; first | (simp only [Q_reads, Q_miss, Q_tick, c1, if_true, if_false, reduceIte, Bool.false_eq_true, reduceCtorEq, decide_true, decide_false, Bool.and_true, Bool.and_false, Bool.true_and, Bool.false_and, Bool.or_true, Bool.or_false, Bool.true_or, Bool.false_or, not_true_eq_false, not_false_eq_true, Bool.not_true, Bool.not_false, eq_self, Nat.reduceEqDiff]; done) | rfl | (simp only [Q_reads, Q_miss, Q_tick, c1, if_true, if_false, reduceIte, Bool.false_eq_true, reduceCtorEq, decide_true, decide_false, Bool.and_true, Bool.and_false, Bool.true_and, Bool.false_and, Bool.or_true, Bool.or_false, Bool.true_or, Bool.false_or, not_true_eq_false, not_false_eq_true, Bool.not_true, Bool.not_false, eq_self, Nat.reduceEqDiff]; rfl) | contradiction | (exfalso; omega)))
  · replace c1 := bI_n0.mp c1
    refine v_aload_n hX dX6_reads_9 rfl ?_
    refine v_get (C := RX6) (T := TX6) (N := 18) (ci := 6) (v := .ref (a 1)) hX in_X6 0 rfl rfl 0 (by decide) fl_7 rfl rfl dX6_reads_10 ?_
    refine v_iload_n hX dX6_reads_13 rfl ?_
    refine v_iconst (x := (0 : Int32)) hX dX6_reads_14 (by decide) ?_
    refine v_callSi (r := nI (512 + (6 * r) + 0)) (rest := [.ref (a 1)]) (ws' := wR E a v) hX (fun sz => c_X6_told l E sz r (by first | omega | exact Nat.le_of_ble_eq_true rfl) 0 (by first | omega | exact Nat.le_of_ble_eq_true rfl)) (va_cwS 2 hX.2.2.2.2.1 gX6_reads_X6_told rfl rfl rfl (by decide +kernel) ⟨Nat.le_of_ble_eq_true rfl, Nat.le_of_ble_eq_true rfl⟩) ([]) (wR E a v) (rfl) rfl (rfl) rfl rfl (Nat.le_of_ble_eq_true rfl) dX6_reads_15 ?_
    refine v_dup2 hX dX6_reads_18 rfl rfl ?_
    refine v_iald (z := (v.1.2.1 r).2.2.2.1 (0)) hX 1 rfl (vp_in_nI (by omega : 512 + (6 * r) + 0 < 544) (by omega)) (by simp only [nI_clamp (show 512 + (6 * r) + 0 < 2 ^ 31 by omega)]; exact gS_tal v.1 (o := r) (q := 0) (by omega) (by omega) (by omega)) dX6_reads_19 ?_
    refine v_iconst (x := (1 : Int32)) hX dX6_reads_20 (by decide) ?_
    refine v_iadd (z := ((v.1.2.1 r).2.2.2.1 (0) + (1 : Int32))) hX dX6_reads_21 (rfl) ?_
    obtain ⟨m5, hm5⟩ : ∃ z_ : MV, z_ = M_setK v.1 r (K_setT (v.1.2.1 r) (0) (((v.1.2.1 r).2.2.2.1 (0) + (1 : Int32)))) := ⟨_, rfl⟩
    refine v_iast (ws' := wR E a (R_setS v m5)) hX 1 rfl (vp_in_nI (by omega : 512 + (6 * r) + 0 < 544) (by omega)) (by rw [hm5]; exact sR_s E a v (k := 512 + (6 * r) + 0) (by omega) (pS_tal v.1 (o := r) (q := 0) (((v.1.2.1 r).2.2.2.1 (0) + (1 : Int32))) (by omega) (by omega) (by omega))) dX6_reads_22 ?_
    refine v_aload_n hX dX6_reads_23 rfl ?_
    refine v_get (C := RX6) (T := TX6) (N := 18) (ci := 6) (v := .ref (a 1)) hX in_X6 0 rfl rfl 0 (by decide) fl_7 rfl rfl dX6_reads_24 ?_
    refine v_sipush (x := (288 : Int32)) hX dX6_reads_27 (by decide) ?_
    refine v_iload_n hX dX6_reads_30 rfl ?_
    refine v_iload_n hX dX6_reads_31 rfl ?_
    refine v_callSi (r := nI (8 * r + ((n).val) % 8)) (rest := [.int ((288 : Int32)), .ref (a 1)]) (ws' := wR E a (R_setS v m5)) hX (fun sz => c_X6_placeOf l E sz r (by first | omega | exact Nat.le_of_ble_eq_true rfl) ((n).val) (by first | omega | exact Nat.le_of_ble_eq_true rfl)) (va_cwS 2 hX.2.2.2.2.1 gX6_reads_X6_placeOf rfl rfl rfl (by decide +kernel) ⟨Nat.le_of_ble_eq_true rfl, Nat.le_of_ble_eq_true rfl⟩) ([]) (wR E a (R_setS v m5)) (rfl) rfl (rfl) rfl rfl (Nat.le_of_ble_eq_true rfl) dX6_reads_32 ?_
    refine v_iadd (z := nI (288 + (8 * r + ((n).val) % 8))) hX dX6_reads_35 (nI_add 288 (8 * r + ((n).val) % 8)) ?_
    refine v_iald (z := (m5.2.1 r).2.1 (((n).val) % 8)) hX 1 rfl (vp_in_nI (by omega : 288 + (8 * r + ((n).val) % 8) < 544) (by omega)) (by simp only [nI_clamp (show 288 + (8 * r + ((n).val) % 8) < 2 ^ 31 by omega)]; exact gS_val m5 (o := r) (q := ((n).val) % 8) (by omega) (by omega) (by omega)) dX6_reads_36 ?_
    exact v_iret hX hr hsz dX6_reads_37 rfl rfl (by (subst hm5; first | (simp only [Q_reads, Q_miss, Q_tick, c1, if_true, if_false, reduceIte, Bool.false_eq_true, reduceCtorEq, decide_true, decide_false, Bool.and_true, Bool.and_false, Bool.true_and, Bool.false_and, Bool.or_true, Bool.or_false, Bool.true_or, Bool.false_or, not_true_eq_false, not_false_eq_true, Bool.not_true, Bool.not_false, eq_self, Nat.reduceEqDiff]; done) | rfl | (simp only [Q_reads, Q_miss, Q_tick, c1, if_true, if_false, reduceIte, Bool.false_eq_true, reduceCtorEq, decide_true, decide_false, Bool.and_true, Bool.and_false, Bool.true_and, Bool.false_and, Bool.or_true, Bool.or_false, Bool.true_or, Bool.false_or, not_true_eq_false, not_false_eq_true, Bool.not_true, Bool.not_false, eq_self, Nat.reduceEqDiff]; rfl) | contradiction | (exfalso; omega))) (by (subst hm5; first | (simp only [Q_reads, Q_miss, Q_tick, c1, if_true, if_false, reduceIte, Bool.false_eq_true, reduceCtorEq, decide_true, decide_false, Bool.and_true, Bool.and_false, Bool.true_and, Bool.false_and, Bool.or_true, Bool.or_false, Bool.true_or, Bool.false_or, not_true_eq_false, not_false_eq_true, Bool.not_true, Bool.not_false, eq_self, Nat.reduceEqDiff]; done) | rfl | (simp only [Q_reads, Q_miss, Q_tick, c1, if_true, if_false, reduceIte, Bool.false_eq_true, reduceCtorEq, decide_true, decide_false, Bool.and_true, Bool.and_false, Bool.true_and, Bool.false_and, Bool.or_true, Bool.or_false, Bool.true_or, Bool.false_or, not_true_eq_false, not_false_eq_true, Bool.not_true, Bool.not_false, eq_self, Nat.reduceEqDiff]; rfl) | contradiction | (exfalso; omega)))
set_option maxHeartbeats 4000000 in
set_option maxRecDepth 100000 in
theorem c_X6_writes (l : Launch) (E : ET) (a : Nat → Nat) (sz : Nat) (v : RV) (r : Nat) (hro : r < 4) (n : Fin 256) (x : Int32) : Met l yX6_writes wsX6_writes ({ frames := 6, cells := 0, slots := 0, locals := 144 }) (mPc E [.ref (a 0), .int (nI (r)), .int (nI (n).val), .int (x)] sz (wR E a v)) (mQi E ((Q_writes v.1 r n x).2) (wR E a v) (wR E a (R_setS v ((Q_writes v.1 r n x).1))) sz) 0 0 (va_A (wR E a v) sz) := by
  refine v_start (cc := cX6_writes) (maxL := 6) (ret := (some .int)) (by decide) rfl (Nat.le_of_ble_eq_true rfl) rfl ?_
  intro p e s m args below meth c hsz hr hX
  have hX : Xc p s m args meth c E 6 (va_A (wR E a v) sz) cX6_writes RX6 wsX6_writes := hX
  have in_X6 : ∀ w ∈ u_ws RX6 TX6 18, w ∈ wsX6_writes := by decide +kernel
  have fl_7 : Cond.fieldLink RX6 7 RX6 "s" "[I" ∈ wsX6_writes := by decide +kernel
  have hlt_n := n.isLt
  refine v_iload_n hX dX6_writes_0 rfl ?_
  refine v_iload_n hX dX6_writes_1 rfl ?_
  refine v_callSi (r := nI (8 * r + ((n).val) % 8)) (rest := []) (ws' := wR E a v) hX (fun sz => c_X6_placeOf l E sz r (by first | omega | exact Nat.le_of_ble_eq_true rfl) ((n).val) (by first | omega | exact Nat.le_of_ble_eq_true rfl)) (va_cwS 2 hX.2.2.2.2.1 gX6_writes_X6_placeOf rfl rfl rfl (by decide +kernel) ⟨Nat.le_of_ble_eq_true rfl, Nat.le_of_ble_eq_true rfl⟩) ([]) (wR E a v) (rfl) rfl (rfl) rfl rfl (Nat.le_of_ble_eq_true rfl) dX6_writes_2 ?_
  refine v_istore (lv' := [.ref (a 0), .int (nI (r)), .int (nI (n).val), .int (x), .int (nI (8 * r + ((n).val) % 8))]) hX dX6_writes_5 (Nat.le_of_ble_eq_true rfl) (Nat.le_of_ble_eq_true rfl) rfl rfl ?_
  refine v_aload_n hX dX6_writes_7 rfl ?_
  refine v_get (C := RX6) (T := TX6) (N := 18) (ci := 6) (v := .ref (a 1)) hX in_X6 0 rfl rfl 0 (by decide) fl_7 rfl rfl dX6_writes_8 ?_
  refine v_sipush (x := (539 : Int32)) hX dX6_writes_11 (by decide) ?_
  refine v_dup2 hX dX6_writes_14 rfl rfl ?_
  refine v_iald (z := v.1.2.2.2.2.2) hX 1 rfl (vp_in_nI (by omega : 539 < 544) (by omega)) (by show encS _ 539 = _; exact gS_wr v.1 (by omega)) dX6_writes_15 ?_
  refine v_iconst (x := (1 : Int32)) hX dX6_writes_16 (by decide) ?_
  refine v_iadd (z := (v.1.2.2.2.2.2 + (1 : Int32))) hX dX6_writes_17 (rfl) ?_
  obtain ⟨m1, hm1⟩ : ∃ z_ : MV, z_ = M_setWr v.1 ((v.1.2.2.2.2.2 + (1 : Int32))) := ⟨_, rfl⟩
  refine v_iast (ws' := wR E a (R_setS v m1)) hX 1 rfl (vp_in_nI (by omega : 539 < 544) (by omega)) (by rw [hm1]; exact sR_s E a v (k := 539) (by omega) (pS_wr v.1 _ (by omega))) dX6_writes_18 ?_
  refine v_aload_n hX dX6_writes_19 rfl ?_
  refine v_iload_n hX dX6_writes_20 rfl ?_
  refine v_iload_n hX dX6_writes_21 rfl ?_
  refine v_callVi (r := bI (Q_holds m1 r n)) (rest := []) (ws' := wR E a (R_setS v m1)) hX (fun sz => c_X6_holds l E a sz (R_setS v m1) r (by first | omega | exact Nat.le_of_ble_eq_true rfl) n) (cwV 2 hX.2.2.2.2.1 gX6_writes_X6_holds rfl rfl rfl (by decide +kernel) ⟨Nat.le_of_ble_eq_true rfl, Nat.le_of_ble_eq_true rfl⟩) ([]) ([]) ((List.append_nil _).symm) ((List.append_nil _).symm).symm (wR_fst E a _ _) (ci := 6) (q0 := 0) rfl rfl rfl rfl rfl (Nat.le_of_ble_eq_true rfl) dX6_writes_22 ?_
  refine v_if_eq (tgt := 57) hX dX6_writes_25 (by decide) (fun c2 => ?_) (fun c2 => ?_)
  · replace c2 := bI_0.mp c2
    refine v_aload_n hX dX6_writes_57 rfl ?_
    refine v_iload_n hX dX6_writes_58 rfl ?_
    refine v_iload_n hX dX6_writes_59 rfl ?_
    refine v_iconst (x := (1 : Int32)) hX dX6_writes_60 (by decide) ?_
    obtain ⟨m3, hm3⟩ : ∃ z_ : MV, z_ = ((Q_snoops m1 r n true).1) := ⟨_, rfl⟩
    refine v_callVi (r := (Q_snoops m1 r n true).2) (rest := []) (ws' := wR E a (R_setS v m3)) hX (fun sz => c_X6_snoops l E a sz (R_setS v m1) r (by first | omega | exact Nat.le_of_ble_eq_true rfl) n true) (cwV 3 hX.2.2.2.2.1 gX6_writes_X6_snoops rfl rfl rfl (by decide +kernel) ⟨Nat.le_of_ble_eq_true rfl, Nat.le_of_ble_eq_true rfl⟩) ([]) ([]) ((List.append_nil _).symm) (by rw [hm3]; exact List.append_nil _) (wR_fst E a _ _) (ci := 6) (q0 := 0) rfl rfl rfl rfl rfl (Nat.le_of_ble_eq_true rfl) dX6_writes_61 ?_
    refine v_istore (lv' := [.ref (a 0), .int (nI (r)), .int (nI (n).val), .int (x), .int (nI (8 * r + ((n).val) % 8)), .int ((Q_snoops m1 r n true).2)]) hX dX6_writes_64 (Nat.le_of_ble_eq_true rfl) (Nat.le_of_ble_eq_true rfl) rfl rfl ?_
    refine v_aload_n hX dX6_writes_66 rfl ?_
    refine v_iload_n hX dX6_writes_67 rfl ?_
    refine v_iload_n hX dX6_writes_68 rfl ?_
    refine v_callVi (r := bI (Q_holds m3 r n)) (rest := []) (ws' := wR E a (R_setS v m3)) hX (fun sz => c_X6_holds l E a sz (R_setS v m3) r (by first | omega | exact Nat.le_of_ble_eq_true rfl) n) (cwV 2 hX.2.2.2.2.1 gX6_writes_X6_holds rfl rfl rfl (by decide +kernel) ⟨Nat.le_of_ble_eq_true rfl, Nat.le_of_ble_eq_true rfl⟩) ([]) ([]) ((List.append_nil _).symm) ((List.append_nil _).symm).symm (wR_fst E a _ _) (ci := 6) (q0 := 0) rfl rfl rfl rfl rfl (Nat.le_of_ble_eq_true rfl) dX6_writes_69 ?_
    refine v_if_eq (tgt := 102) hX dX6_writes_72 (by decide) (fun c4 => ?_) (fun c4 => ?_)
    · replace c4 := bI_0.mp c4
      refine v_aload_n hX dX6_writes_102 rfl ?_
      refine v_iload_n hX dX6_writes_103 rfl ?_
      refine v_iload_n hX dX6_writes_104 rfl ?_
      refine v_iload_n hX dX6_writes_105 rfl ?_
      refine v_iconst (x := (1 : Int32)) hX dX6_writes_106 (by decide) ?_
      obtain ⟨m5, hm5⟩ : ∃ z_ : MV, z_ = (Q_begins m3 r n x true) := ⟨_, rfl⟩
      refine v_callVv (rest := []) (ws' := wR E a (R_setS v m5)) hX (fun sz => c_X6_begins l E a sz (R_setS v m3) r (by first | omega | exact Nat.le_of_ble_eq_true rfl) n x true) (cwV 4 hX.2.2.2.2.1 gX6_writes_X6_begins rfl rfl rfl (by decide +kernel) ⟨Nat.le_of_ble_eq_true rfl, Nat.le_of_ble_eq_true rfl⟩) ([]) ([]) ((List.append_nil _).symm) (by rw [hm5]; exact List.append_nil _) (wR_fst E a _ _) (ci := 6) (q0 := 0) rfl rfl rfl rfl rfl (Nat.le_of_ble_eq_true rfl) dX6_writes_107 ?_
      refine v_iload hX dX6_writes_110 rfl ?_
      exact v_iret hX hr hsz dX6_writes_112 rfl rfl (by (subst hm5; subst hm3; subst hm1; first | (simp only [Q_writes, Q_wr, Q_wr2, Q_in2, Q_in3, c2, c4, if_true, if_false, reduceIte, Bool.false_eq_true, reduceCtorEq, decide_true, decide_false, Bool.and_true, Bool.and_false, Bool.true_and, Bool.false_and, Bool.or_true, Bool.or_false, Bool.true_or, Bool.false_or, not_true_eq_false, not_false_eq_true, Bool.not_true, Bool.not_false, eq_self, Nat.reduceEqDiff]; done) | rfl | (simp only [Q_writes, Q_wr, Q_wr2, Q_in2, Q_in3, c2, c4, if_true, if_false, reduceIte, Bool.false_eq_true, reduceCtorEq, decide_true, decide_false, Bool.and_true, Bool.and_false, Bool.true_and, Bool.false_and, Bool.or_true, Bool.or_false, Bool.true_or, Bool.false_or, not_true_eq_false, not_false_eq_true, Bool.not_true, Bool.not_false, eq_self, Nat.reduceEqDiff]; rfl) | contradiction | (exfalso; omega))) (by (subst hm5; subst hm3; subst hm1; first | (simp only [Q_writes, Q_wr, Q_wr2, Q_in2, Q_in3, c2, c4, if_true, if_false, reduceIte, Bool.false_eq_true, reduceCtorEq, decide_true, decide_false, Bool.and_true, Bool.and_false, Bool.true_and, Bool.false_and, Bool.or_true, Bool.or_false, Bool.true_or, Bool.false_or, not_true_eq_false, not_false_eq_true, Bool.not_true, Bool.not_false, eq_self, Nat.reduceEqDiff]; done) | rfl | (simp only [Q_writes, Q_wr, Q_wr2, Q_in2, Q_in3, c2, c4, if_true, if_false, reduceIte, Bool.false_eq_true, reduceCtorEq, decide_true, decide_false, Bool.and_true, Bool.and_false, Bool.true_and, Bool.false_and, Bool.or_true, Bool.or_false, Bool.true_or, Bool.false_or, not_true_eq_false, not_false_eq_true, Bool.not_true, Bool.not_false, eq_self, Nat.reduceEqDiff]; rfl) | contradiction | (exfalso; omega)))
    · replace c4 := bI_n0.mp c4
      refine v_aload_n hX dX6_writes_75 rfl ?_
      refine v_get (C := RX6) (T := TX6) (N := 18) (ci := 6) (v := .ref (a 1)) hX in_X6 0 rfl rfl 0 (by decide) fl_7 rfl rfl dX6_writes_76 ?_
      refine v_sipush (x := (288 : Int32)) hX dX6_writes_79 (by decide) ?_
      refine v_iload hX dX6_writes_82 rfl ?_
      refine v_iadd (z := nI (288 + (8 * r + ((n).val) % 8))) hX dX6_writes_84 (nI_add 288 (8 * r + ((n).val) % 8)) ?_
      refine v_iload_n hX dX6_writes_85 rfl ?_
      obtain ⟨m6, hm6⟩ : ∃ z_ : MV, z_ = M_setK m3 r (K_setV (m3.2.1 r) (((n).val) % 8) (x)) := ⟨_, rfl⟩
      refine v_iast (ws' := wR E a (R_setS v m6)) hX 1 rfl (vp_in_nI (by omega : 288 + (8 * r + ((n).val) % 8) < 544) (by omega)) (by rw [hm6]; exact sR_s E a (R_setS v m3) (k := 288 + (8 * r + ((n).val) % 8)) (by omega) (pS_val m3 (o := r) (q := ((n).val) % 8) (x) (by omega) (by omega) (by omega))) dX6_writes_86 ?_
      refine v_aload_n hX dX6_writes_87 rfl ?_
      refine v_get (C := RX6) (T := TX6) (N := 18) (ci := 6) (v := .ref (a 1)) hX in_X6 0 rfl rfl 0 (by decide) fl_7 rfl rfl dX6_writes_88 ?_
      refine v_sipush (x := (320 : Int32)) hX dX6_writes_91 (by decide) ?_
      refine v_iload hX dX6_writes_94 rfl ?_
      refine v_iadd (z := nI (320 + (8 * r + ((n).val) % 8))) hX dX6_writes_96 (nI_add 320 (8 * r + ((n).val) % 8)) ?_
      refine v_iconst (x := (1 : Int32)) hX dX6_writes_97 (by decide) ?_
      obtain ⟨m7, hm7⟩ : ∃ z_ : MV, z_ = M_setK m6 r (K_setD (m6.2.1 r) (((n).val) % 8) (true)) := ⟨_, rfl⟩
      refine v_iast (ws' := wR E a (R_setS v m7)) hX 1 rfl (vp_in_nI (by omega : 320 + (8 * r + ((n).val) % 8) < 544) (by omega)) (by rw [hm7]; exact sR_s E a (R_setS v m6) (k := 320 + (8 * r + ((n).val) % 8)) (by omega) (pS_dirty m6 (o := r) (q := ((n).val) % 8) (true) (by omega) (by omega) (by omega))) dX6_writes_98 ?_
      refine v_goto (tgt := 110) hX dX6_writes_99 (by decide) ?_
      refine v_iload hX dX6_writes_110 rfl ?_
      exact v_iret hX hr hsz dX6_writes_112 rfl rfl (by (subst hm7; subst hm6; subst hm3; subst hm1; first | (simp only [Q_writes, Q_wr, Q_wr2, Q_in2, Q_in3, c2, c4, if_true, if_false, reduceIte, Bool.false_eq_true, reduceCtorEq, decide_true, decide_false, Bool.and_true, Bool.and_false, Bool.true_and, Bool.false_and, Bool.or_true, Bool.or_false, Bool.true_or, Bool.false_or, not_true_eq_false, not_false_eq_true, Bool.not_true, Bool.not_false, eq_self, Nat.reduceEqDiff]; done) | rfl | (simp only [Q_writes, Q_wr, Q_wr2, Q_in2, Q_in3, c2, c4, if_true, if_false, reduceIte, Bool.false_eq_true, reduceCtorEq, decide_true, decide_false, Bool.and_true, Bool.and_false, Bool.true_and, Bool.false_and, Bool.or_true, Bool.or_false, Bool.true_or, Bool.false_or, not_true_eq_false, not_false_eq_true, Bool.not_true, Bool.not_false, eq_self, Nat.reduceEqDiff]; rfl) | contradiction | (exfalso; omega))) (by (subst hm7; subst hm6; subst hm3; subst hm1; first | (simp only [Q_writes, Q_wr, Q_wr2, Q_in2, Q_in3, c2, c4, if_true, if_false, reduceIte, Bool.false_eq_true, reduceCtorEq, decide_true, decide_false, Bool.and_true, Bool.and_false, Bool.true_and, Bool.false_and, Bool.or_true, Bool.or_false, Bool.true_or, Bool.false_or, not_true_eq_false, not_false_eq_true, Bool.not_true, Bool.not_false, eq_self, Nat.reduceEqDiff]; done) | rfl | (simp only [Q_writes, Q_wr, Q_wr2, Q_in2, Q_in3, c2, c4, if_true, if_false, reduceIte, Bool.false_eq_true, reduceCtorEq, decide_true, decide_false, Bool.and_true, Bool.and_false, Bool.true_and, Bool.false_and, Bool.or_true, Bool.or_false, Bool.true_or, Bool.false_or, not_true_eq_false, not_false_eq_true, Bool.not_true, Bool.not_false, eq_self, Nat.reduceEqDiff]; rfl) | contradiction | (exfalso; omega)))
  · replace c2 := bI_n0.mp c2
    refine v_aload_n hX dX6_writes_28 rfl ?_
    refine v_get (C := RX6) (T := TX6) (N := 18) (ci := 6) (v := .ref (a 1)) hX in_X6 0 rfl rfl 0 (by decide) fl_7 rfl rfl dX6_writes_29 ?_
    refine v_sipush (x := (320 : Int32)) hX dX6_writes_32 (by decide) ?_
    refine v_iload hX dX6_writes_35 rfl ?_
    refine v_iadd (z := nI (320 + (8 * r + ((n).val) % 8))) hX dX6_writes_37 (nI_add 320 (8 * r + ((n).val) % 8)) ?_
    refine v_iald (z := bI ((m1.2.1 r).2.2.1 (((n).val) % 8))) hX 1 rfl (vp_in_nI (by omega : 320 + (8 * r + ((n).val) % 8) < 544) (by omega)) (by simp only [nI_clamp (show 320 + (8 * r + ((n).val) % 8) < 2 ^ 31 by omega)]; exact gS_dirty m1 (o := r) (q := ((n).val) % 8) (by omega) (by omega) (by omega)) dX6_writes_38 ?_
    refine v_iconst (x := (1 : Int32)) hX dX6_writes_39 (by decide) ?_
    refine v_icmp_ne (tgt := 57) hX dX6_writes_40 (by decide) (fun c8 => ?_) (fun c8 => ?_)
    · replace c8 := bI_n1.mp c8
      refine v_aload_n hX dX6_writes_57 rfl ?_
      refine v_iload_n hX dX6_writes_58 rfl ?_
      refine v_iload_n hX dX6_writes_59 rfl ?_
      refine v_iconst (x := (1 : Int32)) hX dX6_writes_60 (by decide) ?_
      obtain ⟨m9, hm9⟩ : ∃ z_ : MV, z_ = ((Q_snoops m1 r n true).1) := ⟨_, rfl⟩
      refine v_callVi (r := (Q_snoops m1 r n true).2) (rest := []) (ws' := wR E a (R_setS v m9)) hX (fun sz => c_X6_snoops l E a sz (R_setS v m1) r (by first | omega | exact Nat.le_of_ble_eq_true rfl) n true) (cwV 3 hX.2.2.2.2.1 gX6_writes_X6_snoops rfl rfl rfl (by decide +kernel) ⟨Nat.le_of_ble_eq_true rfl, Nat.le_of_ble_eq_true rfl⟩) ([]) ([]) ((List.append_nil _).symm) (by rw [hm9]; exact List.append_nil _) (wR_fst E a _ _) (ci := 6) (q0 := 0) rfl rfl rfl rfl rfl (Nat.le_of_ble_eq_true rfl) dX6_writes_61 ?_
      refine v_istore (lv' := [.ref (a 0), .int (nI (r)), .int (nI (n).val), .int (x), .int (nI (8 * r + ((n).val) % 8)), .int ((Q_snoops m1 r n true).2)]) hX dX6_writes_64 (Nat.le_of_ble_eq_true rfl) (Nat.le_of_ble_eq_true rfl) rfl rfl ?_
      refine v_aload_n hX dX6_writes_66 rfl ?_
      refine v_iload_n hX dX6_writes_67 rfl ?_
      refine v_iload_n hX dX6_writes_68 rfl ?_
      refine v_callVi (r := bI (Q_holds m9 r n)) (rest := []) (ws' := wR E a (R_setS v m9)) hX (fun sz => c_X6_holds l E a sz (R_setS v m9) r (by first | omega | exact Nat.le_of_ble_eq_true rfl) n) (cwV 2 hX.2.2.2.2.1 gX6_writes_X6_holds rfl rfl rfl (by decide +kernel) ⟨Nat.le_of_ble_eq_true rfl, Nat.le_of_ble_eq_true rfl⟩) ([]) ([]) ((List.append_nil _).symm) ((List.append_nil _).symm).symm (wR_fst E a _ _) (ci := 6) (q0 := 0) rfl rfl rfl rfl rfl (Nat.le_of_ble_eq_true rfl) dX6_writes_69 ?_
      refine v_if_eq (tgt := 102) hX dX6_writes_72 (by decide) (fun c10 => ?_) (fun c10 => ?_)
      · replace c10 := bI_0.mp c10
        refine v_aload_n hX dX6_writes_102 rfl ?_
        refine v_iload_n hX dX6_writes_103 rfl ?_
        refine v_iload_n hX dX6_writes_104 rfl ?_
        refine v_iload_n hX dX6_writes_105 rfl ?_
        refine v_iconst (x := (1 : Int32)) hX dX6_writes_106 (by decide) ?_
        obtain ⟨m11, hm11⟩ : ∃ z_ : MV, z_ = (Q_begins m9 r n x true) := ⟨_, rfl⟩
        refine v_callVv (rest := []) (ws' := wR E a (R_setS v m11)) hX (fun sz => c_X6_begins l E a sz (R_setS v m9) r (by first | omega | exact Nat.le_of_ble_eq_true rfl) n x true) (cwV 4 hX.2.2.2.2.1 gX6_writes_X6_begins rfl rfl rfl (by decide +kernel) ⟨Nat.le_of_ble_eq_true rfl, Nat.le_of_ble_eq_true rfl⟩) ([]) ([]) ((List.append_nil _).symm) (by rw [hm11]; exact List.append_nil _) (wR_fst E a _ _) (ci := 6) (q0 := 0) rfl rfl rfl rfl rfl (Nat.le_of_ble_eq_true rfl) dX6_writes_107 ?_
        refine v_iload hX dX6_writes_110 rfl ?_
        exact v_iret hX hr hsz dX6_writes_112 rfl rfl (by (subst hm11; subst hm9; subst hm1; first | (simp only [Q_writes, Q_wr, Q_wr2, Q_in2, Q_in3, c2, c8, c10, if_true, if_false, reduceIte, Bool.false_eq_true, reduceCtorEq, decide_true, decide_false, Bool.and_true, Bool.and_false, Bool.true_and, Bool.false_and, Bool.or_true, Bool.or_false, Bool.true_or, Bool.false_or, not_true_eq_false, not_false_eq_true, Bool.not_true, Bool.not_false, eq_self, Nat.reduceEqDiff]; done) | rfl | (simp only [Q_writes, Q_wr, Q_wr2, Q_in2, Q_in3, c2, c8, c10, if_true, if_false, reduceIte, Bool.false_eq_true, reduceCtorEq, decide_true, decide_false, Bool.and_true, Bool.and_false, Bool.true_and, Bool.false_and, Bool.or_true, Bool.or_false, Bool.true_or, Bool.false_or, not_true_eq_false, not_false_eq_true, Bool.not_true, Bool.not_false, eq_self, Nat.reduceEqDiff]; rfl) | contradiction | (exfalso; omega))) (by (subst hm11; subst hm9; subst hm1; first | (simp only [Q_writes, Q_wr, Q_wr2, Q_in2, Q_in3, c2, c8, c10, if_true, if_false, reduceIte, Bool.false_eq_true, reduceCtorEq, decide_true, decide_false, Bool.and_true, Bool.and_false, Bool.true_and, Bool.false_and, Bool.or_true, Bool.or_false, Bool.true_or, Bool.false_or, not_true_eq_false, not_false_eq_true, Bool.not_true, Bool.not_false, eq_self, Nat.reduceEqDiff]; done) | rfl | (simp only [Q_writes, Q_wr, Q_wr2, Q_in2, Q_in3, c2, c8, c10, if_true, if_false, reduceIte, Bool.false_eq_true, reduceCtorEq, decide_true, decide_false, Bool.and_true, Bool.and_false, Bool.true_and, Bool.false_and, Bool.or_true, Bool.or_false, Bool.true_or, Bool.false_or, not_true_eq_false, not_false_eq_true, Bool.not_true, Bool.not_false, eq_self, Nat.reduceEqDiff]; rfl) | contradiction | (exfalso; omega)))
      · replace c10 := bI_n0.mp c10
        refine v_aload_n hX dX6_writes_75 rfl ?_
        refine v_get (C := RX6) (T := TX6) (N := 18) (ci := 6) (v := .ref (a 1)) hX in_X6 0 rfl rfl 0 (by decide) fl_7 rfl rfl dX6_writes_76 ?_
        refine v_sipush (x := (288 : Int32)) hX dX6_writes_79 (by decide) ?_
        refine v_iload hX dX6_writes_82 rfl ?_
        refine v_iadd (z := nI (288 + (8 * r + ((n).val) % 8))) hX dX6_writes_84 (nI_add 288 (8 * r + ((n).val) % 8)) ?_
        refine v_iload_n hX dX6_writes_85 rfl ?_
        obtain ⟨m12, hm12⟩ : ∃ z_ : MV, z_ = M_setK m9 r (K_setV (m9.2.1 r) (((n).val) % 8) (x)) := ⟨_, rfl⟩
        refine v_iast (ws' := wR E a (R_setS v m12)) hX 1 rfl (vp_in_nI (by omega : 288 + (8 * r + ((n).val) % 8) < 544) (by omega)) (by rw [hm12]; exact sR_s E a (R_setS v m9) (k := 288 + (8 * r + ((n).val) % 8)) (by omega) (pS_val m9 (o := r) (q := ((n).val) % 8) (x) (by omega) (by omega) (by omega))) dX6_writes_86 ?_
        refine v_aload_n hX dX6_writes_87 rfl ?_
        refine v_get (C := RX6) (T := TX6) (N := 18) (ci := 6) (v := .ref (a 1)) hX in_X6 0 rfl rfl 0 (by decide) fl_7 rfl rfl dX6_writes_88 ?_
        refine v_sipush (x := (320 : Int32)) hX dX6_writes_91 (by decide) ?_
        refine v_iload hX dX6_writes_94 rfl ?_
        refine v_iadd (z := nI (320 + (8 * r + ((n).val) % 8))) hX dX6_writes_96 (nI_add 320 (8 * r + ((n).val) % 8)) ?_
        refine v_iconst (x := (1 : Int32)) hX dX6_writes_97 (by decide) ?_
        obtain ⟨m13, hm13⟩ : ∃ z_ : MV, z_ = M_setK m12 r (K_setD (m12.2.1 r) (((n).val) % 8) (true)) := ⟨_, rfl⟩
        refine v_iast (ws' := wR E a (R_setS v m13)) hX 1 rfl (vp_in_nI (by omega : 320 + (8 * r + ((n).val) % 8) < 544) (by omega)) (by rw [hm13]; exact sR_s E a (R_setS v m12) (k := 320 + (8 * r + ((n).val) % 8)) (by omega) (pS_dirty m12 (o := r) (q := ((n).val) % 8) (true) (by omega) (by omega) (by omega))) dX6_writes_98 ?_
        refine v_goto (tgt := 110) hX dX6_writes_99 (by decide) ?_
        refine v_iload hX dX6_writes_110 rfl ?_
        exact v_iret hX hr hsz dX6_writes_112 rfl rfl (by (subst hm13; subst hm12; subst hm9; subst hm1; first | (simp only [Q_writes, Q_wr, Q_wr2, Q_in2, Q_in3, c2, c8, c10, if_true, if_false, reduceIte, Bool.false_eq_true, reduceCtorEq, decide_true, decide_false, Bool.and_true, Bool.and_false, Bool.true_and, Bool.false_and, Bool.or_true, Bool.or_false, Bool.true_or, Bool.false_or, not_true_eq_false, not_false_eq_true, Bool.not_true, Bool.not_false, eq_self, Nat.reduceEqDiff]; done) | rfl | (simp only [Q_writes, Q_wr, Q_wr2, Q_in2, Q_in3, c2, c8, c10, if_true, if_false, reduceIte, Bool.false_eq_true, reduceCtorEq, decide_true, decide_false, Bool.and_true, Bool.and_false, Bool.true_and, Bool.false_and, Bool.or_true, Bool.or_false, Bool.true_or, Bool.false_or, not_true_eq_false, not_false_eq_true, Bool.not_true, Bool.not_false, eq_self, Nat.reduceEqDiff]; rfl) | contradiction | (exfalso; omega))) (by (subst hm13; subst hm12; subst hm9; subst hm1; first | (simp only [Q_writes, Q_wr, Q_wr2, Q_in2, Q_in3, c2, c8, c10, if_true, if_false, reduceIte, Bool.false_eq_true, reduceCtorEq, decide_true, decide_false, Bool.and_true, Bool.and_false, Bool.true_and, Bool.false_and, Bool.or_true, Bool.or_false, Bool.true_or, Bool.false_or, not_true_eq_false, not_false_eq_true, Bool.not_true, Bool.not_false, eq_self, Nat.reduceEqDiff]; done) | rfl | (simp only [Q_writes, Q_wr, Q_wr2, Q_in2, Q_in3, c2, c8, c10, if_true, if_false, reduceIte, Bool.false_eq_true, reduceCtorEq, decide_true, decide_false, Bool.and_true, Bool.and_false, Bool.true_and, Bool.false_and, Bool.or_true, Bool.or_false, Bool.true_or, Bool.false_or, not_true_eq_false, not_false_eq_true, Bool.not_true, Bool.not_false, eq_self, Nat.reduceEqDiff]; rfl) | contradiction | (exfalso; omega)))
    · replace c8 := bI_nn0.mp c8
      refine v_aload_n hX dX6_writes_43 rfl ?_
      refine v_get (C := RX6) (T := TX6) (N := 18) (ci := 6) (v := .ref (a 1)) hX in_X6 0 rfl rfl 0 (by decide) fl_7 rfl rfl dX6_writes_44 ?_
      refine v_sipush (x := (288 : Int32)) hX dX6_writes_47 (by decide) ?_
      refine v_iload hX dX6_writes_50 rfl ?_
      refine v_iadd (z := nI (288 + (8 * r + ((n).val) % 8))) hX dX6_writes_52 (nI_add 288 (8 * r + ((n).val) % 8)) ?_
      refine v_iload_n hX dX6_writes_53 rfl ?_
      obtain ⟨m14, hm14⟩ : ∃ z_ : MV, z_ = M_setK m1 r (K_setV (m1.2.1 r) (((n).val) % 8) (x)) := ⟨_, rfl⟩
      refine v_iast (ws' := wR E a (R_setS v m14)) hX 1 rfl (vp_in_nI (by omega : 288 + (8 * r + ((n).val) % 8) < 544) (by omega)) (by rw [hm14]; exact sR_s E a (R_setS v m1) (k := 288 + (8 * r + ((n).val) % 8)) (by omega) (pS_val m1 (o := r) (q := ((n).val) % 8) (x) (by omega) (by omega) (by omega))) dX6_writes_54 ?_
      refine v_iconst (x := (0 : Int32)) hX dX6_writes_55 (by decide) ?_
      exact v_iret hX hr hsz dX6_writes_56 rfl rfl (by (subst hm14; subst hm1; first | (simp only [Q_writes, Q_wr, Q_wr2, Q_in2, Q_in3, c2, c8, if_true, if_false, reduceIte, Bool.false_eq_true, reduceCtorEq, decide_true, decide_false, Bool.and_true, Bool.and_false, Bool.true_and, Bool.false_and, Bool.or_true, Bool.or_false, Bool.true_or, Bool.false_or, not_true_eq_false, not_false_eq_true, Bool.not_true, Bool.not_false, eq_self, Nat.reduceEqDiff]; done) | rfl | (simp only [Q_writes, Q_wr, Q_wr2, Q_in2, Q_in3, c2, c8, if_true, if_false, reduceIte, Bool.false_eq_true, reduceCtorEq, decide_true, decide_false, Bool.and_true, Bool.and_false, Bool.true_and, Bool.false_and, Bool.or_true, Bool.or_false, Bool.true_or, Bool.false_or, not_true_eq_false, not_false_eq_true, Bool.not_true, Bool.not_false, eq_self, Nat.reduceEqDiff]; rfl) | contradiction | (exfalso; omega))) (by (subst hm14; subst hm1; first | (simp only [Q_writes, Q_wr, Q_wr2, Q_in2, Q_in3, c2, c8, if_true, if_false, reduceIte, Bool.false_eq_true, reduceCtorEq, decide_true, decide_false, Bool.and_true, Bool.and_false, Bool.true_and, Bool.false_and, Bool.or_true, Bool.or_false, Bool.true_or, Bool.false_or, not_true_eq_false, not_false_eq_true, Bool.not_true, Bool.not_false, eq_self, Nat.reduceEqDiff]; done) | rfl | (simp only [Q_writes, Q_wr, Q_wr2, Q_in2, Q_in3, c2, c8, if_true, if_false, reduceIte, Bool.false_eq_true, reduceCtorEq, decide_true, decide_false, Bool.and_true, Bool.and_false, Bool.true_and, Bool.false_and, Bool.or_true, Bool.or_false, Bool.true_or, Bool.false_or, not_true_eq_false, not_false_eq_true, Bool.not_true, Bool.not_false, eq_self, Nat.reduceEqDiff]; rfl) | contradiction | (exfalso; omega)))
set_option maxHeartbeats 4000000 in
set_option maxRecDepth 100000 in
theorem c_X6_drops (l : Launch) (E : ET) (a : Nat → Nat) (sz : Nat) (v : RV) (r : Nat) (hro : r < 4) (n : Fin 256) : Met l yX6_drops wsX6_drops ({ frames := 4, cells := 0, slots := 0, locals := 93 }) (mPc E [.ref (a 0), .int (nI (r)), .int (nI (n).val)] sz (wR E a v)) (mQi E ((Q_drops v.1 r n).2) (wR E a v) (wR E a (R_setS v ((Q_drops v.1 r n).1))) sz) 0 0 (va_A (wR E a v) sz) := by
  refine v_start (cc := cX6_drops) (maxL := 5) (ret := (some .int)) (by decide) rfl (Nat.le_of_ble_eq_true rfl) rfl ?_
  intro p e s m args below meth c hsz hr hX
  have hX : Xc p s m args meth c E 5 (va_A (wR E a v) sz) cX6_drops RX6 wsX6_drops := hX
  have in_X6 : ∀ w ∈ u_ws RX6 TX6 18, w ∈ wsX6_drops := by decide +kernel
  have fl_7 : Cond.fieldLink RX6 7 RX6 "s" "[I" ∈ wsX6_drops := by decide +kernel
  have hlt_n := n.isLt
  refine v_iload_n hX dX6_drops_0 rfl ?_
  refine v_iload_n hX dX6_drops_1 rfl ?_
  refine v_callSi (r := nI (8 * r + ((n).val) % 8)) (rest := []) (ws' := wR E a v) hX (fun sz => c_X6_placeOf l E sz r (by first | omega | exact Nat.le_of_ble_eq_true rfl) ((n).val) (by first | omega | exact Nat.le_of_ble_eq_true rfl)) (va_cwS 2 hX.2.2.2.2.1 gX6_drops_X6_placeOf rfl rfl rfl (by decide +kernel) ⟨Nat.le_of_ble_eq_true rfl, Nat.le_of_ble_eq_true rfl⟩) ([]) (wR E a v) (rfl) rfl (rfl) rfl rfl (Nat.le_of_ble_eq_true rfl) dX6_drops_2 ?_
  refine v_istore_n (lv' := [.ref (a 0), .int (nI (r)), .int (nI (n).val), .int (nI (8 * r + ((n).val) % 8))]) hX dX6_drops_5 (Nat.le_of_ble_eq_true rfl) (Nat.le_of_ble_eq_true rfl) rfl rfl ?_
  refine v_aload_n hX dX6_drops_6 rfl ?_
  refine v_get (C := RX6) (T := TX6) (N := 18) (ci := 6) (v := .ref (a 1)) hX in_X6 0 rfl rfl 0 (by decide) fl_7 rfl rfl dX6_drops_7 ?_
  refine v_sipush (x := (320 : Int32)) hX dX6_drops_10 (by decide) ?_
  refine v_iload_n hX dX6_drops_13 rfl ?_
  refine v_iadd (z := nI (320 + (8 * r + ((n).val) % 8))) hX dX6_drops_14 (nI_add 320 (8 * r + ((n).val) % 8)) ?_
  refine v_iald (z := bI ((v.1.2.1 r).2.2.1 (((n).val) % 8))) hX 1 rfl (vp_in_nI (by omega : 320 + (8 * r + ((n).val) % 8) < 544) (by omega)) (by simp only [nI_clamp (show 320 + (8 * r + ((n).val) % 8) < 2 ^ 31 by omega)]; exact gS_dirty v.1 (o := r) (q := ((n).val) % 8) (by omega) (by omega) (by omega)) dX6_drops_15 ?_
  refine v_istore (lv' := [.ref (a 0), .int (nI (r)), .int (nI (n).val), .int (nI (8 * r + ((n).val) % 8)), .int (bI ((v.1.2.1 r).2.2.1 (((n).val) % 8)))]) hX dX6_drops_16 (Nat.le_of_ble_eq_true rfl) (Nat.le_of_ble_eq_true rfl) rfl rfl ?_
  refine v_aload_n hX dX6_drops_18 rfl ?_
  refine v_iload_n hX dX6_drops_19 rfl ?_
  obtain ⟨m1, hm1⟩ : ∃ z_ : MV, z_ = (Q_wb v.1 r (((n).val) % 8)) := ⟨_, rfl⟩
  refine v_callVv (rest := []) (ws' := wR E a (R_setS v m1)) hX (fun sz => c_X6_writesBack l E a sz v r (by first | omega | exact Nat.le_of_ble_eq_true rfl) (((n).val) % 8) (by first | omega | exact Nat.le_of_ble_eq_true rfl)) (cwV 1 hX.2.2.2.2.1 gX6_drops_X6_writesBack rfl rfl rfl (by decide +kernel) ⟨Nat.le_of_ble_eq_true rfl, Nat.le_of_ble_eq_true rfl⟩) ([]) ([]) ((List.append_nil _).symm) (by rw [hm1]; exact List.append_nil _) (wR_fst E a _ _) (ci := 6) (q0 := 0) rfl rfl rfl rfl rfl (Nat.le_of_ble_eq_true rfl) dX6_drops_20 ?_
  refine v_aload_n hX dX6_drops_23 rfl ?_
  refine v_iload_n hX dX6_drops_24 rfl ?_
  refine v_iload_n hX dX6_drops_25 rfl ?_
  obtain ⟨m2, hm2⟩ : ∃ z_ : MV, z_ = (Q_lv m1 r (((n).val) % 8)) := ⟨_, rfl⟩
  refine v_callVv (rest := []) (ws' := wR E a (R_setS v m2)) hX (fun sz => c_X6_leaves l E a sz (R_setS v m1) r (by first | omega | exact Nat.le_of_ble_eq_true rfl) (((n).val) % 8) (by first | omega | exact Nat.le_of_ble_eq_true rfl)) (cwV 2 hX.2.2.2.2.1 gX6_drops_X6_leaves rfl rfl rfl (by decide +kernel) ⟨Nat.le_of_ble_eq_true rfl, Nat.le_of_ble_eq_true rfl⟩) ([]) ([]) ((List.append_nil _).symm) (by rw [hm2]; exact List.append_nil _) (wR_fst E a _ _) (ci := 6) (q0 := 0) rfl rfl rfl rfl rfl (Nat.le_of_ble_eq_true rfl) dX6_drops_26 ?_
  refine v_iload hX dX6_drops_29 rfl ?_
  exact v_iret hX hr hsz dX6_drops_31 rfl rfl (by (subst hm2; subst hm1; first | (simp only [Q_drops, if_true, if_false, reduceIte, Bool.false_eq_true, reduceCtorEq, decide_true, decide_false, Bool.and_true, Bool.and_false, Bool.true_and, Bool.false_and, Bool.or_true, Bool.or_false, Bool.true_or, Bool.false_or, not_true_eq_false, not_false_eq_true, Bool.not_true, Bool.not_false, eq_self, Nat.reduceEqDiff]; done) | rfl | (simp only [Q_drops, if_true, if_false, reduceIte, Bool.false_eq_true, reduceCtorEq, decide_true, decide_false, Bool.and_true, Bool.and_false, Bool.true_and, Bool.false_and, Bool.or_true, Bool.or_false, Bool.true_or, Bool.false_or, not_true_eq_false, not_false_eq_true, Bool.not_true, Bool.not_false, eq_self, Nat.reduceEqDiff]; rfl) | contradiction | (exfalso; omega))) (by (subst hm2; subst hm1; first | (simp only [Q_drops, if_true, if_false, reduceIte, Bool.false_eq_true, reduceCtorEq, decide_true, decide_false, Bool.and_true, Bool.and_false, Bool.true_and, Bool.false_and, Bool.or_true, Bool.or_false, Bool.true_or, Bool.false_or, not_true_eq_false, not_false_eq_true, Bool.not_true, Bool.not_false, eq_self, Nat.reduceEqDiff]; done) | rfl | (simp only [Q_drops, if_true, if_false, reduceIte, Bool.false_eq_true, reduceCtorEq, decide_true, decide_false, Bool.and_true, Bool.and_false, Bool.true_and, Bool.false_and, Bool.or_true, Bool.or_false, Bool.true_or, Bool.false_or, not_true_eq_false, not_false_eq_true, Bool.not_true, Bool.not_false, eq_self, Nat.reduceEqDiff]; rfl) | contradiction | (exfalso; omega)))
set_option maxHeartbeats 4000000 in
set_option maxRecDepth 100000 in
theorem c_X6_wouldRead (l : Launch) (E : ET) (a : Nat → Nat) (sz : Nat) (v : RV) (n : Fin 256) : Met l yX6_wouldRead wsX6_wouldRead ({ frames := 3, cells := 0, slots := 0, locals := 68 }) (mPc E [.ref (a 0), .int (nI (n).val)] sz (wR E a v)) (mQi E (Q_would v.1 n) (wR E a v) (wR E a v) sz) 0 0 (va_A (wR E a v) sz) := by
  refine v_start (cc := cX6_wouldRead) (maxL := 5) (ret := (some .int)) (by decide) rfl (Nat.le_of_ble_eq_true rfl) rfl ?_
  intro p e s m args below meth c hsz hr hX
  have hX : Xc p s m args meth c E 5 (va_A (wR E a v) sz) cX6_wouldRead RX6 wsX6_wouldRead := hX
  have in_X6 : ∀ w ∈ u_ws RX6 TX6 18, w ∈ wsX6_wouldRead := by decide +kernel
  have fl_7 : Cond.fieldLink RX6 7 RX6 "s" "[I" ∈ wsX6_wouldRead := by decide +kernel
  have hlt_n := n.isLt
  refine v_aload_n hX dX6_wouldRead_0 rfl ?_
  refine v_get (C := RX6) (T := TX6) (N := 18) (ci := 6) (v := .ref (a 1)) hX in_X6 0 rfl rfl 0 (by decide) fl_7 rfl rfl dX6_wouldRead_1 ?_
  refine v_iconst (x := (0 : Int32)) hX dX6_wouldRead_4 (by decide) ?_
  refine v_iload_n hX dX6_wouldRead_5 rfl ?_
  refine v_iadd (z := nI (0 + ((n).val))) hX dX6_wouldRead_6 (nI_add 0 ((n).val)) ?_
  refine v_iald (z := v.1.1 ((n).val)) hX 1 rfl (vp_in_nI (by omega : 0 + ((n).val) < 544) (by omega)) (by simp only [nI_clamp (show 0 + ((n).val) < 2 ^ 31 by omega)]; exact gS_mem v.1 (n := (n).val) (by omega) (by omega)) dX6_wouldRead_7 ?_
  refine v_istore_n (lv' := [.ref (a 0), .int (nI (n).val), .int (v.1.1 ((n).val))]) hX dX6_wouldRead_8 (Nat.le_of_ble_eq_true rfl) (Nat.le_of_ble_eq_true rfl) rfl rfl ?_
  refine v_iconst (x := (0 : Int32)) hX dX6_wouldRead_9 (by decide) ?_
  refine v_istore_n (lv' := [.ref (a 0), .int (nI (n).val), .int (v.1.1 ((n).val)), .int ((0 : Int32))]) hX dX6_wouldRead_10 (Nat.le_of_ble_eq_true rfl) (Nat.le_of_ble_eq_true rfl) rfl rfl ?_
  have loop_11 : ∀ (fu i : Nat), i + fu = 4 → V p l e ({ frames := 3, cells := 0, slots := 0, locals := 68 } : Room) s m args below meth c E 5 (va_A (wR E a v) sz) (MQ below (mQi E (Q_would v.1 n) (wR E a v) (wR E a v) sz) args s 0 0 (va_A (wR E a v) sz)) (wR E a v) [.ref (a 0), .int (nI (n).val), .int (it (Q_wouldF v.1 n) i (v.1.1 n.val)), .int (nI (i))] 11 [] := by
    intro fu
    induction fu with
    | zero =>
      intro i  hin 
      have hi0 : i = 4 := by omega
      subst hi0
      refine v_iload_n hX dX6_wouldRead_11 rfl ?_
      refine v_iconst (x := (4 : Int32)) hX dX6_wouldRead_12 (by decide) ?_
      refine v_icmp_ge (tgt := 78) hX dX6_wouldRead_13 (by decide) (fun c1 => ?_) (fun c1 => ?_)
      · replace c1 := (nI_leI (a := 4) (b := 4) (by omega) (by omega)).mp c1
        refine v_iload_n hX dX6_wouldRead_78 rfl ?_
        exact v_iret hX hr hsz dX6_wouldRead_79 rfl rfl (by (first | (simp only [Q_would, c1, if_true, if_false, reduceIte, Bool.false_eq_true, reduceCtorEq, decide_true, decide_false, Bool.and_true, Bool.and_false, Bool.true_and, Bool.false_and, Bool.or_true, Bool.or_false, Bool.true_or, Bool.false_or, not_true_eq_false, not_false_eq_true, Bool.not_true, Bool.not_false, eq_self, Nat.reduceEqDiff]; done) | rfl | (simp only [Q_would, c1, if_true, if_false, reduceIte, Bool.false_eq_true, reduceCtorEq, decide_true, decide_false, Bool.and_true, Bool.and_false, Bool.true_and, Bool.false_and, Bool.or_true, Bool.or_false, Bool.true_or, Bool.false_or, not_true_eq_false, not_false_eq_true, Bool.not_true, Bool.not_false, eq_self, Nat.reduceEqDiff]; rfl) | contradiction | (exfalso; omega))) rfl
      · replace c1 := (not_congr (nI_leI (a := 4) (b := 4) (by omega) (by omega))).mp c1
        exfalso; omega
    | succ fu ih =>
      intro i  hin 
      refine v_iload_n hX dX6_wouldRead_11 rfl ?_
      refine v_iconst (x := (4 : Int32)) hX dX6_wouldRead_12 (by decide) ?_
      refine v_icmp_ge (tgt := 78) hX dX6_wouldRead_13 (by decide) (fun c2 => ?_) (fun c2 => ?_)
      · replace c2 := (nI_leI (a := 4) (b := i) (by omega) (by omega)).mp c2
        exfalso; omega
      · replace c2 := (not_congr (nI_leI (a := 4) (b := i) (by omega) (by omega))).mp c2
        refine v_iload_n hX dX6_wouldRead_16 rfl ?_
        refine v_iload_n hX dX6_wouldRead_17 rfl ?_
        refine v_callSi (r := nI (8 * i + ((n).val) % 8)) (rest := []) (ws' := wR E a v) hX (fun sz => c_X6_placeOf l E sz i (by first | omega | exact Nat.le_of_ble_eq_true rfl) ((n).val) (by first | omega | exact Nat.le_of_ble_eq_true rfl)) (va_cwS 2 hX.2.2.2.2.1 gX6_wouldRead_X6_placeOf rfl rfl rfl (by decide +kernel) ⟨Nat.le_of_ble_eq_true rfl, Nat.le_of_ble_eq_true rfl⟩) ([]) (wR E a v) (rfl) rfl (rfl) rfl rfl (Nat.le_of_ble_eq_true rfl) dX6_wouldRead_18 ?_
        refine v_istore (lv' := [.ref (a 0), .int (nI (n).val), .int (it (Q_wouldF v.1 n) i (v.1.1 n.val)), .int (nI (i)), .int (nI (8 * i + ((n).val) % 8))]) hX dX6_wouldRead_21 (Nat.le_of_ble_eq_true rfl) (Nat.le_of_ble_eq_true rfl) rfl rfl ?_
        refine v_aload_n hX dX6_wouldRead_23 rfl ?_
        refine v_iload_n hX dX6_wouldRead_24 rfl ?_
        refine v_iload_n hX dX6_wouldRead_25 rfl ?_
        refine v_callVi (r := bI (Q_may v.1 i ((n).val))) (rest := []) (ws' := wR E a v) hX (fun sz => c_X6_mayHave l E a sz v i (by first | omega | exact Nat.le_of_ble_eq_true rfl) ((n).val) (by first | omega | exact Nat.le_of_ble_eq_true rfl)) (cwV 2 hX.2.2.2.2.1 gX6_wouldRead_X6_mayHave rfl rfl rfl (by decide +kernel) ⟨Nat.le_of_ble_eq_true rfl, Nat.le_of_ble_eq_true rfl⟩) ([]) ([]) ((List.append_nil _).symm) ((List.append_nil _).symm).symm (wR_fst E a _ _) (ci := 6) (q0 := 0) rfl rfl rfl rfl rfl (Nat.le_of_ble_eq_true rfl) dX6_wouldRead_26 ?_
        refine v_if_eq (tgt := 70) hX dX6_wouldRead_29 (by decide) (fun c3 => ?_) (fun c3 => ?_)
        · replace c3 := bI_0.mp c3
          refine v_iload_n hX dX6_wouldRead_70 rfl ?_
          refine v_istore_n (lv' := [.ref (a 0), .int (nI (n).val), .int (it (Q_wouldF v.1 n) i (v.1.1 n.val)), .int (nI (i)), .int (nI (8 * i + ((n).val) % 8))]) hX dX6_wouldRead_71 (Nat.le_of_ble_eq_true rfl) (Nat.le_of_ble_eq_true rfl) rfl rfl ?_
          refine v_iinc (y := nI (i + 1)) (lv' := [.ref (a 0), .int (nI (n).val), .int (it (Q_wouldF v.1 n) i (v.1.1 n.val)), .int (nI (i + 1)), .int (nI (8 * i + ((n).val) % 8))]) hX dX6_wouldRead_72 rfl (nI_inc _) (Nat.le_of_ble_eq_true rfl) (Nat.le_of_ble_eq_true rfl) rfl rfl ?_
          refine v_goto (tgt := 11) hX dX6_wouldRead_75 (by decide) ?_
          have e4 : it (Q_wouldF v.1 n) i (v.1.1 n.val) = it (Q_wouldF v.1 n) (i + 1) (v.1.1 n.val) := by first | (simp only [Q_wouldF, c2, c3, it, if_true, if_false, reduceIte, Bool.false_eq_true, Bool.and_true, Bool.and_false, Bool.true_and, Bool.false_and, not_true_eq_false, not_false_eq_true, eq_self, ne_eq, reduceCtorEq, decide_true, decide_false, Bool.not_true, Bool.not_false]; done) | rfl | (simp only [Q_wouldF, c2, c3, it, if_true, if_false, reduceIte, Bool.false_eq_true, Bool.and_true, Bool.and_false, Bool.true_and, Bool.false_and, not_true_eq_false, not_false_eq_true, eq_self, ne_eq, reduceCtorEq, decide_true, decide_false, Bool.not_true, Bool.not_false]; rfl) | contradiction
          rw [e4]
          exact v_fewer 4 rfl (ih (i + 1)  (by omega) )
        · replace c3 := bI_n0.mp c3
          refine v_aload_n hX dX6_wouldRead_32 rfl ?_
          refine v_iload_n hX dX6_wouldRead_33 rfl ?_
          refine v_iload_n hX dX6_wouldRead_34 rfl ?_
          refine v_callVi (r := bI (Q_holds v.1 i n)) (rest := []) (ws' := wR E a v) hX (fun sz => c_X6_holds l E a sz v i (by first | omega | exact Nat.le_of_ble_eq_true rfl) n) (cwV 2 hX.2.2.2.2.1 gX6_wouldRead_X6_holds rfl rfl rfl (by decide +kernel) ⟨Nat.le_of_ble_eq_true rfl, Nat.le_of_ble_eq_true rfl⟩) ([]) ([]) ((List.append_nil _).symm) ((List.append_nil _).symm).symm (wR_fst E a _ _) (ci := 6) (q0 := 0) rfl rfl rfl rfl rfl (Nat.le_of_ble_eq_true rfl) dX6_wouldRead_35 ?_
          refine v_if_eq (tgt := 70) hX dX6_wouldRead_38 (by decide) (fun c5 => ?_) (fun c5 => ?_)
          · replace c5 := bI_0.mp c5
            refine v_iload_n hX dX6_wouldRead_70 rfl ?_
            refine v_istore_n (lv' := [.ref (a 0), .int (nI (n).val), .int (it (Q_wouldF v.1 n) i (v.1.1 n.val)), .int (nI (i)), .int (nI (8 * i + ((n).val) % 8))]) hX dX6_wouldRead_71 (Nat.le_of_ble_eq_true rfl) (Nat.le_of_ble_eq_true rfl) rfl rfl ?_
            refine v_iinc (y := nI (i + 1)) (lv' := [.ref (a 0), .int (nI (n).val), .int (it (Q_wouldF v.1 n) i (v.1.1 n.val)), .int (nI (i + 1)), .int (nI (8 * i + ((n).val) % 8))]) hX dX6_wouldRead_72 rfl (nI_inc _) (Nat.le_of_ble_eq_true rfl) (Nat.le_of_ble_eq_true rfl) rfl rfl ?_
            refine v_goto (tgt := 11) hX dX6_wouldRead_75 (by decide) ?_
            have e6 : it (Q_wouldF v.1 n) i (v.1.1 n.val) = it (Q_wouldF v.1 n) (i + 1) (v.1.1 n.val) := by first | (simp only [Q_wouldF, c2, c3, c5, it, if_true, if_false, reduceIte, Bool.false_eq_true, Bool.and_true, Bool.and_false, Bool.true_and, Bool.false_and, not_true_eq_false, not_false_eq_true, eq_self, ne_eq, reduceCtorEq, decide_true, decide_false, Bool.not_true, Bool.not_false]; done) | rfl | (simp only [Q_wouldF, c2, c3, c5, it, if_true, if_false, reduceIte, Bool.false_eq_true, Bool.and_true, Bool.and_false, Bool.true_and, Bool.false_and, not_true_eq_false, not_false_eq_true, eq_self, ne_eq, reduceCtorEq, decide_true, decide_false, Bool.not_true, Bool.not_false]; rfl) | contradiction
            rw [e6]
            exact v_fewer 4 rfl (ih (i + 1)  (by omega) )
          · replace c5 := bI_n0.mp c5
            refine v_aload_n hX dX6_wouldRead_41 rfl ?_
            refine v_get (C := RX6) (T := TX6) (N := 18) (ci := 6) (v := .ref (a 1)) hX in_X6 0 rfl rfl 0 (by decide) fl_7 rfl rfl dX6_wouldRead_42 ?_
            refine v_sipush (x := (320 : Int32)) hX dX6_wouldRead_45 (by decide) ?_
            refine v_iload hX dX6_wouldRead_48 rfl ?_
            refine v_iadd (z := nI (320 + (8 * i + ((n).val) % 8))) hX dX6_wouldRead_50 (nI_add 320 (8 * i + ((n).val) % 8)) ?_
            refine v_iald (z := bI ((v.1.2.1 i).2.2.1 (((n).val) % 8))) hX 1 rfl (vp_in_nI (by omega : 320 + (8 * i + ((n).val) % 8) < 544) (by omega)) (by simp only [nI_clamp (show 320 + (8 * i + ((n).val) % 8) < 2 ^ 31 by omega)]; exact gS_dirty v.1 (o := i) (q := ((n).val) % 8) (by omega) (by omega) (by omega)) dX6_wouldRead_51 ?_
            refine v_iconst (x := (1 : Int32)) hX dX6_wouldRead_52 (by decide) ?_
            refine v_icmp_ne (tgt := 70) hX dX6_wouldRead_53 (by decide) (fun c7 => ?_) (fun c7 => ?_)
            · replace c7 := bI_n1.mp c7
              refine v_iload_n hX dX6_wouldRead_70 rfl ?_
              refine v_istore_n (lv' := [.ref (a 0), .int (nI (n).val), .int (it (Q_wouldF v.1 n) i (v.1.1 n.val)), .int (nI (i)), .int (nI (8 * i + ((n).val) % 8))]) hX dX6_wouldRead_71 (Nat.le_of_ble_eq_true rfl) (Nat.le_of_ble_eq_true rfl) rfl rfl ?_
              refine v_iinc (y := nI (i + 1)) (lv' := [.ref (a 0), .int (nI (n).val), .int (it (Q_wouldF v.1 n) i (v.1.1 n.val)), .int (nI (i + 1)), .int (nI (8 * i + ((n).val) % 8))]) hX dX6_wouldRead_72 rfl (nI_inc _) (Nat.le_of_ble_eq_true rfl) (Nat.le_of_ble_eq_true rfl) rfl rfl ?_
              refine v_goto (tgt := 11) hX dX6_wouldRead_75 (by decide) ?_
              have e8 : it (Q_wouldF v.1 n) i (v.1.1 n.val) = it (Q_wouldF v.1 n) (i + 1) (v.1.1 n.val) := by first | (simp only [Q_wouldF, c2, c3, c5, c7, it, if_true, if_false, reduceIte, Bool.false_eq_true, Bool.and_true, Bool.and_false, Bool.true_and, Bool.false_and, not_true_eq_false, not_false_eq_true, eq_self, ne_eq, reduceCtorEq, decide_true, decide_false, Bool.not_true, Bool.not_false]; done) | rfl | (simp only [Q_wouldF, c2, c3, c5, c7, it, if_true, if_false, reduceIte, Bool.false_eq_true, Bool.and_true, Bool.and_false, Bool.true_and, Bool.false_and, not_true_eq_false, not_false_eq_true, eq_self, ne_eq, reduceCtorEq, decide_true, decide_false, Bool.not_true, Bool.not_false]; rfl) | contradiction
              rw [e8]
              exact v_fewer 4 rfl (ih (i + 1)  (by omega) )
            · replace c7 := bI_nn0.mp c7
              refine v_aload_n hX dX6_wouldRead_56 rfl ?_
              refine v_get (C := RX6) (T := TX6) (N := 18) (ci := 6) (v := .ref (a 1)) hX in_X6 0 rfl rfl 0 (by decide) fl_7 rfl rfl dX6_wouldRead_57 ?_
              refine v_sipush (x := (288 : Int32)) hX dX6_wouldRead_60 (by decide) ?_
              refine v_iload hX dX6_wouldRead_63 rfl ?_
              refine v_iadd (z := nI (288 + (8 * i + ((n).val) % 8))) hX dX6_wouldRead_65 (nI_add 288 (8 * i + ((n).val) % 8)) ?_
              refine v_iald (z := (v.1.2.1 i).2.1 (((n).val) % 8)) hX 1 rfl (vp_in_nI (by omega : 288 + (8 * i + ((n).val) % 8) < 544) (by omega)) (by simp only [nI_clamp (show 288 + (8 * i + ((n).val) % 8) < 2 ^ 31 by omega)]; exact gS_val v.1 (o := i) (q := ((n).val) % 8) (by omega) (by omega) (by omega)) dX6_wouldRead_66 ?_
              refine v_goto (tgt := 71) hX dX6_wouldRead_67 (by decide) ?_
              refine v_istore_n (lv' := [.ref (a 0), .int (nI (n).val), .int ((v.1.2.1 i).2.1 (((n).val) % 8)), .int (nI (i)), .int (nI (8 * i + ((n).val) % 8))]) hX dX6_wouldRead_71 (Nat.le_of_ble_eq_true rfl) (Nat.le_of_ble_eq_true rfl) rfl rfl ?_
              refine v_iinc (y := nI (i + 1)) (lv' := [.ref (a 0), .int (nI (n).val), .int ((v.1.2.1 i).2.1 (((n).val) % 8)), .int (nI (i + 1)), .int (nI (8 * i + ((n).val) % 8))]) hX dX6_wouldRead_72 rfl (nI_inc _) (Nat.le_of_ble_eq_true rfl) (Nat.le_of_ble_eq_true rfl) rfl rfl ?_
              refine v_goto (tgt := 11) hX dX6_wouldRead_75 (by decide) ?_
              have e9 : (v.1.2.1 i).2.1 (((n).val) % 8) = it (Q_wouldF v.1 n) (i + 1) (v.1.1 n.val) := by first | (simp only [Q_wouldF, c2, c3, c5, c7, it, if_true, if_false, reduceIte, Bool.false_eq_true, Bool.and_true, Bool.and_false, Bool.true_and, Bool.false_and, not_true_eq_false, not_false_eq_true, eq_self, ne_eq, reduceCtorEq, decide_true, decide_false, Bool.not_true, Bool.not_false]; done) | rfl | (simp only [Q_wouldF, c2, c3, c5, c7, it, if_true, if_false, reduceIte, Bool.false_eq_true, Bool.and_true, Bool.and_false, Bool.true_and, Bool.false_and, not_true_eq_false, not_false_eq_true, eq_self, ne_eq, reduceCtorEq, decide_true, decide_false, Bool.not_true, Bool.not_false]; rfl) | contradiction
              rw [e9]
              exact v_fewer 4 rfl (ih (i + 1)  (by omega) )
  exact loop_11 4 0  (by omega) 
set_option maxHeartbeats 4000000 in
set_option maxRecDepth 100000 in
theorem c_X6_coresWith (l : Launch) (E : ET) (a : Nat → Nat) (sz : Nat) (v : RV) (n : Fin 256) (b : Bool) : Met l yX6_coresWith wsX6_coresWith ({ frames := 3, cells := 0, slots := 0, locals := 68 }) (mPc E [.ref (a 0), .int (nI (n).val), .int (bI (b))] sz (wR E a v)) (mQi E (Q_with v.1 n b) (wR E a v) (wR E a v) sz) 0 0 (va_A (wR E a v) sz) := by
  refine v_start (cc := cX6_coresWith) (maxL := 5) (ret := (some .int)) (by decide) rfl (Nat.le_of_ble_eq_true rfl) rfl ?_
  intro p e s m args below meth c hsz hr hX
  have hX : Xc p s m args meth c E 5 (va_A (wR E a v) sz) cX6_coresWith RX6 wsX6_coresWith := hX
  have hlt_n := n.isLt
  refine v_iconst (x := (0 : Int32)) hX dX6_coresWith_0 (by decide) ?_
  refine v_istore_n (lv' := [.ref (a 0), .int (nI (n).val), .int (bI (b)), .int ((0 : Int32))]) hX dX6_coresWith_1 (Nat.le_of_ble_eq_true rfl) (Nat.le_of_ble_eq_true rfl) rfl rfl ?_
  refine v_iconst (x := (0 : Int32)) hX dX6_coresWith_2 (by decide) ?_
  refine v_istore (lv' := [.ref (a 0), .int (nI (n).val), .int (bI (b)), .int ((0 : Int32)), .int ((0 : Int32))]) hX dX6_coresWith_3 (Nat.le_of_ble_eq_true rfl) (Nat.le_of_ble_eq_true rfl) rfl rfl ?_
  have loop_5 : ∀ (fu i : Nat), i + fu = 4 → V p l e ({ frames := 3, cells := 0, slots := 0, locals := 68 } : Room) s m args below meth c E 5 (va_A (wR E a v) sz) (MQ below (mQi E (Q_with v.1 n b) (wR E a v) (wR E a v) sz) args s 0 0 (va_A (wR E a v) sz)) (wR E a v) [.ref (a 0), .int (nI (n).val), .int (bI (b)), .int (it (Q_withF v.1 n b) i 0), .int (nI (i))] 5 [] := by
    intro fu
    induction fu with
    | zero =>
      intro i  hin 
      have hi0 : i = 4 := by omega
      subst hi0
      refine v_iload hX dX6_coresWith_5 rfl ?_
      refine v_iconst (x := (4 : Int32)) hX dX6_coresWith_7 (by decide) ?_
      refine v_icmp_ge (tgt := 55) hX dX6_coresWith_8 (by decide) (fun c1 => ?_) (fun c1 => ?_)
      · replace c1 := (nI_leI (a := 4) (b := 4) (by omega) (by omega)).mp c1
        refine v_iload_n hX dX6_coresWith_55 rfl ?_
        exact v_iret hX hr hsz dX6_coresWith_56 rfl rfl (by (first | (simp only [Q_with, c1, if_true, if_false, reduceIte, Bool.false_eq_true, reduceCtorEq, decide_true, decide_false, Bool.and_true, Bool.and_false, Bool.true_and, Bool.false_and, Bool.or_true, Bool.or_false, Bool.true_or, Bool.false_or, not_true_eq_false, not_false_eq_true, Bool.not_true, Bool.not_false, eq_self, Nat.reduceEqDiff]; done) | rfl | (simp only [Q_with, c1, if_true, if_false, reduceIte, Bool.false_eq_true, reduceCtorEq, decide_true, decide_false, Bool.and_true, Bool.and_false, Bool.true_and, Bool.false_and, Bool.or_true, Bool.or_false, Bool.true_or, Bool.false_or, not_true_eq_false, not_false_eq_true, Bool.not_true, Bool.not_false, eq_self, Nat.reduceEqDiff]; rfl) | contradiction | (exfalso; omega))) rfl
      · replace c1 := (not_congr (nI_leI (a := 4) (b := 4) (by omega) (by omega))).mp c1
        exfalso; omega
    | succ fu ih =>
      intro i  hin 
      refine v_iload hX dX6_coresWith_5 rfl ?_
      refine v_iconst (x := (4 : Int32)) hX dX6_coresWith_7 (by decide) ?_
      refine v_icmp_ge (tgt := 55) hX dX6_coresWith_8 (by decide) (fun c2 => ?_) (fun c2 => ?_)
      · replace c2 := (nI_leI (a := 4) (b := i) (by omega) (by omega)).mp c2
        exfalso; omega
      · replace c2 := (not_congr (nI_leI (a := 4) (b := i) (by omega) (by omega))).mp c2
        refine v_iload_n hX dX6_coresWith_11 rfl ?_
        refine v_iload_n hX dX6_coresWith_12 rfl ?_
        refine v_if_eq (tgt := 29) hX dX6_coresWith_13 (by decide) (fun c3 => ?_) (fun c3 => ?_)
        · replace c3 := bI_0.mp c3
          refine v_aload_n hX dX6_coresWith_29 rfl ?_
          refine v_iload hX dX6_coresWith_30 rfl ?_
          refine v_iload_n hX dX6_coresWith_32 rfl ?_
          refine v_callVi (r := bI (Q_may v.1 i ((n).val))) (rest := [.int (it (Q_withF v.1 n b) i 0)]) (ws' := wR E a v) hX (fun sz => c_X6_mayHave l E a sz v i (by first | omega | exact Nat.le_of_ble_eq_true rfl) ((n).val) (by first | omega | exact Nat.le_of_ble_eq_true rfl)) (cwV 2 hX.2.2.2.2.1 gX6_coresWith_X6_mayHave rfl rfl rfl (by decide +kernel) ⟨Nat.le_of_ble_eq_true rfl, Nat.le_of_ble_eq_true rfl⟩) ([]) ([]) ((List.append_nil _).symm) ((List.append_nil _).symm).symm (wR_fst E a _ _) (ci := 6) (q0 := 0) rfl rfl rfl rfl rfl (Nat.le_of_ble_eq_true rfl) dX6_coresWith_33 ?_
          refine v_if_eq (tgt := 46) hX dX6_coresWith_36 (by decide) (fun c4 => ?_) (fun c4 => ?_)
          · replace c4 := bI_0.mp c4
            refine v_iconst (x := (0 : Int32)) hX dX6_coresWith_46 (by decide) ?_
            refine v_ior (z := (it (Q_withF v.1 n b) i 0 ||| (0 : Int32))) hX dX6_coresWith_47 (rfl) ?_
            refine v_istore_n (lv' := [.ref (a 0), .int (nI (n).val), .int (bI (b)), .int ((it (Q_withF v.1 n b) i 0 ||| (0 : Int32))), .int (nI (i))]) hX dX6_coresWith_48 (Nat.le_of_ble_eq_true rfl) (Nat.le_of_ble_eq_true rfl) rfl rfl ?_
            refine v_iinc (y := nI (i + 1)) (lv' := [.ref (a 0), .int (nI (n).val), .int (bI (b)), .int ((it (Q_withF v.1 n b) i 0 ||| (0 : Int32))), .int (nI (i + 1))]) hX dX6_coresWith_49 rfl (nI_inc _) (Nat.le_of_ble_eq_true rfl) (Nat.le_of_ble_eq_true rfl) rfl rfl ?_
            refine v_goto (tgt := 5) hX dX6_coresWith_52 (by decide) ?_
            have e5 : (it (Q_withF v.1 n b) i 0 ||| (0 : Int32)) = it (Q_withF v.1 n b) (i + 1) 0 := by first | (simp only [Q_withF, c2, c3, c4, it, if_true, if_false, reduceIte, Bool.false_eq_true, Bool.and_true, Bool.and_false, Bool.true_and, Bool.false_and, not_true_eq_false, not_false_eq_true, eq_self, ne_eq, reduceCtorEq, decide_true, decide_false, Bool.not_true, Bool.not_false]; done) | rfl | (simp only [Q_withF, c2, c3, c4, it, if_true, if_false, reduceIte, Bool.false_eq_true, Bool.and_true, Bool.and_false, Bool.true_and, Bool.false_and, not_true_eq_false, not_false_eq_true, eq_self, ne_eq, reduceCtorEq, decide_true, decide_false, Bool.not_true, Bool.not_false]; rfl) | contradiction
            rw [e5]
            exact ih (i + 1)  (by omega) 
          · replace c4 := bI_n0.mp c4
            refine v_iconst (x := (1 : Int32)) hX dX6_coresWith_39 (by decide) ?_
            refine v_iload hX dX6_coresWith_40 rfl ?_
            refine v_ishl (z := ((1 : Int32) <<< (nI (i) &&& 31))) hX dX6_coresWith_42 (rfl) ?_
            refine v_goto (tgt := 47) hX dX6_coresWith_43 (by decide) ?_
            refine v_ior (z := (it (Q_withF v.1 n b) i 0 ||| ((1 : Int32) <<< (nI (i) &&& 31)))) hX dX6_coresWith_47 (rfl) ?_
            refine v_istore_n (lv' := [.ref (a 0), .int (nI (n).val), .int (bI (b)), .int ((it (Q_withF v.1 n b) i 0 ||| ((1 : Int32) <<< (nI (i) &&& 31)))), .int (nI (i))]) hX dX6_coresWith_48 (Nat.le_of_ble_eq_true rfl) (Nat.le_of_ble_eq_true rfl) rfl rfl ?_
            refine v_iinc (y := nI (i + 1)) (lv' := [.ref (a 0), .int (nI (n).val), .int (bI (b)), .int ((it (Q_withF v.1 n b) i 0 ||| ((1 : Int32) <<< (nI (i) &&& 31)))), .int (nI (i + 1))]) hX dX6_coresWith_49 rfl (nI_inc _) (Nat.le_of_ble_eq_true rfl) (Nat.le_of_ble_eq_true rfl) rfl rfl ?_
            refine v_goto (tgt := 5) hX dX6_coresWith_52 (by decide) ?_
            have e6 : (it (Q_withF v.1 n b) i 0 ||| ((1 : Int32) <<< (nI (i) &&& 31))) = it (Q_withF v.1 n b) (i + 1) 0 := by first | (simp only [Q_withF, c2, c3, c4, it, if_true, if_false, reduceIte, Bool.false_eq_true, Bool.and_true, Bool.and_false, Bool.true_and, Bool.false_and, not_true_eq_false, not_false_eq_true, eq_self, ne_eq, reduceCtorEq, decide_true, decide_false, Bool.not_true, Bool.not_false]; done) | rfl | (simp only [Q_withF, c2, c3, c4, it, if_true, if_false, reduceIte, Bool.false_eq_true, Bool.and_true, Bool.and_false, Bool.true_and, Bool.false_and, not_true_eq_false, not_false_eq_true, eq_self, ne_eq, reduceCtorEq, decide_true, decide_false, Bool.not_true, Bool.not_false]; rfl) | contradiction
            rw [e6]
            exact ih (i + 1)  (by omega) 
        · replace c3 := bI_n0.mp c3
          refine v_aload_n hX dX6_coresWith_16 rfl ?_
          refine v_iload hX dX6_coresWith_17 rfl ?_
          refine v_iload_n hX dX6_coresWith_19 rfl ?_
          refine v_callVi (r := bI (Q_holds v.1 i n)) (rest := [.int (it (Q_withF v.1 n b) i 0)]) (ws' := wR E a v) hX (fun sz => c_X6_holds l E a sz v i (by first | omega | exact Nat.le_of_ble_eq_true rfl) n) (cwV 2 hX.2.2.2.2.1 gX6_coresWith_X6_holds rfl rfl rfl (by decide +kernel) ⟨Nat.le_of_ble_eq_true rfl, Nat.le_of_ble_eq_true rfl⟩) ([]) ([]) ((List.append_nil _).symm) ((List.append_nil _).symm).symm (wR_fst E a _ _) (ci := 6) (q0 := 0) rfl rfl rfl rfl rfl (Nat.le_of_ble_eq_true rfl) dX6_coresWith_20 ?_
          refine v_if_eq (tgt := 46) hX dX6_coresWith_23 (by decide) (fun c7 => ?_) (fun c7 => ?_)
          · replace c7 := bI_0.mp c7
            refine v_iconst (x := (0 : Int32)) hX dX6_coresWith_46 (by decide) ?_
            refine v_ior (z := (it (Q_withF v.1 n b) i 0 ||| (0 : Int32))) hX dX6_coresWith_47 (rfl) ?_
            refine v_istore_n (lv' := [.ref (a 0), .int (nI (n).val), .int (bI (b)), .int ((it (Q_withF v.1 n b) i 0 ||| (0 : Int32))), .int (nI (i))]) hX dX6_coresWith_48 (Nat.le_of_ble_eq_true rfl) (Nat.le_of_ble_eq_true rfl) rfl rfl ?_
            refine v_iinc (y := nI (i + 1)) (lv' := [.ref (a 0), .int (nI (n).val), .int (bI (b)), .int ((it (Q_withF v.1 n b) i 0 ||| (0 : Int32))), .int (nI (i + 1))]) hX dX6_coresWith_49 rfl (nI_inc _) (Nat.le_of_ble_eq_true rfl) (Nat.le_of_ble_eq_true rfl) rfl rfl ?_
            refine v_goto (tgt := 5) hX dX6_coresWith_52 (by decide) ?_
            have e8 : (it (Q_withF v.1 n b) i 0 ||| (0 : Int32)) = it (Q_withF v.1 n b) (i + 1) 0 := by first | (simp only [Q_withF, c2, c3, c7, it, if_true, if_false, reduceIte, Bool.false_eq_true, Bool.and_true, Bool.and_false, Bool.true_and, Bool.false_and, not_true_eq_false, not_false_eq_true, eq_self, ne_eq, reduceCtorEq, decide_true, decide_false, Bool.not_true, Bool.not_false]; done) | rfl | (simp only [Q_withF, c2, c3, c7, it, if_true, if_false, reduceIte, Bool.false_eq_true, Bool.and_true, Bool.and_false, Bool.true_and, Bool.false_and, not_true_eq_false, not_false_eq_true, eq_self, ne_eq, reduceCtorEq, decide_true, decide_false, Bool.not_true, Bool.not_false]; rfl) | contradiction
            rw [e8]
            exact ih (i + 1)  (by omega) 
          · replace c7 := bI_n0.mp c7
            refine v_goto (tgt := 39) hX dX6_coresWith_26 (by decide) ?_
            refine v_iconst (x := (1 : Int32)) hX dX6_coresWith_39 (by decide) ?_
            refine v_iload hX dX6_coresWith_40 rfl ?_
            refine v_ishl (z := ((1 : Int32) <<< (nI (i) &&& 31))) hX dX6_coresWith_42 (rfl) ?_
            refine v_goto (tgt := 47) hX dX6_coresWith_43 (by decide) ?_
            refine v_ior (z := (it (Q_withF v.1 n b) i 0 ||| ((1 : Int32) <<< (nI (i) &&& 31)))) hX dX6_coresWith_47 (rfl) ?_
            refine v_istore_n (lv' := [.ref (a 0), .int (nI (n).val), .int (bI (b)), .int ((it (Q_withF v.1 n b) i 0 ||| ((1 : Int32) <<< (nI (i) &&& 31)))), .int (nI (i))]) hX dX6_coresWith_48 (Nat.le_of_ble_eq_true rfl) (Nat.le_of_ble_eq_true rfl) rfl rfl ?_
            refine v_iinc (y := nI (i + 1)) (lv' := [.ref (a 0), .int (nI (n).val), .int (bI (b)), .int ((it (Q_withF v.1 n b) i 0 ||| ((1 : Int32) <<< (nI (i) &&& 31)))), .int (nI (i + 1))]) hX dX6_coresWith_49 rfl (nI_inc _) (Nat.le_of_ble_eq_true rfl) (Nat.le_of_ble_eq_true rfl) rfl rfl ?_
            refine v_goto (tgt := 5) hX dX6_coresWith_52 (by decide) ?_
            have e9 : (it (Q_withF v.1 n b) i 0 ||| ((1 : Int32) <<< (nI (i) &&& 31))) = it (Q_withF v.1 n b) (i + 1) 0 := by first | (simp only [Q_withF, c2, c3, c7, it, if_true, if_false, reduceIte, Bool.false_eq_true, Bool.and_true, Bool.and_false, Bool.true_and, Bool.false_and, not_true_eq_false, not_false_eq_true, eq_self, ne_eq, reduceCtorEq, decide_true, decide_false, Bool.not_true, Bool.not_false]; done) | rfl | (simp only [Q_withF, c2, c3, c7, it, if_true, if_false, reduceIte, Bool.false_eq_true, Bool.and_true, Bool.and_false, Bool.true_and, Bool.false_and, not_true_eq_false, not_false_eq_true, eq_self, ne_eq, reduceCtorEq, decide_true, decide_false, Bool.not_true, Bool.not_false]; rfl) | contradiction
            rw [e9]
            exact ih (i + 1)  (by omega) 
  exact loop_5 4 0  (by omega) 
