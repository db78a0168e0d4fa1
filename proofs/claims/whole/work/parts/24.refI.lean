/-! ===== the reference reads a deed ===== -/
def R_ch (v : RV) : Nat := (v.2.2.2.2.2.2.1 v.2.2.2.2.2.2.2.2.2.2.1.val).val
def R_dL (v : RV) : RV := if R_next v 114 114 = true then R_setLetter v (v.2.2.2.2.2.2.1 v.2.2.2.2.2.2.2.2.2.2.1.val).val
  else if R_next v 119 119 = true then R_setLetter v (v.2.2.2.2.2.2.1 v.2.2.2.2.2.2.2.2.2.2.1.val).val
  else if R_next v 100 100 = true then R_setLetter v (v.2.2.2.2.2.2.1 v.2.2.2.2.2.2.2.2.2.2.1.val).val
  else if R_next v 102 102 = true then R_setLetter v (v.2.2.2.2.2.2.1 v.2.2.2.2.2.2.2.2.2.2.1.val).val
  else R_setLetter v 0
def R_d2 (w : RV) : RV := if w.2.2.2.2.2.2.2.2.2.2.2.1 = true then R_setWrong w true else if w.2.2.2.2.2.2.2.2.2.2.2.2.1.val = 0 then R_setWrong w true else R_setWrong w false
def R_d3s (w : RV) : RV := if w.2.2.2.2.2.2.2.2.2.2.2.1 = true then R_setSpot w (w.2.2.2.2.2.2.2.2.2.2.1.val + 0) else R_setSpot w (w.2.2.2.2.2.2.2.2.2.2.1.val + 1)
def R_d3 (w : RV) : RV := R_setDCore (R_num (R_d3s w) 3).2 (R_num (R_d3s w) 3).1
def R_d4 (w : RV) : RV := if w.2.2.2.2.2.2.2.2.2.2.2.2.1.val = 102 then w else R_setDLine (R_num (R_needs w 46) 255).2 (R_num (R_needs w 46) 255).1
def R_d5 (w : RV) : RV := if w.2.2.2.2.2.2.2.2.2.2.2.2.1.val = 119 then R_setDVal (R_num (R_needs w 61) 9999).2 (nI (R_num (R_needs w 61) 9999).1) else w
def R_deed (v : RV) : RV := R_d5 (R_d4 (R_d3 (R_d2 (R_dL v))))
set_option maxHeartbeats 4000000 in
set_option maxRecDepth 100000 in
theorem c_X6_readsDeed (l : Launch) (E : ET) (a : Nat → Nat) (sz : Nat) (v : RV) : Met l yX6_readsDeed wsX6_readsDeed ({ frames := 3, cells := 0, slots := 0, locals := 66 }) (mPc E [.ref (a 0)] sz (wR E a v)) (mQv E (wR E a v) (wR E a (R_deed v)) sz) 0 0 (va_A (wR E a v) sz) := by
  refine v_start (cc := cX6_readsDeed) (maxL := 1) (ret := none) (by decide) rfl (Nat.le_of_ble_eq_true rfl) rfl ?_
  intro p e s m args below meth c hsz hr hX
  have hX : Xc p s m args meth c E 1 (va_A (wR E a v) sz) cX6_readsDeed RX6 wsX6_readsDeed := hX
  have in_X6 : ∀ w ∈ u_ws RX6 TX6 18, w ∈ wsX6_readsDeed := by decide +kernel
  have fl_138 : Cond.fieldLink RX6 138 RX6 "letter" "I" ∈ wsX6_readsDeed := by decide +kernel
  have fl_153 : Cond.fieldLink RX6 153 RX6 "deedValue" "I" ∈ wsX6_readsDeed := by decide +kernel
  have fl_150 : Cond.fieldLink RX6 150 RX6 "deedLine" "I" ∈ wsX6_readsDeed := by decide +kernel
  have fl_132 : Cond.fieldLink RX6 132 RX6 "spot" "I" ∈ wsX6_readsDeed := by decide +kernel
  have fl_128 : Cond.fieldLink RX6 128 RX6 "isWrong" "Z" ∈ wsX6_readsDeed := by decide +kernel
  have fl_144 : Cond.fieldLink RX6 144 RX6 "deedCore" "I" ∈ wsX6_readsDeed := by decide +kernel
  have fl_22 : Cond.fieldLink RX6 22 RX6 "text" "[I" ∈ wsX6_readsDeed := by decide +kernel
  have cut_140 : ∀ (w : RV), R_d5 w = R_deed v → V p l e ({ frames := 3, cells := 0, slots := 0, locals := 66 } : Room) s m args below meth c E 1 (va_A (wR E a v) sz) (MQ below (mQv E (wR E a v) (wR E a (R_deed v)) sz) args s 0 0 (va_A (wR E a v) sz)) (wR E a w) [.ref (a 0)] 140 [] := by
    intro w hk0
    refine v_aload_n hX dX6_readsDeed_140 rfl ?_
    refine v_get (C := RX6) (T := TX6) (N := 18) (ci := 6) (v := .int (nI (w.2.2.2.2.2.2.2.2.2.2.2.2.1).val)) hX in_X6 0 rfl rfl 12 (by decide) fl_138 rfl rfl dX6_readsDeed_141 ?_
    have hb1 := (w.2.2.2.2.2.2.2.2.2.2.2.2.1).isLt
    refine v_bipush (x := (119 : Int32)) hX dX6_readsDeed_144 (by decide) ?_
    refine v_icmp_ne (tgt := 166) hX dX6_readsDeed_146 (by decide) (fun c2 => ?_) (fun c2 => ?_)
    · replace c2 := (not_congr (nI_eq (a := (w.2.2.2.2.2.2.2.2.2.2.2.2.1).val) (b := 119) (by omega) (by omega))).mp c2
      exact v_vret hX hr hsz dX6_readsDeed_166 rfl rfl (by (rw [← hk0]; simp only [R_d5, c2, if_true, if_false, reduceIte, Bool.false_eq_true, reduceCtorEq, decide_true, decide_false, Bool.and_true, Bool.and_false, Bool.true_and, Bool.false_and, Bool.or_true, Bool.or_false, Bool.true_or, Bool.false_or, not_true_eq_false, not_false_eq_true, Bool.not_true, Bool.not_false, eq_self, Nat.reduceEqDiff]))
    · replace c2 := (nI_eq (a := (w.2.2.2.2.2.2.2.2.2.2.2.2.1).val) (b := 119) (by omega) (by omega)).mp c2
      have c2t := eq_true c2
      refine v_aload_n hX dX6_readsDeed_149 rfl ?_
      refine v_bipush (x := (61 : Int32)) hX dX6_readsDeed_150 (by decide) ?_
      obtain ⟨v3, hv3⟩ : ∃ z_ : RV, z_ = R_needs w (61 : Int32) := ⟨_, rfl⟩
      refine v_callVv (rest := []) (ws' := wR E a v3) hX (fun sz => c_X6_needs l E a sz w (61 : Int32)) (cwV 1 hX.2.2.2.2.1 gX6_readsDeed_X6_needs rfl rfl rfl (by decide +kernel) ⟨Nat.le_of_ble_eq_true rfl, Nat.le_of_ble_eq_true rfl⟩) ([]) ([]) ((List.append_nil _).symm) (by rw [hv3]; exact List.append_nil _) (wR_fst E a _ _) (ci := 6) (q0 := 0) rfl rfl rfl rfl rfl (Nat.le_of_ble_eq_true rfl) dX6_readsDeed_152 ?_
      refine v_aload_n hX dX6_readsDeed_155 rfl ?_
      refine v_aload_n hX dX6_readsDeed_156 rfl ?_
      refine v_sipush (x := (9999 : Int32)) hX dX6_readsDeed_157 (by decide) ?_
      obtain ⟨v4, hv4⟩ : ∃ z_ : RV, z_ = (R_num v3 9999).2 := ⟨_, rfl⟩
      refine v_callVi (r := nI ((R_num v3 9999).1)) (rest := [.ref (a 0)]) (ws' := wR E a v4) hX (fun sz => c_X6_number l E a sz v3 9999 (by first | omega | exact Nat.le_of_ble_eq_true rfl)) (cwV 1 hX.2.2.2.2.1 gX6_readsDeed_X6_number rfl rfl rfl (by decide +kernel) ⟨Nat.le_of_ble_eq_true rfl, Nat.le_of_ble_eq_true rfl⟩) ([]) ([]) ((List.append_nil _).symm) (by rw [hv4]; exact List.append_nil _) (wR_fst E a _ _) (ci := 6) (q0 := 0) rfl rfl rfl rfl rfl (Nat.le_of_ble_eq_true rfl) dX6_readsDeed_160 ?_
      obtain ⟨v5, hv5⟩ : ∃ z_ : RV, z_ = R_setDVal v4 (nI ((R_num v3 9999).1)) := ⟨_, rfl⟩
      refine v_put (C := RX6) (T := TX6) (N := 18) (ci := 6) (v := .int (nI ((R_num v3 9999).1))) (ty := .int) (ws' := wR E a v5) hX in_X6 tyX6 tyX6_ok nmX6 0 rfl rfl 15 (by decide) fl_153 rfl rfl (by decide +kernel) (rfl) (rfl) (Nat.le_of_ble_eq_true rfl) dX6_readsDeed_163 (by rw [hv5]; exact sR_DVal E a v4 _) ?_
      exact v_vret hX hr hsz dX6_readsDeed_166 rfl rfl (by (subst hv5; subst hv4; subst hv3; rw [← hk0]; simp only [R_d5, c2t, if_true, if_false, reduceIte, Bool.false_eq_true, reduceCtorEq, decide_true, decide_false, Bool.and_true, Bool.and_false, Bool.true_and, Bool.false_and, Bool.or_true, Bool.or_false, Bool.true_or, Bool.false_or, not_true_eq_false, not_false_eq_true, Bool.not_true, Bool.not_false, eq_self, Nat.reduceEqDiff]))
  have cut_114 : ∀ (w : RV), R_d5 (R_d4 w) = R_deed v → V p l e ({ frames := 3, cells := 0, slots := 0, locals := 66 } : Room) s m args below meth c E 1 (va_A (wR E a v) sz) (MQ below (mQv E (wR E a v) (wR E a (R_deed v)) sz) args s 0 0 (va_A (wR E a v) sz)) (wR E a w) [.ref (a 0)] 114 [] := by
    intro w hk0
    refine v_aload_n hX dX6_readsDeed_114 rfl ?_
    refine v_get (C := RX6) (T := TX6) (N := 18) (ci := 6) (v := .int (nI (w.2.2.2.2.2.2.2.2.2.2.2.2.1).val)) hX in_X6 0 rfl rfl 12 (by decide) fl_138 rfl rfl dX6_readsDeed_115 ?_
    have hb7 := (w.2.2.2.2.2.2.2.2.2.2.2.2.1).isLt
    refine v_bipush (x := (102 : Int32)) hX dX6_readsDeed_118 (by decide) ?_
    refine v_icmp_eq (tgt := 140) hX dX6_readsDeed_120 (by decide) (fun c8 => ?_) (fun c8 => ?_)
    · replace c8 := (nI_eq (a := (w.2.2.2.2.2.2.2.2.2.2.2.2.1).val) (b := 102) (by omega) (by omega)).mp c8
      have c8t := eq_true c8
      exact cut_140 _ (by rw [← hk0]; simp only [R_d4, c8t, if_true, if_false, reduceIte, Bool.false_eq_true, reduceCtorEq, decide_true, decide_false, Bool.and_true, Bool.and_false, Bool.true_and, Bool.false_and, Bool.or_true, Bool.or_false, Bool.true_or, Bool.false_or, not_true_eq_false, not_false_eq_true, Bool.not_true, Bool.not_false, eq_self, Nat.reduceEqDiff])
    · replace c8 := (not_congr (nI_eq (a := (w.2.2.2.2.2.2.2.2.2.2.2.2.1).val) (b := 102) (by omega) (by omega))).mp c8
      refine v_aload_n hX dX6_readsDeed_123 rfl ?_
      refine v_bipush (x := (46 : Int32)) hX dX6_readsDeed_124 (by decide) ?_
      obtain ⟨v9, hv9⟩ : ∃ z_ : RV, z_ = R_needs w (46 : Int32) := ⟨_, rfl⟩
      refine v_callVv (rest := []) (ws' := wR E a v9) hX (fun sz => c_X6_needs l E a sz w (46 : Int32)) (cwV 1 hX.2.2.2.2.1 gX6_readsDeed_X6_needs rfl rfl rfl (by decide +kernel) ⟨Nat.le_of_ble_eq_true rfl, Nat.le_of_ble_eq_true rfl⟩) ([]) ([]) ((List.append_nil _).symm) (by rw [hv9]; exact List.append_nil _) (wR_fst E a _ _) (ci := 6) (q0 := 0) rfl rfl rfl rfl rfl (Nat.le_of_ble_eq_true rfl) dX6_readsDeed_126 ?_
      refine v_aload_n hX dX6_readsDeed_129 rfl ?_
      refine v_aload_n hX dX6_readsDeed_130 rfl ?_
      refine v_sipush (x := (255 : Int32)) hX dX6_readsDeed_131 (by decide) ?_
      obtain ⟨v10, hv10⟩ : ∃ z_ : RV, z_ = (R_num v9 255).2 := ⟨_, rfl⟩
      refine v_callVi (r := nI ((R_num v9 255).1)) (rest := [.ref (a 0)]) (ws' := wR E a v10) hX (fun sz => c_X6_number l E a sz v9 255 (by first | omega | exact Nat.le_of_ble_eq_true rfl)) (cwV 1 hX.2.2.2.2.1 gX6_readsDeed_X6_number rfl rfl rfl (by decide +kernel) ⟨Nat.le_of_ble_eq_true rfl, Nat.le_of_ble_eq_true rfl⟩) ([]) ([]) ((List.append_nil _).symm) (by rw [hv10]; exact List.append_nil _) (wR_fst E a _ _) (ci := 6) (q0 := 0) rfl rfl rfl rfl rfl (Nat.le_of_ble_eq_true rfl) dX6_readsDeed_134 ?_
      obtain ⟨v11, hv11⟩ : ∃ z_ : RV, z_ = R_setDLine v10 ((R_num v9 255).1) := ⟨_, rfl⟩
      refine v_put (C := RX6) (T := TX6) (N := 18) (ci := 6) (v := .int (nI ((R_num v9 255).1))) (ty := .int) (ws' := wR E a v11) hX in_X6 tyX6 tyX6_ok nmX6 0 rfl rfl 14 (by decide) fl_150 rfl rfl (by decide +kernel) (rfl) (rfl) (Nat.le_of_ble_eq_true rfl) dX6_readsDeed_137 (by rw [hv11]; exact sR_DLine E a v10 (x := (R_num v9 255).1) (Nat.lt_of_le_of_lt (R_num_le _ _) (by decide))) ?_
      exact cut_140 _ (by subst hv11; subst hv10; subst hv9; rw [← hk0]; simp only [R_d4, c8, if_true, if_false, reduceIte, Bool.false_eq_true, reduceCtorEq, decide_true, decide_false, Bool.and_true, Bool.and_false, Bool.true_and, Bool.false_and, Bool.or_true, Bool.or_false, Bool.true_or, Bool.false_or, not_true_eq_false, not_false_eq_true, Bool.not_true, Bool.not_false, eq_self, Nat.reduceEqDiff])
  have cut_84 : ∀ (w : RV), R_d5 (R_d4 (R_d3 w)) = R_deed v → (w.2.2.2.2.2.2.2.2.2.2.2.1 = false → w.2.2.2.2.2.2.2.2.2.2.1.val < 80) → V p l e ({ frames := 3, cells := 0, slots := 0, locals := 66 } : Room) s m args below meth c E 1 (va_A (wR E a v) sz) (MQ below (mQv E (wR E a v) (wR E a (R_deed v)) sz) args s 0 0 (va_A (wR E a v) sz)) (wR E a w) [.ref (a 0)] 84 [] := by
    intro w hk0 hk1
    refine v_aload_n hX dX6_readsDeed_84 rfl ?_
    refine v_dup hX dX6_readsDeed_85 rfl ?_
    refine v_get (C := RX6) (T := TX6) (N := 18) (ci := 6) (v := .int (nI (w.2.2.2.2.2.2.2.2.2.2.1.val))) hX in_X6 0 rfl rfl 10 (by decide) fl_132 rfl rfl dX6_readsDeed_86 ?_
    have hb13 := (w.2.2.2.2.2.2.2.2.2.2.1).isLt
    refine v_aload_n hX dX6_readsDeed_89 rfl ?_
    refine v_get (C := RX6) (T := TX6) (N := 18) (ci := 6) (v := .int (bI (w.2.2.2.2.2.2.2.2.2.2.2.1))) hX in_X6 0 rfl rfl 11 (by decide) fl_128 rfl rfl dX6_readsDeed_90 ?_
    refine v_if_eq (tgt := 100) hX dX6_readsDeed_93 (by decide) (fun c14 => ?_) (fun c14 => ?_)
    · replace c14 := bI_0.mp c14
      have hs80 := hk1 c14
      refine v_iconst (x := (1 : Int32)) hX dX6_readsDeed_100 (by decide) ?_
      refine v_iadd (z := nI (w.2.2.2.2.2.2.2.2.2.2.1.val + 1)) hX dX6_readsDeed_101 (nI_add w.2.2.2.2.2.2.2.2.2.2.1.val 1) ?_
      obtain ⟨v15, hv15⟩ : ∃ z_ : RV, z_ = R_setSpot w (w.2.2.2.2.2.2.2.2.2.2.1.val + 1) := ⟨_, rfl⟩
      refine v_put (C := RX6) (T := TX6) (N := 18) (ci := 6) (v := .int (nI (w.2.2.2.2.2.2.2.2.2.2.1.val + 1))) (ty := .int) (ws' := wR E a v15) hX in_X6 tyX6 tyX6_ok nmX6 0 rfl rfl 10 (by decide) fl_132 rfl rfl (by decide +kernel) (rfl) (rfl) (Nat.le_of_ble_eq_true rfl) dX6_readsDeed_102 (by rw [hv15]; exact sR_Spot E a w (x := w.2.2.2.2.2.2.2.2.2.2.1.val + 1) (by omega : w.2.2.2.2.2.2.2.2.2.2.1.val + 1 < 81)) ?_
      have hw16 : v15.2.2.2.2.2.2.2.2.2.2.2.1 = false := by rw [hv15]; exact c14
      refine v_aload_n hX dX6_readsDeed_105 rfl ?_
      refine v_aload_n hX dX6_readsDeed_106 rfl ?_
      refine v_iconst (x := (3 : Int32)) hX dX6_readsDeed_107 (by decide) ?_
      obtain ⟨v17, hv17⟩ : ∃ z_ : RV, z_ = (R_num v15 3).2 := ⟨_, rfl⟩
      refine v_callVi (r := nI ((R_num v15 3).1)) (rest := [.ref (a 0)]) (ws' := wR E a v17) hX (fun sz => c_X6_number l E a sz v15 3 (by first | omega | exact Nat.le_of_ble_eq_true rfl)) (cwV 1 hX.2.2.2.2.1 gX6_readsDeed_X6_number rfl rfl rfl (by decide +kernel) ⟨Nat.le_of_ble_eq_true rfl, Nat.le_of_ble_eq_true rfl⟩) ([]) ([]) ((List.append_nil _).symm) (by rw [hv17]; exact List.append_nil _) (wR_fst E a _ _) (ci := 6) (q0 := 0) rfl rfl rfl rfl rfl (Nat.le_of_ble_eq_true rfl) dX6_readsDeed_108 ?_
      obtain ⟨v18, hv18⟩ : ∃ z_ : RV, z_ = R_setDCore v17 ((R_num v15 3).1) := ⟨_, rfl⟩
      refine v_put (C := RX6) (T := TX6) (N := 18) (ci := 6) (v := .int (nI ((R_num v15 3).1))) (ty := .int) (ws' := wR E a v18) hX in_X6 tyX6 tyX6_ok nmX6 0 rfl rfl 13 (by decide) fl_144 rfl rfl (by decide +kernel) (rfl) (rfl) (Nat.le_of_ble_eq_true rfl) dX6_readsDeed_111 (by rw [hv18]; exact sR_DCore E a v17 (x := (R_num v15 3).1) (Nat.lt_of_le_of_lt (R_num_le _ _) (by decide))) ?_
      exact cut_114 _ (by subst hv18; subst hv17; subst hv15; rw [← hk0]; simp only [R_d3, R_d3s, c14, if_true, if_false, reduceIte, Bool.false_eq_true, reduceCtorEq, decide_true, decide_false, Bool.and_true, Bool.and_false, Bool.true_and, Bool.false_and, Bool.or_true, Bool.or_false, Bool.true_or, Bool.false_or, not_true_eq_false, not_false_eq_true, Bool.not_true, Bool.not_false, eq_self, Nat.reduceEqDiff])
    · replace c14 := bI_n0.mp c14
      refine v_iconst (x := (0 : Int32)) hX dX6_readsDeed_96 (by decide) ?_
      refine v_goto (tgt := 101) hX dX6_readsDeed_97 (by decide) ?_
      refine v_iadd (z := nI (w.2.2.2.2.2.2.2.2.2.2.1.val + 0)) hX dX6_readsDeed_101 (nI_add w.2.2.2.2.2.2.2.2.2.2.1.val 0) ?_
      obtain ⟨v20, hv20⟩ : ∃ z_ : RV, z_ = R_setSpot w (w.2.2.2.2.2.2.2.2.2.2.1.val + 0) := ⟨_, rfl⟩
      refine v_put (C := RX6) (T := TX6) (N := 18) (ci := 6) (v := .int (nI (w.2.2.2.2.2.2.2.2.2.2.1.val + 0))) (ty := .int) (ws' := wR E a v20) hX in_X6 tyX6 tyX6_ok nmX6 0 rfl rfl 10 (by decide) fl_132 rfl rfl (by decide +kernel) (rfl) (rfl) (Nat.le_of_ble_eq_true rfl) dX6_readsDeed_102 (by rw [hv20]; exact sR_Spot E a w (x := w.2.2.2.2.2.2.2.2.2.2.1.val + 0) (by omega : w.2.2.2.2.2.2.2.2.2.2.1.val + 0 < 81)) ?_
      have hw21 : v20.2.2.2.2.2.2.2.2.2.2.2.1 = true := by rw [hv20]; exact c14
      refine v_aload_n hX dX6_readsDeed_105 rfl ?_
      refine v_aload_n hX dX6_readsDeed_106 rfl ?_
      refine v_iconst (x := (3 : Int32)) hX dX6_readsDeed_107 (by decide) ?_
      obtain ⟨v22, hv22⟩ : ∃ z_ : RV, z_ = (R_num v20 3).2 := ⟨_, rfl⟩
      refine v_callVi (r := nI ((R_num v20 3).1)) (rest := [.ref (a 0)]) (ws' := wR E a v22) hX (fun sz => c_X6_number l E a sz v20 3 (by first | omega | exact Nat.le_of_ble_eq_true rfl)) (cwV 1 hX.2.2.2.2.1 gX6_readsDeed_X6_number rfl rfl rfl (by decide +kernel) ⟨Nat.le_of_ble_eq_true rfl, Nat.le_of_ble_eq_true rfl⟩) ([]) ([]) ((List.append_nil _).symm) (by rw [hv22]; exact List.append_nil _) (wR_fst E a _ _) (ci := 6) (q0 := 0) rfl rfl rfl rfl rfl (Nat.le_of_ble_eq_true rfl) dX6_readsDeed_108 ?_
      obtain ⟨v23, hv23⟩ : ∃ z_ : RV, z_ = R_setDCore v22 ((R_num v20 3).1) := ⟨_, rfl⟩
      refine v_put (C := RX6) (T := TX6) (N := 18) (ci := 6) (v := .int (nI ((R_num v20 3).1))) (ty := .int) (ws' := wR E a v23) hX in_X6 tyX6 tyX6_ok nmX6 0 rfl rfl 13 (by decide) fl_144 rfl rfl (by decide +kernel) (rfl) (rfl) (Nat.le_of_ble_eq_true rfl) dX6_readsDeed_111 (by rw [hv23]; exact sR_DCore E a v22 (x := (R_num v20 3).1) (Nat.lt_of_le_of_lt (R_num_le _ _) (by decide))) ?_
      exact cut_114 _ (by subst hv23; subst hv22; subst hv20; rw [← hk0]; simp only [R_d3, R_d3s, c14, if_true, if_false, reduceIte, Bool.false_eq_true, reduceCtorEq, decide_true, decide_false, Bool.and_true, Bool.and_false, Bool.true_and, Bool.false_and, Bool.or_true, Bool.or_false, Bool.true_or, Bool.false_or, not_true_eq_false, not_false_eq_true, Bool.not_true, Bool.not_false, eq_self, Nat.reduceEqDiff])
  have cut_61 : ∀ (w : RV), R_d5 (R_d4 (R_d3 (R_d2 w))) = R_deed v → (w.2.2.2.2.2.2.2.2.2.2.2.2.1.val ≠ 0 → w.2.2.2.2.2.2.2.2.2.2.1.val < 80) → V p l e ({ frames := 3, cells := 0, slots := 0, locals := 66 } : Room) s m args below meth c E 1 (va_A (wR E a v) sz) (MQ below (mQv E (wR E a v) (wR E a (R_deed v)) sz) args s 0 0 (va_A (wR E a v) sz)) (wR E a w) [.ref (a 0)] 61 [] := by
    intro w hk0 hk1
    refine v_aload_n hX dX6_readsDeed_61 rfl ?_
    refine v_aload_n hX dX6_readsDeed_62 rfl ?_
    refine v_get (C := RX6) (T := TX6) (N := 18) (ci := 6) (v := .int (bI (w.2.2.2.2.2.2.2.2.2.2.2.1))) hX in_X6 0 rfl rfl 11 (by decide) fl_128 rfl rfl dX6_readsDeed_63 ?_
    refine v_if_ne (tgt := 76) hX dX6_readsDeed_66 (by decide) (fun c25 => ?_) (fun c25 => ?_)
    · replace c25 := bI_n0.mp c25
      refine v_iconst (x := (1 : Int32)) hX dX6_readsDeed_76 (by decide) ?_
      refine v_goto (tgt := 81) hX dX6_readsDeed_77 (by decide) ?_
      obtain ⟨v26, hv26⟩ : ∃ z_ : RV, z_ = R_setWrong w (true) := ⟨_, rfl⟩
      refine v_put (C := RX6) (T := TX6) (N := 18) (ci := 6) (v := .int (bI (true))) (ty := .boolean) (ws' := wR E a v26) hX in_X6 tyX6 tyX6_ok nmX6 0 rfl rfl 11 (by decide) fl_128 rfl rfl (by decide +kernel) (bI_narrow _) (bI_fits _) (Nat.le_of_ble_eq_true rfl) dX6_readsDeed_81 (by rw [hv26]; exact sR_Wrong E a w (true)) ?_
      have hw27 : v26.2.2.2.2.2.2.2.2.2.2.2.1 = true := by rw [hv26]; rfl
      exact cut_84 _ (by subst hv26; rw [← hk0]; simp only [R_d2, c25, if_true, if_false, reduceIte, Bool.false_eq_true, reduceCtorEq, decide_true, decide_false, Bool.and_true, Bool.and_false, Bool.true_and, Bool.false_and, Bool.or_true, Bool.or_false, Bool.true_or, Bool.false_or, not_true_eq_false, not_false_eq_true, Bool.not_true, Bool.not_false, eq_self, Nat.reduceEqDiff]) (by intro hf; subst hv26; exact Bool.noConfusion (show true = false from hf))
    · replace c25 := bI_0.mp c25
      refine v_aload_n hX dX6_readsDeed_69 rfl ?_
      refine v_get (C := RX6) (T := TX6) (N := 18) (ci := 6) (v := .int (nI (w.2.2.2.2.2.2.2.2.2.2.2.2.1).val)) hX in_X6 0 rfl rfl 12 (by decide) fl_138 rfl rfl dX6_readsDeed_70 ?_
      have hb28 := (w.2.2.2.2.2.2.2.2.2.2.2.2.1).isLt
      refine v_if_ne (tgt := 80) hX dX6_readsDeed_73 (by decide) (fun c29 => ?_) (fun c29 => ?_)
      · replace c29 := (not_congr (nI_eq (a := (w.2.2.2.2.2.2.2.2.2.2.2.2.1).val) (b := 0) (by omega) (by omega))).mp c29
        refine v_iconst (x := (0 : Int32)) hX dX6_readsDeed_80 (by decide) ?_
        obtain ⟨v30, hv30⟩ : ∃ z_ : RV, z_ = R_setWrong w (false) := ⟨_, rfl⟩
        refine v_put (C := RX6) (T := TX6) (N := 18) (ci := 6) (v := .int (bI (false))) (ty := .boolean) (ws' := wR E a v30) hX in_X6 tyX6 tyX6_ok nmX6 0 rfl rfl 11 (by decide) fl_128 rfl rfl (by decide +kernel) (bI_narrow _) (bI_fits _) (Nat.le_of_ble_eq_true rfl) dX6_readsDeed_81 (by rw [hv30]; exact sR_Wrong E a w (false)) ?_
        have hw31 : v30.2.2.2.2.2.2.2.2.2.2.2.1 = false := by rw [hv30]; rfl
        exact cut_84 _ (by subst hv30; rw [← hk0]; simp only [R_d2, c25, c29, if_true, if_false, reduceIte, Bool.false_eq_true, reduceCtorEq, decide_true, decide_false, Bool.and_true, Bool.and_false, Bool.true_and, Bool.false_and, Bool.or_true, Bool.or_false, Bool.true_or, Bool.false_or, not_true_eq_false, not_false_eq_true, Bool.not_true, Bool.not_false, eq_self, Nat.reduceEqDiff]) (by intro hf; subst hv30; exact hk1 c29)
      · replace c29 := (nI_eq (a := (w.2.2.2.2.2.2.2.2.2.2.2.2.1).val) (b := 0) (by omega) (by omega)).mp c29
        have c29t := eq_true c29
        refine v_iconst (x := (1 : Int32)) hX dX6_readsDeed_76 (by decide) ?_
        refine v_goto (tgt := 81) hX dX6_readsDeed_77 (by decide) ?_
        obtain ⟨v32, hv32⟩ : ∃ z_ : RV, z_ = R_setWrong w (true) := ⟨_, rfl⟩
        refine v_put (C := RX6) (T := TX6) (N := 18) (ci := 6) (v := .int (bI (true))) (ty := .boolean) (ws' := wR E a v32) hX in_X6 tyX6 tyX6_ok nmX6 0 rfl rfl 11 (by decide) fl_128 rfl rfl (by decide +kernel) (bI_narrow _) (bI_fits _) (Nat.le_of_ble_eq_true rfl) dX6_readsDeed_81 (by rw [hv32]; exact sR_Wrong E a w (true)) ?_
        have hw33 : v32.2.2.2.2.2.2.2.2.2.2.2.1 = true := by rw [hv32]; rfl
        exact cut_84 _ (by subst hv32; rw [← hk0]; simp only [R_d2, c25, c29t, if_true, if_false, reduceIte, Bool.false_eq_true, reduceCtorEq, decide_true, decide_false, Bool.and_true, Bool.and_false, Bool.true_and, Bool.false_and, Bool.or_true, Bool.or_false, Bool.true_or, Bool.false_or, not_true_eq_false, not_false_eq_true, Bool.not_true, Bool.not_false, eq_self, Nat.reduceEqDiff]) (by intro hf; subst hv32; exact Bool.noConfusion (show true = false from hf))
  refine v_aload_n hX dX6_readsDeed_0 rfl ?_
  refine v_aload_n hX dX6_readsDeed_1 rfl ?_
  refine v_bipush (x := (114 : Int32)) hX dX6_readsDeed_2 (by decide) ?_
  refine v_bipush (x := (114 : Int32)) hX dX6_readsDeed_4 (by decide) ?_
  refine v_callVi (r := bI (R_next v (114 : Int32) (114 : Int32))) (rest := [.ref (a 0)]) (ws' := wR E a v) hX (fun sz => c_X6_isNext l E a sz v (114 : Int32) (114 : Int32)) (cwV 2 hX.2.2.2.2.1 gX6_readsDeed_X6_isNext rfl rfl rfl (by decide +kernel) ⟨Nat.le_of_ble_eq_true rfl, Nat.le_of_ble_eq_true rfl⟩) ([]) ([]) ((List.append_nil _).symm) ((List.append_nil _).symm).symm (wR_fst E a _ _) (ci := 6) (q0 := 0) rfl rfl rfl rfl rfl (Nat.le_of_ble_eq_true rfl) dX6_readsDeed_6 ?_
  refine v_if_ne (tgt := 45) hX dX6_readsDeed_9 (by decide) (fun c34 => ?_) (fun c34 => ?_)
  · replace c34 := bI_n0.mp c34
    have hnx := R_next_spec c34
    have hs80 : v.2.2.2.2.2.2.2.2.2.2.1.val < 80 := by omega
    refine v_aload_n hX dX6_readsDeed_45 rfl ?_
    refine v_get (C := RX6) (T := TX6) (N := 18) (ci := 6) (v := .ref (a 5)) hX in_X6 0 rfl rfl 6 (by decide) fl_22 rfl rfl dX6_readsDeed_46 ?_
    refine v_aload_n hX dX6_readsDeed_49 rfl ?_
    refine v_get (C := RX6) (T := TX6) (N := 18) (ci := 6) (v := .int (nI (v.2.2.2.2.2.2.2.2.2.2.1.val))) hX in_X6 0 rfl rfl 10 (by decide) fl_132 rfl rfl dX6_readsDeed_50 ?_
    have hb35 := (v.2.2.2.2.2.2.2.2.2.2.1).isLt
    refine v_iald (z := nI (v.2.2.2.2.2.2.1 (v.2.2.2.2.2.2.2.2.2.2.1.val)).val) hX 5 rfl (vp_in_nI (by omega : v.2.2.2.2.2.2.2.2.2.2.1.val < 80) (by omega)) (by simp only [nI_clamp (show v.2.2.2.2.2.2.2.2.2.2.1.val < 2 ^ 31 by omega)]) dX6_readsDeed_53 ?_
    have hb36 := (v.2.2.2.2.2.2.1 (v.2.2.2.2.2.2.2.2.2.2.1.val)).isLt
    refine v_goto (tgt := 58) hX dX6_readsDeed_54 (by decide) ?_
    obtain ⟨v37, hv37⟩ : ∃ z_ : RV, z_ = R_setLetter v ((v.2.2.2.2.2.2.1 (v.2.2.2.2.2.2.2.2.2.2.1.val)).val) := ⟨_, rfl⟩
    refine v_put (C := RX6) (T := TX6) (N := 18) (ci := 6) (v := .int (nI (v.2.2.2.2.2.2.1 (v.2.2.2.2.2.2.2.2.2.2.1.val)).val)) (ty := .int) (ws' := wR E a v37) hX in_X6 tyX6 tyX6_ok nmX6 0 rfl rfl 12 (by decide) fl_138 rfl rfl (by decide +kernel) (rfl) (rfl) (Nat.le_of_ble_eq_true rfl) dX6_readsDeed_58 (by rw [hv37]; exact sR_Letter E a v (x := (v.2.2.2.2.2.2.1 (v.2.2.2.2.2.2.2.2.2.2.1.val)).val) (by omega : (v.2.2.2.2.2.2.1 (v.2.2.2.2.2.2.2.2.2.2.1.val)).val < 65536)) ?_
    exact cut_61 _ (by subst hv37; simp only [R_deed, R_dL, c34, if_true, if_false, reduceIte, Bool.false_eq_true, reduceCtorEq, decide_true, decide_false, Bool.and_true, Bool.and_false, Bool.true_and, Bool.false_and, Bool.or_true, Bool.or_false, Bool.true_or, Bool.false_or, not_true_eq_false, not_false_eq_true, Bool.not_true, Bool.not_false, eq_self, Nat.reduceEqDiff]) (by subst hv37; intro _; exact hs80)
  · replace c34 := bI_0.mp c34
    refine v_aload_n hX dX6_readsDeed_12 rfl ?_
    refine v_bipush (x := (119 : Int32)) hX dX6_readsDeed_13 (by decide) ?_
    refine v_bipush (x := (119 : Int32)) hX dX6_readsDeed_15 (by decide) ?_
    refine v_callVi (r := bI (R_next v (119 : Int32) (119 : Int32))) (rest := [.ref (a 0)]) (ws' := wR E a v) hX (fun sz => c_X6_isNext l E a sz v (119 : Int32) (119 : Int32)) (cwV 2 hX.2.2.2.2.1 gX6_readsDeed_X6_isNext rfl rfl rfl (by decide +kernel) ⟨Nat.le_of_ble_eq_true rfl, Nat.le_of_ble_eq_true rfl⟩) ([]) ([]) ((List.append_nil _).symm) ((List.append_nil _).symm).symm (wR_fst E a _ _) (ci := 6) (q0 := 0) rfl rfl rfl rfl rfl (Nat.le_of_ble_eq_true rfl) dX6_readsDeed_17 ?_
    refine v_if_ne (tgt := 45) hX dX6_readsDeed_20 (by decide) (fun c39 => ?_) (fun c39 => ?_)
    · replace c39 := bI_n0.mp c39
      have hnx := R_next_spec c39
      have hs80 : v.2.2.2.2.2.2.2.2.2.2.1.val < 80 := by omega
      refine v_aload_n hX dX6_readsDeed_45 rfl ?_
      refine v_get (C := RX6) (T := TX6) (N := 18) (ci := 6) (v := .ref (a 5)) hX in_X6 0 rfl rfl 6 (by decide) fl_22 rfl rfl dX6_readsDeed_46 ?_
      refine v_aload_n hX dX6_readsDeed_49 rfl ?_
      refine v_get (C := RX6) (T := TX6) (N := 18) (ci := 6) (v := .int (nI (v.2.2.2.2.2.2.2.2.2.2.1.val))) hX in_X6 0 rfl rfl 10 (by decide) fl_132 rfl rfl dX6_readsDeed_50 ?_
      have hb40 := (v.2.2.2.2.2.2.2.2.2.2.1).isLt
      refine v_iald (z := nI (v.2.2.2.2.2.2.1 (v.2.2.2.2.2.2.2.2.2.2.1.val)).val) hX 5 rfl (vp_in_nI (by omega : v.2.2.2.2.2.2.2.2.2.2.1.val < 80) (by omega)) (by simp only [nI_clamp (show v.2.2.2.2.2.2.2.2.2.2.1.val < 2 ^ 31 by omega)]) dX6_readsDeed_53 ?_
      have hb41 := (v.2.2.2.2.2.2.1 (v.2.2.2.2.2.2.2.2.2.2.1.val)).isLt
      refine v_goto (tgt := 58) hX dX6_readsDeed_54 (by decide) ?_
      obtain ⟨v42, hv42⟩ : ∃ z_ : RV, z_ = R_setLetter v ((v.2.2.2.2.2.2.1 (v.2.2.2.2.2.2.2.2.2.2.1.val)).val) := ⟨_, rfl⟩
      refine v_put (C := RX6) (T := TX6) (N := 18) (ci := 6) (v := .int (nI (v.2.2.2.2.2.2.1 (v.2.2.2.2.2.2.2.2.2.2.1.val)).val)) (ty := .int) (ws' := wR E a v42) hX in_X6 tyX6 tyX6_ok nmX6 0 rfl rfl 12 (by decide) fl_138 rfl rfl (by decide +kernel) (rfl) (rfl) (Nat.le_of_ble_eq_true rfl) dX6_readsDeed_58 (by rw [hv42]; exact sR_Letter E a v (x := (v.2.2.2.2.2.2.1 (v.2.2.2.2.2.2.2.2.2.2.1.val)).val) (by omega : (v.2.2.2.2.2.2.1 (v.2.2.2.2.2.2.2.2.2.2.1.val)).val < 65536)) ?_
      exact cut_61 _ (by subst hv42; simp only [R_deed, R_dL, c34, c39, if_true, if_false, reduceIte, Bool.false_eq_true, reduceCtorEq, decide_true, decide_false, Bool.and_true, Bool.and_false, Bool.true_and, Bool.false_and, Bool.or_true, Bool.or_false, Bool.true_or, Bool.false_or, not_true_eq_false, not_false_eq_true, Bool.not_true, Bool.not_false, eq_self, Nat.reduceEqDiff]) (by subst hv42; intro _; exact hs80)
    · replace c39 := bI_0.mp c39
      refine v_aload_n hX dX6_readsDeed_23 rfl ?_
      refine v_bipush (x := (100 : Int32)) hX dX6_readsDeed_24 (by decide) ?_
      refine v_bipush (x := (100 : Int32)) hX dX6_readsDeed_26 (by decide) ?_
      refine v_callVi (r := bI (R_next v (100 : Int32) (100 : Int32))) (rest := [.ref (a 0)]) (ws' := wR E a v) hX (fun sz => c_X6_isNext l E a sz v (100 : Int32) (100 : Int32)) (cwV 2 hX.2.2.2.2.1 gX6_readsDeed_X6_isNext rfl rfl rfl (by decide +kernel) ⟨Nat.le_of_ble_eq_true rfl, Nat.le_of_ble_eq_true rfl⟩) ([]) ([]) ((List.append_nil _).symm) ((List.append_nil _).symm).symm (wR_fst E a _ _) (ci := 6) (q0 := 0) rfl rfl rfl rfl rfl (Nat.le_of_ble_eq_true rfl) dX6_readsDeed_28 ?_
      refine v_if_ne (tgt := 45) hX dX6_readsDeed_31 (by decide) (fun c44 => ?_) (fun c44 => ?_)
      · replace c44 := bI_n0.mp c44
        have hnx := R_next_spec c44
        have hs80 : v.2.2.2.2.2.2.2.2.2.2.1.val < 80 := by omega
        refine v_aload_n hX dX6_readsDeed_45 rfl ?_
        refine v_get (C := RX6) (T := TX6) (N := 18) (ci := 6) (v := .ref (a 5)) hX in_X6 0 rfl rfl 6 (by decide) fl_22 rfl rfl dX6_readsDeed_46 ?_
        refine v_aload_n hX dX6_readsDeed_49 rfl ?_
        refine v_get (C := RX6) (T := TX6) (N := 18) (ci := 6) (v := .int (nI (v.2.2.2.2.2.2.2.2.2.2.1.val))) hX in_X6 0 rfl rfl 10 (by decide) fl_132 rfl rfl dX6_readsDeed_50 ?_
        have hb45 := (v.2.2.2.2.2.2.2.2.2.2.1).isLt
        refine v_iald (z := nI (v.2.2.2.2.2.2.1 (v.2.2.2.2.2.2.2.2.2.2.1.val)).val) hX 5 rfl (vp_in_nI (by omega : v.2.2.2.2.2.2.2.2.2.2.1.val < 80) (by omega)) (by simp only [nI_clamp (show v.2.2.2.2.2.2.2.2.2.2.1.val < 2 ^ 31 by omega)]) dX6_readsDeed_53 ?_
        have hb46 := (v.2.2.2.2.2.2.1 (v.2.2.2.2.2.2.2.2.2.2.1.val)).isLt
        refine v_goto (tgt := 58) hX dX6_readsDeed_54 (by decide) ?_
        obtain ⟨v47, hv47⟩ : ∃ z_ : RV, z_ = R_setLetter v ((v.2.2.2.2.2.2.1 (v.2.2.2.2.2.2.2.2.2.2.1.val)).val) := ⟨_, rfl⟩
        refine v_put (C := RX6) (T := TX6) (N := 18) (ci := 6) (v := .int (nI (v.2.2.2.2.2.2.1 (v.2.2.2.2.2.2.2.2.2.2.1.val)).val)) (ty := .int) (ws' := wR E a v47) hX in_X6 tyX6 tyX6_ok nmX6 0 rfl rfl 12 (by decide) fl_138 rfl rfl (by decide +kernel) (rfl) (rfl) (Nat.le_of_ble_eq_true rfl) dX6_readsDeed_58 (by rw [hv47]; exact sR_Letter E a v (x := (v.2.2.2.2.2.2.1 (v.2.2.2.2.2.2.2.2.2.2.1.val)).val) (by omega : (v.2.2.2.2.2.2.1 (v.2.2.2.2.2.2.2.2.2.2.1.val)).val < 65536)) ?_
        exact cut_61 _ (by subst hv47; simp only [R_deed, R_dL, c34, c39, c44, if_true, if_false, reduceIte, Bool.false_eq_true, reduceCtorEq, decide_true, decide_false, Bool.and_true, Bool.and_false, Bool.true_and, Bool.false_and, Bool.or_true, Bool.or_false, Bool.true_or, Bool.false_or, not_true_eq_false, not_false_eq_true, Bool.not_true, Bool.not_false, eq_self, Nat.reduceEqDiff]) (by subst hv47; intro _; exact hs80)
      · replace c44 := bI_0.mp c44
        refine v_aload_n hX dX6_readsDeed_34 rfl ?_
        refine v_bipush (x := (102 : Int32)) hX dX6_readsDeed_35 (by decide) ?_
        refine v_bipush (x := (102 : Int32)) hX dX6_readsDeed_37 (by decide) ?_
        refine v_callVi (r := bI (R_next v (102 : Int32) (102 : Int32))) (rest := [.ref (a 0)]) (ws' := wR E a v) hX (fun sz => c_X6_isNext l E a sz v (102 : Int32) (102 : Int32)) (cwV 2 hX.2.2.2.2.1 gX6_readsDeed_X6_isNext rfl rfl rfl (by decide +kernel) ⟨Nat.le_of_ble_eq_true rfl, Nat.le_of_ble_eq_true rfl⟩) ([]) ([]) ((List.append_nil _).symm) ((List.append_nil _).symm).symm (wR_fst E a _ _) (ci := 6) (q0 := 0) rfl rfl rfl rfl rfl (Nat.le_of_ble_eq_true rfl) dX6_readsDeed_39 ?_
        refine v_if_eq (tgt := 57) hX dX6_readsDeed_42 (by decide) (fun c49 => ?_) (fun c49 => ?_)
        · replace c49 := bI_0.mp c49
          refine v_iconst (x := (0 : Int32)) hX dX6_readsDeed_57 (by decide) ?_
          obtain ⟨v50, hv50⟩ : ∃ z_ : RV, z_ = R_setLetter v (0) := ⟨_, rfl⟩
          refine v_put (C := RX6) (T := TX6) (N := 18) (ci := 6) (v := .int ((0 : Int32))) (ty := .int) (ws' := wR E a v50) hX in_X6 tyX6 tyX6_ok nmX6 0 rfl rfl 12 (by decide) fl_138 rfl rfl (by decide +kernel) (rfl) (rfl) (Nat.le_of_ble_eq_true rfl) dX6_readsDeed_58 (by rw [hv50]; exact sR_Letter E a v (x := 0) (by omega : 0 < 65536)) ?_
          exact cut_61 _ (by subst hv50; simp only [R_deed, R_dL, c34, c39, c44, c49, if_true, if_false, reduceIte, Bool.false_eq_true, reduceCtorEq, decide_true, decide_false, Bool.and_true, Bool.and_false, Bool.true_and, Bool.false_and, Bool.or_true, Bool.or_false, Bool.true_or, Bool.false_or, not_true_eq_false, not_false_eq_true, Bool.not_true, Bool.not_false, eq_self, Nat.reduceEqDiff]) (by subst hv50; intro hz; exact absurd rfl hz)
        · replace c49 := bI_n0.mp c49
          have hnx := R_next_spec c49
          have hs80 : v.2.2.2.2.2.2.2.2.2.2.1.val < 80 := by omega
          refine v_aload_n hX dX6_readsDeed_45 rfl ?_
          refine v_get (C := RX6) (T := TX6) (N := 18) (ci := 6) (v := .ref (a 5)) hX in_X6 0 rfl rfl 6 (by decide) fl_22 rfl rfl dX6_readsDeed_46 ?_
          refine v_aload_n hX dX6_readsDeed_49 rfl ?_
          refine v_get (C := RX6) (T := TX6) (N := 18) (ci := 6) (v := .int (nI (v.2.2.2.2.2.2.2.2.2.2.1.val))) hX in_X6 0 rfl rfl 10 (by decide) fl_132 rfl rfl dX6_readsDeed_50 ?_
          have hb52 := (v.2.2.2.2.2.2.2.2.2.2.1).isLt
          refine v_iald (z := nI (v.2.2.2.2.2.2.1 (v.2.2.2.2.2.2.2.2.2.2.1.val)).val) hX 5 rfl (vp_in_nI (by omega : v.2.2.2.2.2.2.2.2.2.2.1.val < 80) (by omega)) (by simp only [nI_clamp (show v.2.2.2.2.2.2.2.2.2.2.1.val < 2 ^ 31 by omega)]) dX6_readsDeed_53 ?_
          have hb53 := (v.2.2.2.2.2.2.1 (v.2.2.2.2.2.2.2.2.2.2.1.val)).isLt
          refine v_goto (tgt := 58) hX dX6_readsDeed_54 (by decide) ?_
          obtain ⟨v54, hv54⟩ : ∃ z_ : RV, z_ = R_setLetter v ((v.2.2.2.2.2.2.1 (v.2.2.2.2.2.2.2.2.2.2.1.val)).val) := ⟨_, rfl⟩
          refine v_put (C := RX6) (T := TX6) (N := 18) (ci := 6) (v := .int (nI (v.2.2.2.2.2.2.1 (v.2.2.2.2.2.2.2.2.2.2.1.val)).val)) (ty := .int) (ws' := wR E a v54) hX in_X6 tyX6 tyX6_ok nmX6 0 rfl rfl 12 (by decide) fl_138 rfl rfl (by decide +kernel) (rfl) (rfl) (Nat.le_of_ble_eq_true rfl) dX6_readsDeed_58 (by rw [hv54]; exact sR_Letter E a v (x := (v.2.2.2.2.2.2.1 (v.2.2.2.2.2.2.2.2.2.2.1.val)).val) (by omega : (v.2.2.2.2.2.2.1 (v.2.2.2.2.2.2.2.2.2.2.1.val)).val < 65536)) ?_
          exact cut_61 _ (by subst hv54; simp only [R_deed, R_dL, c34, c39, c44, c49, if_true, if_false, reduceIte, Bool.false_eq_true, reduceCtorEq, decide_true, decide_false, Bool.and_true, Bool.and_false, Bool.true_and, Bool.false_and, Bool.or_true, Bool.or_false, Bool.true_or, Bool.false_or, not_true_eq_false, not_false_eq_true, Bool.not_true, Bool.not_false, eq_self, Nat.reduceEqDiff]) (by subst hv54; intro _; exact hs80)
