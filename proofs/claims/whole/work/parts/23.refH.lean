/-! ===== rows that are copied int by int ===== -/
def mixF (i : Nat) (f g : Nat → Int32) : Nat → Int32 := fun j => if j < i then f j else g j
theorem mixF_0 (f g : Nat → Int32) : mixF 0 f g = g := by funext j; simp [mixF]
theorem mixF_st (f g : Nat → Int32) (i : Nat) : upd (mixF i f g) i (f i) = mixF (i + 1) f g := by
  funext j
  unfold mixF upd
  by_cases h : j = i
  · subst h; simp
  · rw [if_neg h]
    show (if j < i then f j else g j) = _
    by_cases h2 : j < i
    · rw [if_pos h2, if_pos (by omega)]
    · rw [if_neg h2, if_neg (by omega)]
theorem mixF_lt {f g : Nat → Int32} {n j : Nat} (h : j < n) : mixF n f g j = f j := by simp [mixF, h]
theorem weq_s (E : ET) (a : Nat → Nat) {rs rs2 : Nat → Int32} (ra rh rn : Nat → Int32) (x : RX) (h : ∀ j, j < 544 → rs j = rs2 j) : wEq (wR0 E a rs ra rh rn x) (wR0 E a rs2 ra rh rn x) := by simp only [wEq, wR0, List.map, cell_congr h]
theorem weq_a (E : ET) (a : Nat → Nat) (rs : Nat → Int32) {ra ra2 : Nat → Int32} (rh rn : Nat → Int32) (x : RX) (h : ∀ j, j < 544 → ra j = ra2 j) : wEq (wR0 E a rs ra rh rn x) (wR0 E a rs ra2 rh rn x) := by simp only [wEq, wR0, List.map, cell_congr h]
theorem weq_n (E : ET) (a : Nat → Nat) (rs ra rh : Nat → Int32) {rn rn2 : Nat → Int32} (x : RX) (h : ∀ j, j < 544 → rn j = rn2 j) : wEq (wR0 E a rs ra rh rn x) (wR0 E a rs ra rh rn2 x) := by simp only [wEq, wR0, List.map, cell_congr h]
def R_setA (v : RV) (m : MV) : RV := (v.1, m, v.2.2.1, v.2.2.2.1, v.2.2.2.2)
def R_setN (v : RV) (m : MV) : RV := (v.1, v.2.1, v.2.2.1, m, v.2.2.2.2)
def R_keep (v : RV) : RV := R_setKept (R_setN v v.1) true
set_option maxHeartbeats 4000000 in
set_option maxRecDepth 100000 in
theorem c_X6_putAside (l : Launch) (E : ET) (a : Nat → Nat) (sz : Nat) (v : RV) : Met l yX6_putAside wsX6_putAside ({ frames := 0, cells := 0, slots := 0, locals := 0 }) (mPc E [.ref (a 0)] sz (wR E a v)) (mQv E (wR E a v) (wR E a (R_setA v v.1)) sz) 0 0 (va_A (wR E a v) sz) := by
  refine v_start (cc := cX6_putAside) (maxL := 2) (ret := none) (by decide) rfl (Nat.le_of_ble_eq_true rfl) rfl ?_
  intro p e s m args below meth c hsz hr hX
  have hX : Xc p s m args meth c E 2 (va_A (wR E a v) sz) cX6_putAside RX6 wsX6_putAside := hX
  have in_X6 : ∀ w ∈ u_ws RX6 TX6 18, w ∈ wsX6_putAside := by decide +kernel
  have fl_13 : Cond.fieldLink RX6 13 RX6 "aside" "[I" ∈ wsX6_putAside := by decide +kernel
  have fl_7 : Cond.fieldLink RX6 7 RX6 "s" "[I" ∈ wsX6_putAside := by decide +kernel
  refine v_iconst (x := (0 : Int32)) hX dX6_putAside_0 (by decide) ?_
  refine v_istore_n (lv' := [.ref (a 0), .int ((0 : Int32))]) hX dX6_putAside_1 (Nat.le_of_ble_eq_true rfl) (Nat.le_of_ble_eq_true rfl) rfl rfl ?_
  have loop_2 : ∀ (fu i : Nat), i + fu = 544 → V p l e ({ frames := 0, cells := 0, slots := 0, locals := 0 } : Room) s m args below meth c E 2 (va_A (wR E a v) sz) (MQ below (mQv E (wR E a v) (wR E a (R_setA v v.1)) sz) args s 0 0 (va_A (wR E a v) sz)) (wR0 E a (encS v.1) (mixF (i) (encS v.1) (encS v.2.1)) (encH v.2.2.1) (encS v.2.2.2.1) (v.2.2.2.2)) [.ref (a 0), .int (nI (i))] 2 [] := by
    intro fu
    induction fu with
    | zero =>
      intro i  hin 
      have hi0 : i = 544 := by omega
      subst hi0
      refine v_iload_n hX dX6_putAside_2 rfl ?_
      refine v_sipush (x := (544 : Int32)) hX dX6_putAside_3 (by decide) ?_
      refine v_icmp_ge (tgt := 27) hX dX6_putAside_6 (by decide) (fun c1 => ?_) (fun c1 => ?_)
      · replace c1 := (nI_leI (a := 544) (b := 544) (by omega) (by omega)).mp c1
        refine v_weq (w2 := wR E a (R_setA v v.1)) (weq_a E a _ _ _ _ (fun j hj => mixF_lt hj)) ?_
        exact v_vret hX hr hsz dX6_putAside_27 rfl rfl (by (first | (simp only [c1, if_true, if_false, reduceIte, Bool.false_eq_true, reduceCtorEq, decide_true, decide_false, Bool.and_true, Bool.and_false, Bool.true_and, Bool.false_and, Bool.or_true, Bool.or_false, Bool.true_or, Bool.false_or, not_true_eq_false, not_false_eq_true, Bool.not_true, Bool.not_false, eq_self, Nat.reduceEqDiff]; done) | rfl | (simp only [c1, if_true, if_false, reduceIte, Bool.false_eq_true, reduceCtorEq, decide_true, decide_false, Bool.and_true, Bool.and_false, Bool.true_and, Bool.false_and, Bool.or_true, Bool.or_false, Bool.true_or, Bool.false_or, not_true_eq_false, not_false_eq_true, Bool.not_true, Bool.not_false, eq_self, Nat.reduceEqDiff]; rfl) | contradiction | (exfalso; omega)))
      · replace c1 := (not_congr (nI_leI (a := 544) (b := 544) (by omega) (by omega))).mp c1
        exfalso; omega
    | succ fu ih =>
      intro i  hin 
      refine v_iload_n hX dX6_putAside_2 rfl ?_
      refine v_sipush (x := (544 : Int32)) hX dX6_putAside_3 (by decide) ?_
      refine v_icmp_ge (tgt := 27) hX dX6_putAside_6 (by decide) (fun c2 => ?_) (fun c2 => ?_)
      · replace c2 := (nI_leI (a := 544) (b := i) (by omega) (by omega)).mp c2
        exfalso; omega
      · replace c2 := (not_congr (nI_leI (a := 544) (b := i) (by omega) (by omega))).mp c2
        refine v_aload_n hX dX6_putAside_9 rfl ?_
        refine v_get (C := RX6) (T := TX6) (N := 18) (ci := 6) (v := .ref (a 2)) hX in_X6 0 rfl rfl 1 (by decide) fl_13 rfl rfl dX6_putAside_10 ?_
        refine v_iload_n hX dX6_putAside_13 rfl ?_
        refine v_aload_n hX dX6_putAside_14 rfl ?_
        refine v_get (C := RX6) (T := TX6) (N := 18) (ci := 6) (v := .ref (a 1)) hX in_X6 0 rfl rfl 0 (by decide) fl_7 rfl rfl dX6_putAside_15 ?_
        refine v_iload_n hX dX6_putAside_18 rfl ?_
        refine v_iald (z := (encS v.1) (i)) hX 1 rfl (vp_in_nI (by omega : i < 544) (by omega)) (by simp only [nI_clamp (show i < 2 ^ 31 by omega)]) dX6_putAside_19 ?_
        refine v_iast (ws' := wR0 E a (encS v.1) (mixF (i + 1) (encS v.1) (encS v.2.1)) (encH v.2.2.1) (encS v.2.2.2.1) (v.2.2.2.2)) hX 2 rfl (vp_in_nI (by omega : i < 544) (by omega)) (by rw [nI_clamp (by omega)]; exact congrArg (fun z => wR0 E a (encS v.1) (z) (encH v.2.2.1) (encS v.2.2.2.1) (v.2.2.2.2)) (mixF_st _ _ i)) dX6_putAside_20 ?_
        refine v_iinc (y := nI (i + 1)) (lv' := [.ref (a 0), .int (nI (i + 1))]) hX dX6_putAside_21 rfl (nI_inc _) (Nat.le_of_ble_eq_true rfl) (Nat.le_of_ble_eq_true rfl) rfl rfl ?_
        refine v_goto (tgt := 2) hX dX6_putAside_24 (by decide) ?_
        exact ih (i + 1)  (by omega) 
  have hs0 := loop_2 544 0  (by omega) 
  rw [mixF_0] at hs0
  exact hs0
set_option maxHeartbeats 4000000 in
set_option maxRecDepth 100000 in
theorem c_X6_putBack (l : Launch) (E : ET) (a : Nat → Nat) (sz : Nat) (v : RV) : Met l yX6_putBack wsX6_putBack ({ frames := 0, cells := 0, slots := 0, locals := 0 }) (mPc E [.ref (a 0)] sz (wR E a v)) (mQv E (wR E a v) (wR E a (R_setS v v.2.1)) sz) 0 0 (va_A (wR E a v) sz) := by
  refine v_start (cc := cX6_putBack) (maxL := 2) (ret := none) (by decide) rfl (Nat.le_of_ble_eq_true rfl) rfl ?_
  intro p e s m args below meth c hsz hr hX
  have hX : Xc p s m args meth c E 2 (va_A (wR E a v) sz) cX6_putBack RX6 wsX6_putBack := hX
  have in_X6 : ∀ w ∈ u_ws RX6 TX6 18, w ∈ wsX6_putBack := by decide +kernel
  have fl_7 : Cond.fieldLink RX6 7 RX6 "s" "[I" ∈ wsX6_putBack := by decide +kernel
  have fl_13 : Cond.fieldLink RX6 13 RX6 "aside" "[I" ∈ wsX6_putBack := by decide +kernel
  refine v_iconst (x := (0 : Int32)) hX dX6_putBack_0 (by decide) ?_
  refine v_istore_n (lv' := [.ref (a 0), .int ((0 : Int32))]) hX dX6_putBack_1 (Nat.le_of_ble_eq_true rfl) (Nat.le_of_ble_eq_true rfl) rfl rfl ?_
  have loop_2 : ∀ (fu i : Nat), i + fu = 544 → V p l e ({ frames := 0, cells := 0, slots := 0, locals := 0 } : Room) s m args below meth c E 2 (va_A (wR E a v) sz) (MQ below (mQv E (wR E a v) (wR E a (R_setS v v.2.1)) sz) args s 0 0 (va_A (wR E a v) sz)) (wR0 E a (mixF (i) (encS v.2.1) (encS v.1)) (encS v.2.1) (encH v.2.2.1) (encS v.2.2.2.1) (v.2.2.2.2)) [.ref (a 0), .int (nI (i))] 2 [] := by
    intro fu
    induction fu with
    | zero =>
      intro i  hin 
      have hi0 : i = 544 := by omega
      subst hi0
      refine v_iload_n hX dX6_putBack_2 rfl ?_
      refine v_sipush (x := (544 : Int32)) hX dX6_putBack_3 (by decide) ?_
      refine v_icmp_ge (tgt := 27) hX dX6_putBack_6 (by decide) (fun c1 => ?_) (fun c1 => ?_)
      · replace c1 := (nI_leI (a := 544) (b := 544) (by omega) (by omega)).mp c1
        refine v_weq (w2 := wR E a (R_setS v v.2.1)) (weq_s E a _ _ _ _ (fun j hj => mixF_lt hj)) ?_
        exact v_vret hX hr hsz dX6_putBack_27 rfl rfl (by (first | (simp only [c1, if_true, if_false, reduceIte, Bool.false_eq_true, reduceCtorEq, decide_true, decide_false, Bool.and_true, Bool.and_false, Bool.true_and, Bool.false_and, Bool.or_true, Bool.or_false, Bool.true_or, Bool.false_or, not_true_eq_false, not_false_eq_true, Bool.not_true, Bool.not_false, eq_self, Nat.reduceEqDiff]; done) | rfl | (simp only [c1, if_true, if_false, reduceIte, Bool.false_eq_true, reduceCtorEq, decide_true, decide_false, Bool.and_true, Bool.and_false, Bool.true_and, Bool.false_and, Bool.or_true, Bool.or_false, Bool.true_or, Bool.false_or, not_true_eq_false, not_false_eq_true, Bool.not_true, Bool.not_false, eq_self, Nat.reduceEqDiff]; rfl) | contradiction | (exfalso; omega)))
      · replace c1 := (not_congr (nI_leI (a := 544) (b := 544) (by omega) (by omega))).mp c1
        exfalso; omega
    | succ fu ih =>
      intro i  hin 
      refine v_iload_n hX dX6_putBack_2 rfl ?_
      refine v_sipush (x := (544 : Int32)) hX dX6_putBack_3 (by decide) ?_
      refine v_icmp_ge (tgt := 27) hX dX6_putBack_6 (by decide) (fun c2 => ?_) (fun c2 => ?_)
      · replace c2 := (nI_leI (a := 544) (b := i) (by omega) (by omega)).mp c2
        exfalso; omega
      · replace c2 := (not_congr (nI_leI (a := 544) (b := i) (by omega) (by omega))).mp c2
        refine v_aload_n hX dX6_putBack_9 rfl ?_
        refine v_get (C := RX6) (T := TX6) (N := 18) (ci := 6) (v := .ref (a 1)) hX in_X6 0 rfl rfl 0 (by decide) fl_7 rfl rfl dX6_putBack_10 ?_
        refine v_iload_n hX dX6_putBack_13 rfl ?_
        refine v_aload_n hX dX6_putBack_14 rfl ?_
        refine v_get (C := RX6) (T := TX6) (N := 18) (ci := 6) (v := .ref (a 2)) hX in_X6 0 rfl rfl 1 (by decide) fl_13 rfl rfl dX6_putBack_15 ?_
        refine v_iload_n hX dX6_putBack_18 rfl ?_
        refine v_iald (z := (encS v.2.1) (i)) hX 2 rfl (vp_in_nI (by omega : i < 544) (by omega)) (by simp only [nI_clamp (show i < 2 ^ 31 by omega)]) dX6_putBack_19 ?_
        refine v_iast (ws' := wR0 E a (mixF (i + 1) (encS v.2.1) (encS v.1)) (encS v.2.1) (encH v.2.2.1) (encS v.2.2.2.1) (v.2.2.2.2)) hX 1 rfl (vp_in_nI (by omega : i < 544) (by omega)) (by rw [nI_clamp (by omega)]; exact congrArg (fun z => wR0 E a (z) (encS v.2.1) (encH v.2.2.1) (encS v.2.2.2.1) (v.2.2.2.2)) (mixF_st _ _ i)) dX6_putBack_20 ?_
        refine v_iinc (y := nI (i + 1)) (lv' := [.ref (a 0), .int (nI (i + 1))]) hX dX6_putBack_21 rfl (nI_inc _) (Nat.le_of_ble_eq_true rfl) (Nat.le_of_ble_eq_true rfl) rfl rfl ?_
        refine v_goto (tgt := 2) hX dX6_putBack_24 (by decide) ?_
        exact ih (i + 1)  (by omega) 
  have hs0 := loop_2 544 0  (by omega) 
  rw [mixF_0] at hs0
  exact hs0
set_option maxHeartbeats 4000000 in
set_option maxRecDepth 100000 in
theorem c_X6_keep (l : Launch) (E : ET) (a : Nat → Nat) (sz : Nat) (v : RV) : Met l yX6_keep wsX6_keep ({ frames := 2, cells := 0, slots := 0, locals := 43 }) (mPc E [.ref (a 0)] sz (wR E a v)) (mQi E (Q_all v.1) (wR E a v) (wR E a (R_keep v)) sz) 0 0 (va_A (wR E a v) sz) := by
  refine v_start (cc := cX6_keep) (maxL := 2) (ret := (some .int)) (by decide) rfl (Nat.le_of_ble_eq_true rfl) rfl ?_
  intro p e s m args below meth c hsz hr hX
  have hX : Xc p s m args meth c E 2 (va_A (wR E a v) sz) cX6_keep RX6 wsX6_keep := hX
  have in_X6 : ∀ w ∈ u_ws RX6 TX6 18, w ∈ wsX6_keep := by decide +kernel
  have fl_182 : Cond.fieldLink RX6 182 RX6 "isKept" "Z" ∈ wsX6_keep := by decide +kernel
  have fl_19 : Cond.fieldLink RX6 19 RX6 "snapshot" "[I" ∈ wsX6_keep := by decide +kernel
  have fl_7 : Cond.fieldLink RX6 7 RX6 "s" "[I" ∈ wsX6_keep := by decide +kernel
  refine v_iconst (x := (0 : Int32)) hX dX6_keep_0 (by decide) ?_
  refine v_istore_n (lv' := [.ref (a 0), .int ((0 : Int32))]) hX dX6_keep_1 (Nat.le_of_ble_eq_true rfl) (Nat.le_of_ble_eq_true rfl) rfl rfl ?_
  have loop_2 : ∀ (fu i : Nat), i + fu = 544 → V p l e ({ frames := 2, cells := 0, slots := 0, locals := 43 } : Room) s m args below meth c E 2 (va_A (wR E a v) sz) (MQ below (mQi E (Q_all v.1) (wR E a v) (wR E a (R_keep v)) sz) args s 0 0 (va_A (wR E a v) sz)) (wR0 E a (encS v.1) (encS v.2.1) (encH v.2.2.1) (mixF (i) (encS v.1) (encS v.2.2.2.1)) (v.2.2.2.2)) [.ref (a 0), .int (nI (i))] 2 [] := by
    intro fu
    induction fu with
    | zero =>
      intro i  hin 
      have hi0 : i = 544 := by omega
      subst hi0
      refine v_iload_n hX dX6_keep_2 rfl ?_
      refine v_sipush (x := (544 : Int32)) hX dX6_keep_3 (by decide) ?_
      refine v_icmp_ge (tgt := 27) hX dX6_keep_6 (by decide) (fun c1 => ?_) (fun c1 => ?_)
      · replace c1 := (nI_leI (a := 544) (b := 544) (by omega) (by omega)).mp c1
        refine v_weq (w2 := wR E a (R_setN v v.1)) (weq_n E a _ _ _ _ (fun j hj => mixF_lt hj)) ?_
        refine v_aload_n hX dX6_keep_27 rfl ?_
        refine v_iconst (x := (1 : Int32)) hX dX6_keep_28 (by decide) ?_
        obtain ⟨v2, hv2⟩ : ∃ z_ : RV, z_ = R_setKept (R_setN v v.1) (true) := ⟨_, rfl⟩
        refine v_put (C := RX6) (T := TX6) (N := 18) (ci := 6) (v := .int (bI (true))) (ty := .boolean) (ws' := wR E a v2) hX in_X6 tyX6 tyX6_ok nmX6 0 rfl rfl 5 (by decide) fl_182 rfl rfl (by decide +kernel) (bI_narrow _) (bI_fits _) (Nat.le_of_ble_eq_true rfl) dX6_keep_29 (by rw [hv2]; exact sR_Kept E a (R_setN v v.1) (true)) ?_
        refine v_aload_n hX dX6_keep_32 rfl ?_
        refine v_callVi (r := Q_all v2.1) (rest := []) (ws' := wR E a v2) hX (fun sz => c_X6_lines l E a sz v2 ) (cwV 0 hX.2.2.2.2.1 gX6_keep_X6_lines rfl rfl rfl (by decide +kernel) ⟨Nat.le_of_ble_eq_true rfl, Nat.le_of_ble_eq_true rfl⟩) ([]) ([]) ((List.append_nil _).symm) ((List.append_nil _).symm).symm (wR_fst E a _ _) (ci := 6) (q0 := 0) rfl rfl rfl rfl rfl (Nat.le_of_ble_eq_true rfl) dX6_keep_33 ?_
        exact v_iret hX hr hsz dX6_keep_36 rfl rfl (by (subst hv2; first | (simp only [R_keep, c1, if_true, if_false, reduceIte, Bool.false_eq_true, reduceCtorEq, decide_true, decide_false, Bool.and_true, Bool.and_false, Bool.true_and, Bool.false_and, Bool.or_true, Bool.or_false, Bool.true_or, Bool.false_or, not_true_eq_false, not_false_eq_true, Bool.not_true, Bool.not_false, eq_self, Nat.reduceEqDiff]; done) | rfl | (simp only [R_keep, c1, if_true, if_false, reduceIte, Bool.false_eq_true, reduceCtorEq, decide_true, decide_false, Bool.and_true, Bool.and_false, Bool.true_and, Bool.false_and, Bool.or_true, Bool.or_false, Bool.true_or, Bool.false_or, not_true_eq_false, not_false_eq_true, Bool.not_true, Bool.not_false, eq_self, Nat.reduceEqDiff]; rfl) | contradiction | (exfalso; omega))) (by (subst hv2; first | (simp only [R_keep, c1, if_true, if_false, reduceIte, Bool.false_eq_true, reduceCtorEq, decide_true, decide_false, Bool.and_true, Bool.and_false, Bool.true_and, Bool.false_and, Bool.or_true, Bool.or_false, Bool.true_or, Bool.false_or, not_true_eq_false, not_false_eq_true, Bool.not_true, Bool.not_false, eq_self, Nat.reduceEqDiff]; done) | rfl | (simp only [R_keep, c1, if_true, if_false, reduceIte, Bool.false_eq_true, reduceCtorEq, decide_true, decide_false, Bool.and_true, Bool.and_false, Bool.true_and, Bool.false_and, Bool.or_true, Bool.or_false, Bool.true_or, Bool.false_or, not_true_eq_false, not_false_eq_true, Bool.not_true, Bool.not_false, eq_self, Nat.reduceEqDiff]; rfl) | contradiction | (exfalso; omega)))
      · replace c1 := (not_congr (nI_leI (a := 544) (b := 544) (by omega) (by omega))).mp c1
        exfalso; omega
    | succ fu ih =>
      intro i  hin 
      refine v_iload_n hX dX6_keep_2 rfl ?_
      refine v_sipush (x := (544 : Int32)) hX dX6_keep_3 (by decide) ?_
      refine v_icmp_ge (tgt := 27) hX dX6_keep_6 (by decide) (fun c4 => ?_) (fun c4 => ?_)
      · replace c4 := (nI_leI (a := 544) (b := i) (by omega) (by omega)).mp c4
        exfalso; omega
      · replace c4 := (not_congr (nI_leI (a := 544) (b := i) (by omega) (by omega))).mp c4
        refine v_aload_n hX dX6_keep_9 rfl ?_
        refine v_get (C := RX6) (T := TX6) (N := 18) (ci := 6) (v := .ref (a 4)) hX in_X6 0 rfl rfl 4 (by decide) fl_19 rfl rfl dX6_keep_10 ?_
        refine v_iload_n hX dX6_keep_13 rfl ?_
        refine v_aload_n hX dX6_keep_14 rfl ?_
        refine v_get (C := RX6) (T := TX6) (N := 18) (ci := 6) (v := .ref (a 1)) hX in_X6 0 rfl rfl 0 (by decide) fl_7 rfl rfl dX6_keep_15 ?_
        refine v_iload_n hX dX6_keep_18 rfl ?_
        refine v_iald (z := (encS v.1) (i)) hX 1 rfl (vp_in_nI (by omega : i < 544) (by omega)) (by simp only [nI_clamp (show i < 2 ^ 31 by omega)]) dX6_keep_19 ?_
        refine v_iast (ws' := wR0 E a (encS v.1) (encS v.2.1) (encH v.2.2.1) (mixF (i + 1) (encS v.1) (encS v.2.2.2.1)) (v.2.2.2.2)) hX 4 rfl (vp_in_nI (by omega : i < 544) (by omega)) (by rw [nI_clamp (by omega)]; exact congrArg (fun z => wR0 E a (encS v.1) (encS v.2.1) (encH v.2.2.1) (z) (v.2.2.2.2)) (mixF_st _ _ i)) dX6_keep_20 ?_
        refine v_iinc (y := nI (i + 1)) (lv' := [.ref (a 0), .int (nI (i + 1))]) hX dX6_keep_21 rfl (nI_inc _) (Nat.le_of_ble_eq_true rfl) (Nat.le_of_ble_eq_true rfl) rfl rfl ?_
        refine v_goto (tgt := 2) hX dX6_keep_24 (by decide) ?_
        exact ih (i + 1)  (by omega) 
  have hs0 := loop_2 544 0  (by omega) 
  rw [mixF_0] at hs0
  exact hs0
