/-! ===== the reference: its history, its public methods, third part ===== -/
theorem mixF_at (f g : Nat → Int32) (i : Nat) : mixF i f g i = g i := by simp [mixF]
theorem mixF_ge {f g : Nat → Int32} {i j : Nat} (h : i ≤ j) : mixF i f g j = g j := by
  show (if j < i then f j else g j) = g j
  rw [if_neg (by omega)]
def mixH (i k : Nat) (f g : Nat → Int32) : Nat → Int32 := fun j => if k ≤ j ∧ j < k + i then f (j - k) else g j
theorem mixH_0 (k : Nat) (f g : Nat → Int32) : mixH 0 k f g = g := by
  funext j
  show (if k ≤ j ∧ j < k + 0 then f (j - k) else g j) = g j
  rw [if_neg (by omega)]
theorem mixH_st (f g : Nat → Int32) (k i : Nat) : upd (mixH i k f g) (k + i) (f i) = mixH (i + 1) k f g := by
  funext j
  unfold mixH upd
  by_cases h : j = k + i
  · subst h
    rw [if_pos rfl, if_pos (by omega)]
    congr 1
    omega
  · rw [if_neg h]
    show (if k ≤ j ∧ j < k + i then f (j - k) else g j) = _
    by_cases h2 : k ≤ j ∧ j < k + i
    · rw [if_pos h2, if_pos (by omega)]
    · rw [if_neg h2, if_neg (by omega)]
theorem weq_h (E : ET) (a : Nat → Nat) (rs ra : Nat → Int32) {rh rh2 : Nat → Int32} (rn : Nat → Int32) (x : RX) (h : ∀ j, j < 2176 → rh j = rh2 j) : wEq (wR0 E a rs ra rh rn x) (wR0 E a rs ra rh2 rn x) := by simp only [wEq, wR0, List.map, cell_congr h]
theorem weq_sa (E : ET) (a : Nat → Nat) {rs rs2 ra ra2 : Nat → Int32} (rh rn : Nat → Int32) (x : RX) (h : ∀ j, j < 544 → rs j = rs2 j) (h2 : ∀ j, j < 544 → ra j = ra2 j) : wEq (wR0 E a rs ra rh rn x) (wR0 E a rs2 ra2 rh rn x) := by simp only [wEq, wR0, List.map, cell_congr h, cell_congr h2]
def R_setH (v : RV) (h : Nat → MV) : RV := (v.1, v.2.1, h, v.2.2.2.1, v.2.2.2.2)
def R_sh (h : Nat → MV) : Nat → MV := fun k => if k < 3 then h (k + 1) else h k
theorem shH (h : Nat → MV) (j : Nat) : mixF 1632 (fun j => encH h (j + 544)) (encH h) j = encH (R_sh h) j := by
  show (if j < 1632 then encH h (j + 544) else encH h j) = encH (R_sh h) j
  unfold encH R_sh
  by_cases hj : j < 1632
  · rw [if_pos hj, if_pos (by omega), show (j + 544) / 544 = j / 544 + 1 by omega, show (j + 544) % 544 = j % 544 by omega]
  · rw [if_neg hj, if_neg (by omega)]
theorem reH (h : Nat → MV) (m : MV) (k j : Nat) : mixH 544 (544 * k) (encS m) (encH h) j = encH (va_up h k m) j := by
  show (if 544 * k ≤ j ∧ j < 544 * k + 544 then encS m (j - 544 * k) else encH h j) = encH (va_up h k m) j
  unfold encH va_up
  by_cases hj : 544 * k ≤ j ∧ j < 544 * k + 544
  · have e1 : j / 544 = k := by omega
    have e2 : j % 544 = j - 544 * k := by omega
    rw [if_pos hj, e1, if_pos rfl, e2]
  · have e1 : ¬ j / 544 = k := by omega
    rw [if_neg hj, if_neg e1]
theorem unH (h : Nat → MV) (g : Nat → Int32) (k : Nat) {j : Nat} (hj : j < 544) : mixF 544 (fun j => encH h (544 * k + j)) g j = encS (h k) j := by
  rw [mixF_lt hj]
  show encS (h ((544 * k + j) / 544)) ((544 * k + j) % 544) = encS (h k) j
  rw [show (544 * k + j) / 544 = k by omega, show (544 * k + j) % 544 = j by omega]
def R_rec1 (v : RV) : RV := if v.2.2.2.2.1.val = 4 then R_setKnown (R_setH v (R_sh v.2.2.1)) ((R_setH v (R_sh v.2.2.1)).2.2.2.2.1.val - 1) else v
def R_rec2 (w : RV) : RV := R_setKnown (R_setH w (va_up w.2.2.1 w.2.2.2.2.1.val w.1)) ((R_setH w (va_up w.2.2.1 w.2.2.2.2.1.val w.1)).2.2.2.2.1.val + 1)
def R_rec (v : RV) : RV := R_rec2 (R_rec1 v)
def R_un (v : RV) : RV := R_setKnown v (v.2.2.2.2.1.val - 1)
def R_undo (v : RV) : Int32 × RV := if v.2.2.2.2.1.val = 0 then (-5, v) else (nI (R_un v).2.2.2.2.1.val, R_setS (R_un v) ((R_un v).2.2.1 (R_un v).2.2.2.2.1.val))
def R_restore (v : RV) : Int32 × RV := if v.2.2.2.2.2.1 = true then (Q_all (R_rec v).2.2.2.1, R_setS (R_rec v) (R_rec v).2.2.2.1) else (-5, v)
def R_try (v : RV) : RV := (R_prog (R_setA (R_prog v false).1 (R_prog v false).1.1) true).1
def R_sw (w : RV) : RV := R_setA (R_setS w w.2.1) w.1
def R_back (w : RV) : RV := R_setS w w.2.1
def R_perform (v : RV) : Int32 × RV := if R_progA (R_prog v false).1 = -5 then
    (if (R_try v).2.2.2.2.2.2.2.2.2.2.2.2.2.2.2.2.2 = -5 then ((R_try v).2.2.2.2.2.2.2.2.2.2.2.2.2.2.2.2.1, R_back (R_rec (R_sw (R_try v)))) else (-4, R_setStopE (R_setStop (R_sw (R_try v)) (R_try v).2.2.2.2.2.2.2.2.2.2.2.2.2.2.2.2.2) (-4)))
  else (-100 - R_progA (R_prog v false).1, (R_prog v false).1)
def R_read (v : RV) (c l : Int32) : Int32 × RV := if S_within c 0 3 = true then if S_within l 0 255 = true then ((Q_reads (R_rec v).1 (cN c) (lF l)).2, R_setS (R_rec v) (Q_reads (R_rec v).1 (cN c) (lF l)).1) else (-1, v) else (-1, v)
def R_write (v : RV) (c l x : Int32) : Int32 × RV := if S_within c 0 3 = true then if S_within l 0 255 = true then if S_within x 0 9999 = true then ((Q_writes (R_rec v).1 (cN c) (lF l) x).2, R_setS (R_rec v) (Q_writes (R_rec v).1 (cN c) (lF l) x).1) else (-2, v) else (-1, v) else (-1, v)
def R_drop (v : RV) (c l : Int32) : Int32 × RV := if S_within c 0 3 = true then if S_within l 0 255 = true then if Q_holds v.1 (cN c) (lF l) = true then ((Q_drops (R_rec v).1 (cN c) (lF l)).2, R_setS (R_rec v) (Q_drops (R_rec v).1 (cN c) (lF l)).1) else (-4, v) else (-1, v) else (-1, v)
def R_forget (v : RV) (c : Int32) : Int32 × RV := if S_within c 0 3 = true then if Q_empty v.1 (cN c) = true then (-5, v) else ((Q_fg (R_rec v).1 (cN c) none).2, R_setS (R_rec v) (Q_fg (R_rec v).1 (cN c) none).1) else (-1, v)
def R_set (v : RV) (w x : Int32) : Int32 × RV := if S_within w 0 1 = true then
    if S_within x 1 (if w = 0 then 9 else 24) = true then
      if cN w = 0 then (if v.1.2.2.1 = x then (-5, v) else (v.1.2.2.1, R_setS (R_rec v) (M_setLim (R_rec v).1 x)))
      else (if v.1.2.2.2.1 = x then (-5, v) else (v.1.2.2.2.1, R_setS (R_rec v) (M_setFull (R_rec v).1 x)))
    else (-2, v)
  else (-1, v)
def R_had (m : MV) (k : Nat) : Int32 := if k = 2 then m.2.2.2.2.1 else if k = 3 then Q_sum m 5 else Q_sum m (2 + k)
def R_tr (v : RV) (c l : Int32) (b : Bool) : MV := if b = true then (Q_writes (R_setA v v.1).1 (cN c) (lF l) 0).1 else (Q_reads (R_setA v v.1).1 (cN c) (lF l)).1
def R_cost (v : RV) (c l : Int32) (b : Bool) (w : Int32) : Int32 × RV := if S_within c 0 3 = true then if S_within l 0 255 = true then if S_within w 0 3 = true then
    (R_had (R_tr v c l b) (cN w) - R_had (R_setA v v.1).1 (cN w), R_back (R_setS (R_setA v v.1) (R_tr v c l b)))
  else (-2, v) else (-1, v) else (-1, v)
set_option maxHeartbeats 4000000 in
set_option maxRecDepth 100000 in
theorem c_X6_record (l : Launch) (E : ET) (a : Nat → Nat) (sz : Nat) (v : RV) : Met l yX6_record wsX6_record ({ frames := 0, cells := 0, slots := 0, locals := 0 }) (mPc E [.ref (a 0)] sz (wR E a v)) (mQv E (wR E a v) (wR E a (R_rec v)) sz) 0 0 (va_A (wR E a v) sz) := by
  refine v_start (cc := cX6_record) (maxL := 2) (ret := none) (by decide) rfl (Nat.le_of_ble_eq_true rfl) rfl ?_
  intro p e s m args below meth c hsz hr hX
  have hX : Xc p s m args meth c E 2 (va_A (wR E a v) sz) cX6_record RX6 wsX6_record := hX
  have in_X6 : ∀ w ∈ u_ws RX6 TX6 18, w ∈ wsX6_record := by decide +kernel
  have fl_33 : Cond.fieldLink RX6 33 RX6 "known" "I" ∈ wsX6_record := by decide +kernel
  have fl_16 : Cond.fieldLink RX6 16 RX6 "history" "[I" ∈ wsX6_record := by decide +kernel
  have fl_7 : Cond.fieldLink RX6 7 RX6 "s" "[I" ∈ wsX6_record := by decide +kernel
  have cut_49 : ∀ (w : RV), R_rec2 w = R_rec v → w.2.2.2.2.1.val < 4 → V p l e ({ frames := 0, cells := 0, slots := 0, locals := 0 } : Room) s m args below meth c E 2 (va_A (wR E a v) sz) (MQ below (mQv E (wR E a v) (wR E a (R_rec v)) sz) args s 0 0 (va_A (wR E a v) sz)) (wR E a w) [.ref (a 0)] 49 [] := by
    intro w hk0 hk1
    refine v_iconst (x := (0 : Int32)) hX dX6_record_49 (by decide) ?_
    refine v_istore_n (lv' := [.ref (a 0), .int ((0 : Int32))]) hX dX6_record_50 (Nat.le_of_ble_eq_true rfl) (Nat.le_of_ble_eq_true rfl) rfl rfl ?_
    have loop_51 : ∀ (fu i : Nat), i + fu = 544 → V p l e ({ frames := 0, cells := 0, slots := 0, locals := 0 } : Room) s m args below meth c E 2 (va_A (wR E a v) sz) (MQ below (mQv E (wR E a v) (wR E a (R_rec v)) sz) args s 0 0 (va_A (wR E a v) sz)) (wR0 E a (encS w.1) (encS w.2.1) (mixH (i) (544 * w.2.2.2.2.1.val) (encS w.1) (encH w.2.2.1)) (encS w.2.2.2.1) (w.2.2.2.2)) [.ref (a 0), .int (nI (i))] 51 [] := by
      intro fu
      induction fu with
      | zero =>
        intro i  hin 
        have hi0 : i = 544 := by omega
        subst hi0
        refine v_iload_n hX dX6_record_51 rfl ?_
        refine v_sipush (x := (544 : Int32)) hX dX6_record_52 (by decide) ?_
        refine v_icmp_ge (tgt := 85) hX dX6_record_55 (by decide) (fun c1 => ?_) (fun c1 => ?_)
        · replace c1 := (nI_leI (a := 544) (b := 544) (by omega) (by omega)).mp c1
          refine v_weq (w2 := wR E a (R_setH w (va_up w.2.2.1 w.2.2.2.2.1.val w.1))) (weq_h E a _ _ _ _ (fun j _ => reH _ _ _ j)) ?_
          have hxk : (R_setH w (va_up w.2.2.1 w.2.2.2.2.1.val w.1)).2.2.2.2.1.val = w.2.2.2.2.1.val := rfl
          refine v_aload_n hX dX6_record_85 rfl ?_
          refine v_dup hX dX6_record_86 rfl ?_
          refine v_get (C := RX6) (T := TX6) (N := 18) (ci := 6) (v := .int (nI ((R_setH w (va_up w.2.2.1 w.2.2.2.2.1.val w.1)).2.2.2.2.1.val))) hX in_X6 0 rfl rfl 3 (by decide) fl_33 rfl rfl dX6_record_87 ?_
          have hb2 := ((R_setH w (va_up w.2.2.1 w.2.2.2.2.1.val w.1)).2.2.2.2.1).isLt
          refine v_iconst (x := (1 : Int32)) hX dX6_record_90 (by decide) ?_
          refine v_iadd (z := nI (((R_setH w (va_up w.2.2.1 w.2.2.2.2.1.val w.1)).2.2.2.2.1.val) + 1)) hX dX6_record_91 (nI_add ((R_setH w (va_up w.2.2.1 w.2.2.2.2.1.val w.1)).2.2.2.2.1.val) 1) ?_
          obtain ⟨v3, hv3⟩ : ∃ z_ : RV, z_ = R_setKnown (R_setH w (va_up w.2.2.1 w.2.2.2.2.1.val w.1)) (((R_setH w (va_up w.2.2.1 w.2.2.2.2.1.val w.1)).2.2.2.2.1.val) + 1) := ⟨_, rfl⟩
          refine v_put (C := RX6) (T := TX6) (N := 18) (ci := 6) (v := .int (nI (((R_setH w (va_up w.2.2.1 w.2.2.2.2.1.val w.1)).2.2.2.2.1.val) + 1))) (ty := .int) (ws' := wR E a v3) hX in_X6 tyX6 tyX6_ok nmX6 0 rfl rfl 3 (by decide) fl_33 rfl rfl (by decide +kernel) (rfl) (rfl) (Nat.le_of_ble_eq_true rfl) dX6_record_92 (by rw [hv3]; exact sR_Known E a (R_setH w (va_up w.2.2.1 w.2.2.2.2.1.val w.1)) (x := ((R_setH w (va_up w.2.2.1 w.2.2.2.2.1.val w.1)).2.2.2.2.1.val) + 1) (by omega : ((R_setH w (va_up w.2.2.1 w.2.2.2.2.1.val w.1)).2.2.2.2.1.val) + 1 < 5)) ?_
          exact v_vret hX hr hsz dX6_record_95 rfl rfl (by (subst hv3; rw [← hk0]; rfl))
        · replace c1 := (not_congr (nI_leI (a := 544) (b := 544) (by omega) (by omega))).mp c1
          exfalso; omega
      | succ fu ih =>
        intro i  hin 
        refine v_iload_n hX dX6_record_51 rfl ?_
        refine v_sipush (x := (544 : Int32)) hX dX6_record_52 (by decide) ?_
        refine v_icmp_ge (tgt := 85) hX dX6_record_55 (by decide) (fun c5 => ?_) (fun c5 => ?_)
        · replace c5 := (nI_leI (a := 544) (b := i) (by omega) (by omega)).mp c5
          exfalso; omega
        · replace c5 := (not_congr (nI_leI (a := 544) (b := i) (by omega) (by omega))).mp c5
          refine v_aload_n hX dX6_record_58 rfl ?_
          refine v_get (C := RX6) (T := TX6) (N := 18) (ci := 6) (v := .ref (a 3)) hX in_X6 0 rfl rfl 2 (by decide) fl_16 rfl rfl dX6_record_59 ?_
          refine v_sipush (x := (544 : Int32)) hX dX6_record_62 (by decide) ?_
          refine v_aload_n hX dX6_record_65 rfl ?_
          refine v_get (C := RX6) (T := TX6) (N := 18) (ci := 6) (v := .int (nI (w.2.2.2.2.1.val))) hX in_X6 0 rfl rfl 3 (by decide) fl_33 rfl rfl dX6_record_66 ?_
          have hb6 := (w.2.2.2.2.1).isLt
          refine v_imul (z := nI (544 * w.2.2.2.2.1.val)) hX dX6_record_69 (pk_mul 544 w.2.2.2.2.1.val) ?_
          refine v_iload_n hX dX6_record_70 rfl ?_
          refine v_iadd (z := nI ((544 * w.2.2.2.2.1.val) + i)) hX dX6_record_71 (nI_add (544 * w.2.2.2.2.1.val) i) ?_
          refine v_aload_n hX dX6_record_72 rfl ?_
          refine v_get (C := RX6) (T := TX6) (N := 18) (ci := 6) (v := .ref (a 1)) hX in_X6 0 rfl rfl 0 (by decide) fl_7 rfl rfl dX6_record_73 ?_
          refine v_iload_n hX dX6_record_76 rfl ?_
          refine v_iald (z := (encS w.1) (i)) hX 1 rfl (vp_in_nI (by omega : i < 544) (by omega)) (by simp only [nI_clamp (show i < 2 ^ 31 by omega)]) dX6_record_77 ?_
          refine v_iast (ws' := wR0 E a (encS w.1) (encS w.2.1) (mixH (i + 1) (544 * w.2.2.2.2.1.val) (encS w.1) (encH w.2.2.1)) (encS w.2.2.2.1) (w.2.2.2.2)) hX 3 rfl (vp_in_nI (by omega : (544 * w.2.2.2.2.1.val) + i < 2176) (by omega)) (by rw [nI_clamp (by omega)]; exact congrArg (fun z => wR0 E a (encS w.1) (encS w.2.1) (z) (encS w.2.2.2.1) (w.2.2.2.2)) (mixH_st _ _ _ i)) dX6_record_78 ?_
          refine v_iinc (y := nI (i + 1)) (lv' := [.ref (a 0), .int (nI (i + 1))]) hX dX6_record_79 rfl (nI_inc _) (Nat.le_of_ble_eq_true rfl) (Nat.le_of_ble_eq_true rfl) rfl rfl ?_
          refine v_goto (tgt := 51) hX dX6_record_82 (by decide) ?_
          exact ih (i + 1)  (by omega) 
    have hs0 := loop_51 544 0  (by omega) 
    rw [mixH_0] at hs0
    exact hs0
  refine v_aload_n hX dX6_record_0 rfl ?_
  refine v_get (C := RX6) (T := TX6) (N := 18) (ci := 6) (v := .int (nI (v.2.2.2.2.1.val))) hX in_X6 0 rfl rfl 3 (by decide) fl_33 rfl rfl dX6_record_1 ?_
  have hb7 := (v.2.2.2.2.1).isLt
  refine v_iconst (x := (4 : Int32)) hX dX6_record_4 (by decide) ?_
  refine v_icmp_ne (tgt := 49) hX dX6_record_5 (by decide) (fun c8 => ?_) (fun c8 => ?_)
  · replace c8 := (not_congr (nI_eq (a := v.2.2.2.2.1.val) (b := 4) (by omega) (by omega))).mp c8
    exact cut_49 _ (by simp only [R_rec, R_rec1, c8, if_true, if_false, reduceIte, Bool.false_eq_true, reduceCtorEq, decide_true, decide_false, Bool.and_true, Bool.and_false, Bool.true_and, Bool.false_and, Bool.or_true, Bool.or_false, Bool.true_or, Bool.false_or, not_true_eq_false, not_false_eq_true, Bool.not_true, Bool.not_false, eq_self, Nat.reduceEqDiff]; first | done | rfl) (by omega)
  · replace c8 := (nI_eq (a := v.2.2.2.2.1.val) (b := 4) (by omega) (by omega)).mp c8
    have c8t := eq_true c8
    refine v_iconst (x := (0 : Int32)) hX dX6_record_8 (by decide) ?_
    refine v_istore_n (lv' := [.ref (a 0), .int ((0 : Int32))]) hX dX6_record_9 (Nat.le_of_ble_eq_true rfl) (Nat.le_of_ble_eq_true rfl) rfl rfl ?_
    have loop_10 : ∀ (fu i : Nat), i + fu = 1632 → V p l e ({ frames := 0, cells := 0, slots := 0, locals := 0 } : Room) s m args below meth c E 2 (va_A (wR E a v) sz) (MQ below (mQv E (wR E a v) (wR E a (R_rec v)) sz) args s 0 0 (va_A (wR E a v) sz)) (wR0 E a (encS v.1) (encS v.2.1) (mixF (i) (fun j => encH v.2.2.1 (j + 544)) (encH v.2.2.1)) (encS v.2.2.2.1) (v.2.2.2.2)) [.ref (a 0), .int (nI (i))] 10 [] := by
      intro fu
      induction fu with
      | zero =>
        intro i  hin 
        have hi0 : i = 1632 := by omega
        subst hi0
        refine v_iload_n hX dX6_record_10 rfl ?_
        refine v_sipush (x := (1632 : Int32)) hX dX6_record_11 (by decide) ?_
        refine v_icmp_ge (tgt := 39) hX dX6_record_14 (by decide) (fun c9 => ?_) (fun c9 => ?_)
        · replace c9 := (nI_leI (a := 1632) (b := 1632) (by omega) (by omega)).mp c9
          refine v_weq (w2 := wR E a (R_setH v (R_sh v.2.2.1))) (weq_h E a _ _ _ _ (fun j _ => shH _ j)) ?_
          have hxk : (R_setH v (R_sh v.2.2.1)).2.2.2.2.1.val = v.2.2.2.2.1.val := rfl
          refine v_aload_n hX dX6_record_39 rfl ?_
          refine v_dup hX dX6_record_40 rfl ?_
          refine v_get (C := RX6) (T := TX6) (N := 18) (ci := 6) (v := .int (nI ((R_setH v (R_sh v.2.2.1)).2.2.2.2.1.val))) hX in_X6 0 rfl rfl 3 (by decide) fl_33 rfl rfl dX6_record_41 ?_
          have hb10 := ((R_setH v (R_sh v.2.2.1)).2.2.2.2.1).isLt
          refine v_iconst (x := (1 : Int32)) hX dX6_record_44 (by decide) ?_
          refine v_isub (z := nI (((R_setH v (R_sh v.2.2.1)).2.2.2.2.1.val) - 1)) hX dX6_record_45 (pk_sub (a := (R_setH v (R_sh v.2.2.1)).2.2.2.2.1.val) (b := 1) (by omega)) ?_
          obtain ⟨v11, hv11⟩ : ∃ z_ : RV, z_ = R_setKnown (R_setH v (R_sh v.2.2.1)) (((R_setH v (R_sh v.2.2.1)).2.2.2.2.1.val) - 1) := ⟨_, rfl⟩
          refine v_put (C := RX6) (T := TX6) (N := 18) (ci := 6) (v := .int (nI (((R_setH v (R_sh v.2.2.1)).2.2.2.2.1.val) - 1))) (ty := .int) (ws' := wR E a v11) hX in_X6 tyX6 tyX6_ok nmX6 0 rfl rfl 3 (by decide) fl_33 rfl rfl (by decide +kernel) (rfl) (rfl) (Nat.le_of_ble_eq_true rfl) dX6_record_46 (by rw [hv11]; exact sR_Known E a (R_setH v (R_sh v.2.2.1)) (x := ((R_setH v (R_sh v.2.2.1)).2.2.2.2.1.val) - 1) (by omega : ((R_setH v (R_sh v.2.2.1)).2.2.2.2.1.val) - 1 < 5)) ?_
          exact v_fewer 1 rfl (cut_49 _ (by subst hv11; simp only [R_rec, R_rec1, c8t, c9, if_true, if_false, reduceIte, Bool.false_eq_true, reduceCtorEq, decide_true, decide_false, Bool.and_true, Bool.and_false, Bool.true_and, Bool.false_and, Bool.or_true, Bool.or_false, Bool.true_or, Bool.false_or, not_true_eq_false, not_false_eq_true, Bool.not_true, Bool.not_false, eq_self, Nat.reduceEqDiff]; first | done | rfl) (by rw [hv11]; exact Nat.lt_of_le_of_lt (Nat.mod_le _ _) (by show v.2.2.2.2.1.val - 1 < 4; omega)))
        · replace c9 := (not_congr (nI_leI (a := 1632) (b := 1632) (by omega) (by omega))).mp c9
          exfalso; omega
      | succ fu ih =>
        intro i  hin 
        refine v_iload_n hX dX6_record_10 rfl ?_
        refine v_sipush (x := (1632 : Int32)) hX dX6_record_11 (by decide) ?_
        refine v_icmp_ge (tgt := 39) hX dX6_record_14 (by decide) (fun c13 => ?_) (fun c13 => ?_)
        · replace c13 := (nI_leI (a := 1632) (b := i) (by omega) (by omega)).mp c13
          exfalso; omega
        · replace c13 := (not_congr (nI_leI (a := 1632) (b := i) (by omega) (by omega))).mp c13
          refine v_aload_n hX dX6_record_17 rfl ?_
          refine v_get (C := RX6) (T := TX6) (N := 18) (ci := 6) (v := .ref (a 3)) hX in_X6 0 rfl rfl 2 (by decide) fl_16 rfl rfl dX6_record_18 ?_
          refine v_iload_n hX dX6_record_21 rfl ?_
          refine v_aload_n hX dX6_record_22 rfl ?_
          refine v_get (C := RX6) (T := TX6) (N := 18) (ci := 6) (v := .ref (a 3)) hX in_X6 0 rfl rfl 2 (by decide) fl_16 rfl rfl dX6_record_23 ?_
          refine v_iload_n hX dX6_record_26 rfl ?_
          refine v_sipush (x := (544 : Int32)) hX dX6_record_27 (by decide) ?_
          refine v_iadd (z := nI (i + 544)) hX dX6_record_30 (nI_add i 544) ?_
          refine v_iald (z := (encH v.2.2.1) (i + 544)) hX 3 rfl (vp_in_nI (by omega : i + 544 < 2176) (by omega)) (by simp only [nI_clamp (show i + 544 < 2 ^ 31 by omega)]; exact mixF_ge (f := (fun j => encH v.2.2.1 (j + 544))) (g := (encH v.2.2.1)) (by omega)) dX6_record_31 ?_
          refine v_iast (ws' := wR0 E a (encS v.1) (encS v.2.1) (mixF (i + 1) (fun j => encH v.2.2.1 (j + 544)) (encH v.2.2.1)) (encS v.2.2.2.1) (v.2.2.2.2)) hX 3 rfl (vp_in_nI (by omega : i < 2176) (by omega)) (by rw [nI_clamp (by omega)]; exact congrArg (fun z => wR0 E a (encS v.1) (encS v.2.1) (z) (encS v.2.2.2.1) (v.2.2.2.2)) (mixF_st _ _ i)) dX6_record_32 ?_
          refine v_iinc (y := nI (i + 1)) (lv' := [.ref (a 0), .int (nI (i + 1))]) hX dX6_record_33 rfl (nI_inc _) (Nat.le_of_ble_eq_true rfl) (Nat.le_of_ble_eq_true rfl) rfl rfl ?_
          refine v_goto (tgt := 10) hX dX6_record_36 (by decide) ?_
          exact ih (i + 1)  (by omega) 
    have hs0 := loop_10 1632 0  (by omega) 
    rw [mixF_0] at hs0
    exact hs0
set_option maxHeartbeats 4000000 in
set_option maxRecDepth 100000 in
theorem c_X6_undo (l : Launch) (E : ET) (a : Nat → Nat) (sz : Nat) (v : RV) : Met l yX6_undo wsX6_undo ({ frames := 0, cells := 0, slots := 0, locals := 0 }) (mPc E [.ref (a 0)] sz (wR E a v)) (mQi E ((R_undo v).1) (wR E a v) (wR E a ((R_undo v).2)) sz) 0 0 (va_A (wR E a v) sz) := by
  refine v_start (cc := cX6_undo) (maxL := 2) (ret := (some .int)) (by decide) rfl (Nat.le_of_ble_eq_true rfl) rfl ?_
  intro p e s m args below meth c hsz hr hX
  have hX : Xc p s m args meth c E 2 (va_A (wR E a v) sz) cX6_undo RX6 wsX6_undo := hX
  have in_X6 : ∀ w ∈ u_ws RX6 TX6 18, w ∈ wsX6_undo := by decide +kernel
  have fl_33 : Cond.fieldLink RX6 33 RX6 "known" "I" ∈ wsX6_undo := by decide +kernel
  have fl_7 : Cond.fieldLink RX6 7 RX6 "s" "[I" ∈ wsX6_undo := by decide +kernel
  have fl_16 : Cond.fieldLink RX6 16 RX6 "history" "[I" ∈ wsX6_undo := by decide +kernel
  refine v_aload_n hX dX6_undo_0 rfl ?_
  refine v_get (C := RX6) (T := TX6) (N := 18) (ci := 6) (v := .int (nI (v.2.2.2.2.1.val))) hX in_X6 0 rfl rfl 3 (by decide) fl_33 rfl rfl dX6_undo_1 ?_
  have hb1 := (v.2.2.2.2.1).isLt
  refine v_if_ne (tgt := 10) hX dX6_undo_4 (by decide) (fun c2 => ?_) (fun c2 => ?_)
  · replace c2 := (not_congr (nI_eq (a := v.2.2.2.2.1.val) (b := 0) (by omega) (by omega))).mp c2
    refine v_aload_n hX dX6_undo_10 rfl ?_
    refine v_dup hX dX6_undo_11 rfl ?_
    refine v_get (C := RX6) (T := TX6) (N := 18) (ci := 6) (v := .int (nI (v.2.2.2.2.1.val))) hX in_X6 0 rfl rfl 3 (by decide) fl_33 rfl rfl dX6_undo_12 ?_
    have hb3 := (v.2.2.2.2.1).isLt
    refine v_iconst (x := (1 : Int32)) hX dX6_undo_15 (by decide) ?_
    refine v_isub (z := nI (v.2.2.2.2.1.val - 1)) hX dX6_undo_16 (pk_sub (a := v.2.2.2.2.1.val) (b := 1) (by omega)) ?_
    obtain ⟨v4, hv4⟩ : ∃ z_ : RV, z_ = R_setKnown v (v.2.2.2.2.1.val - 1) := ⟨_, rfl⟩
    refine v_put (C := RX6) (T := TX6) (N := 18) (ci := 6) (v := .int (nI (v.2.2.2.2.1.val - 1))) (ty := .int) (ws' := wR E a v4) hX in_X6 tyX6 tyX6_ok nmX6 0 rfl rfl 3 (by decide) fl_33 rfl rfl (by decide +kernel) (rfl) (rfl) (Nat.le_of_ble_eq_true rfl) dX6_undo_17 (by rw [hv4]; exact sR_Known E a v (x := v.2.2.2.2.1.val - 1) (by omega : v.2.2.2.2.1.val - 1 < 5)) ?_
    have hk3 : v4.2.2.2.2.1.val < 4 := by rw [hv4]; exact Nat.lt_of_le_of_lt (Nat.mod_le _ _) (by show v.2.2.2.2.1.val - 1 < 4; omega)
    refine v_iconst (x := (0 : Int32)) hX dX6_undo_20 (by decide) ?_
    refine v_istore_n (lv' := [.ref (a 0), .int ((0 : Int32))]) hX dX6_undo_21 (Nat.le_of_ble_eq_true rfl) (Nat.le_of_ble_eq_true rfl) rfl rfl ?_
    have loop_22 : ∀ (fu i : Nat), i + fu = 544 → V p l e ({ frames := 0, cells := 0, slots := 0, locals := 0 } : Room) s m args below meth c E 2 (va_A (wR E a v) sz) (MQ below (mQi E ((R_undo v).1) (wR E a v) (wR E a ((R_undo v).2)) sz) args s 0 0 (va_A (wR E a v) sz)) (wR0 E a (mixF (i) (fun j => encH v4.2.2.1 (544 * v4.2.2.2.2.1.val + j)) (encS v4.1)) (encS v4.2.1) (encH v4.2.2.1) (encS v4.2.2.2.1) (v4.2.2.2.2)) [.ref (a 0), .int (nI (i))] 22 [] := by
      intro fu
      induction fu with
      | zero =>
        intro i  hin 
        have hi0 : i = 544 := by omega
        subst hi0
        refine v_iload_n hX dX6_undo_22 rfl ?_
        refine v_sipush (x := (544 : Int32)) hX dX6_undo_23 (by decide) ?_
        refine v_icmp_ge (tgt := 56) hX dX6_undo_26 (by decide) (fun c6 => ?_) (fun c6 => ?_)
        · replace c6 := (nI_leI (a := 544) (b := 544) (by omega) (by omega)).mp c6
          refine v_weq (w2 := wR E a (R_setS v4 (v4.2.2.1 v4.2.2.2.2.1.val))) (weq_s E a _ _ _ _ (fun j hj => unH _ _ _ hj)) ?_
          refine v_aload_n hX dX6_undo_56 rfl ?_
          refine v_get (C := RX6) (T := TX6) (N := 18) (ci := 6) (v := .int (nI ((R_setS v4 (v4.2.2.1 v4.2.2.2.2.1.val)).2.2.2.2.1.val))) hX in_X6 0 rfl rfl 3 (by decide) fl_33 rfl rfl dX6_undo_57 ?_
          have hb7 := ((R_setS v4 (v4.2.2.1 v4.2.2.2.2.1.val)).2.2.2.2.1).isLt
          exact v_iret hX hr hsz dX6_undo_60 rfl rfl (by (subst hv4; first | (simp only [R_undo, R_un, c2, c6, if_true, if_false, reduceIte, Bool.false_eq_true, reduceCtorEq, decide_true, decide_false, Bool.and_true, Bool.and_false, Bool.true_and, Bool.false_and, Bool.or_true, Bool.or_false, Bool.true_or, Bool.false_or, not_true_eq_false, not_false_eq_true, Bool.not_true, Bool.not_false, eq_self, Nat.reduceEqDiff]; done) | rfl | (simp only [R_undo, R_un, c2, c6, if_true, if_false, reduceIte, Bool.false_eq_true, reduceCtorEq, decide_true, decide_false, Bool.and_true, Bool.and_false, Bool.true_and, Bool.false_and, Bool.or_true, Bool.or_false, Bool.true_or, Bool.false_or, not_true_eq_false, not_false_eq_true, Bool.not_true, Bool.not_false, eq_self, Nat.reduceEqDiff]; rfl) | contradiction | (exfalso; omega))) (by (subst hv4; first | (simp only [R_undo, R_un, c2, c6, if_true, if_false, reduceIte, Bool.false_eq_true, reduceCtorEq, decide_true, decide_false, Bool.and_true, Bool.and_false, Bool.true_and, Bool.false_and, Bool.or_true, Bool.or_false, Bool.true_or, Bool.false_or, not_true_eq_false, not_false_eq_true, Bool.not_true, Bool.not_false, eq_self, Nat.reduceEqDiff]; done) | rfl | (simp only [R_undo, R_un, c2, c6, if_true, if_false, reduceIte, Bool.false_eq_true, reduceCtorEq, decide_true, decide_false, Bool.and_true, Bool.and_false, Bool.true_and, Bool.false_and, Bool.or_true, Bool.or_false, Bool.true_or, Bool.false_or, not_true_eq_false, not_false_eq_true, Bool.not_true, Bool.not_false, eq_self, Nat.reduceEqDiff]; rfl) | contradiction | (exfalso; omega)))
        · replace c6 := (not_congr (nI_leI (a := 544) (b := 544) (by omega) (by omega))).mp c6
          exfalso; omega
      | succ fu ih =>
        intro i  hin 
        refine v_iload_n hX dX6_undo_22 rfl ?_
        refine v_sipush (x := (544 : Int32)) hX dX6_undo_23 (by decide) ?_
        refine v_icmp_ge (tgt := 56) hX dX6_undo_26 (by decide) (fun c8 => ?_) (fun c8 => ?_)
        · replace c8 := (nI_leI (a := 544) (b := i) (by omega) (by omega)).mp c8
          exfalso; omega
        · replace c8 := (not_congr (nI_leI (a := 544) (b := i) (by omega) (by omega))).mp c8
          refine v_aload_n hX dX6_undo_29 rfl ?_
          refine v_get (C := RX6) (T := TX6) (N := 18) (ci := 6) (v := .ref (a 1)) hX in_X6 0 rfl rfl 0 (by decide) fl_7 rfl rfl dX6_undo_30 ?_
          refine v_iload_n hX dX6_undo_33 rfl ?_
          refine v_aload_n hX dX6_undo_34 rfl ?_
          refine v_get (C := RX6) (T := TX6) (N := 18) (ci := 6) (v := .ref (a 3)) hX in_X6 0 rfl rfl 2 (by decide) fl_16 rfl rfl dX6_undo_35 ?_
          refine v_sipush (x := (544 : Int32)) hX dX6_undo_38 (by decide) ?_
          refine v_aload_n hX dX6_undo_41 rfl ?_
          refine v_get (C := RX6) (T := TX6) (N := 18) (ci := 6) (v := .int (nI (v4.2.2.2.2.1.val))) hX in_X6 0 rfl rfl 3 (by decide) fl_33 rfl rfl dX6_undo_42 ?_
          have hb9 := (v4.2.2.2.2.1).isLt
          refine v_imul (z := nI (544 * v4.2.2.2.2.1.val)) hX dX6_undo_45 (pk_mul 544 v4.2.2.2.2.1.val) ?_
          refine v_iload_n hX dX6_undo_46 rfl ?_
          refine v_iadd (z := nI ((544 * v4.2.2.2.2.1.val) + i)) hX dX6_undo_47 (nI_add (544 * v4.2.2.2.2.1.val) i) ?_
          refine v_iald (z := (encH v4.2.2.1) ((544 * v4.2.2.2.2.1.val) + i)) hX 3 rfl (vp_in_nI (by omega : (544 * v4.2.2.2.2.1.val) + i < 2176) (by omega)) (by simp only [nI_clamp (show (544 * v4.2.2.2.2.1.val) + i < 2 ^ 31 by omega)]) dX6_undo_48 ?_
          refine v_iast (ws' := wR0 E a (mixF (i + 1) (fun j => encH v4.2.2.1 (544 * v4.2.2.2.2.1.val + j)) (encS v4.1)) (encS v4.2.1) (encH v4.2.2.1) (encS v4.2.2.2.1) (v4.2.2.2.2)) hX 1 rfl (vp_in_nI (by omega : i < 544) (by omega)) (by rw [nI_clamp (by omega)]; exact congrArg (fun z => wR0 E a (z) (encS v4.2.1) (encH v4.2.2.1) (encS v4.2.2.2.1) (v4.2.2.2.2)) (mixF_st _ _ i)) dX6_undo_49 ?_
          refine v_iinc (y := nI (i + 1)) (lv' := [.ref (a 0), .int (nI (i + 1))]) hX dX6_undo_50 rfl (nI_inc _) (Nat.le_of_ble_eq_true rfl) (Nat.le_of_ble_eq_true rfl) rfl rfl ?_
          refine v_goto (tgt := 22) hX dX6_undo_53 (by decide) ?_
          exact ih (i + 1)  (by omega) 
    subst hv4
    have hs0 := loop_22 544 0  (by omega) 
    rw [mixF_0] at hs0
    exact hs0
  · replace c2 := (nI_eq (a := v.2.2.2.2.1.val) (b := 0) (by omega) (by omega)).mp c2
    have c2t := eq_true c2
    refine v_bipush (x := (-5 : Int32)) hX dX6_undo_7 (by decide) ?_
    exact v_iret hX hr hsz dX6_undo_9 rfl rfl (by (first | (simp only [R_undo, R_un, c2t, if_true, if_false, reduceIte, Bool.false_eq_true, reduceCtorEq, decide_true, decide_false, Bool.and_true, Bool.and_false, Bool.true_and, Bool.false_and, Bool.or_true, Bool.or_false, Bool.true_or, Bool.false_or, not_true_eq_false, not_false_eq_true, Bool.not_true, Bool.not_false, eq_self, Nat.reduceEqDiff]; done) | rfl | (simp only [R_undo, R_un, c2t, if_true, if_false, reduceIte, Bool.false_eq_true, reduceCtorEq, decide_true, decide_false, Bool.and_true, Bool.and_false, Bool.true_and, Bool.false_and, Bool.or_true, Bool.or_false, Bool.true_or, Bool.false_or, not_true_eq_false, not_false_eq_true, Bool.not_true, Bool.not_false, eq_self, Nat.reduceEqDiff]; rfl) | contradiction | (exfalso; omega))) (by (first | (simp only [R_undo, R_un, c2t, if_true, if_false, reduceIte, Bool.false_eq_true, reduceCtorEq, decide_true, decide_false, Bool.and_true, Bool.and_false, Bool.true_and, Bool.false_and, Bool.or_true, Bool.or_false, Bool.true_or, Bool.false_or, not_true_eq_false, not_false_eq_true, Bool.not_true, Bool.not_false, eq_self, Nat.reduceEqDiff]; done) | rfl | (simp only [R_undo, R_un, c2t, if_true, if_false, reduceIte, Bool.false_eq_true, reduceCtorEq, decide_true, decide_false, Bool.and_true, Bool.and_false, Bool.true_and, Bool.false_and, Bool.or_true, Bool.or_false, Bool.true_or, Bool.false_or, not_true_eq_false, not_false_eq_true, Bool.not_true, Bool.not_false, eq_self, Nat.reduceEqDiff]; rfl) | contradiction | (exfalso; omega)))
set_option maxHeartbeats 4000000 in
set_option maxRecDepth 100000 in
theorem c_X6_restore (l : Launch) (E : ET) (a : Nat → Nat) (sz : Nat) (v : RV) : Met l yX6_restore wsX6_restore ({ frames := 2, cells := 0, slots := 0, locals := 43 }) (mPc E [.ref (a 0)] sz (wR E a v)) (mQi E ((R_restore v).1) (wR E a v) (wR E a ((R_restore v).2)) sz) 0 0 (va_A (wR E a v) sz) := by
  refine v_start (cc := cX6_restore) (maxL := 2) (ret := (some .int)) (by decide) rfl (Nat.le_of_ble_eq_true rfl) rfl ?_
  intro p e s m args below meth c hsz hr hX
  have hX : Xc p s m args meth c E 2 (va_A (wR E a v) sz) cX6_restore RX6 wsX6_restore := hX
  have in_X6 : ∀ w ∈ u_ws RX6 TX6 18, w ∈ wsX6_restore := by decide +kernel
  have fl_182 : Cond.fieldLink RX6 182 RX6 "isKept" "Z" ∈ wsX6_restore := by decide +kernel
  have fl_7 : Cond.fieldLink RX6 7 RX6 "s" "[I" ∈ wsX6_restore := by decide +kernel
  have fl_19 : Cond.fieldLink RX6 19 RX6 "snapshot" "[I" ∈ wsX6_restore := by decide +kernel
  refine v_aload_n hX dX6_restore_0 rfl ?_
  refine v_get (C := RX6) (T := TX6) (N := 18) (ci := 6) (v := .int (bI (v.2.2.2.2.2.1))) hX in_X6 0 rfl rfl 5 (by decide) fl_182 rfl rfl dX6_restore_1 ?_
  refine v_if_ne (tgt := 10) hX dX6_restore_4 (by decide) (fun c1 => ?_) (fun c1 => ?_)
  · replace c1 := bI_n0.mp c1
    refine v_aload_n hX dX6_restore_10 rfl ?_
    obtain ⟨v2, hv2⟩ : ∃ z_ : RV, z_ = R_rec v := ⟨_, rfl⟩
    refine v_callVv (rest := []) (ws' := wR E a v2) hX (fun sz => c_X6_record l E a sz v ) (cwV 0 hX.2.2.2.2.1 gX6_restore_X6_record rfl rfl rfl (by decide +kernel) ⟨Nat.le_of_ble_eq_true rfl, Nat.le_of_ble_eq_true rfl⟩) ([]) ([]) ((List.append_nil _).symm) (by rw [hv2]; exact List.append_nil _) (wR_fst E a _ _) (ci := 6) (q0 := 0) rfl rfl rfl rfl rfl (Nat.le_of_ble_eq_true rfl) dX6_restore_11 ?_
    refine v_iconst (x := (0 : Int32)) hX dX6_restore_14 (by decide) ?_
    refine v_istore_n (lv' := [.ref (a 0), .int ((0 : Int32))]) hX dX6_restore_15 (Nat.le_of_ble_eq_true rfl) (Nat.le_of_ble_eq_true rfl) rfl rfl ?_
    have loop_16 : ∀ (fu i : Nat), i + fu = 544 → V p l e ({ frames := 2, cells := 0, slots := 0, locals := 43 } : Room) s m args below meth c E 2 (va_A (wR E a v) sz) (MQ below (mQi E ((R_restore v).1) (wR E a v) (wR E a ((R_restore v).2)) sz) args s 0 0 (va_A (wR E a v) sz)) (wR0 E a (mixF (i) (encS v2.2.2.2.1) (encS v2.1)) (encS v2.2.1) (encH v2.2.2.1) (encS v2.2.2.2.1) (v2.2.2.2.2)) [.ref (a 0), .int (nI (i))] 16 [] := by
      intro fu
      induction fu with
      | zero =>
        intro i  hin 
        have hi0 : i = 544 := by omega
        subst hi0
        refine v_iload_n hX dX6_restore_16 rfl ?_
        refine v_sipush (x := (544 : Int32)) hX dX6_restore_17 (by decide) ?_
        refine v_icmp_ge (tgt := 41) hX dX6_restore_20 (by decide) (fun c3 => ?_) (fun c3 => ?_)
        · replace c3 := (nI_leI (a := 544) (b := 544) (by omega) (by omega)).mp c3
          refine v_weq (w2 := wR E a (R_setS v2 v2.2.2.2.1)) (weq_s E a _ _ _ _ (fun j hj => mixF_lt hj)) ?_
          refine v_aload_n hX dX6_restore_41 rfl ?_
          refine v_callVi (r := Q_all v2.2.2.2.1) (rest := []) (ws' := wR E a (R_setS v2 v2.2.2.2.1)) hX (fun sz => c_X6_lines l E a sz (R_setS v2 v2.2.2.2.1) ) (cwV 0 hX.2.2.2.2.1 gX6_restore_X6_lines rfl rfl rfl (by decide +kernel) ⟨Nat.le_of_ble_eq_true rfl, Nat.le_of_ble_eq_true rfl⟩) ([]) ([]) ((List.append_nil _).symm) ((List.append_nil _).symm).symm (wR_fst E a _ _) (ci := 6) (q0 := 0) rfl rfl rfl rfl rfl (Nat.le_of_ble_eq_true rfl) dX6_restore_42 ?_
          exact v_iret hX hr hsz dX6_restore_45 rfl rfl (by (subst hv2; first | (simp only [R_restore, c1, c3, if_true, if_false, reduceIte, Bool.false_eq_true, reduceCtorEq, decide_true, decide_false, Bool.and_true, Bool.and_false, Bool.true_and, Bool.false_and, Bool.or_true, Bool.or_false, Bool.true_or, Bool.false_or, not_true_eq_false, not_false_eq_true, Bool.not_true, Bool.not_false, eq_self, Nat.reduceEqDiff]; done) | rfl | (simp only [R_restore, c1, c3, if_true, if_false, reduceIte, Bool.false_eq_true, reduceCtorEq, decide_true, decide_false, Bool.and_true, Bool.and_false, Bool.true_and, Bool.false_and, Bool.or_true, Bool.or_false, Bool.true_or, Bool.false_or, not_true_eq_false, not_false_eq_true, Bool.not_true, Bool.not_false, eq_self, Nat.reduceEqDiff]; rfl) | contradiction | (exfalso; omega))) (by (subst hv2; first | (simp only [R_restore, c1, c3, if_true, if_false, reduceIte, Bool.false_eq_true, reduceCtorEq, decide_true, decide_false, Bool.and_true, Bool.and_false, Bool.true_and, Bool.false_and, Bool.or_true, Bool.or_false, Bool.true_or, Bool.false_or, not_true_eq_false, not_false_eq_true, Bool.not_true, Bool.not_false, eq_self, Nat.reduceEqDiff]; done) | rfl | (simp only [R_restore, c1, c3, if_true, if_false, reduceIte, Bool.false_eq_true, reduceCtorEq, decide_true, decide_false, Bool.and_true, Bool.and_false, Bool.true_and, Bool.false_and, Bool.or_true, Bool.or_false, Bool.true_or, Bool.false_or, not_true_eq_false, not_false_eq_true, Bool.not_true, Bool.not_false, eq_self, Nat.reduceEqDiff]; rfl) | contradiction | (exfalso; omega)))
        · replace c3 := (not_congr (nI_leI (a := 544) (b := 544) (by omega) (by omega))).mp c3
          exfalso; omega
      | succ fu ih =>
        intro i  hin 
        refine v_iload_n hX dX6_restore_16 rfl ?_
        refine v_sipush (x := (544 : Int32)) hX dX6_restore_17 (by decide) ?_
        refine v_icmp_ge (tgt := 41) hX dX6_restore_20 (by decide) (fun c4 => ?_) (fun c4 => ?_)
        · replace c4 := (nI_leI (a := 544) (b := i) (by omega) (by omega)).mp c4
          exfalso; omega
        · replace c4 := (not_congr (nI_leI (a := 544) (b := i) (by omega) (by omega))).mp c4
          refine v_aload_n hX dX6_restore_23 rfl ?_
          refine v_get (C := RX6) (T := TX6) (N := 18) (ci := 6) (v := .ref (a 1)) hX in_X6 0 rfl rfl 0 (by decide) fl_7 rfl rfl dX6_restore_24 ?_
          refine v_iload_n hX dX6_restore_27 rfl ?_
          refine v_aload_n hX dX6_restore_28 rfl ?_
          refine v_get (C := RX6) (T := TX6) (N := 18) (ci := 6) (v := .ref (a 4)) hX in_X6 0 rfl rfl 4 (by decide) fl_19 rfl rfl dX6_restore_29 ?_
          refine v_iload_n hX dX6_restore_32 rfl ?_
          refine v_iald (z := (encS v2.2.2.2.1) (i)) hX 4 rfl (vp_in_nI (by omega : i < 544) (by omega)) (by simp only [nI_clamp (show i < 2 ^ 31 by omega)]) dX6_restore_33 ?_
          refine v_iast (ws' := wR0 E a (mixF (i + 1) (encS v2.2.2.2.1) (encS v2.1)) (encS v2.2.1) (encH v2.2.2.1) (encS v2.2.2.2.1) (v2.2.2.2.2)) hX 1 rfl (vp_in_nI (by omega : i < 544) (by omega)) (by rw [nI_clamp (by omega)]; exact congrArg (fun z => wR0 E a (z) (encS v2.2.1) (encH v2.2.2.1) (encS v2.2.2.2.1) (v2.2.2.2.2)) (mixF_st _ _ i)) dX6_restore_34 ?_
          refine v_iinc (y := nI (i + 1)) (lv' := [.ref (a 0), .int (nI (i + 1))]) hX dX6_restore_35 rfl (nI_inc _) (Nat.le_of_ble_eq_true rfl) (Nat.le_of_ble_eq_true rfl) rfl rfl ?_
          refine v_goto (tgt := 16) hX dX6_restore_38 (by decide) ?_
          exact ih (i + 1)  (by omega) 
    subst hv2
    have hs0 := loop_16 544 0  (by omega) 
    rw [mixF_0] at hs0
    exact hs0
  · replace c1 := bI_0.mp c1
    refine v_bipush (x := (-5 : Int32)) hX dX6_restore_7 (by decide) ?_
    exact v_iret hX hr hsz dX6_restore_9 rfl rfl (by (first | (simp only [R_restore, c1, if_true, if_false, reduceIte, Bool.false_eq_true, reduceCtorEq, decide_true, decide_false, Bool.and_true, Bool.and_false, Bool.true_and, Bool.false_and, Bool.or_true, Bool.or_false, Bool.true_or, Bool.false_or, not_true_eq_false, not_false_eq_true, Bool.not_true, Bool.not_false, eq_self, Nat.reduceEqDiff]; done) | rfl | (simp only [R_restore, c1, if_true, if_false, reduceIte, Bool.false_eq_true, reduceCtorEq, decide_true, decide_false, Bool.and_true, Bool.and_false, Bool.true_and, Bool.false_and, Bool.or_true, Bool.or_false, Bool.true_or, Bool.false_or, not_true_eq_false, not_false_eq_true, Bool.not_true, Bool.not_false, eq_self, Nat.reduceEqDiff]; rfl) | contradiction | (exfalso; omega))) (by (first | (simp only [R_restore, c1, if_true, if_false, reduceIte, Bool.false_eq_true, reduceCtorEq, decide_true, decide_false, Bool.and_true, Bool.and_false, Bool.true_and, Bool.false_and, Bool.or_true, Bool.or_false, Bool.true_or, Bool.false_or, not_true_eq_false, not_false_eq_true, Bool.not_true, Bool.not_false, eq_self, Nat.reduceEqDiff]; done) | rfl | (simp only [R_restore, c1, if_true, if_false, reduceIte, Bool.false_eq_true, reduceCtorEq, decide_true, decide_false, Bool.and_true, Bool.and_false, Bool.true_and, Bool.false_and, Bool.or_true, Bool.or_false, Bool.true_or, Bool.false_or, not_true_eq_false, not_false_eq_true, Bool.not_true, Bool.not_false, eq_self, Nat.reduceEqDiff]; rfl) | contradiction | (exfalso; omega)))
set_option maxHeartbeats 4000000 in
set_option maxRecDepth 100000 in
theorem c_X6_perform (l : Launch) (E : ET) (a : Nat → Nat) (sz : Nat) (v : RV) : Met l yX6_perform wsX6_perform ({ frames := 9, cells := 0, slots := 0, locals := 213 }) (mPc E [.ref (a 0)] sz (wR E a v)) (mQi E ((R_perform v).1) (wR E a v) (wR E a ((R_perform v).2)) sz) 0 0 (va_A (wR E a v) sz) := by
  refine v_start (cc := cX6_perform) (maxL := 6) (ret := (some .int)) (by decide) rfl (Nat.le_of_ble_eq_true rfl) rfl ?_
  intro p e s m args below meth c hsz hr hX
  have hX : Xc p s m args meth c E 6 (va_A (wR E a v) sz) cX6_perform RX6 wsX6_perform := hX
  have in_X6 : ∀ w ∈ u_ws RX6 TX6 18, w ∈ wsX6_perform := by decide +kernel
  have fl_156 : Cond.fieldLink RX6 156 RX6 "sum" "I" ∈ wsX6_perform := by decide +kernel
  have fl_159 : Cond.fieldLink RX6 159 RX6 "stopNow" "I" ∈ wsX6_perform := by decide +kernel
  have fl_25 : Cond.fieldLink RX6 25 RX6 "stop" "I" ∈ wsX6_perform := by decide +kernel
  have fl_176 : Cond.fieldLink RX6 176 RX6 "stopError" "I" ∈ wsX6_perform := by decide +kernel
  have fl_7 : Cond.fieldLink RX6 7 RX6 "s" "[I" ∈ wsX6_perform := by decide +kernel
  have fl_13 : Cond.fieldLink RX6 13 RX6 "aside" "[I" ∈ wsX6_perform := by decide +kernel
  refine v_aload_n hX dX6_perform_0 rfl ?_
  refine v_iconst (x := (0 : Int32)) hX dX6_perform_1 (by decide) ?_
  obtain ⟨v1, hv1⟩ : ∃ z_ : RV, z_ = (R_prog v false).1 := ⟨_, rfl⟩
  refine v_callVi (r := R_progA (R_prog v false).1) (rest := []) (ws' := wR E a v1) hX (fun sz => c_X6_readsProgram l E a sz v false) (cwV 1 hX.2.2.2.2.1 gX6_perform_X6_readsProgram rfl rfl rfl (by decide +kernel) ⟨Nat.le_of_ble_eq_true rfl, Nat.le_of_ble_eq_true rfl⟩) ([]) ([]) ((List.append_nil _).symm) (by rw [hv1]; exact List.append_nil _) (wR_fst E a _ _) (ci := 6) (q0 := 0) rfl rfl rfl rfl rfl (Nat.le_of_ble_eq_true rfl) dX6_perform_2 ?_
  refine v_istore_n (lv' := [.ref (a 0), .int (R_progA (R_prog v false).1)]) hX dX6_perform_5 (Nat.le_of_ble_eq_true rfl) (Nat.le_of_ble_eq_true rfl) rfl rfl ?_
  refine v_iload_n hX dX6_perform_6 rfl ?_
  refine v_bipush (x := (-5 : Int32)) hX dX6_perform_7 (by decide) ?_
  refine v_icmp_eq (tgt := 17) hX dX6_perform_9 (by decide) (fun c2 => ?_) (fun c2 => ?_)
  · have c2t := eq_true c2
    refine v_aload_n hX dX6_perform_17 rfl ?_
    obtain ⟨v3, hv3⟩ : ∃ z_ : RV, z_ = R_setA v1 v1.1 := ⟨_, rfl⟩
    refine v_callVv (rest := []) (ws' := wR E a v3) hX (fun sz => c_X6_putAside l E a sz v1 ) (cwV 0 hX.2.2.2.2.1 gX6_perform_X6_putAside rfl rfl rfl (by decide +kernel) ⟨Nat.le_of_ble_eq_true rfl, Nat.le_of_ble_eq_true rfl⟩) ([]) ([]) ((List.append_nil _).symm) (by rw [hv3]; exact List.append_nil _) (wR_fst E a _ _) (ci := 6) (q0 := 0) rfl rfl rfl rfl rfl (Nat.le_of_ble_eq_true rfl) dX6_perform_18 ?_
    refine v_aload_n hX dX6_perform_21 rfl ?_
    refine v_iconst (x := (1 : Int32)) hX dX6_perform_22 (by decide) ?_
    obtain ⟨v4, hv4⟩ : ∃ z_ : RV, z_ = (R_prog v3 true).1 := ⟨_, rfl⟩
    refine v_callVi (r := R_progA (R_prog v3 true).1) (rest := []) (ws' := wR E a v4) hX (fun sz => c_X6_readsProgram l E a sz v3 true) (cwV 1 hX.2.2.2.2.1 gX6_perform_X6_readsProgram rfl rfl rfl (by decide +kernel) ⟨Nat.le_of_ble_eq_true rfl, Nat.le_of_ble_eq_true rfl⟩) ([]) ([]) ((List.append_nil _).symm) (by rw [hv4]; exact List.append_nil _) (wR_fst E a _ _) (ci := 6) (q0 := 0) rfl rfl rfl rfl rfl (Nat.le_of_ble_eq_true rfl) dX6_perform_23 ?_
    refine v_istore_n (lv' := [.ref (a 0), .int (R_progA (R_prog v3 true).1)]) hX dX6_perform_26 (Nat.le_of_ble_eq_true rfl) (Nat.le_of_ble_eq_true rfl) rfl rfl ?_
    refine v_aload_n hX dX6_perform_27 rfl ?_
    refine v_get (C := RX6) (T := TX6) (N := 18) (ci := 6) (v := .int (v4.2.2.2.2.2.2.2.2.2.2.2.2.2.2.2.2.1)) hX in_X6 0 rfl rfl 16 (by decide) fl_156 rfl rfl dX6_perform_28 ?_
    refine v_istore_n (lv' := [.ref (a 0), .int (R_progA (R_prog v3 true).1), .int (v4.2.2.2.2.2.2.2.2.2.2.2.2.2.2.2.2.1)]) hX dX6_perform_31 (Nat.le_of_ble_eq_true rfl) (Nat.le_of_ble_eq_true rfl) rfl rfl ?_
    refine v_aload_n hX dX6_perform_32 rfl ?_
    refine v_get (C := RX6) (T := TX6) (N := 18) (ci := 6) (v := .int (v4.2.2.2.2.2.2.2.2.2.2.2.2.2.2.2.2.2)) hX in_X6 0 rfl rfl 17 (by decide) fl_159 rfl rfl dX6_perform_33 ?_
    refine v_istore_n (lv' := [.ref (a 0), .int (R_progA (R_prog v3 true).1), .int (v4.2.2.2.2.2.2.2.2.2.2.2.2.2.2.2.2.1), .int (v4.2.2.2.2.2.2.2.2.2.2.2.2.2.2.2.2.2)]) hX dX6_perform_36 (Nat.le_of_ble_eq_true rfl) (Nat.le_of_ble_eq_true rfl) rfl rfl ?_
    refine v_iconst (x := (0 : Int32)) hX dX6_perform_37 (by decide) ?_
    refine v_istore (lv' := [.ref (a 0), .int (R_progA (R_prog v3 true).1), .int (v4.2.2.2.2.2.2.2.2.2.2.2.2.2.2.2.2.1), .int (v4.2.2.2.2.2.2.2.2.2.2.2.2.2.2.2.2.2), .int ((0 : Int32))]) hX dX6_perform_38 (Nat.le_of_ble_eq_true rfl) (Nat.le_of_ble_eq_true rfl) rfl rfl ?_
    have loop_40 : ∀ (fu i : Nat), i + fu = 544 → V p l e ({ frames := 9, cells := 0, slots := 0, locals := 213 } : Room) s m args below meth c E 6 (va_A (wR E a v) sz) (MQ below (mQi E ((R_perform v).1) (wR E a v) (wR E a ((R_perform v).2)) sz) args s 0 0 (va_A (wR E a v) sz)) (wR0 E a (mixF (i) (encS v4.2.1) (encS v4.1)) (mixF (i) (encS v4.1) (encS v4.2.1)) (encH v4.2.2.1) (encS v4.2.2.2.1) (v4.2.2.2.2)) [.ref (a 0), .int (R_progA (R_prog v3 true).1), .int (v4.2.2.2.2.2.2.2.2.2.2.2.2.2.2.2.2.1), .int (v4.2.2.2.2.2.2.2.2.2.2.2.2.2.2.2.2.2), .int (nI (i))] 40 [] := by
      intro fu
      induction fu with
      | zero =>
        intro i  hin 
        have hi0 : i = 544 := by omega
        subst hi0
        refine v_iload hX dX6_perform_40 rfl ?_
        refine v_sipush (x := (544 : Int32)) hX dX6_perform_42 (by decide) ?_
        refine v_icmp_ge (tgt := 86) hX dX6_perform_45 (by decide) (fun c5 => ?_) (fun c5 => ?_)
        · replace c5 := (nI_leI (a := 544) (b := 544) (by omega) (by omega)).mp c5
          refine v_weq (w2 := wR E a (R_setA (R_setS v4 v4.2.1) v4.1)) (weq_sa E a _ _ _ (fun j hj => mixF_lt hj) (fun j hj => mixF_lt hj)) ?_
          refine v_iload_n hX dX6_perform_86 rfl ?_
          refine v_bipush (x := (-5 : Int32)) hX dX6_perform_87 (by decide) ?_
          refine v_icmp_eq (tgt := 106) hX dX6_perform_89 (by decide) (fun c6 => ?_) (fun c6 => ?_)
          · have c6t := eq_true c6
            refine v_aload_n hX dX6_perform_106 rfl ?_
            obtain ⟨v7, hv7⟩ : ∃ z_ : RV, z_ = R_rec (R_setA (R_setS v4 v4.2.1) v4.1) := ⟨_, rfl⟩
            refine v_callVv (rest := []) (ws' := wR E a v7) hX (fun sz => c_X6_record l E a sz (R_setA (R_setS v4 v4.2.1) v4.1) ) (cwV 0 hX.2.2.2.2.1 gX6_perform_X6_record rfl rfl rfl (by decide +kernel) ⟨Nat.le_of_ble_eq_true rfl, Nat.le_of_ble_eq_true rfl⟩) ([]) ([]) ((List.append_nil _).symm) (by rw [hv7]; exact List.append_nil _) (wR_fst E a _ _) (ci := 6) (q0 := 0) rfl rfl rfl rfl rfl (Nat.le_of_ble_eq_true rfl) dX6_perform_107 ?_
            refine v_aload_n hX dX6_perform_110 rfl ?_
            obtain ⟨m8, hm8⟩ : ∃ z_ : MV, z_ = v7.2.1 := ⟨_, rfl⟩
            refine v_callVv (rest := []) (ws' := wR E a (R_setS v7 m8)) hX (fun sz => c_X6_putBack l E a sz v7 ) (cwV 0 hX.2.2.2.2.1 gX6_perform_X6_putBack rfl rfl rfl (by decide +kernel) ⟨Nat.le_of_ble_eq_true rfl, Nat.le_of_ble_eq_true rfl⟩) ([]) ([]) ((List.append_nil _).symm) (by rw [hm8]; exact List.append_nil _) (wR_fst E a _ _) (ci := 6) (q0 := 0) rfl rfl rfl rfl rfl (Nat.le_of_ble_eq_true rfl) dX6_perform_111 ?_
            refine v_iload_n hX dX6_perform_114 rfl ?_
            exact v_iret hX hr hsz dX6_perform_115 rfl rfl (by (subst hm8; subst hv7; subst hv4; subst hv3; subst hv1; first | (simp only [R_perform, R_try, R_sw, R_back, c2t, c5, c6t, if_true, if_false, reduceIte, Bool.false_eq_true, reduceCtorEq, decide_true, decide_false, Bool.and_true, Bool.and_false, Bool.true_and, Bool.false_and, Bool.or_true, Bool.or_false, Bool.true_or, Bool.false_or, not_true_eq_false, not_false_eq_true, Bool.not_true, Bool.not_false, eq_self, Nat.reduceEqDiff]; done) | rfl | (simp only [R_perform, R_try, R_sw, R_back, c2t, c5, c6t, if_true, if_false, reduceIte, Bool.false_eq_true, reduceCtorEq, decide_true, decide_false, Bool.and_true, Bool.and_false, Bool.true_and, Bool.false_and, Bool.or_true, Bool.or_false, Bool.true_or, Bool.false_or, not_true_eq_false, not_false_eq_true, Bool.not_true, Bool.not_false, eq_self, Nat.reduceEqDiff]; rfl) | contradiction | (exfalso; omega))) (by (subst hm8; subst hv7; subst hv4; subst hv3; subst hv1; first | (simp only [R_perform, R_try, R_sw, R_back, c2t, c5, c6t, if_true, if_false, reduceIte, Bool.false_eq_true, reduceCtorEq, decide_true, decide_false, Bool.and_true, Bool.and_false, Bool.true_and, Bool.false_and, Bool.or_true, Bool.or_false, Bool.true_or, Bool.false_or, not_true_eq_false, not_false_eq_true, Bool.not_true, Bool.not_false, eq_self, Nat.reduceEqDiff]; done) | rfl | (simp only [R_perform, R_try, R_sw, R_back, c2t, c5, c6t, if_true, if_false, reduceIte, Bool.false_eq_true, reduceCtorEq, decide_true, decide_false, Bool.and_true, Bool.and_false, Bool.true_and, Bool.false_and, Bool.or_true, Bool.or_false, Bool.true_or, Bool.false_or, not_true_eq_false, not_false_eq_true, Bool.not_true, Bool.not_false, eq_self, Nat.reduceEqDiff]; rfl) | contradiction | (exfalso; omega)))
          · refine v_aload_n hX dX6_perform_92 rfl ?_
            refine v_iload_n hX dX6_perform_93 rfl ?_
            obtain ⟨v9, hv9⟩ : ∃ z_ : RV, z_ = R_setStop (R_setA (R_setS v4 v4.2.1) v4.1) (v4.2.2.2.2.2.2.2.2.2.2.2.2.2.2.2.2.2) := ⟨_, rfl⟩
            refine v_put (C := RX6) (T := TX6) (N := 18) (ci := 6) (v := .int (v4.2.2.2.2.2.2.2.2.2.2.2.2.2.2.2.2.2)) (ty := .int) (ws' := wR E a v9) hX in_X6 tyX6 tyX6_ok nmX6 0 rfl rfl 8 (by decide) fl_25 rfl rfl (by decide +kernel) (rfl) (rfl) (Nat.le_of_ble_eq_true rfl) dX6_perform_94 (by rw [hv9]; exact sR_Stop E a (R_setA (R_setS v4 v4.2.1) v4.1) _) ?_
            refine v_aload_n hX dX6_perform_97 rfl ?_
            refine v_bipush (x := (-4 : Int32)) hX dX6_perform_98 (by decide) ?_
            obtain ⟨v11, hv11⟩ : ∃ z_ : RV, z_ = R_setStopE v9 ((-4 : Int32)) := ⟨_, rfl⟩
            refine v_put (C := RX6) (T := TX6) (N := 18) (ci := 6) (v := .int ((-4 : Int32))) (ty := .int) (ws' := wR E a v11) hX in_X6 tyX6 tyX6_ok nmX6 0 rfl rfl 9 (by decide) fl_176 rfl rfl (by decide +kernel) (rfl) (rfl) (Nat.le_of_ble_eq_true rfl) dX6_perform_100 (by rw [hv11]; exact sR_StopE E a v9 _) ?_
            refine v_bipush (x := (-4 : Int32)) hX dX6_perform_103 (by decide) ?_
            exact v_iret hX hr hsz dX6_perform_105 rfl rfl (by (subst hv11; subst hv9; subst hv4; subst hv3; subst hv1; first | (simp only [R_perform, R_try, R_sw, R_back, c2t, c5, c6, if_true, if_false, reduceIte, Bool.false_eq_true, reduceCtorEq, decide_true, decide_false, Bool.and_true, Bool.and_false, Bool.true_and, Bool.false_and, Bool.or_true, Bool.or_false, Bool.true_or, Bool.false_or, not_true_eq_false, not_false_eq_true, Bool.not_true, Bool.not_false, eq_self, Nat.reduceEqDiff]; done) | rfl | (simp only [R_perform, R_try, R_sw, R_back, c2t, c5, c6, if_true, if_false, reduceIte, Bool.false_eq_true, reduceCtorEq, decide_true, decide_false, Bool.and_true, Bool.and_false, Bool.true_and, Bool.false_and, Bool.or_true, Bool.or_false, Bool.true_or, Bool.false_or, not_true_eq_false, not_false_eq_true, Bool.not_true, Bool.not_false, eq_self, Nat.reduceEqDiff]; rfl) | contradiction | (exfalso; omega))) (by (subst hv11; subst hv9; subst hv4; subst hv3; subst hv1; first | (simp only [R_perform, R_try, R_sw, R_back, c2t, c5, c6, if_true, if_false, reduceIte, Bool.false_eq_true, reduceCtorEq, decide_true, decide_false, Bool.and_true, Bool.and_false, Bool.true_and, Bool.false_and, Bool.or_true, Bool.or_false, Bool.true_or, Bool.false_or, not_true_eq_false, not_false_eq_true, Bool.not_true, Bool.not_false, eq_self, Nat.reduceEqDiff]; done) | rfl | (simp only [R_perform, R_try, R_sw, R_back, c2t, c5, c6, if_true, if_false, reduceIte, Bool.false_eq_true, reduceCtorEq, decide_true, decide_false, Bool.and_true, Bool.and_false, Bool.true_and, Bool.false_and, Bool.or_true, Bool.or_false, Bool.true_or, Bool.false_or, not_true_eq_false, not_false_eq_true, Bool.not_true, Bool.not_false, eq_self, Nat.reduceEqDiff]; rfl) | contradiction | (exfalso; omega)))
        · replace c5 := (not_congr (nI_leI (a := 544) (b := 544) (by omega) (by omega))).mp c5
          exfalso; omega
      | succ fu ih =>
        intro i  hin 
        refine v_iload hX dX6_perform_40 rfl ?_
        refine v_sipush (x := (544 : Int32)) hX dX6_perform_42 (by decide) ?_
        refine v_icmp_ge (tgt := 86) hX dX6_perform_45 (by decide) (fun c13 => ?_) (fun c13 => ?_)
        · replace c13 := (nI_leI (a := 544) (b := i) (by omega) (by omega)).mp c13
          exfalso; omega
        · replace c13 := (not_congr (nI_leI (a := 544) (b := i) (by omega) (by omega))).mp c13
          refine v_aload_n hX dX6_perform_48 rfl ?_
          refine v_get (C := RX6) (T := TX6) (N := 18) (ci := 6) (v := .ref (a 1)) hX in_X6 0 rfl rfl 0 (by decide) fl_7 rfl rfl dX6_perform_49 ?_
          refine v_iload hX dX6_perform_52 rfl ?_
          refine v_iald (z := (encS v4.1) (i)) hX 1 rfl (vp_in_nI (by omega : i < 544) (by omega)) (by simp only [nI_clamp (show i < 2 ^ 31 by omega)]; exact mixF_at (encS v4.2.1) (encS v4.1) i) dX6_perform_54 ?_
          refine v_istore (lv' := [.ref (a 0), .int (R_progA (R_prog v3 true).1), .int (v4.2.2.2.2.2.2.2.2.2.2.2.2.2.2.2.2.1), .int (v4.2.2.2.2.2.2.2.2.2.2.2.2.2.2.2.2.2), .int (nI (i)), .int ((encS v4.1) (i))]) hX dX6_perform_55 (Nat.le_of_ble_eq_true rfl) (Nat.le_of_ble_eq_true rfl) rfl rfl ?_
          refine v_aload_n hX dX6_perform_57 rfl ?_
          refine v_get (C := RX6) (T := TX6) (N := 18) (ci := 6) (v := .ref (a 1)) hX in_X6 0 rfl rfl 0 (by decide) fl_7 rfl rfl dX6_perform_58 ?_
          refine v_iload hX dX6_perform_61 rfl ?_
          refine v_aload_n hX dX6_perform_63 rfl ?_
          refine v_get (C := RX6) (T := TX6) (N := 18) (ci := 6) (v := .ref (a 2)) hX in_X6 0 rfl rfl 1 (by decide) fl_13 rfl rfl dX6_perform_64 ?_
          refine v_iload hX dX6_perform_67 rfl ?_
          refine v_iald (z := (encS v4.2.1) (i)) hX 2 rfl (vp_in_nI (by omega : i < 544) (by omega)) (by simp only [nI_clamp (show i < 2 ^ 31 by omega)]; exact mixF_at (encS v4.1) (encS v4.2.1) i) dX6_perform_69 ?_
          refine v_iast (ws' := wR0 E a (mixF (i + 1) (encS v4.2.1) (encS v4.1)) (mixF (i) (encS v4.1) (encS v4.2.1)) (encH v4.2.2.1) (encS v4.2.2.2.1) (v4.2.2.2.2)) hX 1 rfl (vp_in_nI (by omega : i < 544) (by omega)) (by rw [nI_clamp (by omega)]; exact congrArg (fun z => wR0 E a (z) (mixF (i) (encS v4.1) (encS v4.2.1)) (encH v4.2.2.1) (encS v4.2.2.2.1) (v4.2.2.2.2)) (mixF_st _ _ i)) dX6_perform_70 ?_
          refine v_aload_n hX dX6_perform_71 rfl ?_
          refine v_get (C := RX6) (T := TX6) (N := 18) (ci := 6) (v := .ref (a 2)) hX in_X6 0 rfl rfl 1 (by decide) fl_13 rfl rfl dX6_perform_72 ?_
          refine v_iload hX dX6_perform_75 rfl ?_
          refine v_iload hX dX6_perform_77 rfl ?_
          refine v_iast (ws' := wR0 E a (mixF (i + 1) (encS v4.2.1) (encS v4.1)) (mixF (i + 1) (encS v4.1) (encS v4.2.1)) (encH v4.2.2.1) (encS v4.2.2.2.1) (v4.2.2.2.2)) hX 2 rfl (vp_in_nI (by omega : i < 544) (by omega)) (by rw [nI_clamp (by omega)]; exact congrArg (fun z => wR0 E a (mixF (i + 1) (encS v4.2.1) (encS v4.1)) (z) (encH v4.2.2.1) (encS v4.2.2.2.1) (v4.2.2.2.2)) (mixF_st _ _ i)) dX6_perform_79 ?_
          refine v_iinc (y := nI (i + 1)) (lv' := [.ref (a 0), .int (R_progA (R_prog v3 true).1), .int (v4.2.2.2.2.2.2.2.2.2.2.2.2.2.2.2.2.1), .int (v4.2.2.2.2.2.2.2.2.2.2.2.2.2.2.2.2.2), .int (nI (i + 1)), .int ((encS v4.1) (i))]) hX dX6_perform_80 rfl (nI_inc _) (Nat.le_of_ble_eq_true rfl) (Nat.le_of_ble_eq_true rfl) rfl rfl ?_
          refine v_goto (tgt := 40) hX dX6_perform_83 (by decide) ?_
          exact v_fewer 5 rfl (ih (i + 1)  (by omega) )
    subst hv4
    subst hv3
    subst hv1
    have hs0 := loop_40 544 0  (by omega) 
    simp only [mixF_0] at hs0
    exact hs0
  · refine v_bipush (x := (-100 : Int32)) hX dX6_perform_12 (by decide) ?_
    refine v_iload_n hX dX6_perform_14 rfl ?_
    refine v_isub (z := ((-100 : Int32) - R_progA (R_prog v false).1)) hX dX6_perform_15 (rfl) ?_
    exact v_iret hX hr hsz dX6_perform_16 rfl rfl (by (subst hv1; first | (simp only [R_perform, R_try, R_sw, R_back, c2, if_true, if_false, reduceIte, Bool.false_eq_true, reduceCtorEq, decide_true, decide_false, Bool.and_true, Bool.and_false, Bool.true_and, Bool.false_and, Bool.or_true, Bool.or_false, Bool.true_or, Bool.false_or, not_true_eq_false, not_false_eq_true, Bool.not_true, Bool.not_false, eq_self, Nat.reduceEqDiff]; done) | rfl | (simp only [R_perform, R_try, R_sw, R_back, c2, if_true, if_false, reduceIte, Bool.false_eq_true, reduceCtorEq, decide_true, decide_false, Bool.and_true, Bool.and_false, Bool.true_and, Bool.false_and, Bool.or_true, Bool.or_false, Bool.true_or, Bool.false_or, not_true_eq_false, not_false_eq_true, Bool.not_true, Bool.not_false, eq_self, Nat.reduceEqDiff]; rfl) | contradiction | (exfalso; omega))) (by (subst hv1; first | (simp only [R_perform, R_try, R_sw, R_back, c2, if_true, if_false, reduceIte, Bool.false_eq_true, reduceCtorEq, decide_true, decide_false, Bool.and_true, Bool.and_false, Bool.true_and, Bool.false_and, Bool.or_true, Bool.or_false, Bool.true_or, Bool.false_or, not_true_eq_false, not_false_eq_true, Bool.not_true, Bool.not_false, eq_self, Nat.reduceEqDiff]; done) | rfl | (simp only [R_perform, R_try, R_sw, R_back, c2, if_true, if_false, reduceIte, Bool.false_eq_true, reduceCtorEq, decide_true, decide_false, Bool.and_true, Bool.and_false, Bool.true_and, Bool.false_and, Bool.or_true, Bool.or_false, Bool.true_or, Bool.false_or, not_true_eq_false, not_false_eq_true, Bool.not_true, Bool.not_false, eq_self, Nat.reduceEqDiff]; rfl) | contradiction | (exfalso; omega)))
