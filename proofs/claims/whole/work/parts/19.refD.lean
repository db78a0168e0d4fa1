/-! ===== what the reference's public methods answer, first part ===== -/
def R_core (u : RV) (c w : Int32) : Int32 := if S_within c 0 3 = true then if S_within w 0 10 = true then
    (if cN w = 0 then Q_lines u.1 (cN c) else if cN w = 1 then Q_dirty u.1 (cN c) else if cN w = 2 then Q_from u.1 (cN c) 1 else if cN w = 3 then Q_stuckOf u.1 (cN c) else if cN w = 4 then Q_bits u.1 (cN c) else (u.1.2.1 (cN c)).2.2.2.1 (cN w - 5))
  else -2 else -1
def R_counter (u : RV) (c k : Int32) : Int32 := if S_within c 0 3 = true then if S_within k 0 23 = true then (u.1.2.1 (cN c)).2.2.2.2.1 (cN k) else -1 else -1
def R_bit (u : RV) (c k : Int32) : Int32 := if S_within c 0 3 = true then if S_within k 0 15 = true then bI ((u.1.2.1 (cN c)).2.2.2.2.2.2 (cN k)) else -1 else -1
def R_line (u : RV) (l w : Int32) : Int32 := if S_within l 0 255 = true then if S_within w 0 5 = true then
    (if cN w = 0 then u.1.1 (lF l).val else if cN w = 1 then Q_would u.1 (lF l) else if cN w = 2 then Q_with u.1 (lF l) true else if cN w = 3 then Q_with u.1 (lF l) false else nI (Q_ctr (lF l).val (cN w - 4)))
  else -2 else -1
def R_reason (u : RV) (c l : Int32) : Int32 := if S_within c 0 3 = true then if S_within l 0 255 = true then
    (if Q_may u.1 (cN c) (lF l).val = true then (if Q_holds u.1 (cN c) (lF l) = true then 0 else 1) else if (u.1.2.1 (cN c)).2.2.2.2.2.2 ((lF l).val / 16) = true then 3 else 2)
  else -1 else -1
def R_vainF (m : MV) (o : Nat) : Nat → Int32 → Int32 := fun i x => if Q_may m o i = true then (if Q_holds m o (f256 i) = true then x + 0 else x + 1) else x + 0
def R_vain (u : RV) (c : Int32) : Int32 := if S_within c 0 3 = true then it (R_vainF u.1 (cN c)) 256 0 else -1
def R_worstF (m : MV) : Nat → Int32 × Int32 → Int32 × Int32 := fun i u => if (m.2.1 i).2.2.2.1 3 ≤ u.2 then u else (nI i, (m.2.1 i).2.2.2.1 3)
def R_worst (u : RV) : Int32 := (it (R_worstF u.1) 4 (-5, 0)).1
def R_count (u : RV) (w : Int32) : Int32 := if S_within w 0 13 = true then
    (if cN w = 0 then Q_all u.1 else if cN w = 1 then Q_dirty u.1 0 + Q_dirty u.1 1 + Q_dirty u.1 2 + Q_dirty u.1 3 else if cN w = 2 then Q_sum u.1 (cN w) else if cN w = 3 then Q_sum u.1 (cN w) else if cN w = 4 then Q_sum u.1 (cN w) else if cN w = 5 then u.1.2.2.2.2.1 else if cN w = 6 then Q_sum u.1 5 else if cN w = 7 then Q_sum u.1 (cN w - 7) else if cN w = 8 then Q_sum u.1 (cN w - 7) else if cN w = 9 then u.1.2.2.2.2.2 else if cN w = 10 then u.1.2.2.1 else if cN w = 11 then u.1.2.2.2.1 else if cN w = 12 then nI u.2.2.2.2.1.val else nI u.2.2.2.2.2.2.2.1.val)
  else -2
set_option maxHeartbeats 4000000 in
set_option maxRecDepth 100000 in
theorem c_X6_core (l : Launch) (E : ET) (a : Nat → Nat) (sz : Nat) (v : RV) (co : Int32) (w : Int32) : Met l yX6_core wsX6_core ({ frames := 2, cells := 0, slots := 0, locals := 42 }) (mPc E [.ref (a 0), .int (co), .int (w)] sz (wR E a v)) (mQi E (R_core v co w) (wR E a v) (wR E a v) sz) 0 0 (va_A (wR E a v) sz) := by
  refine v_start (cc := cX6_core) (maxL := 3) (ret := (some .int)) (by decide) rfl (Nat.le_of_ble_eq_true rfl) rfl ?_
  intro p e s m args below meth c hsz hr hX
  have hX : Xc p s m args meth c E 3 (va_A (wR E a v) sz) cX6_core RX6 wsX6_core := hX
  have in_X6 : ∀ w ∈ u_ws RX6 TX6 18, w ∈ wsX6_core := by decide +kernel
  have fl_7 : Cond.fieldLink RX6 7 RX6 "s" "[I" ∈ wsX6_core := by decide +kernel
  refine v_iload_n hX dX6_core_0 rfl ?_
  refine v_callSi (r := bI (S_within co (0 : Int32) (3 : Int32))) (rest := []) (ws' := wR E a v) hX (fun sz => c_X6_isCore l E sz co) (va_cwS 1 hX.2.2.2.2.1 gX6_core_X6_isCore rfl rfl rfl (by decide +kernel) ⟨Nat.le_of_ble_eq_true rfl, Nat.le_of_ble_eq_true rfl⟩) ([]) (wR E a v) (rfl) rfl (rfl) rfl rfl (Nat.le_of_ble_eq_true rfl) dX6_core_1 ?_
  refine v_if_ne (tgt := 9) hX dX6_core_4 (by decide) (fun c1 => ?_) (fun c1 => ?_)
  · replace c1 := bI_n0.mp c1
    obtain ⟨r, hle_r, heq_r⟩ := within_nat (B := 3) rfl (by decide) c1
    subst heq_r
    have ec_r : cN (nI r) = r := cN_nI (by omega)
    refine v_iload_n hX dX6_core_9 rfl ?_
    rcases pk_ix w (n := 11) (by decide) with h2 | h2 | ⟨j, hle_j, heq_j⟩
    · have hS_w : S_within w 0 (10 : Int32) = false := within_lo h2
      refine v_tableOut (tgt := 112) hX dX6_core_10 (Or.inl (i_lt0 h2)) (by decide) ?_
      refine v_bipush (x := (-2 : Int32)) hX dX6_core_112 (by decide) ?_
      exact v_iret hX hr hsz dX6_core_114 rfl rfl (by (first | (simp only [R_core, c1, ec_r, hS_w, if_true, if_false, reduceIte, Bool.false_eq_true, reduceCtorEq, decide_true, decide_false, Bool.and_true, Bool.and_false, Bool.true_and, Bool.false_and, Bool.or_true, Bool.or_false, Bool.true_or, Bool.false_or, not_true_eq_false, not_false_eq_true, Bool.not_true, Bool.not_false, eq_self, Nat.reduceEqDiff]; done) | rfl | (simp only [R_core, c1, ec_r, hS_w, if_true, if_false, reduceIte, Bool.false_eq_true, reduceCtorEq, decide_true, decide_false, Bool.and_true, Bool.and_false, Bool.true_and, Bool.false_and, Bool.or_true, Bool.or_false, Bool.true_or, Bool.false_or, not_true_eq_false, not_false_eq_true, Bool.not_true, Bool.not_false, eq_self, Nat.reduceEqDiff]; rfl) | contradiction | (exfalso; omega))) rfl
    · have hS_w : S_within w 0 (10 : Int32) = false := within_hi (B := 10) rfl (by decide) h2
      refine v_tableOut (tgt := 112) hX dX6_core_10 (Or.inr (by have := i_hi h2 (by decide); omega)) (by decide) ?_
      refine v_bipush (x := (-2 : Int32)) hX dX6_core_112 (by decide) ?_
      exact v_iret hX hr hsz dX6_core_114 rfl rfl (by (first | (simp only [R_core, c1, ec_r, hS_w, if_true, if_false, reduceIte, Bool.false_eq_true, reduceCtorEq, decide_true, decide_false, Bool.and_true, Bool.and_false, Bool.true_and, Bool.false_and, Bool.or_true, Bool.or_false, Bool.true_or, Bool.false_or, not_true_eq_false, not_false_eq_true, Bool.not_true, Bool.not_false, eq_self, Nat.reduceEqDiff]; done) | rfl | (simp only [R_core, c1, ec_r, hS_w, if_true, if_false, reduceIte, Bool.false_eq_true, reduceCtorEq, decide_true, decide_false, Bool.and_true, Bool.and_false, Bool.true_and, Bool.false_and, Bool.or_true, Bool.or_false, Bool.true_or, Bool.false_or, not_true_eq_false, not_false_eq_true, Bool.not_true, Bool.not_false, eq_self, Nat.reduceEqDiff]; rfl) | contradiction | (exfalso; omega))) rfl
    subst heq_j
    have ec_j : cN (nI j) = j := cN_nI (by omega)
    have hS_w : S_within (nI j) 0 (10 : Int32) = true := within_nI (B := 10) rfl (by omega) (by decide)
    by_cases k3 : j = 0
    · have k3t := eq_true k3
      refine v_tableIn (tgt := 68) (off := 58) hX dX6_core_10 (by rw [k3]; decide) (by rw [k3]; decide) (by rw [k3]; decide) (by decide) ?_
      refine v_aload_n hX dX6_core_68 rfl ?_
      refine v_iload_n hX dX6_core_69 rfl ?_
      refine v_callVi (r := Q_lines v.1 r) (rest := []) (ws' := wR E a v) hX (fun sz => c_X6_linesOf l E a sz v r (by first | omega | exact Nat.le_of_ble_eq_true rfl)) (cwV 1 hX.2.2.2.2.1 gX6_core_X6_linesOf rfl rfl rfl (by decide +kernel) ⟨Nat.le_of_ble_eq_true rfl, Nat.le_of_ble_eq_true rfl⟩) ([]) ([]) ((List.append_nil _).symm) ((List.append_nil _).symm).symm (wR_fst E a _ _) (ci := 6) (q0 := 0) rfl rfl rfl rfl rfl (Nat.le_of_ble_eq_true rfl) dX6_core_70 ?_
      exact v_iret hX hr hsz dX6_core_73 rfl rfl (by (first | (simp only [R_core, c1, ec_r, ec_j, hS_w, k3t, if_true, if_false, reduceIte, Bool.false_eq_true, reduceCtorEq, decide_true, decide_false, Bool.and_true, Bool.and_false, Bool.true_and, Bool.false_and, Bool.or_true, Bool.or_false, Bool.true_or, Bool.false_or, not_true_eq_false, not_false_eq_true, Bool.not_true, Bool.not_false, eq_self, Nat.reduceEqDiff]; done) | rfl | (simp only [R_core, c1, ec_r, ec_j, hS_w, k3t, if_true, if_false, reduceIte, Bool.false_eq_true, reduceCtorEq, decide_true, decide_false, Bool.and_true, Bool.and_false, Bool.true_and, Bool.false_and, Bool.or_true, Bool.or_false, Bool.true_or, Bool.false_or, not_true_eq_false, not_false_eq_true, Bool.not_true, Bool.not_false, eq_self, Nat.reduceEqDiff]; rfl) | contradiction | (exfalso; omega))) rfl
    by_cases k4 : j = 1
    · have k4t := eq_true k4
      refine v_tableIn (tgt := 74) (off := 64) hX dX6_core_10 (by rw [k4]; decide) (by rw [k4]; decide) (by rw [k4]; decide) (by decide) ?_
      refine v_aload_n hX dX6_core_74 rfl ?_
      refine v_iload_n hX dX6_core_75 rfl ?_
      refine v_callVi (r := Q_dirty v.1 r) (rest := []) (ws' := wR E a v) hX (fun sz => c_X6_dirtyOf l E a sz v r (by first | omega | exact Nat.le_of_ble_eq_true rfl)) (cwV 1 hX.2.2.2.2.1 gX6_core_X6_dirtyOf rfl rfl rfl (by decide +kernel) ⟨Nat.le_of_ble_eq_true rfl, Nat.le_of_ble_eq_true rfl⟩) ([]) ([]) ((List.append_nil _).symm) ((List.append_nil _).symm).symm (wR_fst E a _ _) (ci := 6) (q0 := 0) rfl rfl rfl rfl rfl (Nat.le_of_ble_eq_true rfl) dX6_core_76 ?_
      exact v_iret hX hr hsz dX6_core_79 rfl rfl (by (first | (simp only [R_core, c1, ec_r, ec_j, hS_w, k3, k4t, if_true, if_false, reduceIte, Bool.false_eq_true, reduceCtorEq, decide_true, decide_false, Bool.and_true, Bool.and_false, Bool.true_and, Bool.false_and, Bool.or_true, Bool.or_false, Bool.true_or, Bool.false_or, not_true_eq_false, not_false_eq_true, Bool.not_true, Bool.not_false, eq_self, Nat.reduceEqDiff]; done) | rfl | (simp only [R_core, c1, ec_r, ec_j, hS_w, k3, k4t, if_true, if_false, reduceIte, Bool.false_eq_true, reduceCtorEq, decide_true, decide_false, Bool.and_true, Bool.and_false, Bool.true_and, Bool.false_and, Bool.or_true, Bool.or_false, Bool.true_or, Bool.false_or, not_true_eq_false, not_false_eq_true, Bool.not_true, Bool.not_false, eq_self, Nat.reduceEqDiff]; rfl) | contradiction | (exfalso; omega))) rfl
    by_cases k5 : j = 2
    · have k5t := eq_true k5
      refine v_tableIn (tgt := 80) (off := 70) hX dX6_core_10 (by rw [k5]; decide) (by rw [k5]; decide) (by rw [k5]; decide) (by decide) ?_
      refine v_aload_n hX dX6_core_80 rfl ?_
      refine v_iload_n hX dX6_core_81 rfl ?_
      refine v_iconst (x := (1 : Int32)) hX dX6_core_82 (by decide) ?_
      refine v_callVi (r := Q_from v.1 r (1 : Int32)) (rest := []) (ws' := wR E a v) hX (fun sz => c_X6_countersFrom l E a sz v r (by first | omega | exact Nat.le_of_ble_eq_true rfl) (1 : Int32)) (cwV 2 hX.2.2.2.2.1 gX6_core_X6_countersFrom rfl rfl rfl (by decide +kernel) ⟨Nat.le_of_ble_eq_true rfl, Nat.le_of_ble_eq_true rfl⟩) ([]) ([]) ((List.append_nil _).symm) ((List.append_nil _).symm).symm (wR_fst E a _ _) (ci := 6) (q0 := 0) rfl rfl rfl rfl rfl (Nat.le_of_ble_eq_true rfl) dX6_core_83 ?_
      exact v_iret hX hr hsz dX6_core_86 rfl rfl (by (first | (simp only [R_core, c1, ec_r, ec_j, hS_w, k3, k4, k5t, if_true, if_false, reduceIte, Bool.false_eq_true, reduceCtorEq, decide_true, decide_false, Bool.and_true, Bool.and_false, Bool.true_and, Bool.false_and, Bool.or_true, Bool.or_false, Bool.true_or, Bool.false_or, not_true_eq_false, not_false_eq_true, Bool.not_true, Bool.not_false, eq_self, Nat.reduceEqDiff]; done) | rfl | (simp only [R_core, c1, ec_r, ec_j, hS_w, k3, k4, k5t, if_true, if_false, reduceIte, Bool.false_eq_true, reduceCtorEq, decide_true, decide_false, Bool.and_true, Bool.and_false, Bool.true_and, Bool.false_and, Bool.or_true, Bool.or_false, Bool.true_or, Bool.false_or, not_true_eq_false, not_false_eq_true, Bool.not_true, Bool.not_false, eq_self, Nat.reduceEqDiff]; rfl) | contradiction | (exfalso; omega))) rfl
    by_cases k6 : j = 3
    · have k6t := eq_true k6
      refine v_tableIn (tgt := 87) (off := 77) hX dX6_core_10 (by rw [k6]; decide) (by rw [k6]; decide) (by rw [k6]; decide) (by decide) ?_
      refine v_aload_n hX dX6_core_87 rfl ?_
      refine v_iload_n hX dX6_core_88 rfl ?_
      refine v_callVi (r := Q_stuckOf v.1 r) (rest := []) (ws' := wR E a v) hX (fun sz => c_X6_stuckOf l E a sz v r (by first | omega | exact Nat.le_of_ble_eq_true rfl)) (cwV 1 hX.2.2.2.2.1 gX6_core_X6_stuckOf rfl rfl rfl (by decide +kernel) ⟨Nat.le_of_ble_eq_true rfl, Nat.le_of_ble_eq_true rfl⟩) ([]) ([]) ((List.append_nil _).symm) ((List.append_nil _).symm).symm (wR_fst E a _ _) (ci := 6) (q0 := 0) rfl rfl rfl rfl rfl (Nat.le_of_ble_eq_true rfl) dX6_core_89 ?_
      exact v_iret hX hr hsz dX6_core_92 rfl rfl (by (first | (simp only [R_core, c1, ec_r, ec_j, hS_w, k3, k4, k5, k6t, if_true, if_false, reduceIte, Bool.false_eq_true, reduceCtorEq, decide_true, decide_false, Bool.and_true, Bool.and_false, Bool.true_and, Bool.false_and, Bool.or_true, Bool.or_false, Bool.true_or, Bool.false_or, not_true_eq_false, not_false_eq_true, Bool.not_true, Bool.not_false, eq_self, Nat.reduceEqDiff]; done) | rfl | (simp only [R_core, c1, ec_r, ec_j, hS_w, k3, k4, k5, k6t, if_true, if_false, reduceIte, Bool.false_eq_true, reduceCtorEq, decide_true, decide_false, Bool.and_true, Bool.and_false, Bool.true_and, Bool.false_and, Bool.or_true, Bool.or_false, Bool.true_or, Bool.false_or, not_true_eq_false, not_false_eq_true, Bool.not_true, Bool.not_false, eq_self, Nat.reduceEqDiff]; rfl) | contradiction | (exfalso; omega))) rfl
    by_cases k7 : j = 4
    · have k7t := eq_true k7
      refine v_tableIn (tgt := 93) (off := 83) hX dX6_core_10 (by rw [k7]; decide) (by rw [k7]; decide) (by rw [k7]; decide) (by decide) ?_
      refine v_aload_n hX dX6_core_93 rfl ?_
      refine v_iload_n hX dX6_core_94 rfl ?_
      refine v_callVi (r := Q_bits v.1 r) (rest := []) (ws' := wR E a v) hX (fun sz => c_X6_bits l E a sz v r (by first | omega | exact Nat.le_of_ble_eq_true rfl)) (cwV 1 hX.2.2.2.2.1 gX6_core_X6_bits rfl rfl rfl (by decide +kernel) ⟨Nat.le_of_ble_eq_true rfl, Nat.le_of_ble_eq_true rfl⟩) ([]) ([]) ((List.append_nil _).symm) ((List.append_nil _).symm).symm (wR_fst E a _ _) (ci := 6) (q0 := 0) rfl rfl rfl rfl rfl (Nat.le_of_ble_eq_true rfl) dX6_core_95 ?_
      exact v_iret hX hr hsz dX6_core_98 rfl rfl (by (first | (simp only [R_core, c1, ec_r, ec_j, hS_w, k3, k4, k5, k6, k7t, if_true, if_false, reduceIte, Bool.false_eq_true, reduceCtorEq, decide_true, decide_false, Bool.and_true, Bool.and_false, Bool.true_and, Bool.false_and, Bool.or_true, Bool.or_false, Bool.true_or, Bool.false_or, not_true_eq_false, not_false_eq_true, Bool.not_true, Bool.not_false, eq_self, Nat.reduceEqDiff]; done) | rfl | (simp only [R_core, c1, ec_r, ec_j, hS_w, k3, k4, k5, k6, k7t, if_true, if_false, reduceIte, Bool.false_eq_true, reduceCtorEq, decide_true, decide_false, Bool.and_true, Bool.and_false, Bool.true_and, Bool.false_and, Bool.or_true, Bool.or_false, Bool.true_or, Bool.false_or, not_true_eq_false, not_false_eq_true, Bool.not_true, Bool.not_false, eq_self, Nat.reduceEqDiff]; rfl) | contradiction | (exfalso; omega))) rfl
    by_cases k8 : j = 5
    · have k8t := eq_true k8
      refine v_tableIn (tgt := 99) (off := 89) hX dX6_core_10 (by rw [k8]; decide) (by rw [k8]; decide) (by rw [k8]; decide) (by decide) ?_
      refine v_aload_n hX dX6_core_99 rfl ?_
      refine v_get (C := RX6) (T := TX6) (N := 18) (ci := 6) (v := .ref (a 1)) hX in_X6 0 rfl rfl 0 (by decide) fl_7 rfl rfl dX6_core_100 ?_
      refine v_iload_n hX dX6_core_103 rfl ?_
      refine v_iload_n hX dX6_core_104 rfl ?_
      refine v_iconst (x := (5 : Int32)) hX dX6_core_105 (by decide) ?_
      refine v_isub (z := nI (j - 5)) hX dX6_core_106 (pk_sub (a := j) (b := 5) (by omega)) ?_
      refine v_callSi (r := nI (512 + (6 * r) + (j - 5))) (rest := [.ref (a 1)]) (ws' := wR E a v) hX (fun sz => c_X6_told l E sz r (by first | omega | exact Nat.le_of_ble_eq_true rfl) (j - 5) (by first | omega | exact Nat.le_of_ble_eq_true rfl)) (va_cwS 2 hX.2.2.2.2.1 gX6_core_X6_told rfl rfl rfl (by decide +kernel) ⟨Nat.le_of_ble_eq_true rfl, Nat.le_of_ble_eq_true rfl⟩) ([]) (wR E a v) (rfl) rfl (rfl) rfl rfl (Nat.le_of_ble_eq_true rfl) dX6_core_107 ?_
      refine v_iald (z := (v.1.2.1 r).2.2.2.1 (j - 5)) hX 1 rfl (vp_in_nI (by omega : 512 + (6 * r) + (j - 5) < 544) (by omega)) (by simp only [nI_clamp (show 512 + (6 * r) + (j - 5) < 2 ^ 31 by omega)]; exact gS_tal v.1 (o := r) (q := j - 5) (by omega) (by omega) (by omega)) dX6_core_110 ?_
      exact v_iret hX hr hsz dX6_core_111 rfl rfl (by (first | (simp only [R_core, c1, ec_r, ec_j, hS_w, k3, k4, k5, k6, k7, k8t, if_true, if_false, reduceIte, Bool.false_eq_true, reduceCtorEq, decide_true, decide_false, Bool.and_true, Bool.and_false, Bool.true_and, Bool.false_and, Bool.or_true, Bool.or_false, Bool.true_or, Bool.false_or, not_true_eq_false, not_false_eq_true, Bool.not_true, Bool.not_false, eq_self, Nat.reduceEqDiff]; done) | rfl | (simp only [R_core, c1, ec_r, ec_j, hS_w, k3, k4, k5, k6, k7, k8t, if_true, if_false, reduceIte, Bool.false_eq_true, reduceCtorEq, decide_true, decide_false, Bool.and_true, Bool.and_false, Bool.true_and, Bool.false_and, Bool.or_true, Bool.or_false, Bool.true_or, Bool.false_or, not_true_eq_false, not_false_eq_true, Bool.not_true, Bool.not_false, eq_self, Nat.reduceEqDiff]; rfl) | contradiction | (exfalso; omega))) rfl
    by_cases k9 : j = 6
    · have k9t := eq_true k9
      refine v_tableIn (tgt := 99) (off := 89) hX dX6_core_10 (by rw [k9]; decide) (by rw [k9]; decide) (by rw [k9]; decide) (by decide) ?_
      refine v_aload_n hX dX6_core_99 rfl ?_
      refine v_get (C := RX6) (T := TX6) (N := 18) (ci := 6) (v := .ref (a 1)) hX in_X6 0 rfl rfl 0 (by decide) fl_7 rfl rfl dX6_core_100 ?_
      refine v_iload_n hX dX6_core_103 rfl ?_
      refine v_iload_n hX dX6_core_104 rfl ?_
      refine v_iconst (x := (5 : Int32)) hX dX6_core_105 (by decide) ?_
      refine v_isub (z := nI (j - 5)) hX dX6_core_106 (pk_sub (a := j) (b := 5) (by omega)) ?_
      refine v_callSi (r := nI (512 + (6 * r) + (j - 5))) (rest := [.ref (a 1)]) (ws' := wR E a v) hX (fun sz => c_X6_told l E sz r (by first | omega | exact Nat.le_of_ble_eq_true rfl) (j - 5) (by first | omega | exact Nat.le_of_ble_eq_true rfl)) (va_cwS 2 hX.2.2.2.2.1 gX6_core_X6_told rfl rfl rfl (by decide +kernel) ⟨Nat.le_of_ble_eq_true rfl, Nat.le_of_ble_eq_true rfl⟩) ([]) (wR E a v) (rfl) rfl (rfl) rfl rfl (Nat.le_of_ble_eq_true rfl) dX6_core_107 ?_
      refine v_iald (z := (v.1.2.1 r).2.2.2.1 (j - 5)) hX 1 rfl (vp_in_nI (by omega : 512 + (6 * r) + (j - 5) < 544) (by omega)) (by simp only [nI_clamp (show 512 + (6 * r) + (j - 5) < 2 ^ 31 by omega)]; exact gS_tal v.1 (o := r) (q := j - 5) (by omega) (by omega) (by omega)) dX6_core_110 ?_
      exact v_iret hX hr hsz dX6_core_111 rfl rfl (by (first | (simp only [R_core, c1, ec_r, ec_j, hS_w, k3, k4, k5, k6, k7, k8, k9t, if_true, if_false, reduceIte, Bool.false_eq_true, reduceCtorEq, decide_true, decide_false, Bool.and_true, Bool.and_false, Bool.true_and, Bool.false_and, Bool.or_true, Bool.or_false, Bool.true_or, Bool.false_or, not_true_eq_false, not_false_eq_true, Bool.not_true, Bool.not_false, eq_self, Nat.reduceEqDiff]; done) | rfl | (simp only [R_core, c1, ec_r, ec_j, hS_w, k3, k4, k5, k6, k7, k8, k9t, if_true, if_false, reduceIte, Bool.false_eq_true, reduceCtorEq, decide_true, decide_false, Bool.and_true, Bool.and_false, Bool.true_and, Bool.false_and, Bool.or_true, Bool.or_false, Bool.true_or, Bool.false_or, not_true_eq_false, not_false_eq_true, Bool.not_true, Bool.not_false, eq_self, Nat.reduceEqDiff]; rfl) | contradiction | (exfalso; omega))) rfl
    by_cases k10 : j = 7
    · have k10t := eq_true k10
      refine v_tableIn (tgt := 99) (off := 89) hX dX6_core_10 (by rw [k10]; decide) (by rw [k10]; decide) (by rw [k10]; decide) (by decide) ?_
      refine v_aload_n hX dX6_core_99 rfl ?_
      refine v_get (C := RX6) (T := TX6) (N := 18) (ci := 6) (v := .ref (a 1)) hX in_X6 0 rfl rfl 0 (by decide) fl_7 rfl rfl dX6_core_100 ?_
      refine v_iload_n hX dX6_core_103 rfl ?_
      refine v_iload_n hX dX6_core_104 rfl ?_
      refine v_iconst (x := (5 : Int32)) hX dX6_core_105 (by decide) ?_
      refine v_isub (z := nI (j - 5)) hX dX6_core_106 (pk_sub (a := j) (b := 5) (by omega)) ?_
      refine v_callSi (r := nI (512 + (6 * r) + (j - 5))) (rest := [.ref (a 1)]) (ws' := wR E a v) hX (fun sz => c_X6_told l E sz r (by first | omega | exact Nat.le_of_ble_eq_true rfl) (j - 5) (by first | omega | exact Nat.le_of_ble_eq_true rfl)) (va_cwS 2 hX.2.2.2.2.1 gX6_core_X6_told rfl rfl rfl (by decide +kernel) ⟨Nat.le_of_ble_eq_true rfl, Nat.le_of_ble_eq_true rfl⟩) ([]) (wR E a v) (rfl) rfl (rfl) rfl rfl (Nat.le_of_ble_eq_true rfl) dX6_core_107 ?_
      refine v_iald (z := (v.1.2.1 r).2.2.2.1 (j - 5)) hX 1 rfl (vp_in_nI (by omega : 512 + (6 * r) + (j - 5) < 544) (by omega)) (by simp only [nI_clamp (show 512 + (6 * r) + (j - 5) < 2 ^ 31 by omega)]; exact gS_tal v.1 (o := r) (q := j - 5) (by omega) (by omega) (by omega)) dX6_core_110 ?_
      exact v_iret hX hr hsz dX6_core_111 rfl rfl (by (first | (simp only [R_core, c1, ec_r, ec_j, hS_w, k3, k4, k5, k6, k7, k8, k9, k10t, if_true, if_false, reduceIte, Bool.false_eq_true, reduceCtorEq, decide_true, decide_false, Bool.and_true, Bool.and_false, Bool.true_and, Bool.false_and, Bool.or_true, Bool.or_false, Bool.true_or, Bool.false_or, not_true_eq_false, not_false_eq_true, Bool.not_true, Bool.not_false, eq_self, Nat.reduceEqDiff]; done) | rfl | (simp only [R_core, c1, ec_r, ec_j, hS_w, k3, k4, k5, k6, k7, k8, k9, k10t, if_true, if_false, reduceIte, Bool.false_eq_true, reduceCtorEq, decide_true, decide_false, Bool.and_true, Bool.and_false, Bool.true_and, Bool.false_and, Bool.or_true, Bool.or_false, Bool.true_or, Bool.false_or, not_true_eq_false, not_false_eq_true, Bool.not_true, Bool.not_false, eq_self, Nat.reduceEqDiff]; rfl) | contradiction | (exfalso; omega))) rfl
    by_cases k11 : j = 8
    · have k11t := eq_true k11
      refine v_tableIn (tgt := 99) (off := 89) hX dX6_core_10 (by rw [k11]; decide) (by rw [k11]; decide) (by rw [k11]; decide) (by decide) ?_
      refine v_aload_n hX dX6_core_99 rfl ?_
      refine v_get (C := RX6) (T := TX6) (N := 18) (ci := 6) (v := .ref (a 1)) hX in_X6 0 rfl rfl 0 (by decide) fl_7 rfl rfl dX6_core_100 ?_
      refine v_iload_n hX dX6_core_103 rfl ?_
      refine v_iload_n hX dX6_core_104 rfl ?_
      refine v_iconst (x := (5 : Int32)) hX dX6_core_105 (by decide) ?_
      refine v_isub (z := nI (j - 5)) hX dX6_core_106 (pk_sub (a := j) (b := 5) (by omega)) ?_
      refine v_callSi (r := nI (512 + (6 * r) + (j - 5))) (rest := [.ref (a 1)]) (ws' := wR E a v) hX (fun sz => c_X6_told l E sz r (by first | omega | exact Nat.le_of_ble_eq_true rfl) (j - 5) (by first | omega | exact Nat.le_of_ble_eq_true rfl)) (va_cwS 2 hX.2.2.2.2.1 gX6_core_X6_told rfl rfl rfl (by decide +kernel) ⟨Nat.le_of_ble_eq_true rfl, Nat.le_of_ble_eq_true rfl⟩) ([]) (wR E a v) (rfl) rfl (rfl) rfl rfl (Nat.le_of_ble_eq_true rfl) dX6_core_107 ?_
      refine v_iald (z := (v.1.2.1 r).2.2.2.1 (j - 5)) hX 1 rfl (vp_in_nI (by omega : 512 + (6 * r) + (j - 5) < 544) (by omega)) (by simp only [nI_clamp (show 512 + (6 * r) + (j - 5) < 2 ^ 31 by omega)]; exact gS_tal v.1 (o := r) (q := j - 5) (by omega) (by omega) (by omega)) dX6_core_110 ?_
      exact v_iret hX hr hsz dX6_core_111 rfl rfl (by (first | (simp only [R_core, c1, ec_r, ec_j, hS_w, k3, k4, k5, k6, k7, k8, k9, k10, k11t, if_true, if_false, reduceIte, Bool.false_eq_true, reduceCtorEq, decide_true, decide_false, Bool.and_true, Bool.and_false, Bool.true_and, Bool.false_and, Bool.or_true, Bool.or_false, Bool.true_or, Bool.false_or, not_true_eq_false, not_false_eq_true, Bool.not_true, Bool.not_false, eq_self, Nat.reduceEqDiff]; done) | rfl | (simp only [R_core, c1, ec_r, ec_j, hS_w, k3, k4, k5, k6, k7, k8, k9, k10, k11t, if_true, if_false, reduceIte, Bool.false_eq_true, reduceCtorEq, decide_true, decide_false, Bool.and_true, Bool.and_false, Bool.true_and, Bool.false_and, Bool.or_true, Bool.or_false, Bool.true_or, Bool.false_or, not_true_eq_false, not_false_eq_true, Bool.not_true, Bool.not_false, eq_self, Nat.reduceEqDiff]; rfl) | contradiction | (exfalso; omega))) rfl
    by_cases k12 : j = 9
    · have k12t := eq_true k12
      refine v_tableIn (tgt := 99) (off := 89) hX dX6_core_10 (by rw [k12]; decide) (by rw [k12]; decide) (by rw [k12]; decide) (by decide) ?_
      refine v_aload_n hX dX6_core_99 rfl ?_
      refine v_get (C := RX6) (T := TX6) (N := 18) (ci := 6) (v := .ref (a 1)) hX in_X6 0 rfl rfl 0 (by decide) fl_7 rfl rfl dX6_core_100 ?_
      refine v_iload_n hX dX6_core_103 rfl ?_
      refine v_iload_n hX dX6_core_104 rfl ?_
      refine v_iconst (x := (5 : Int32)) hX dX6_core_105 (by decide) ?_
      refine v_isub (z := nI (j - 5)) hX dX6_core_106 (pk_sub (a := j) (b := 5) (by omega)) ?_
      refine v_callSi (r := nI (512 + (6 * r) + (j - 5))) (rest := [.ref (a 1)]) (ws' := wR E a v) hX (fun sz => c_X6_told l E sz r (by first | omega | exact Nat.le_of_ble_eq_true rfl) (j - 5) (by first | omega | exact Nat.le_of_ble_eq_true rfl)) (va_cwS 2 hX.2.2.2.2.1 gX6_core_X6_told rfl rfl rfl (by decide +kernel) ⟨Nat.le_of_ble_eq_true rfl, Nat.le_of_ble_eq_true rfl⟩) ([]) (wR E a v) (rfl) rfl (rfl) rfl rfl (Nat.le_of_ble_eq_true rfl) dX6_core_107 ?_
      refine v_iald (z := (v.1.2.1 r).2.2.2.1 (j - 5)) hX 1 rfl (vp_in_nI (by omega : 512 + (6 * r) + (j - 5) < 544) (by omega)) (by simp only [nI_clamp (show 512 + (6 * r) + (j - 5) < 2 ^ 31 by omega)]; exact gS_tal v.1 (o := r) (q := j - 5) (by omega) (by omega) (by omega)) dX6_core_110 ?_
      exact v_iret hX hr hsz dX6_core_111 rfl rfl (by (first | (simp only [R_core, c1, ec_r, ec_j, hS_w, k3, k4, k5, k6, k7, k8, k9, k10, k11, k12t, if_true, if_false, reduceIte, Bool.false_eq_true, reduceCtorEq, decide_true, decide_false, Bool.and_true, Bool.and_false, Bool.true_and, Bool.false_and, Bool.or_true, Bool.or_false, Bool.true_or, Bool.false_or, not_true_eq_false, not_false_eq_true, Bool.not_true, Bool.not_false, eq_self, Nat.reduceEqDiff]; done) | rfl | (simp only [R_core, c1, ec_r, ec_j, hS_w, k3, k4, k5, k6, k7, k8, k9, k10, k11, k12t, if_true, if_false, reduceIte, Bool.false_eq_true, reduceCtorEq, decide_true, decide_false, Bool.and_true, Bool.and_false, Bool.true_and, Bool.false_and, Bool.or_true, Bool.or_false, Bool.true_or, Bool.false_or, not_true_eq_false, not_false_eq_true, Bool.not_true, Bool.not_false, eq_self, Nat.reduceEqDiff]; rfl) | contradiction | (exfalso; omega))) rfl
    by_cases k13 : j = 10
    · have k13t := eq_true k13
      refine v_tableIn (tgt := 99) (off := 89) hX dX6_core_10 (by rw [k13]; decide) (by rw [k13]; decide) (by rw [k13]; decide) (by decide) ?_
      refine v_aload_n hX dX6_core_99 rfl ?_
      refine v_get (C := RX6) (T := TX6) (N := 18) (ci := 6) (v := .ref (a 1)) hX in_X6 0 rfl rfl 0 (by decide) fl_7 rfl rfl dX6_core_100 ?_
      refine v_iload_n hX dX6_core_103 rfl ?_
      refine v_iload_n hX dX6_core_104 rfl ?_
      refine v_iconst (x := (5 : Int32)) hX dX6_core_105 (by decide) ?_
      refine v_isub (z := nI (j - 5)) hX dX6_core_106 (pk_sub (a := j) (b := 5) (by omega)) ?_
      refine v_callSi (r := nI (512 + (6 * r) + (j - 5))) (rest := [.ref (a 1)]) (ws' := wR E a v) hX (fun sz => c_X6_told l E sz r (by first | omega | exact Nat.le_of_ble_eq_true rfl) (j - 5) (by first | omega | exact Nat.le_of_ble_eq_true rfl)) (va_cwS 2 hX.2.2.2.2.1 gX6_core_X6_told rfl rfl rfl (by decide +kernel) ⟨Nat.le_of_ble_eq_true rfl, Nat.le_of_ble_eq_true rfl⟩) ([]) (wR E a v) (rfl) rfl (rfl) rfl rfl (Nat.le_of_ble_eq_true rfl) dX6_core_107 ?_
      refine v_iald (z := (v.1.2.1 r).2.2.2.1 (j - 5)) hX 1 rfl (vp_in_nI (by omega : 512 + (6 * r) + (j - 5) < 544) (by omega)) (by simp only [nI_clamp (show 512 + (6 * r) + (j - 5) < 2 ^ 31 by omega)]; exact gS_tal v.1 (o := r) (q := j - 5) (by omega) (by omega) (by omega)) dX6_core_110 ?_
      exact v_iret hX hr hsz dX6_core_111 rfl rfl (by (first | (simp only [R_core, c1, ec_r, ec_j, hS_w, k3, k4, k5, k6, k7, k8, k9, k10, k11, k12, k13t, if_true, if_false, reduceIte, Bool.false_eq_true, reduceCtorEq, decide_true, decide_false, Bool.and_true, Bool.and_false, Bool.true_and, Bool.false_and, Bool.or_true, Bool.or_false, Bool.true_or, Bool.false_or, not_true_eq_false, not_false_eq_true, Bool.not_true, Bool.not_false, eq_self, Nat.reduceEqDiff]; done) | rfl | (simp only [R_core, c1, ec_r, ec_j, hS_w, k3, k4, k5, k6, k7, k8, k9, k10, k11, k12, k13t, if_true, if_false, reduceIte, Bool.false_eq_true, reduceCtorEq, decide_true, decide_false, Bool.and_true, Bool.and_false, Bool.true_and, Bool.false_and, Bool.or_true, Bool.or_false, Bool.true_or, Bool.false_or, not_true_eq_false, not_false_eq_true, Bool.not_true, Bool.not_false, eq_self, Nat.reduceEqDiff]; rfl) | contradiction | (exfalso; omega))) rfl
    exfalso; omega
  · replace c1 := bI_0.mp c1
    refine v_iconst (x := (-1 : Int32)) hX dX6_core_7 (by decide) ?_
    exact v_iret hX hr hsz dX6_core_8 rfl rfl (by (first | (simp only [R_core, c1, if_true, if_false, reduceIte, Bool.false_eq_true, reduceCtorEq, decide_true, decide_false, Bool.and_true, Bool.and_false, Bool.true_and, Bool.false_and, Bool.or_true, Bool.or_false, Bool.true_or, Bool.false_or, not_true_eq_false, not_false_eq_true, Bool.not_true, Bool.not_false, eq_self, Nat.reduceEqDiff]; done) | rfl | (simp only [R_core, c1, if_true, if_false, reduceIte, Bool.false_eq_true, reduceCtorEq, decide_true, decide_false, Bool.and_true, Bool.and_false, Bool.true_and, Bool.false_and, Bool.or_true, Bool.or_false, Bool.true_or, Bool.false_or, not_true_eq_false, not_false_eq_true, Bool.not_true, Bool.not_false, eq_self, Nat.reduceEqDiff]; rfl) | contradiction | (exfalso; omega))) rfl
set_option maxHeartbeats 4000000 in
set_option maxRecDepth 100000 in
theorem c_X6_counter (l : Launch) (E : ET) (a : Nat → Nat) (sz : Nat) (v : RV) (co : Int32) (w : Int32) : Met l yX6_counter wsX6_counter ({ frames := 2, cells := 0, slots := 0, locals := 42 }) (mPc E [.ref (a 0), .int (co), .int (w)] sz (wR E a v)) (mQi E (R_counter v co w) (wR E a v) (wR E a v) sz) 0 0 (va_A (wR E a v) sz) := by
  refine v_start (cc := cX6_counter) (maxL := 3) (ret := (some .int)) (by decide) rfl (Nat.le_of_ble_eq_true rfl) rfl ?_
  intro p e s m args below meth c hsz hr hX
  have hX : Xc p s m args meth c E 3 (va_A (wR E a v) sz) cX6_counter RX6 wsX6_counter := hX
  have in_X6 : ∀ w ∈ u_ws RX6 TX6 18, w ∈ wsX6_counter := by decide +kernel
  have fl_7 : Cond.fieldLink RX6 7 RX6 "s" "[I" ∈ wsX6_counter := by decide +kernel
  refine v_iload_n hX dX6_counter_0 rfl ?_
  refine v_callSi (r := bI (S_within co (0 : Int32) (3 : Int32))) (rest := []) (ws' := wR E a v) hX (fun sz => c_X6_isCore l E sz co) (va_cwS 1 hX.2.2.2.2.1 gX6_counter_X6_isCore rfl rfl rfl (by decide +kernel) ⟨Nat.le_of_ble_eq_true rfl, Nat.le_of_ble_eq_true rfl⟩) ([]) (wR E a v) (rfl) rfl (rfl) rfl rfl (Nat.le_of_ble_eq_true rfl) dX6_counter_1 ?_
  refine v_if_eq (tgt := 35) hX dX6_counter_4 (by decide) (fun c1 => ?_) (fun c1 => ?_)
  · replace c1 := bI_0.mp c1
    refine v_iconst (x := (-1 : Int32)) hX dX6_counter_35 (by decide) ?_
    exact v_iret hX hr hsz dX6_counter_36 rfl rfl (by (first | (simp only [R_counter, c1, if_true, if_false, reduceIte, Bool.false_eq_true, reduceCtorEq, decide_true, decide_false, Bool.and_true, Bool.and_false, Bool.true_and, Bool.false_and, Bool.or_true, Bool.or_false, Bool.true_or, Bool.false_or, not_true_eq_false, not_false_eq_true, Bool.not_true, Bool.not_false, eq_self, Nat.reduceEqDiff]; done) | rfl | (simp only [R_counter, c1, if_true, if_false, reduceIte, Bool.false_eq_true, reduceCtorEq, decide_true, decide_false, Bool.and_true, Bool.and_false, Bool.true_and, Bool.false_and, Bool.or_true, Bool.or_false, Bool.true_or, Bool.false_or, not_true_eq_false, not_false_eq_true, Bool.not_true, Bool.not_false, eq_self, Nat.reduceEqDiff]; rfl) | contradiction | (exfalso; omega))) rfl
  · replace c1 := bI_n0.mp c1
    refine v_iload_n hX dX6_counter_7 rfl ?_
    refine v_iconst (x := (0 : Int32)) hX dX6_counter_8 (by decide) ?_
    refine v_bipush (x := (23 : Int32)) hX dX6_counter_9 (by decide) ?_
    refine v_callSi (r := bI (S_within w (0 : Int32) (23 : Int32))) (rest := []) (ws' := wR E a v) hX (fun sz => c_X6_in l E sz w (0 : Int32) (23 : Int32)) (va_cwS 3 hX.2.2.2.2.1 gX6_counter_X6_in rfl rfl rfl (by decide +kernel) ⟨Nat.le_of_ble_eq_true rfl, Nat.le_of_ble_eq_true rfl⟩) ([]) (wR E a v) (rfl) rfl (rfl) rfl rfl (Nat.le_of_ble_eq_true rfl) dX6_counter_11 ?_
    refine v_if_eq (tgt := 35) hX dX6_counter_14 (by decide) (fun c2 => ?_) (fun c2 => ?_)
    · replace c2 := bI_0.mp c2
      refine v_iconst (x := (-1 : Int32)) hX dX6_counter_35 (by decide) ?_
      exact v_iret hX hr hsz dX6_counter_36 rfl rfl (by (first | (simp only [R_counter, c1, c2, if_true, if_false, reduceIte, Bool.false_eq_true, reduceCtorEq, decide_true, decide_false, Bool.and_true, Bool.and_false, Bool.true_and, Bool.false_and, Bool.or_true, Bool.or_false, Bool.true_or, Bool.false_or, not_true_eq_false, not_false_eq_true, Bool.not_true, Bool.not_false, eq_self, Nat.reduceEqDiff]; done) | rfl | (simp only [R_counter, c1, c2, if_true, if_false, reduceIte, Bool.false_eq_true, reduceCtorEq, decide_true, decide_false, Bool.and_true, Bool.and_false, Bool.true_and, Bool.false_and, Bool.or_true, Bool.or_false, Bool.true_or, Bool.false_or, not_true_eq_false, not_false_eq_true, Bool.not_true, Bool.not_false, eq_self, Nat.reduceEqDiff]; rfl) | contradiction | (exfalso; omega))) rfl
    · replace c2 := bI_n0.mp c2
      obtain ⟨r, hle_r, heq_r⟩ := within_nat (B := 3) rfl (by decide) c1
      subst heq_r
      have ec_r : cN (nI r) = r := cN_nI (by omega)
      obtain ⟨j, hle_j, heq_j⟩ := within_nat (B := 23) rfl (by decide) c2
      subst heq_j
      have ec_j : cN (nI j) = j := cN_nI (by omega)
      refine v_aload_n hX dX6_counter_17 rfl ?_
      refine v_get (C := RX6) (T := TX6) (N := 18) (ci := 6) (v := .ref (a 1)) hX in_X6 0 rfl rfl 0 (by decide) fl_7 rfl rfl dX6_counter_18 ?_
      refine v_sipush (x := (352 : Int32)) hX dX6_counter_21 (by decide) ?_
      refine v_bipush (x := (24 : Int32)) hX dX6_counter_24 (by decide) ?_
      refine v_iload_n hX dX6_counter_26 rfl ?_
      refine v_imul (z := nI (24 * r)) hX dX6_counter_27 (pk_mul 24 r) ?_
      refine v_iadd (z := nI (352 + (24 * r))) hX dX6_counter_28 (nI_add 352 (24 * r)) ?_
      refine v_iload_n hX dX6_counter_29 rfl ?_
      refine v_iadd (z := nI ((352 + (24 * r)) + j)) hX dX6_counter_30 (nI_add (352 + (24 * r)) j) ?_
      refine v_iald (z := (v.1.2.1 r).2.2.2.2.1 (j)) hX 1 rfl (vp_in_nI (by omega : (352 + (24 * r)) + j < 544) (by omega)) (by simp only [nI_clamp (show (352 + (24 * r)) + j < 2 ^ 31 by omega)]; exact gS_cnt v.1 (o := r) (q := j) (by omega) (by omega) (by omega)) dX6_counter_31 ?_
      refine v_goto (tgt := 36) hX dX6_counter_32 (by decide) ?_
      exact v_iret hX hr hsz dX6_counter_36 rfl rfl (by (first | (simp only [R_counter, c1, c2, ec_r, ec_j, if_true, if_false, reduceIte, Bool.false_eq_true, reduceCtorEq, decide_true, decide_false, Bool.and_true, Bool.and_false, Bool.true_and, Bool.false_and, Bool.or_true, Bool.or_false, Bool.true_or, Bool.false_or, not_true_eq_false, not_false_eq_true, Bool.not_true, Bool.not_false, eq_self, Nat.reduceEqDiff]; done) | rfl | (simp only [R_counter, c1, c2, ec_r, ec_j, if_true, if_false, reduceIte, Bool.false_eq_true, reduceCtorEq, decide_true, decide_false, Bool.and_true, Bool.and_false, Bool.true_and, Bool.false_and, Bool.or_true, Bool.or_false, Bool.true_or, Bool.false_or, not_true_eq_false, not_false_eq_true, Bool.not_true, Bool.not_false, eq_self, Nat.reduceEqDiff]; rfl) | contradiction | (exfalso; omega))) rfl
set_option maxHeartbeats 4000000 in
set_option maxRecDepth 100000 in
theorem c_X6_bit (l : Launch) (E : ET) (a : Nat → Nat) (sz : Nat) (v : RV) (co : Int32) (w : Int32) : Met l yX6_bit wsX6_bit ({ frames := 2, cells := 0, slots := 0, locals := 42 }) (mPc E [.ref (a 0), .int (co), .int (w)] sz (wR E a v)) (mQi E (R_bit v co w) (wR E a v) (wR E a v) sz) 0 0 (va_A (wR E a v) sz) := by
  refine v_start (cc := cX6_bit) (maxL := 3) (ret := (some .int)) (by decide) rfl (Nat.le_of_ble_eq_true rfl) rfl ?_
  intro p e s m args below meth c hsz hr hX
  have hX : Xc p s m args meth c E 3 (va_A (wR E a v) sz) cX6_bit RX6 wsX6_bit := hX
  have in_X6 : ∀ w ∈ u_ws RX6 TX6 18, w ∈ wsX6_bit := by decide +kernel
  have fl_7 : Cond.fieldLink RX6 7 RX6 "s" "[I" ∈ wsX6_bit := by decide +kernel
  refine v_iload_n hX dX6_bit_0 rfl ?_
  refine v_callSi (r := bI (S_within co (0 : Int32) (3 : Int32))) (rest := []) (ws' := wR E a v) hX (fun sz => c_X6_isCore l E sz co) (va_cwS 1 hX.2.2.2.2.1 gX6_bit_X6_isCore rfl rfl rfl (by decide +kernel) ⟨Nat.le_of_ble_eq_true rfl, Nat.le_of_ble_eq_true rfl⟩) ([]) (wR E a v) (rfl) rfl (rfl) rfl rfl (Nat.le_of_ble_eq_true rfl) dX6_bit_1 ?_
  refine v_if_eq (tgt := 35) hX dX6_bit_4 (by decide) (fun c1 => ?_) (fun c1 => ?_)
  · replace c1 := bI_0.mp c1
    refine v_iconst (x := (-1 : Int32)) hX dX6_bit_35 (by decide) ?_
    exact v_iret hX hr hsz dX6_bit_36 rfl rfl (by (first | (simp only [R_bit, c1, if_true, if_false, reduceIte, Bool.false_eq_true, reduceCtorEq, decide_true, decide_false, Bool.and_true, Bool.and_false, Bool.true_and, Bool.false_and, Bool.or_true, Bool.or_false, Bool.true_or, Bool.false_or, not_true_eq_false, not_false_eq_true, Bool.not_true, Bool.not_false, eq_self, Nat.reduceEqDiff]; done) | rfl | (simp only [R_bit, c1, if_true, if_false, reduceIte, Bool.false_eq_true, reduceCtorEq, decide_true, decide_false, Bool.and_true, Bool.and_false, Bool.true_and, Bool.false_and, Bool.or_true, Bool.or_false, Bool.true_or, Bool.false_or, not_true_eq_false, not_false_eq_true, Bool.not_true, Bool.not_false, eq_self, Nat.reduceEqDiff]; rfl) | contradiction | (exfalso; omega))) rfl
  · replace c1 := bI_n0.mp c1
    refine v_iload_n hX dX6_bit_7 rfl ?_
    refine v_iconst (x := (0 : Int32)) hX dX6_bit_8 (by decide) ?_
    refine v_bipush (x := (15 : Int32)) hX dX6_bit_9 (by decide) ?_
    refine v_callSi (r := bI (S_within w (0 : Int32) (15 : Int32))) (rest := []) (ws' := wR E a v) hX (fun sz => c_X6_in l E sz w (0 : Int32) (15 : Int32)) (va_cwS 3 hX.2.2.2.2.1 gX6_bit_X6_in rfl rfl rfl (by decide +kernel) ⟨Nat.le_of_ble_eq_true rfl, Nat.le_of_ble_eq_true rfl⟩) ([]) (wR E a v) (rfl) rfl (rfl) rfl rfl (Nat.le_of_ble_eq_true rfl) dX6_bit_11 ?_
    refine v_if_eq (tgt := 35) hX dX6_bit_14 (by decide) (fun c2 => ?_) (fun c2 => ?_)
    · replace c2 := bI_0.mp c2
      refine v_iconst (x := (-1 : Int32)) hX dX6_bit_35 (by decide) ?_
      exact v_iret hX hr hsz dX6_bit_36 rfl rfl (by (first | (simp only [R_bit, c1, c2, if_true, if_false, reduceIte, Bool.false_eq_true, reduceCtorEq, decide_true, decide_false, Bool.and_true, Bool.and_false, Bool.true_and, Bool.false_and, Bool.or_true, Bool.or_false, Bool.true_or, Bool.false_or, not_true_eq_false, not_false_eq_true, Bool.not_true, Bool.not_false, eq_self, Nat.reduceEqDiff]; done) | rfl | (simp only [R_bit, c1, c2, if_true, if_false, reduceIte, Bool.false_eq_true, reduceCtorEq, decide_true, decide_false, Bool.and_true, Bool.and_false, Bool.true_and, Bool.false_and, Bool.or_true, Bool.or_false, Bool.true_or, Bool.false_or, not_true_eq_false, not_false_eq_true, Bool.not_true, Bool.not_false, eq_self, Nat.reduceEqDiff]; rfl) | contradiction | (exfalso; omega))) rfl
    · replace c2 := bI_n0.mp c2
      obtain ⟨r, hle_r, heq_r⟩ := within_nat (B := 3) rfl (by decide) c1
      subst heq_r
      have ec_r : cN (nI r) = r := cN_nI (by omega)
      obtain ⟨j, hle_j, heq_j⟩ := within_nat (B := 15) rfl (by decide) c2
      subst heq_j
      have ec_j : cN (nI j) = j := cN_nI (by omega)
      refine v_aload_n hX dX6_bit_17 rfl ?_
      refine v_get (C := RX6) (T := TX6) (N := 18) (ci := 6) (v := .ref (a 1)) hX in_X6 0 rfl rfl 0 (by decide) fl_7 rfl rfl dX6_bit_18 ?_
      refine v_sipush (x := (448 : Int32)) hX dX6_bit_21 (by decide) ?_
      refine v_bipush (x := (16 : Int32)) hX dX6_bit_24 (by decide) ?_
      refine v_iload_n hX dX6_bit_26 rfl ?_
      refine v_imul (z := nI (16 * r)) hX dX6_bit_27 (pk_mul 16 r) ?_
      refine v_iadd (z := nI (448 + (16 * r))) hX dX6_bit_28 (nI_add 448 (16 * r)) ?_
      refine v_iload_n hX dX6_bit_29 rfl ?_
      refine v_iadd (z := nI ((448 + (16 * r)) + j)) hX dX6_bit_30 (nI_add (448 + (16 * r)) j) ?_
      refine v_iald (z := bI ((v.1.2.1 r).2.2.2.2.2.2 (j))) hX 1 rfl (vp_in_nI (by omega : (448 + (16 * r)) + j < 544) (by omega)) (by simp only [nI_clamp (show (448 + (16 * r)) + j < 2 ^ 31 by omega)]; exact gS_bit v.1 (o := r) (q := j) (by omega) (by omega) (by omega)) dX6_bit_31 ?_
      refine v_goto (tgt := 36) hX dX6_bit_32 (by decide) ?_
      exact v_iret hX hr hsz dX6_bit_36 rfl rfl (by (first | (simp only [R_bit, c1, c2, ec_r, ec_j, if_true, if_false, reduceIte, Bool.false_eq_true, reduceCtorEq, decide_true, decide_false, Bool.and_true, Bool.and_false, Bool.true_and, Bool.false_and, Bool.or_true, Bool.or_false, Bool.true_or, Bool.false_or, not_true_eq_false, not_false_eq_true, Bool.not_true, Bool.not_false, eq_self, Nat.reduceEqDiff]; done) | rfl | (simp only [R_bit, c1, c2, ec_r, ec_j, if_true, if_false, reduceIte, Bool.false_eq_true, reduceCtorEq, decide_true, decide_false, Bool.and_true, Bool.and_false, Bool.true_and, Bool.false_and, Bool.or_true, Bool.or_false, Bool.true_or, Bool.false_or, not_true_eq_false, not_false_eq_true, Bool.not_true, Bool.not_false, eq_self, Nat.reduceEqDiff]; rfl) | contradiction | (exfalso; omega))) rfl
set_option maxHeartbeats 4000000 in
set_option maxRecDepth 100000 in
theorem c_X6_line (l : Launch) (E : ET) (a : Nat → Nat) (sz : Nat) (v : RV) (li : Int32) (w : Int32) : Met l yX6_line wsX6_line ({ frames := 4, cells := 0, slots := 0, locals := 92 }) (mPc E [.ref (a 0), .int (li), .int (w)] sz (wR E a v)) (mQi E (R_line v li w) (wR E a v) (wR E a v) sz) 0 0 (va_A (wR E a v) sz) := by
  refine v_start (cc := cX6_line) (maxL := 3) (ret := (some .int)) (by decide) rfl (Nat.le_of_ble_eq_true rfl) rfl ?_
  intro p e s m args below meth c hsz hr hX
  have hX : Xc p s m args meth c E 3 (va_A (wR E a v) sz) cX6_line RX6 wsX6_line := hX
  have in_X6 : ∀ w ∈ u_ws RX6 TX6 18, w ∈ wsX6_line := by decide +kernel
  have fl_7 : Cond.fieldLink RX6 7 RX6 "s" "[I" ∈ wsX6_line := by decide +kernel
  refine v_iload_n hX dX6_line_0 rfl ?_
  refine v_callSi (r := bI (S_within li (0 : Int32) (255 : Int32))) (rest := []) (ws' := wR E a v) hX (fun sz => c_X6_isLine l E sz li) (va_cwS 1 hX.2.2.2.2.1 gX6_line_X6_isLine rfl rfl rfl (by decide +kernel) ⟨Nat.le_of_ble_eq_true rfl, Nat.le_of_ble_eq_true rfl⟩) ([]) (wR E a v) (rfl) rfl (rfl) rfl rfl (Nat.le_of_ble_eq_true rfl) dX6_line_1 ?_
  refine v_if_ne (tgt := 9) hX dX6_line_4 (by decide) (fun c1 => ?_) (fun c1 => ?_)
  · replace c1 := bI_n0.mp c1
    obtain ⟨n, heq_n⟩ := within_fin c1
    subst heq_n
    have hlt_n := n.isLt
    have el_n := lF_nI n
    refine v_iload_n hX dX6_line_9 rfl ?_
    rcases pk_ix w (n := 6) (by decide) with h2 | h2 | ⟨j, hle_j, heq_j⟩
    · have hS_w : S_within w 0 (5 : Int32) = false := within_lo h2
      refine v_tableOut (tgt := 87) hX dX6_line_10 (Or.inl (i_lt0 h2)) (by decide) ?_
      refine v_bipush (x := (-2 : Int32)) hX dX6_line_87 (by decide) ?_
      exact v_iret hX hr hsz dX6_line_89 rfl rfl (by (first | (simp only [R_line, c1, el_n, hS_w, if_true, if_false, reduceIte, Bool.false_eq_true, reduceCtorEq, decide_true, decide_false, Bool.and_true, Bool.and_false, Bool.true_and, Bool.false_and, Bool.or_true, Bool.or_false, Bool.true_or, Bool.false_or, not_true_eq_false, not_false_eq_true, Bool.not_true, Bool.not_false, eq_self, Nat.reduceEqDiff]; done) | rfl | (simp only [R_line, c1, el_n, hS_w, if_true, if_false, reduceIte, Bool.false_eq_true, reduceCtorEq, decide_true, decide_false, Bool.and_true, Bool.and_false, Bool.true_and, Bool.false_and, Bool.or_true, Bool.or_false, Bool.true_or, Bool.false_or, not_true_eq_false, not_false_eq_true, Bool.not_true, Bool.not_false, eq_self, Nat.reduceEqDiff]; rfl) | contradiction | (exfalso; omega))) rfl
    · have hS_w : S_within w 0 (5 : Int32) = false := within_hi (B := 5) rfl (by decide) h2
      refine v_tableOut (tgt := 87) hX dX6_line_10 (Or.inr (by have := i_hi h2 (by decide); omega)) (by decide) ?_
      refine v_bipush (x := (-2 : Int32)) hX dX6_line_87 (by decide) ?_
      exact v_iret hX hr hsz dX6_line_89 rfl rfl (by (first | (simp only [R_line, c1, el_n, hS_w, if_true, if_false, reduceIte, Bool.false_eq_true, reduceCtorEq, decide_true, decide_false, Bool.and_true, Bool.and_false, Bool.true_and, Bool.false_and, Bool.or_true, Bool.or_false, Bool.true_or, Bool.false_or, not_true_eq_false, not_false_eq_true, Bool.not_true, Bool.not_false, eq_self, Nat.reduceEqDiff]; done) | rfl | (simp only [R_line, c1, el_n, hS_w, if_true, if_false, reduceIte, Bool.false_eq_true, reduceCtorEq, decide_true, decide_false, Bool.and_true, Bool.and_false, Bool.true_and, Bool.false_and, Bool.or_true, Bool.or_false, Bool.true_or, Bool.false_or, not_true_eq_false, not_false_eq_true, Bool.not_true, Bool.not_false, eq_self, Nat.reduceEqDiff]; rfl) | contradiction | (exfalso; omega))) rfl
    subst heq_j
    have ec_j : cN (nI j) = j := cN_nI (by omega)
    have hS_w : S_within (nI j) 0 (5 : Int32) = true := within_nI (B := 5) rfl (by omega) (by decide)
    by_cases k3 : j = 0
    · have k3t := eq_true k3
      refine v_tableIn (tgt := 48) (off := 38) hX dX6_line_10 (by rw [k3]; decide) (by rw [k3]; decide) (by rw [k3]; decide) (by decide) ?_
      refine v_aload_n hX dX6_line_48 rfl ?_
      refine v_get (C := RX6) (T := TX6) (N := 18) (ci := 6) (v := .ref (a 1)) hX in_X6 0 rfl rfl 0 (by decide) fl_7 rfl rfl dX6_line_49 ?_
      refine v_iconst (x := (0 : Int32)) hX dX6_line_52 (by decide) ?_
      refine v_iload_n hX dX6_line_53 rfl ?_
      refine v_iadd (z := nI (0 + ((n).val))) hX dX6_line_54 (nI_add 0 ((n).val)) ?_
      refine v_iald (z := v.1.1 ((n).val)) hX 1 rfl (vp_in_nI (by omega : 0 + ((n).val) < 544) (by omega)) (by simp only [nI_clamp (show 0 + ((n).val) < 2 ^ 31 by omega)]; exact gS_mem v.1 (n := (n).val) (by omega) (by omega)) dX6_line_55 ?_
      exact v_iret hX hr hsz dX6_line_56 rfl rfl (by (first | (simp only [R_line, c1, el_n, ec_j, hS_w, k3t, if_true, if_false, reduceIte, Bool.false_eq_true, reduceCtorEq, decide_true, decide_false, Bool.and_true, Bool.and_false, Bool.true_and, Bool.false_and, Bool.or_true, Bool.or_false, Bool.true_or, Bool.false_or, not_true_eq_false, not_false_eq_true, Bool.not_true, Bool.not_false, eq_self, Nat.reduceEqDiff]; done) | rfl | (simp only [R_line, c1, el_n, ec_j, hS_w, k3t, if_true, if_false, reduceIte, Bool.false_eq_true, reduceCtorEq, decide_true, decide_false, Bool.and_true, Bool.and_false, Bool.true_and, Bool.false_and, Bool.or_true, Bool.or_false, Bool.true_or, Bool.false_or, not_true_eq_false, not_false_eq_true, Bool.not_true, Bool.not_false, eq_self, Nat.reduceEqDiff]; rfl) | contradiction | (exfalso; omega))) rfl
    by_cases k4 : j = 1
    · have k4t := eq_true k4
      refine v_tableIn (tgt := 57) (off := 47) hX dX6_line_10 (by rw [k4]; decide) (by rw [k4]; decide) (by rw [k4]; decide) (by decide) ?_
      refine v_aload_n hX dX6_line_57 rfl ?_
      refine v_iload_n hX dX6_line_58 rfl ?_
      refine v_callVi (r := Q_would v.1 n) (rest := []) (ws' := wR E a v) hX (fun sz => c_X6_wouldRead l E a sz v n) (cwV 1 hX.2.2.2.2.1 gX6_line_X6_wouldRead rfl rfl rfl (by decide +kernel) ⟨Nat.le_of_ble_eq_true rfl, Nat.le_of_ble_eq_true rfl⟩) ([]) ([]) ((List.append_nil _).symm) ((List.append_nil _).symm).symm (wR_fst E a _ _) (ci := 6) (q0 := 0) rfl rfl rfl rfl rfl (Nat.le_of_ble_eq_true rfl) dX6_line_59 ?_
      exact v_iret hX hr hsz dX6_line_62 rfl rfl (by (first | (simp only [R_line, c1, el_n, ec_j, hS_w, k3, k4t, if_true, if_false, reduceIte, Bool.false_eq_true, reduceCtorEq, decide_true, decide_false, Bool.and_true, Bool.and_false, Bool.true_and, Bool.false_and, Bool.or_true, Bool.or_false, Bool.true_or, Bool.false_or, not_true_eq_false, not_false_eq_true, Bool.not_true, Bool.not_false, eq_self, Nat.reduceEqDiff]; done) | rfl | (simp only [R_line, c1, el_n, ec_j, hS_w, k3, k4t, if_true, if_false, reduceIte, Bool.false_eq_true, reduceCtorEq, decide_true, decide_false, Bool.and_true, Bool.and_false, Bool.true_and, Bool.false_and, Bool.or_true, Bool.or_false, Bool.true_or, Bool.false_or, not_true_eq_false, not_false_eq_true, Bool.not_true, Bool.not_false, eq_self, Nat.reduceEqDiff]; rfl) | contradiction | (exfalso; omega))) rfl
    by_cases k5 : j = 2
    · have k5t := eq_true k5
      refine v_tableIn (tgt := 63) (off := 53) hX dX6_line_10 (by rw [k5]; decide) (by rw [k5]; decide) (by rw [k5]; decide) (by decide) ?_
      refine v_aload_n hX dX6_line_63 rfl ?_
      refine v_iload_n hX dX6_line_64 rfl ?_
      refine v_iload_n hX dX6_line_65 rfl ?_
      refine v_iconst (x := (2 : Int32)) hX dX6_line_66 (by decide) ?_
      refine v_icmp_ne (tgt := 74) hX dX6_line_67 (by decide) (fun c6 => ?_) (fun c6 => ?_)
      · replace c6 := (not_congr (nI_eq (a := j) (b := 2) (by omega) (by omega))).mp c6
        refine v_iconst (x := (0 : Int32)) hX dX6_line_74 (by decide) ?_
        refine v_callVi (r := Q_with v.1 n false) (rest := []) (ws' := wR E a v) hX (fun sz => c_X6_coresWith l E a sz v n false) (cwV 2 hX.2.2.2.2.1 gX6_line_X6_coresWith rfl rfl rfl (by decide +kernel) ⟨Nat.le_of_ble_eq_true rfl, Nat.le_of_ble_eq_true rfl⟩) ([]) ([]) ((List.append_nil _).symm) ((List.append_nil _).symm).symm (wR_fst E a _ _) (ci := 6) (q0 := 0) rfl rfl rfl rfl rfl (Nat.le_of_ble_eq_true rfl) dX6_line_75 ?_
        exact v_iret hX hr hsz dX6_line_78 rfl rfl (by (first | (simp only [R_line, c1, el_n, ec_j, hS_w, k3, k4, k5t, c6, if_true, if_false, reduceIte, Bool.false_eq_true, reduceCtorEq, decide_true, decide_false, Bool.and_true, Bool.and_false, Bool.true_and, Bool.false_and, Bool.or_true, Bool.or_false, Bool.true_or, Bool.false_or, not_true_eq_false, not_false_eq_true, Bool.not_true, Bool.not_false, eq_self, Nat.reduceEqDiff]; done) | rfl | (simp only [R_line, c1, el_n, ec_j, hS_w, k3, k4, k5t, c6, if_true, if_false, reduceIte, Bool.false_eq_true, reduceCtorEq, decide_true, decide_false, Bool.and_true, Bool.and_false, Bool.true_and, Bool.false_and, Bool.or_true, Bool.or_false, Bool.true_or, Bool.false_or, not_true_eq_false, not_false_eq_true, Bool.not_true, Bool.not_false, eq_self, Nat.reduceEqDiff]; rfl) | contradiction | (exfalso; omega))) rfl
      · replace c6 := (nI_eq (a := j) (b := 2) (by omega) (by omega)).mp c6
        have c6t := eq_true c6
        refine v_iconst (x := (1 : Int32)) hX dX6_line_70 (by decide) ?_
        refine v_goto (tgt := 75) hX dX6_line_71 (by decide) ?_
        refine v_callVi (r := Q_with v.1 n true) (rest := []) (ws' := wR E a v) hX (fun sz => c_X6_coresWith l E a sz v n true) (cwV 2 hX.2.2.2.2.1 gX6_line_X6_coresWith rfl rfl rfl (by decide +kernel) ⟨Nat.le_of_ble_eq_true rfl, Nat.le_of_ble_eq_true rfl⟩) ([]) ([]) ((List.append_nil _).symm) ((List.append_nil _).symm).symm (wR_fst E a _ _) (ci := 6) (q0 := 0) rfl rfl rfl rfl rfl (Nat.le_of_ble_eq_true rfl) dX6_line_75 ?_
        exact v_iret hX hr hsz dX6_line_78 rfl rfl (by (first | (simp only [R_line, c1, el_n, ec_j, hS_w, k3, k4, k5t, c6t, if_true, if_false, reduceIte, Bool.false_eq_true, reduceCtorEq, decide_true, decide_false, Bool.and_true, Bool.and_false, Bool.true_and, Bool.false_and, Bool.or_true, Bool.or_false, Bool.true_or, Bool.false_or, not_true_eq_false, not_false_eq_true, Bool.not_true, Bool.not_false, eq_self, Nat.reduceEqDiff]; done) | rfl | (simp only [R_line, c1, el_n, ec_j, hS_w, k3, k4, k5t, c6t, if_true, if_false, reduceIte, Bool.false_eq_true, reduceCtorEq, decide_true, decide_false, Bool.and_true, Bool.and_false, Bool.true_and, Bool.false_and, Bool.or_true, Bool.or_false, Bool.true_or, Bool.false_or, not_true_eq_false, not_false_eq_true, Bool.not_true, Bool.not_false, eq_self, Nat.reduceEqDiff]; rfl) | contradiction | (exfalso; omega))) rfl
    by_cases k7 : j = 3
    · have k7t := eq_true k7
      refine v_tableIn (tgt := 63) (off := 53) hX dX6_line_10 (by rw [k7]; decide) (by rw [k7]; decide) (by rw [k7]; decide) (by decide) ?_
      refine v_aload_n hX dX6_line_63 rfl ?_
      refine v_iload_n hX dX6_line_64 rfl ?_
      refine v_iload_n hX dX6_line_65 rfl ?_
      refine v_iconst (x := (2 : Int32)) hX dX6_line_66 (by decide) ?_
      refine v_icmp_ne (tgt := 74) hX dX6_line_67 (by decide) (fun c8 => ?_) (fun c8 => ?_)
      · replace c8 := (not_congr (nI_eq (a := j) (b := 2) (by omega) (by omega))).mp c8
        refine v_iconst (x := (0 : Int32)) hX dX6_line_74 (by decide) ?_
        refine v_callVi (r := Q_with v.1 n false) (rest := []) (ws' := wR E a v) hX (fun sz => c_X6_coresWith l E a sz v n false) (cwV 2 hX.2.2.2.2.1 gX6_line_X6_coresWith rfl rfl rfl (by decide +kernel) ⟨Nat.le_of_ble_eq_true rfl, Nat.le_of_ble_eq_true rfl⟩) ([]) ([]) ((List.append_nil _).symm) ((List.append_nil _).symm).symm (wR_fst E a _ _) (ci := 6) (q0 := 0) rfl rfl rfl rfl rfl (Nat.le_of_ble_eq_true rfl) dX6_line_75 ?_
        exact v_iret hX hr hsz dX6_line_78 rfl rfl (by (first | (simp only [R_line, c1, el_n, ec_j, hS_w, k3, k4, k5, k7t, c8, if_true, if_false, reduceIte, Bool.false_eq_true, reduceCtorEq, decide_true, decide_false, Bool.and_true, Bool.and_false, Bool.true_and, Bool.false_and, Bool.or_true, Bool.or_false, Bool.true_or, Bool.false_or, not_true_eq_false, not_false_eq_true, Bool.not_true, Bool.not_false, eq_self, Nat.reduceEqDiff]; done) | rfl | (simp only [R_line, c1, el_n, ec_j, hS_w, k3, k4, k5, k7t, c8, if_true, if_false, reduceIte, Bool.false_eq_true, reduceCtorEq, decide_true, decide_false, Bool.and_true, Bool.and_false, Bool.true_and, Bool.false_and, Bool.or_true, Bool.or_false, Bool.true_or, Bool.false_or, not_true_eq_false, not_false_eq_true, Bool.not_true, Bool.not_false, eq_self, Nat.reduceEqDiff]; rfl) | contradiction | (exfalso; omega))) rfl
      · replace c8 := (nI_eq (a := j) (b := 2) (by omega) (by omega)).mp c8
        have c8t := eq_true c8
        refine v_iconst (x := (1 : Int32)) hX dX6_line_70 (by decide) ?_
        refine v_goto (tgt := 75) hX dX6_line_71 (by decide) ?_
        refine v_callVi (r := Q_with v.1 n true) (rest := []) (ws' := wR E a v) hX (fun sz => c_X6_coresWith l E a sz v n true) (cwV 2 hX.2.2.2.2.1 gX6_line_X6_coresWith rfl rfl rfl (by decide +kernel) ⟨Nat.le_of_ble_eq_true rfl, Nat.le_of_ble_eq_true rfl⟩) ([]) ([]) ((List.append_nil _).symm) ((List.append_nil _).symm).symm (wR_fst E a _ _) (ci := 6) (q0 := 0) rfl rfl rfl rfl rfl (Nat.le_of_ble_eq_true rfl) dX6_line_75 ?_
        exact v_iret hX hr hsz dX6_line_78 rfl rfl (by (first | (simp only [R_line, c1, el_n, ec_j, hS_w, k3, k4, k5, k7t, c8t, if_true, if_false, reduceIte, Bool.false_eq_true, reduceCtorEq, decide_true, decide_false, Bool.and_true, Bool.and_false, Bool.true_and, Bool.false_and, Bool.or_true, Bool.or_false, Bool.true_or, Bool.false_or, not_true_eq_false, not_false_eq_true, Bool.not_true, Bool.not_false, eq_self, Nat.reduceEqDiff]; done) | rfl | (simp only [R_line, c1, el_n, ec_j, hS_w, k3, k4, k5, k7t, c8t, if_true, if_false, reduceIte, Bool.false_eq_true, reduceCtorEq, decide_true, decide_false, Bool.and_true, Bool.and_false, Bool.true_and, Bool.false_and, Bool.or_true, Bool.or_false, Bool.true_or, Bool.false_or, not_true_eq_false, not_false_eq_true, Bool.not_true, Bool.not_false, eq_self, Nat.reduceEqDiff]; rfl) | contradiction | (exfalso; omega))) rfl
    by_cases k9 : j = 4
    · have k9t := eq_true k9
      refine v_tableIn (tgt := 79) (off := 69) hX dX6_line_10 (by rw [k9]; decide) (by rw [k9]; decide) (by rw [k9]; decide) (by decide) ?_
      refine v_iload_n hX dX6_line_79 rfl ?_
      refine v_iload_n hX dX6_line_80 rfl ?_
      refine v_iconst (x := (4 : Int32)) hX dX6_line_81 (by decide) ?_
      refine v_isub (z := nI (j - 4)) hX dX6_line_82 (pk_sub (a := j) (b := 4) (by omega)) ?_
      refine v_callSi (r := nI (Q_ctr ((n).val) (j - 4))) (rest := []) (ws' := wR E a v) hX (fun sz => c_X6_counterOf l E sz ((n).val) (by first | omega | exact Nat.le_of_ble_eq_true rfl) (j - 4) (by first | omega | exact Nat.le_of_ble_eq_true rfl)) (va_cwS 2 hX.2.2.2.2.1 gX6_line_X6_counterOf rfl rfl rfl (by decide +kernel) ⟨Nat.le_of_ble_eq_true rfl, Nat.le_of_ble_eq_true rfl⟩) ([]) (wR E a v) (rfl) rfl (rfl) rfl rfl (Nat.le_of_ble_eq_true rfl) dX6_line_83 ?_
      exact v_iret hX hr hsz dX6_line_86 rfl rfl (by (first | (simp only [R_line, c1, el_n, ec_j, hS_w, k3, k4, k5, k7, k9t, if_true, if_false, reduceIte, Bool.false_eq_true, reduceCtorEq, decide_true, decide_false, Bool.and_true, Bool.and_false, Bool.true_and, Bool.false_and, Bool.or_true, Bool.or_false, Bool.true_or, Bool.false_or, not_true_eq_false, not_false_eq_true, Bool.not_true, Bool.not_false, eq_self, Nat.reduceEqDiff]; done) | rfl | (simp only [R_line, c1, el_n, ec_j, hS_w, k3, k4, k5, k7, k9t, if_true, if_false, reduceIte, Bool.false_eq_true, reduceCtorEq, decide_true, decide_false, Bool.and_true, Bool.and_false, Bool.true_and, Bool.false_and, Bool.or_true, Bool.or_false, Bool.true_or, Bool.false_or, not_true_eq_false, not_false_eq_true, Bool.not_true, Bool.not_false, eq_self, Nat.reduceEqDiff]; rfl) | contradiction | (exfalso; omega))) rfl
    by_cases k10 : j = 5
    · have k10t := eq_true k10
      refine v_tableIn (tgt := 79) (off := 69) hX dX6_line_10 (by rw [k10]; decide) (by rw [k10]; decide) (by rw [k10]; decide) (by decide) ?_
      refine v_iload_n hX dX6_line_79 rfl ?_
      refine v_iload_n hX dX6_line_80 rfl ?_
      refine v_iconst (x := (4 : Int32)) hX dX6_line_81 (by decide) ?_
      refine v_isub (z := nI (j - 4)) hX dX6_line_82 (pk_sub (a := j) (b := 4) (by omega)) ?_
      refine v_callSi (r := nI (Q_ctr ((n).val) (j - 4))) (rest := []) (ws' := wR E a v) hX (fun sz => c_X6_counterOf l E sz ((n).val) (by first | omega | exact Nat.le_of_ble_eq_true rfl) (j - 4) (by first | omega | exact Nat.le_of_ble_eq_true rfl)) (va_cwS 2 hX.2.2.2.2.1 gX6_line_X6_counterOf rfl rfl rfl (by decide +kernel) ⟨Nat.le_of_ble_eq_true rfl, Nat.le_of_ble_eq_true rfl⟩) ([]) (wR E a v) (rfl) rfl (rfl) rfl rfl (Nat.le_of_ble_eq_true rfl) dX6_line_83 ?_
      exact v_iret hX hr hsz dX6_line_86 rfl rfl (by (first | (simp only [R_line, c1, el_n, ec_j, hS_w, k3, k4, k5, k7, k9, k10t, if_true, if_false, reduceIte, Bool.false_eq_true, reduceCtorEq, decide_true, decide_false, Bool.and_true, Bool.and_false, Bool.true_and, Bool.false_and, Bool.or_true, Bool.or_false, Bool.true_or, Bool.false_or, not_true_eq_false, not_false_eq_true, Bool.not_true, Bool.not_false, eq_self, Nat.reduceEqDiff]; done) | rfl | (simp only [R_line, c1, el_n, ec_j, hS_w, k3, k4, k5, k7, k9, k10t, if_true, if_false, reduceIte, Bool.false_eq_true, reduceCtorEq, decide_true, decide_false, Bool.and_true, Bool.and_false, Bool.true_and, Bool.false_and, Bool.or_true, Bool.or_false, Bool.true_or, Bool.false_or, not_true_eq_false, not_false_eq_true, Bool.not_true, Bool.not_false, eq_self, Nat.reduceEqDiff]; rfl) | contradiction | (exfalso; omega))) rfl
    exfalso; omega
  · replace c1 := bI_0.mp c1
    refine v_iconst (x := (-1 : Int32)) hX dX6_line_7 (by decide) ?_
    exact v_iret hX hr hsz dX6_line_8 rfl rfl (by (first | (simp only [R_line, c1, if_true, if_false, reduceIte, Bool.false_eq_true, reduceCtorEq, decide_true, decide_false, Bool.and_true, Bool.and_false, Bool.true_and, Bool.false_and, Bool.or_true, Bool.or_false, Bool.true_or, Bool.false_or, not_true_eq_false, not_false_eq_true, Bool.not_true, Bool.not_false, eq_self, Nat.reduceEqDiff]; done) | rfl | (simp only [R_line, c1, if_true, if_false, reduceIte, Bool.false_eq_true, reduceCtorEq, decide_true, decide_false, Bool.and_true, Bool.and_false, Bool.true_and, Bool.false_and, Bool.or_true, Bool.or_false, Bool.true_or, Bool.false_or, not_true_eq_false, not_false_eq_true, Bool.not_true, Bool.not_false, eq_self, Nat.reduceEqDiff]; rfl) | contradiction | (exfalso; omega))) rfl
set_option maxHeartbeats 4000000 in
set_option maxRecDepth 100000 in
theorem c_X6_reason (l : Launch) (E : ET) (a : Nat → Nat) (sz : Nat) (v : RV) (co : Int32) (li : Int32) : Met l yX6_reason wsX6_reason ({ frames := 3, cells := 0, slots := 0, locals := 68 }) (mPc E [.ref (a 0), .int (co), .int (li)] sz (wR E a v)) (mQi E (R_reason v co li) (wR E a v) (wR E a v) sz) 0 0 (va_A (wR E a v) sz) := by
  refine v_start (cc := cX6_reason) (maxL := 3) (ret := (some .int)) (by decide) rfl (Nat.le_of_ble_eq_true rfl) rfl ?_
  intro p e s m args below meth c hsz hr hX
  have hX : Xc p s m args meth c E 3 (va_A (wR E a v) sz) cX6_reason RX6 wsX6_reason := hX
  refine v_iload_n hX dX6_reason_0 rfl ?_
  refine v_callSi (r := bI (S_within co (0 : Int32) (3 : Int32))) (rest := []) (ws' := wR E a v) hX (fun sz => c_X6_isCore l E sz co) (va_cwS 1 hX.2.2.2.2.1 gX6_reason_X6_isCore rfl rfl rfl (by decide +kernel) ⟨Nat.le_of_ble_eq_true rfl, Nat.le_of_ble_eq_true rfl⟩) ([]) (wR E a v) (rfl) rfl (rfl) rfl rfl (Nat.le_of_ble_eq_true rfl) dX6_reason_1 ?_
  refine v_if_eq (tgt := 14) hX dX6_reason_4 (by decide) (fun c1 => ?_) (fun c1 => ?_)
  · replace c1 := bI_0.mp c1
    refine v_iconst (x := (-1 : Int32)) hX dX6_reason_14 (by decide) ?_
    exact v_iret hX hr hsz dX6_reason_15 rfl rfl (by (first | (simp only [R_reason, c1, if_true, if_false, reduceIte, Bool.false_eq_true, reduceCtorEq, decide_true, decide_false, Bool.and_true, Bool.and_false, Bool.true_and, Bool.false_and, Bool.or_true, Bool.or_false, Bool.true_or, Bool.false_or, not_true_eq_false, not_false_eq_true, Bool.not_true, Bool.not_false, eq_self, Nat.reduceEqDiff]; done) | rfl | (simp only [R_reason, c1, if_true, if_false, reduceIte, Bool.false_eq_true, reduceCtorEq, decide_true, decide_false, Bool.and_true, Bool.and_false, Bool.true_and, Bool.false_and, Bool.or_true, Bool.or_false, Bool.true_or, Bool.false_or, not_true_eq_false, not_false_eq_true, Bool.not_true, Bool.not_false, eq_self, Nat.reduceEqDiff]; rfl) | contradiction | (exfalso; omega))) rfl
  · replace c1 := bI_n0.mp c1
    refine v_iload_n hX dX6_reason_7 rfl ?_
    refine v_callSi (r := bI (S_within li (0 : Int32) (255 : Int32))) (rest := []) (ws' := wR E a v) hX (fun sz => c_X6_isLine l E sz li) (va_cwS 1 hX.2.2.2.2.1 gX6_reason_X6_isLine rfl rfl rfl (by decide +kernel) ⟨Nat.le_of_ble_eq_true rfl, Nat.le_of_ble_eq_true rfl⟩) ([]) (wR E a v) (rfl) rfl (rfl) rfl rfl (Nat.le_of_ble_eq_true rfl) dX6_reason_8 ?_
    refine v_if_ne (tgt := 16) hX dX6_reason_11 (by decide) (fun c2 => ?_) (fun c2 => ?_)
    · replace c2 := bI_n0.mp c2
      obtain ⟨r, hle_r, heq_r⟩ := within_nat (B := 3) rfl (by decide) c1
      subst heq_r
      have ec_r : cN (nI r) = r := cN_nI (by omega)
      obtain ⟨n, heq_n⟩ := within_fin c2
      subst heq_n
      have hlt_n := n.isLt
      have el_n := lF_nI n
      refine v_aload_n hX dX6_reason_16 rfl ?_
      refine v_iload_n hX dX6_reason_17 rfl ?_
      refine v_iload_n hX dX6_reason_18 rfl ?_
      refine v_callVi (r := bI (Q_may v.1 r ((n).val))) (rest := []) (ws' := wR E a v) hX (fun sz => c_X6_mayHave l E a sz v r (by first | omega | exact Nat.le_of_ble_eq_true rfl) ((n).val) (by first | omega | exact Nat.le_of_ble_eq_true rfl)) (cwV 2 hX.2.2.2.2.1 gX6_reason_X6_mayHave rfl rfl rfl (by decide +kernel) ⟨Nat.le_of_ble_eq_true rfl, Nat.le_of_ble_eq_true rfl⟩) ([]) ([]) ((List.append_nil _).symm) ((List.append_nil _).symm).symm (wR_fst E a _ _) (ci := 6) (q0 := 0) rfl rfl rfl rfl rfl (Nat.le_of_ble_eq_true rfl) dX6_reason_19 ?_
      refine v_if_eq (tgt := 40) hX dX6_reason_22 (by decide) (fun c3 => ?_) (fun c3 => ?_)
      · replace c3 := bI_0.mp c3
        refine v_aload_n hX dX6_reason_40 rfl ?_
        refine v_iload_n hX dX6_reason_41 rfl ?_
        refine v_iload_n hX dX6_reason_42 rfl ?_
        refine v_callVi (r := bI ((v.1.2.1 r).2.2.2.2.2.2 (((n).val) / 16))) (rest := []) (ws' := wR E a v) hX (fun sz => c_X6_isBit l E a sz v r (by first | omega | exact Nat.le_of_ble_eq_true rfl) ((n).val) (by first | omega | exact Nat.le_of_ble_eq_true rfl)) (cwV 2 hX.2.2.2.2.1 gX6_reason_X6_isBit rfl rfl rfl (by decide +kernel) ⟨Nat.le_of_ble_eq_true rfl, Nat.le_of_ble_eq_true rfl⟩) ([]) ([]) ((List.append_nil _).symm) ((List.append_nil _).symm).symm (wR_fst E a _ _) (ci := 6) (q0 := 0) rfl rfl rfl rfl rfl (Nat.le_of_ble_eq_true rfl) dX6_reason_43 ?_
        refine v_if_eq (tgt := 53) hX dX6_reason_46 (by decide) (fun c4 => ?_) (fun c4 => ?_)
        · replace c4 := bI_0.mp c4
          refine v_iconst (x := (2 : Int32)) hX dX6_reason_53 (by decide) ?_
          exact v_iret hX hr hsz dX6_reason_54 rfl rfl (by (first | (simp only [R_reason, c1, c2, ec_r, el_n, c3, c4, if_true, if_false, reduceIte, Bool.false_eq_true, reduceCtorEq, decide_true, decide_false, Bool.and_true, Bool.and_false, Bool.true_and, Bool.false_and, Bool.or_true, Bool.or_false, Bool.true_or, Bool.false_or, not_true_eq_false, not_false_eq_true, Bool.not_true, Bool.not_false, eq_self, Nat.reduceEqDiff]; done) | rfl | (simp only [R_reason, c1, c2, ec_r, el_n, c3, c4, if_true, if_false, reduceIte, Bool.false_eq_true, reduceCtorEq, decide_true, decide_false, Bool.and_true, Bool.and_false, Bool.true_and, Bool.false_and, Bool.or_true, Bool.or_false, Bool.true_or, Bool.false_or, not_true_eq_false, not_false_eq_true, Bool.not_true, Bool.not_false, eq_self, Nat.reduceEqDiff]; rfl) | contradiction | (exfalso; omega))) rfl
        · replace c4 := bI_n0.mp c4
          refine v_iconst (x := (3 : Int32)) hX dX6_reason_49 (by decide) ?_
          refine v_goto (tgt := 54) hX dX6_reason_50 (by decide) ?_
          exact v_iret hX hr hsz dX6_reason_54 rfl rfl (by (first | (simp only [R_reason, c1, c2, ec_r, el_n, c3, c4, if_true, if_false, reduceIte, Bool.false_eq_true, reduceCtorEq, decide_true, decide_false, Bool.and_true, Bool.and_false, Bool.true_and, Bool.false_and, Bool.or_true, Bool.or_false, Bool.true_or, Bool.false_or, not_true_eq_false, not_false_eq_true, Bool.not_true, Bool.not_false, eq_self, Nat.reduceEqDiff]; done) | rfl | (simp only [R_reason, c1, c2, ec_r, el_n, c3, c4, if_true, if_false, reduceIte, Bool.false_eq_true, reduceCtorEq, decide_true, decide_false, Bool.and_true, Bool.and_false, Bool.true_and, Bool.false_and, Bool.or_true, Bool.or_false, Bool.true_or, Bool.false_or, not_true_eq_false, not_false_eq_true, Bool.not_true, Bool.not_false, eq_self, Nat.reduceEqDiff]; rfl) | contradiction | (exfalso; omega))) rfl
      · replace c3 := bI_n0.mp c3
        refine v_aload_n hX dX6_reason_25 rfl ?_
        refine v_iload_n hX dX6_reason_26 rfl ?_
        refine v_iload_n hX dX6_reason_27 rfl ?_
        refine v_callVi (r := bI (Q_holds v.1 r n)) (rest := []) (ws' := wR E a v) hX (fun sz => c_X6_holds l E a sz v r (by first | omega | exact Nat.le_of_ble_eq_true rfl) n) (cwV 2 hX.2.2.2.2.1 gX6_reason_X6_holds rfl rfl rfl (by decide +kernel) ⟨Nat.le_of_ble_eq_true rfl, Nat.le_of_ble_eq_true rfl⟩) ([]) ([]) ((List.append_nil _).symm) ((List.append_nil _).symm).symm (wR_fst E a _ _) (ci := 6) (q0 := 0) rfl rfl rfl rfl rfl (Nat.le_of_ble_eq_true rfl) dX6_reason_28 ?_
        refine v_if_eq (tgt := 38) hX dX6_reason_31 (by decide) (fun c5 => ?_) (fun c5 => ?_)
        · replace c5 := bI_0.mp c5
          refine v_iconst (x := (1 : Int32)) hX dX6_reason_38 (by decide) ?_
          exact v_iret hX hr hsz dX6_reason_39 rfl rfl (by (first | (simp only [R_reason, c1, c2, ec_r, el_n, c3, c5, if_true, if_false, reduceIte, Bool.false_eq_true, reduceCtorEq, decide_true, decide_false, Bool.and_true, Bool.and_false, Bool.true_and, Bool.false_and, Bool.or_true, Bool.or_false, Bool.true_or, Bool.false_or, not_true_eq_false, not_false_eq_true, Bool.not_true, Bool.not_false, eq_self, Nat.reduceEqDiff]; done) | rfl | (simp only [R_reason, c1, c2, ec_r, el_n, c3, c5, if_true, if_false, reduceIte, Bool.false_eq_true, reduceCtorEq, decide_true, decide_false, Bool.and_true, Bool.and_false, Bool.true_and, Bool.false_and, Bool.or_true, Bool.or_false, Bool.true_or, Bool.false_or, not_true_eq_false, not_false_eq_true, Bool.not_true, Bool.not_false, eq_self, Nat.reduceEqDiff]; rfl) | contradiction | (exfalso; omega))) rfl
        · replace c5 := bI_n0.mp c5
          refine v_iconst (x := (0 : Int32)) hX dX6_reason_34 (by decide) ?_
          refine v_goto (tgt := 39) hX dX6_reason_35 (by decide) ?_
          exact v_iret hX hr hsz dX6_reason_39 rfl rfl (by (first | (simp only [R_reason, c1, c2, ec_r, el_n, c3, c5, if_true, if_false, reduceIte, Bool.false_eq_true, reduceCtorEq, decide_true, decide_false, Bool.and_true, Bool.and_false, Bool.true_and, Bool.false_and, Bool.or_true, Bool.or_false, Bool.true_or, Bool.false_or, not_true_eq_false, not_false_eq_true, Bool.not_true, Bool.not_false, eq_self, Nat.reduceEqDiff]; done) | rfl | (simp only [R_reason, c1, c2, ec_r, el_n, c3, c5, if_true, if_false, reduceIte, Bool.false_eq_true, reduceCtorEq, decide_true, decide_false, Bool.and_true, Bool.and_false, Bool.true_and, Bool.false_and, Bool.or_true, Bool.or_false, Bool.true_or, Bool.false_or, not_true_eq_false, not_false_eq_true, Bool.not_true, Bool.not_false, eq_self, Nat.reduceEqDiff]; rfl) | contradiction | (exfalso; omega))) rfl
    · replace c2 := bI_0.mp c2
      refine v_iconst (x := (-1 : Int32)) hX dX6_reason_14 (by decide) ?_
      exact v_iret hX hr hsz dX6_reason_15 rfl rfl (by (first | (simp only [R_reason, c1, c2, if_true, if_false, reduceIte, Bool.false_eq_true, reduceCtorEq, decide_true, decide_false, Bool.and_true, Bool.and_false, Bool.true_and, Bool.false_and, Bool.or_true, Bool.or_false, Bool.true_or, Bool.false_or, not_true_eq_false, not_false_eq_true, Bool.not_true, Bool.not_false, eq_self, Nat.reduceEqDiff]; done) | rfl | (simp only [R_reason, c1, c2, if_true, if_false, reduceIte, Bool.false_eq_true, reduceCtorEq, decide_true, decide_false, Bool.and_true, Bool.and_false, Bool.true_and, Bool.false_and, Bool.or_true, Bool.or_false, Bool.true_or, Bool.false_or, not_true_eq_false, not_false_eq_true, Bool.not_true, Bool.not_false, eq_self, Nat.reduceEqDiff]; rfl) | contradiction | (exfalso; omega))) rfl
set_option maxHeartbeats 4000000 in
set_option maxRecDepth 100000 in
theorem c_X6_vain (l : Launch) (E : ET) (a : Nat → Nat) (sz : Nat) (v : RV) (co : Int32) : Met l yX6_vain wsX6_vain ({ frames := 3, cells := 0, slots := 0, locals := 68 }) (mPc E [.ref (a 0), .int (co)] sz (wR E a v)) (mQi E (R_vain v co) (wR E a v) (wR E a v) sz) 0 0 (va_A (wR E a v) sz) := by
  refine v_start (cc := cX6_vain) (maxL := 4) (ret := (some .int)) (by decide) rfl (Nat.le_of_ble_eq_true rfl) rfl ?_
  intro p e s m args below meth c hsz hr hX
  have hX : Xc p s m args meth c E 4 (va_A (wR E a v) sz) cX6_vain RX6 wsX6_vain := hX
  refine v_iload_n hX dX6_vain_0 rfl ?_
  refine v_callSi (r := bI (S_within co (0 : Int32) (3 : Int32))) (rest := []) (ws' := wR E a v) hX (fun sz => c_X6_isCore l E sz co) (va_cwS 1 hX.2.2.2.2.1 gX6_vain_X6_isCore rfl rfl rfl (by decide +kernel) ⟨Nat.le_of_ble_eq_true rfl, Nat.le_of_ble_eq_true rfl⟩) ([]) (wR E a v) (rfl) rfl (rfl) rfl rfl (Nat.le_of_ble_eq_true rfl) dX6_vain_1 ?_
  refine v_if_ne (tgt := 9) hX dX6_vain_4 (by decide) (fun c1 => ?_) (fun c1 => ?_)
  · replace c1 := bI_n0.mp c1
    obtain ⟨r, hle_r, heq_r⟩ := within_nat (B := 3) rfl (by decide) c1
    subst heq_r
    have ec_r : cN (nI r) = r := cN_nI (by omega)
    refine v_iconst (x := (0 : Int32)) hX dX6_vain_9 (by decide) ?_
    refine v_istore_n (lv' := [.ref (a 0), .int (nI (r)), .int ((0 : Int32))]) hX dX6_vain_10 (Nat.le_of_ble_eq_true rfl) (Nat.le_of_ble_eq_true rfl) rfl rfl ?_
    refine v_iconst (x := (0 : Int32)) hX dX6_vain_11 (by decide) ?_
    refine v_istore_n (lv' := [.ref (a 0), .int (nI (r)), .int ((0 : Int32)), .int ((0 : Int32))]) hX dX6_vain_12 (Nat.le_of_ble_eq_true rfl) (Nat.le_of_ble_eq_true rfl) rfl rfl ?_
    have loop_13 : ∀ (fu i : Nat), i + fu = 256 → V p l e ({ frames := 3, cells := 0, slots := 0, locals := 68 } : Room) s m args below meth c E 4 (va_A (wR E a v) sz) (MQ below (mQi E (R_vain v (nI r)) (wR E a v) (wR E a v) sz) args s 0 0 (va_A (wR E a v) sz)) (wR E a v) [.ref (a 0), .int (nI (r)), .int (it (R_vainF v.1 r) i 0), .int (nI (i))] 13 [] := by
      intro fu
      induction fu with
      | zero =>
        intro i  hin 
        have hi0 : i = 256 := by omega
        subst hi0
        refine v_iload_n hX dX6_vain_13 rfl ?_
        refine v_sipush (x := (256 : Int32)) hX dX6_vain_14 (by decide) ?_
        refine v_icmp_ge (tgt := 52) hX dX6_vain_17 (by decide) (fun c2 => ?_) (fun c2 => ?_)
        · replace c2 := (nI_leI (a := 256) (b := 256) (by omega) (by omega)).mp c2
          refine v_iload_n hX dX6_vain_52 rfl ?_
          exact v_iret hX hr hsz dX6_vain_53 rfl rfl (by (first | (simp only [R_vain, c1, ec_r, c2, if_true, if_false, reduceIte, Bool.false_eq_true, reduceCtorEq, decide_true, decide_false, Bool.and_true, Bool.and_false, Bool.true_and, Bool.false_and, Bool.or_true, Bool.or_false, Bool.true_or, Bool.false_or, not_true_eq_false, not_false_eq_true, Bool.not_true, Bool.not_false, eq_self, Nat.reduceEqDiff]; done) | rfl | (simp only [R_vain, c1, ec_r, c2, if_true, if_false, reduceIte, Bool.false_eq_true, reduceCtorEq, decide_true, decide_false, Bool.and_true, Bool.and_false, Bool.true_and, Bool.false_and, Bool.or_true, Bool.or_false, Bool.true_or, Bool.false_or, not_true_eq_false, not_false_eq_true, Bool.not_true, Bool.not_false, eq_self, Nat.reduceEqDiff]; rfl) | contradiction | (exfalso; omega))) rfl
        · replace c2 := (not_congr (nI_leI (a := 256) (b := 256) (by omega) (by omega))).mp c2
          exfalso; omega
      | succ fu ih =>
        intro i  hin 
        refine v_iload_n hX dX6_vain_13 rfl ?_
        refine v_sipush (x := (256 : Int32)) hX dX6_vain_14 (by decide) ?_
        refine v_icmp_ge (tgt := 52) hX dX6_vain_17 (by decide) (fun c3 => ?_) (fun c3 => ?_)
        · replace c3 := (nI_leI (a := 256) (b := i) (by omega) (by omega)).mp c3
          exfalso; omega
        · replace c3 := (not_congr (nI_leI (a := 256) (b := i) (by omega) (by omega))).mp c3
          obtain ⟨n, heq_n⟩ : ∃ n : Fin 256, i = n.val := ⟨⟨i, by omega⟩, rfl⟩
          subst heq_n
          have hlt_n := n.isLt
          have ef_n : f256 n.val = n := Fin.ext (f256_val n.isLt)
          refine v_iload_n hX dX6_vain_20 rfl ?_
          refine v_aload_n hX dX6_vain_21 rfl ?_
          refine v_iload_n hX dX6_vain_22 rfl ?_
          refine v_iload_n hX dX6_vain_23 rfl ?_
          refine v_callVi (r := bI (Q_may v.1 r ((n).val))) (rest := [.int (it (R_vainF v.1 r) n.val 0)]) (ws' := wR E a v) hX (fun sz => c_X6_mayHave l E a sz v r (by first | omega | exact Nat.le_of_ble_eq_true rfl) ((n).val) (by first | omega | exact Nat.le_of_ble_eq_true rfl)) (cwV 2 hX.2.2.2.2.1 gX6_vain_X6_mayHave rfl rfl rfl (by decide +kernel) ⟨Nat.le_of_ble_eq_true rfl, Nat.le_of_ble_eq_true rfl⟩) ([]) ([]) ((List.append_nil _).symm) ((List.append_nil _).symm).symm (wR_fst E a _ _) (ci := 6) (q0 := 0) rfl rfl rfl rfl rfl (Nat.le_of_ble_eq_true rfl) dX6_vain_24 ?_
          refine v_if_eq (tgt := 43) hX dX6_vain_27 (by decide) (fun c4 => ?_) (fun c4 => ?_)
          · replace c4 := bI_0.mp c4
            refine v_iconst (x := (0 : Int32)) hX dX6_vain_43 (by decide) ?_
            refine v_iadd (z := (it (R_vainF v.1 r) n.val 0 + (0 : Int32))) hX dX6_vain_44 (rfl) ?_
            refine v_istore_n (lv' := [.ref (a 0), .int (nI (r)), .int ((it (R_vainF v.1 r) n.val 0 + (0 : Int32))), .int (nI (n).val)]) hX dX6_vain_45 (Nat.le_of_ble_eq_true rfl) (Nat.le_of_ble_eq_true rfl) rfl rfl ?_
            refine v_iinc (y := nI (((n).val) + 1)) (lv' := [.ref (a 0), .int (nI (r)), .int ((it (R_vainF v.1 r) n.val 0 + (0 : Int32))), .int (nI (((n).val) + 1))]) hX dX6_vain_46 rfl (nI_inc _) (Nat.le_of_ble_eq_true rfl) (Nat.le_of_ble_eq_true rfl) rfl rfl ?_
            refine v_goto (tgt := 13) hX dX6_vain_49 (by decide) ?_
            have e5 : (it (R_vainF v.1 r) n.val 0 + (0 : Int32)) = it (R_vainF v.1 r) (n.val + 1) 0 := by first | (simp only [R_vainF, c1, ec_r, c3, ef_n, c4, it, if_true, if_false, reduceIte, Bool.false_eq_true, Bool.and_true, Bool.and_false, Bool.true_and, Bool.false_and, not_true_eq_false, not_false_eq_true, eq_self, ne_eq, reduceCtorEq, decide_true, decide_false, Bool.not_true, Bool.not_false]; done) | rfl | (simp only [R_vainF, c1, ec_r, c3, ef_n, c4, it, if_true, if_false, reduceIte, Bool.false_eq_true, Bool.and_true, Bool.and_false, Bool.true_and, Bool.false_and, not_true_eq_false, not_false_eq_true, eq_self, ne_eq, reduceCtorEq, decide_true, decide_false, Bool.not_true, Bool.not_false]; rfl) | contradiction
            rw [e5]
            exact ih (n.val + 1)  (by omega) 
          · replace c4 := bI_n0.mp c4
            refine v_aload_n hX dX6_vain_30 rfl ?_
            refine v_iload_n hX dX6_vain_31 rfl ?_
            refine v_iload_n hX dX6_vain_32 rfl ?_
            refine v_callVi (r := bI (Q_holds v.1 r n)) (rest := [.int (it (R_vainF v.1 r) n.val 0)]) (ws' := wR E a v) hX (fun sz => c_X6_holds l E a sz v r (by first | omega | exact Nat.le_of_ble_eq_true rfl) n) (cwV 2 hX.2.2.2.2.1 gX6_vain_X6_holds rfl rfl rfl (by decide +kernel) ⟨Nat.le_of_ble_eq_true rfl, Nat.le_of_ble_eq_true rfl⟩) ([]) ([]) ((List.append_nil _).symm) ((List.append_nil _).symm).symm (wR_fst E a _ _) (ci := 6) (q0 := 0) rfl rfl rfl rfl rfl (Nat.le_of_ble_eq_true rfl) dX6_vain_33 ?_
            refine v_if_ne (tgt := 43) hX dX6_vain_36 (by decide) (fun c6 => ?_) (fun c6 => ?_)
            · replace c6 := bI_n0.mp c6
              refine v_iconst (x := (0 : Int32)) hX dX6_vain_43 (by decide) ?_
              refine v_iadd (z := (it (R_vainF v.1 r) n.val 0 + (0 : Int32))) hX dX6_vain_44 (rfl) ?_
              refine v_istore_n (lv' := [.ref (a 0), .int (nI (r)), .int ((it (R_vainF v.1 r) n.val 0 + (0 : Int32))), .int (nI (n).val)]) hX dX6_vain_45 (Nat.le_of_ble_eq_true rfl) (Nat.le_of_ble_eq_true rfl) rfl rfl ?_
              refine v_iinc (y := nI (((n).val) + 1)) (lv' := [.ref (a 0), .int (nI (r)), .int ((it (R_vainF v.1 r) n.val 0 + (0 : Int32))), .int (nI (((n).val) + 1))]) hX dX6_vain_46 rfl (nI_inc _) (Nat.le_of_ble_eq_true rfl) (Nat.le_of_ble_eq_true rfl) rfl rfl ?_
              refine v_goto (tgt := 13) hX dX6_vain_49 (by decide) ?_
              have e7 : (it (R_vainF v.1 r) n.val 0 + (0 : Int32)) = it (R_vainF v.1 r) (n.val + 1) 0 := by first | (simp only [R_vainF, c1, ec_r, c3, ef_n, c4, c6, it, if_true, if_false, reduceIte, Bool.false_eq_true, Bool.and_true, Bool.and_false, Bool.true_and, Bool.false_and, not_true_eq_false, not_false_eq_true, eq_self, ne_eq, reduceCtorEq, decide_true, decide_false, Bool.not_true, Bool.not_false]; done) | rfl | (simp only [R_vainF, c1, ec_r, c3, ef_n, c4, c6, it, if_true, if_false, reduceIte, Bool.false_eq_true, Bool.and_true, Bool.and_false, Bool.true_and, Bool.false_and, not_true_eq_false, not_false_eq_true, eq_self, ne_eq, reduceCtorEq, decide_true, decide_false, Bool.not_true, Bool.not_false]; rfl) | contradiction
              rw [e7]
              exact ih (n.val + 1)  (by omega) 
            · replace c6 := bI_0.mp c6
              refine v_iconst (x := (1 : Int32)) hX dX6_vain_39 (by decide) ?_
              refine v_goto (tgt := 44) hX dX6_vain_40 (by decide) ?_
              refine v_iadd (z := (it (R_vainF v.1 r) n.val 0 + (1 : Int32))) hX dX6_vain_44 (rfl) ?_
              refine v_istore_n (lv' := [.ref (a 0), .int (nI (r)), .int ((it (R_vainF v.1 r) n.val 0 + (1 : Int32))), .int (nI (n).val)]) hX dX6_vain_45 (Nat.le_of_ble_eq_true rfl) (Nat.le_of_ble_eq_true rfl) rfl rfl ?_
              refine v_iinc (y := nI (((n).val) + 1)) (lv' := [.ref (a 0), .int (nI (r)), .int ((it (R_vainF v.1 r) n.val 0 + (1 : Int32))), .int (nI (((n).val) + 1))]) hX dX6_vain_46 rfl (nI_inc _) (Nat.le_of_ble_eq_true rfl) (Nat.le_of_ble_eq_true rfl) rfl rfl ?_
              refine v_goto (tgt := 13) hX dX6_vain_49 (by decide) ?_
              have e8 : (it (R_vainF v.1 r) n.val 0 + (1 : Int32)) = it (R_vainF v.1 r) (n.val + 1) 0 := by first | (simp only [R_vainF, c1, ec_r, c3, ef_n, c4, c6, it, if_true, if_false, reduceIte, Bool.false_eq_true, Bool.and_true, Bool.and_false, Bool.true_and, Bool.false_and, not_true_eq_false, not_false_eq_true, eq_self, ne_eq, reduceCtorEq, decide_true, decide_false, Bool.not_true, Bool.not_false]; done) | rfl | (simp only [R_vainF, c1, ec_r, c3, ef_n, c4, c6, it, if_true, if_false, reduceIte, Bool.false_eq_true, Bool.and_true, Bool.and_false, Bool.true_and, Bool.false_and, not_true_eq_false, not_false_eq_true, eq_self, ne_eq, reduceCtorEq, decide_true, decide_false, Bool.not_true, Bool.not_false]; rfl) | contradiction
              rw [e8]
              exact ih (n.val + 1)  (by omega) 
    exact loop_13 256 0  (by omega) 
  · replace c1 := bI_0.mp c1
    refine v_iconst (x := (-1 : Int32)) hX dX6_vain_7 (by decide) ?_
    exact v_iret hX hr hsz dX6_vain_8 rfl rfl (by (first | (simp only [R_vain, c1, if_true, if_false, reduceIte, Bool.false_eq_true, reduceCtorEq, decide_true, decide_false, Bool.and_true, Bool.and_false, Bool.true_and, Bool.false_and, Bool.or_true, Bool.or_false, Bool.true_or, Bool.false_or, not_true_eq_false, not_false_eq_true, Bool.not_true, Bool.not_false, eq_self, Nat.reduceEqDiff]; done) | rfl | (simp only [R_vain, c1, if_true, if_false, reduceIte, Bool.false_eq_true, reduceCtorEq, decide_true, decide_false, Bool.and_true, Bool.and_false, Bool.true_and, Bool.false_and, Bool.or_true, Bool.or_false, Bool.true_or, Bool.false_or, not_true_eq_false, not_false_eq_true, Bool.not_true, Bool.not_false, eq_self, Nat.reduceEqDiff]; rfl) | contradiction | (exfalso; omega))) rfl
set_option maxHeartbeats 4000000 in
set_option maxRecDepth 100000 in
theorem c_X6_worst (l : Launch) (E : ET) (a : Nat → Nat) (sz : Nat) (v : RV) : Met l yX6_worst wsX6_worst ({ frames := 1, cells := 0, slots := 0, locals := 21 }) (mPc E [.ref (a 0)] sz (wR E a v)) (mQi E (R_worst v) (wR E a v) (wR E a v) sz) 0 0 (va_A (wR E a v) sz) := by
  refine v_start (cc := cX6_worst) (maxL := 5) (ret := (some .int)) (by decide) rfl (Nat.le_of_ble_eq_true rfl) rfl ?_
  intro p e s m args below meth c hsz hr hX
  have hX : Xc p s m args meth c E 5 (va_A (wR E a v) sz) cX6_worst RX6 wsX6_worst := hX
  have in_X6 : ∀ w ∈ u_ws RX6 TX6 18, w ∈ wsX6_worst := by decide +kernel
  have fl_7 : Cond.fieldLink RX6 7 RX6 "s" "[I" ∈ wsX6_worst := by decide +kernel
  refine v_bipush (x := (-5 : Int32)) hX dX6_worst_0 (by decide) ?_
  refine v_istore_n (lv' := [.ref (a 0), .int ((-5 : Int32))]) hX dX6_worst_2 (Nat.le_of_ble_eq_true rfl) (Nat.le_of_ble_eq_true rfl) rfl rfl ?_
  refine v_iconst (x := (0 : Int32)) hX dX6_worst_3 (by decide) ?_
  refine v_istore_n (lv' := [.ref (a 0), .int ((-5 : Int32)), .int ((0 : Int32))]) hX dX6_worst_4 (Nat.le_of_ble_eq_true rfl) (Nat.le_of_ble_eq_true rfl) rfl rfl ?_
  refine v_iconst (x := (0 : Int32)) hX dX6_worst_5 (by decide) ?_
  refine v_istore_n (lv' := [.ref (a 0), .int ((-5 : Int32)), .int ((0 : Int32)), .int ((0 : Int32))]) hX dX6_worst_6 (Nat.le_of_ble_eq_true rfl) (Nat.le_of_ble_eq_true rfl) rfl rfl ?_
  have loop_7 : ∀ (fu i : Nat), i + fu = 4 → V p l e ({ frames := 1, cells := 0, slots := 0, locals := 21 } : Room) s m args below meth c E 5 (va_A (wR E a v) sz) (MQ below (mQi E (R_worst v) (wR E a v) (wR E a v) sz) args s 0 0 (va_A (wR E a v) sz)) (wR E a v) [.ref (a 0), .int ((it (R_worstF v.1) i (-5, 0)).1), .int ((it (R_worstF v.1) i (-5, 0)).2), .int (nI (i))] 7 [] := by
    intro fu
    induction fu with
    | zero =>
      intro i  hin 
      have hi0 : i = 4 := by omega
      subst hi0
      refine v_iload_n hX dX6_worst_7 rfl ?_
      refine v_iconst (x := (4 : Int32)) hX dX6_worst_8 (by decide) ?_
      refine v_icmp_ge (tgt := 55) hX dX6_worst_9 (by decide) (fun c1 => ?_) (fun c1 => ?_)
      · replace c1 := (nI_leI (a := 4) (b := 4) (by omega) (by omega)).mp c1
        refine v_iload_n hX dX6_worst_55 rfl ?_
        exact v_iret hX hr hsz dX6_worst_56 rfl rfl (by (first | (simp only [R_worst, c1, if_true, if_false, reduceIte, Bool.false_eq_true, reduceCtorEq, decide_true, decide_false, Bool.and_true, Bool.and_false, Bool.true_and, Bool.false_and, Bool.or_true, Bool.or_false, Bool.true_or, Bool.false_or, not_true_eq_false, not_false_eq_true, Bool.not_true, Bool.not_false, eq_self, Nat.reduceEqDiff]; done) | rfl | (simp only [R_worst, c1, if_true, if_false, reduceIte, Bool.false_eq_true, reduceCtorEq, decide_true, decide_false, Bool.and_true, Bool.and_false, Bool.true_and, Bool.false_and, Bool.or_true, Bool.or_false, Bool.true_or, Bool.false_or, not_true_eq_false, not_false_eq_true, Bool.not_true, Bool.not_false, eq_self, Nat.reduceEqDiff]; rfl) | contradiction | (exfalso; omega))) rfl
      · replace c1 := (not_congr (nI_leI (a := 4) (b := 4) (by omega) (by omega))).mp c1
        exfalso; omega
    | succ fu ih =>
      intro i  hin 
      refine v_iload_n hX dX6_worst_7 rfl ?_
      refine v_iconst (x := (4 : Int32)) hX dX6_worst_8 (by decide) ?_
      refine v_icmp_ge (tgt := 55) hX dX6_worst_9 (by decide) (fun c2 => ?_) (fun c2 => ?_)
      · replace c2 := (nI_leI (a := 4) (b := i) (by omega) (by omega)).mp c2
        exfalso; omega
      · replace c2 := (not_congr (nI_leI (a := 4) (b := i) (by omega) (by omega))).mp c2
        refine v_aload_n hX dX6_worst_12 rfl ?_
        refine v_get (C := RX6) (T := TX6) (N := 18) (ci := 6) (v := .ref (a 1)) hX in_X6 0 rfl rfl 0 (by decide) fl_7 rfl rfl dX6_worst_13 ?_
        refine v_iload_n hX dX6_worst_16 rfl ?_
        refine v_iconst (x := (3 : Int32)) hX dX6_worst_17 (by decide) ?_
        refine v_callSi (r := nI (512 + (6 * i) + 3)) (rest := [.ref (a 1)]) (ws' := wR E a v) hX (fun sz => c_X6_told l E sz i (by first | omega | exact Nat.le_of_ble_eq_true rfl) 3 (by first | omega | exact Nat.le_of_ble_eq_true rfl)) (va_cwS 2 hX.2.2.2.2.1 gX6_worst_X6_told rfl rfl rfl (by decide +kernel) ⟨Nat.le_of_ble_eq_true rfl, Nat.le_of_ble_eq_true rfl⟩) ([]) (wR E a v) (rfl) rfl (rfl) rfl rfl (Nat.le_of_ble_eq_true rfl) dX6_worst_18 ?_
        refine v_iald (z := (v.1.2.1 i).2.2.2.1 (3)) hX 1 rfl (vp_in_nI (by omega : 512 + (6 * i) + 3 < 544) (by omega)) (by simp only [nI_clamp (show 512 + (6 * i) + 3 < 2 ^ 31 by omega)]; exact gS_tal v.1 (o := i) (q := 3) (by omega) (by omega) (by omega)) dX6_worst_21 ?_
        refine v_istore (lv' := [.ref (a 0), .int ((it (R_worstF v.1) i (-5, 0)).1), .int ((it (R_worstF v.1) i (-5, 0)).2), .int (nI (i)), .int ((v.1.2.1 i).2.2.2.1 (3))]) hX dX6_worst_22 (Nat.le_of_ble_eq_true rfl) (Nat.le_of_ble_eq_true rfl) rfl rfl ?_
        refine v_iload hX dX6_worst_24 rfl ?_
        refine v_iload_n hX dX6_worst_26 rfl ?_
        refine v_icmp_le (tgt := 34) hX dX6_worst_27 (by decide) (fun c3 => ?_) (fun c3 => ?_)
        · refine v_iload_n hX dX6_worst_34 rfl ?_
          refine v_istore_n (lv' := [.ref (a 0), .int ((it (R_worstF v.1) i (-5, 0)).1), .int ((it (R_worstF v.1) i (-5, 0)).2), .int (nI (i)), .int ((v.1.2.1 i).2.2.2.1 (3))]) hX dX6_worst_35 (Nat.le_of_ble_eq_true rfl) (Nat.le_of_ble_eq_true rfl) rfl rfl ?_
          refine v_iload hX dX6_worst_36 rfl ?_
          refine v_iload_n hX dX6_worst_38 rfl ?_
          refine v_icmp_le (tgt := 47) hX dX6_worst_39 (by decide) (fun c4 => ?_) (fun c4 => ?_)
          · refine v_iload_n hX dX6_worst_47 rfl ?_
            refine v_istore_n (lv' := [.ref (a 0), .int ((it (R_worstF v.1) i (-5, 0)).1), .int ((it (R_worstF v.1) i (-5, 0)).2), .int (nI (i)), .int ((v.1.2.1 i).2.2.2.1 (3))]) hX dX6_worst_48 (Nat.le_of_ble_eq_true rfl) (Nat.le_of_ble_eq_true rfl) rfl rfl ?_
            refine v_iinc (y := nI (i + 1)) (lv' := [.ref (a 0), .int ((it (R_worstF v.1) i (-5, 0)).1), .int ((it (R_worstF v.1) i (-5, 0)).2), .int (nI (i + 1)), .int ((v.1.2.1 i).2.2.2.1 (3))]) hX dX6_worst_49 rfl (nI_inc _) (Nat.le_of_ble_eq_true rfl) (Nat.le_of_ble_eq_true rfl) rfl rfl ?_
            refine v_goto (tgt := 7) hX dX6_worst_52 (by decide) ?_
            have e5 : (it (R_worstF v.1) i (-5, 0)).1 = (it (R_worstF v.1) (i + 1) (-5, 0)).1 := by first | (simp only [R_worstF, c2, c3, c4, it, if_true, if_false, reduceIte, Bool.false_eq_true, Bool.and_true, Bool.and_false, Bool.true_and, Bool.false_and, not_true_eq_false, not_false_eq_true, eq_self, ne_eq, reduceCtorEq, decide_true, decide_false, Bool.not_true, Bool.not_false]; done) | rfl | (simp only [R_worstF, c2, c3, c4, it, if_true, if_false, reduceIte, Bool.false_eq_true, Bool.and_true, Bool.and_false, Bool.true_and, Bool.false_and, not_true_eq_false, not_false_eq_true, eq_self, ne_eq, reduceCtorEq, decide_true, decide_false, Bool.not_true, Bool.not_false]; rfl) | contradiction
            rw [e5]
            have e6 : (it (R_worstF v.1) i (-5, 0)).2 = (it (R_worstF v.1) (i + 1) (-5, 0)).2 := by first | (simp only [R_worstF, c2, c3, c4, it, if_true, if_false, reduceIte, Bool.false_eq_true, Bool.and_true, Bool.and_false, Bool.true_and, Bool.false_and, not_true_eq_false, not_false_eq_true, eq_self, ne_eq, reduceCtorEq, decide_true, decide_false, Bool.not_true, Bool.not_false]; done) | rfl | (simp only [R_worstF, c2, c3, c4, it, if_true, if_false, reduceIte, Bool.false_eq_true, Bool.and_true, Bool.and_false, Bool.true_and, Bool.false_and, not_true_eq_false, not_false_eq_true, eq_self, ne_eq, reduceCtorEq, decide_true, decide_false, Bool.not_true, Bool.not_false]; rfl) | contradiction
            rw [e6]
            exact v_fewer 4 rfl (ih (i + 1)  (by omega) )
          · refine v_iload hX dX6_worst_42 rfl ?_
            refine v_goto (tgt := 48) hX dX6_worst_44 (by decide) ?_
            refine v_istore_n (lv' := [.ref (a 0), .int ((it (R_worstF v.1) i (-5, 0)).1), .int ((v.1.2.1 i).2.2.2.1 (3)), .int (nI (i)), .int ((v.1.2.1 i).2.2.2.1 (3))]) hX dX6_worst_48 (Nat.le_of_ble_eq_true rfl) (Nat.le_of_ble_eq_true rfl) rfl rfl ?_
            refine v_iinc (y := nI (i + 1)) (lv' := [.ref (a 0), .int ((it (R_worstF v.1) i (-5, 0)).1), .int ((v.1.2.1 i).2.2.2.1 (3)), .int (nI (i + 1)), .int ((v.1.2.1 i).2.2.2.1 (3))]) hX dX6_worst_49 rfl (nI_inc _) (Nat.le_of_ble_eq_true rfl) (Nat.le_of_ble_eq_true rfl) rfl rfl ?_
            refine v_goto (tgt := 7) hX dX6_worst_52 (by decide) ?_
            have e7 : (it (R_worstF v.1) i (-5, 0)).1 = (it (R_worstF v.1) (i + 1) (-5, 0)).1 := by first | (simp only [R_worstF, c2, c3, c4, it, if_true, if_false, reduceIte, Bool.false_eq_true, Bool.and_true, Bool.and_false, Bool.true_and, Bool.false_and, not_true_eq_false, not_false_eq_true, eq_self, ne_eq, reduceCtorEq, decide_true, decide_false, Bool.not_true, Bool.not_false]; done) | rfl | (simp only [R_worstF, c2, c3, c4, it, if_true, if_false, reduceIte, Bool.false_eq_true, Bool.and_true, Bool.and_false, Bool.true_and, Bool.false_and, not_true_eq_false, not_false_eq_true, eq_self, ne_eq, reduceCtorEq, decide_true, decide_false, Bool.not_true, Bool.not_false]; rfl) | contradiction
            rw [e7]
            have e8 : (v.1.2.1 i).2.2.2.1 (3) = (it (R_worstF v.1) (i + 1) (-5, 0)).2 := by first | (simp only [R_worstF, c2, c3, c4, it, if_true, if_false, reduceIte, Bool.false_eq_true, Bool.and_true, Bool.and_false, Bool.true_and, Bool.false_and, not_true_eq_false, not_false_eq_true, eq_self, ne_eq, reduceCtorEq, decide_true, decide_false, Bool.not_true, Bool.not_false]; done) | rfl | (simp only [R_worstF, c2, c3, c4, it, if_true, if_false, reduceIte, Bool.false_eq_true, Bool.and_true, Bool.and_false, Bool.true_and, Bool.false_and, not_true_eq_false, not_false_eq_true, eq_self, ne_eq, reduceCtorEq, decide_true, decide_false, Bool.not_true, Bool.not_false]; rfl) | contradiction
            rw [e8]
            exact v_fewer 4 rfl (ih (i + 1)  (by omega) )
        · refine v_iload_n hX dX6_worst_30 rfl ?_
          refine v_goto (tgt := 35) hX dX6_worst_31 (by decide) ?_
          refine v_istore_n (lv' := [.ref (a 0), .int (nI (i)), .int ((it (R_worstF v.1) i (-5, 0)).2), .int (nI (i)), .int ((v.1.2.1 i).2.2.2.1 (3))]) hX dX6_worst_35 (Nat.le_of_ble_eq_true rfl) (Nat.le_of_ble_eq_true rfl) rfl rfl ?_
          refine v_iload hX dX6_worst_36 rfl ?_
          refine v_iload_n hX dX6_worst_38 rfl ?_
          refine v_icmp_le (tgt := 47) hX dX6_worst_39 (by decide) (fun c9 => ?_) (fun c9 => ?_)
          · refine v_iload_n hX dX6_worst_47 rfl ?_
            refine v_istore_n (lv' := [.ref (a 0), .int (nI (i)), .int ((it (R_worstF v.1) i (-5, 0)).2), .int (nI (i)), .int ((v.1.2.1 i).2.2.2.1 (3))]) hX dX6_worst_48 (Nat.le_of_ble_eq_true rfl) (Nat.le_of_ble_eq_true rfl) rfl rfl ?_
            refine v_iinc (y := nI (i + 1)) (lv' := [.ref (a 0), .int (nI (i)), .int ((it (R_worstF v.1) i (-5, 0)).2), .int (nI (i + 1)), .int ((v.1.2.1 i).2.2.2.1 (3))]) hX dX6_worst_49 rfl (nI_inc _) (Nat.le_of_ble_eq_true rfl) (Nat.le_of_ble_eq_true rfl) rfl rfl ?_
            refine v_goto (tgt := 7) hX dX6_worst_52 (by decide) ?_
            have e10 : nI (i) = (it (R_worstF v.1) (i + 1) (-5, 0)).1 := by first | (simp only [R_worstF, c2, c3, c9, it, if_true, if_false, reduceIte, Bool.false_eq_true, Bool.and_true, Bool.and_false, Bool.true_and, Bool.false_and, not_true_eq_false, not_false_eq_true, eq_self, ne_eq, reduceCtorEq, decide_true, decide_false, Bool.not_true, Bool.not_false]; done) | rfl | (simp only [R_worstF, c2, c3, c9, it, if_true, if_false, reduceIte, Bool.false_eq_true, Bool.and_true, Bool.and_false, Bool.true_and, Bool.false_and, not_true_eq_false, not_false_eq_true, eq_self, ne_eq, reduceCtorEq, decide_true, decide_false, Bool.not_true, Bool.not_false]; rfl) | contradiction
            rw [e10]
            have e11 : (it (R_worstF v.1) i (-5, 0)).2 = (it (R_worstF v.1) (i + 1) (-5, 0)).2 := by first | (simp only [R_worstF, c2, c3, c9, it, if_true, if_false, reduceIte, Bool.false_eq_true, Bool.and_true, Bool.and_false, Bool.true_and, Bool.false_and, not_true_eq_false, not_false_eq_true, eq_self, ne_eq, reduceCtorEq, decide_true, decide_false, Bool.not_true, Bool.not_false]; done) | rfl | (simp only [R_worstF, c2, c3, c9, it, if_true, if_false, reduceIte, Bool.false_eq_true, Bool.and_true, Bool.and_false, Bool.true_and, Bool.false_and, not_true_eq_false, not_false_eq_true, eq_self, ne_eq, reduceCtorEq, decide_true, decide_false, Bool.not_true, Bool.not_false]; rfl) | contradiction
            rw [e11]
            exact v_fewer 4 rfl (ih (i + 1)  (by omega) )
          · refine v_iload hX dX6_worst_42 rfl ?_
            refine v_goto (tgt := 48) hX dX6_worst_44 (by decide) ?_
            refine v_istore_n (lv' := [.ref (a 0), .int (nI (i)), .int ((v.1.2.1 i).2.2.2.1 (3)), .int (nI (i)), .int ((v.1.2.1 i).2.2.2.1 (3))]) hX dX6_worst_48 (Nat.le_of_ble_eq_true rfl) (Nat.le_of_ble_eq_true rfl) rfl rfl ?_
            refine v_iinc (y := nI (i + 1)) (lv' := [.ref (a 0), .int (nI (i)), .int ((v.1.2.1 i).2.2.2.1 (3)), .int (nI (i + 1)), .int ((v.1.2.1 i).2.2.2.1 (3))]) hX dX6_worst_49 rfl (nI_inc _) (Nat.le_of_ble_eq_true rfl) (Nat.le_of_ble_eq_true rfl) rfl rfl ?_
            refine v_goto (tgt := 7) hX dX6_worst_52 (by decide) ?_
            have e12 : nI (i) = (it (R_worstF v.1) (i + 1) (-5, 0)).1 := by first | (simp only [R_worstF, c2, c3, c9, it, if_true, if_false, reduceIte, Bool.false_eq_true, Bool.and_true, Bool.and_false, Bool.true_and, Bool.false_and, not_true_eq_false, not_false_eq_true, eq_self, ne_eq, reduceCtorEq, decide_true, decide_false, Bool.not_true, Bool.not_false]; done) | rfl | (simp only [R_worstF, c2, c3, c9, it, if_true, if_false, reduceIte, Bool.false_eq_true, Bool.and_true, Bool.and_false, Bool.true_and, Bool.false_and, not_true_eq_false, not_false_eq_true, eq_self, ne_eq, reduceCtorEq, decide_true, decide_false, Bool.not_true, Bool.not_false]; rfl) | contradiction
            rw [e12]
            have e13 : (v.1.2.1 i).2.2.2.1 (3) = (it (R_worstF v.1) (i + 1) (-5, 0)).2 := by first | (simp only [R_worstF, c2, c3, c9, it, if_true, if_false, reduceIte, Bool.false_eq_true, Bool.and_true, Bool.and_false, Bool.true_and, Bool.false_and, not_true_eq_false, not_false_eq_true, eq_self, ne_eq, reduceCtorEq, decide_true, decide_false, Bool.not_true, Bool.not_false]; done) | rfl | (simp only [R_worstF, c2, c3, c9, it, if_true, if_false, reduceIte, Bool.false_eq_true, Bool.and_true, Bool.and_false, Bool.true_and, Bool.false_and, not_true_eq_false, not_false_eq_true, eq_self, ne_eq, reduceCtorEq, decide_true, decide_false, Bool.not_true, Bool.not_false]; rfl) | contradiction
            rw [e13]
            exact v_fewer 4 rfl (ih (i + 1)  (by omega) )
  exact loop_7 4 0  (by omega) 
set_option maxHeartbeats 4000000 in
set_option maxRecDepth 100000 in
theorem c_X6_count (l : Launch) (E : ET) (a : Nat → Nat) (sz : Nat) (v : RV) (w : Int32) : Met l yX6_count wsX6_count ({ frames := 2, cells := 0, slots := 0, locals := 44 }) (mPc E [.ref (a 0), .int (w)] sz (wR E a v)) (mQi E (R_count v w) (wR E a v) (wR E a v) sz) 0 0 (va_A (wR E a v) sz) := by
  refine v_start (cc := cX6_count) (maxL := 2) (ret := (some .int)) (by decide) rfl (Nat.le_of_ble_eq_true rfl) rfl ?_
  intro p e s m args below meth c hsz hr hX
  have hX : Xc p s m args meth c E 2 (va_A (wR E a v) sz) cX6_count RX6 wsX6_count := hX
  have in_X6 : ∀ w ∈ u_ws RX6 TX6 18, w ∈ wsX6_count := by decide +kernel
  have fl_7 : Cond.fieldLink RX6 7 RX6 "s" "[I" ∈ wsX6_count := by decide +kernel
  have fl_33 : Cond.fieldLink RX6 33 RX6 "known" "I" ∈ wsX6_count := by decide +kernel
  have fl_125 : Cond.fieldLink RX6 125 RX6 "length" "I" ∈ wsX6_count := by decide +kernel
  refine v_iload_n hX dX6_count_0 rfl ?_
  rcases pk_ix w (n := 14) (by decide) with h1 | h1 | ⟨j, hle_j, heq_j⟩
  · have hS_w : S_within w 0 (13 : Int32) = false := within_lo h1
    refine v_tableOut (tgt := 164) hX dX6_count_1 (Or.inl (i_lt0 h1)) (by decide) ?_
    refine v_bipush (x := (-2 : Int32)) hX dX6_count_164 (by decide) ?_
    exact v_iret hX hr hsz dX6_count_166 rfl rfl (by (first | (simp only [R_count, hS_w, if_true, if_false, reduceIte, Bool.false_eq_true, reduceCtorEq, decide_true, decide_false, Bool.and_true, Bool.and_false, Bool.true_and, Bool.false_and, Bool.or_true, Bool.or_false, Bool.true_or, Bool.false_or, not_true_eq_false, not_false_eq_true, Bool.not_true, Bool.not_false, eq_self, Nat.reduceEqDiff]; done) | rfl | (simp only [R_count, hS_w, if_true, if_false, reduceIte, Bool.false_eq_true, reduceCtorEq, decide_true, decide_false, Bool.and_true, Bool.and_false, Bool.true_and, Bool.false_and, Bool.or_true, Bool.or_false, Bool.true_or, Bool.false_or, not_true_eq_false, not_false_eq_true, Bool.not_true, Bool.not_false, eq_self, Nat.reduceEqDiff]; rfl) | contradiction | (exfalso; omega))) rfl
  · have hS_w : S_within w 0 (13 : Int32) = false := within_hi (B := 13) rfl (by decide) h1
    refine v_tableOut (tgt := 164) hX dX6_count_1 (Or.inr (by have := i_hi h1 (by decide); omega)) (by decide) ?_
    refine v_bipush (x := (-2 : Int32)) hX dX6_count_164 (by decide) ?_
    exact v_iret hX hr hsz dX6_count_166 rfl rfl (by (first | (simp only [R_count, hS_w, if_true, if_false, reduceIte, Bool.false_eq_true, reduceCtorEq, decide_true, decide_false, Bool.and_true, Bool.and_false, Bool.true_and, Bool.false_and, Bool.or_true, Bool.or_false, Bool.true_or, Bool.false_or, not_true_eq_false, not_false_eq_true, Bool.not_true, Bool.not_false, eq_self, Nat.reduceEqDiff]; done) | rfl | (simp only [R_count, hS_w, if_true, if_false, reduceIte, Bool.false_eq_true, reduceCtorEq, decide_true, decide_false, Bool.and_true, Bool.and_false, Bool.true_and, Bool.false_and, Bool.or_true, Bool.or_false, Bool.true_or, Bool.false_or, not_true_eq_false, not_false_eq_true, Bool.not_true, Bool.not_false, eq_self, Nat.reduceEqDiff]; rfl) | contradiction | (exfalso; omega))) rfl
  subst heq_j
  have ec_j : cN (nI j) = j := cN_nI (by omega)
  have hS_w : S_within (nI j) 0 (13 : Int32) = true := within_nI (B := 13) rfl (by omega) (by decide)
  by_cases k2 : j = 0
  · have k2t := eq_true k2
    refine v_tableIn (tgt := 72) (off := 71) hX dX6_count_1 (by rw [k2]; decide) (by rw [k2]; decide) (by rw [k2]; decide) (by decide) ?_
    subst k2
    refine v_aload_n hX dX6_count_72 rfl ?_
    refine v_callVi (r := Q_all v.1) (rest := []) (ws' := wR E a v) hX (fun sz => c_X6_lines l E a sz v ) (cwV 0 hX.2.2.2.2.1 gX6_count_X6_lines rfl rfl rfl (by decide +kernel) ⟨Nat.le_of_ble_eq_true rfl, Nat.le_of_ble_eq_true rfl⟩) ([]) ([]) ((List.append_nil _).symm) ((List.append_nil _).symm).symm (wR_fst E a _ _) (ci := 6) (q0 := 0) rfl rfl rfl rfl rfl (Nat.le_of_ble_eq_true rfl) dX6_count_73 ?_
    exact v_iret hX hr hsz dX6_count_76 rfl rfl (by (first | (simp only [R_count, ec_j, hS_w, k2t, if_true, if_false, reduceIte, Bool.false_eq_true, reduceCtorEq, decide_true, decide_false, Bool.and_true, Bool.and_false, Bool.true_and, Bool.false_and, Bool.or_true, Bool.or_false, Bool.true_or, Bool.false_or, not_true_eq_false, not_false_eq_true, Bool.not_true, Bool.not_false, eq_self, Nat.reduceEqDiff]; done) | rfl | (simp only [R_count, ec_j, hS_w, k2t, if_true, if_false, reduceIte, Bool.false_eq_true, reduceCtorEq, decide_true, decide_false, Bool.and_true, Bool.and_false, Bool.true_and, Bool.false_and, Bool.or_true, Bool.or_false, Bool.true_or, Bool.false_or, not_true_eq_false, not_false_eq_true, Bool.not_true, Bool.not_false, eq_self, Nat.reduceEqDiff]; rfl) | contradiction | (exfalso; omega))) rfl
  by_cases k3 : j = 1
  · have k3t := eq_true k3
    refine v_tableIn (tgt := 77) (off := 76) hX dX6_count_1 (by rw [k3]; decide) (by rw [k3]; decide) (by rw [k3]; decide) (by decide) ?_
    subst k3
    refine v_aload_n hX dX6_count_77 rfl ?_
    refine v_iconst (x := (0 : Int32)) hX dX6_count_78 (by decide) ?_
    refine v_callVi (r := Q_dirty v.1 0) (rest := []) (ws' := wR E a v) hX (fun sz => c_X6_dirtyOf l E a sz v 0 (by first | omega | exact Nat.le_of_ble_eq_true rfl)) (cwV 1 hX.2.2.2.2.1 gX6_count_X6_dirtyOf rfl rfl rfl (by decide +kernel) ⟨Nat.le_of_ble_eq_true rfl, Nat.le_of_ble_eq_true rfl⟩) ([]) ([]) ((List.append_nil _).symm) ((List.append_nil _).symm).symm (wR_fst E a _ _) (ci := 6) (q0 := 0) rfl rfl rfl rfl rfl (Nat.le_of_ble_eq_true rfl) dX6_count_79 ?_
    refine v_aload_n hX dX6_count_82 rfl ?_
    refine v_iconst (x := (1 : Int32)) hX dX6_count_83 (by decide) ?_
    refine v_callVi (r := Q_dirty v.1 1) (rest := [.int (Q_dirty v.1 0)]) (ws' := wR E a v) hX (fun sz => c_X6_dirtyOf l E a sz v 1 (by first | omega | exact Nat.le_of_ble_eq_true rfl)) (cwV 1 hX.2.2.2.2.1 gX6_count_X6_dirtyOf rfl rfl rfl (by decide +kernel) ⟨Nat.le_of_ble_eq_true rfl, Nat.le_of_ble_eq_true rfl⟩) ([]) ([]) ((List.append_nil _).symm) ((List.append_nil _).symm).symm (wR_fst E a _ _) (ci := 6) (q0 := 0) rfl rfl rfl rfl rfl (Nat.le_of_ble_eq_true rfl) dX6_count_84 ?_
    refine v_iadd (z := (Q_dirty v.1 0 + Q_dirty v.1 1)) hX dX6_count_87 (rfl) ?_
    refine v_aload_n hX dX6_count_88 rfl ?_
    refine v_iconst (x := (2 : Int32)) hX dX6_count_89 (by decide) ?_
    refine v_callVi (r := Q_dirty v.1 2) (rest := [.int ((Q_dirty v.1 0 + Q_dirty v.1 1))]) (ws' := wR E a v) hX (fun sz => c_X6_dirtyOf l E a sz v 2 (by first | omega | exact Nat.le_of_ble_eq_true rfl)) (cwV 1 hX.2.2.2.2.1 gX6_count_X6_dirtyOf rfl rfl rfl (by decide +kernel) ⟨Nat.le_of_ble_eq_true rfl, Nat.le_of_ble_eq_true rfl⟩) ([]) ([]) ((List.append_nil _).symm) ((List.append_nil _).symm).symm (wR_fst E a _ _) (ci := 6) (q0 := 0) rfl rfl rfl rfl rfl (Nat.le_of_ble_eq_true rfl) dX6_count_90 ?_
    refine v_iadd (z := ((Q_dirty v.1 0 + Q_dirty v.1 1) + Q_dirty v.1 2)) hX dX6_count_93 (rfl) ?_
    refine v_aload_n hX dX6_count_94 rfl ?_
    refine v_iconst (x := (3 : Int32)) hX dX6_count_95 (by decide) ?_
    refine v_callVi (r := Q_dirty v.1 3) (rest := [.int (((Q_dirty v.1 0 + Q_dirty v.1 1) + Q_dirty v.1 2))]) (ws' := wR E a v) hX (fun sz => c_X6_dirtyOf l E a sz v 3 (by first | omega | exact Nat.le_of_ble_eq_true rfl)) (cwV 1 hX.2.2.2.2.1 gX6_count_X6_dirtyOf rfl rfl rfl (by decide +kernel) ⟨Nat.le_of_ble_eq_true rfl, Nat.le_of_ble_eq_true rfl⟩) ([]) ([]) ((List.append_nil _).symm) ((List.append_nil _).symm).symm (wR_fst E a _ _) (ci := 6) (q0 := 0) rfl rfl rfl rfl rfl (Nat.le_of_ble_eq_true rfl) dX6_count_96 ?_
    refine v_iadd (z := (((Q_dirty v.1 0 + Q_dirty v.1 1) + Q_dirty v.1 2) + Q_dirty v.1 3)) hX dX6_count_99 (rfl) ?_
    exact v_iret hX hr hsz dX6_count_100 rfl rfl (by (first | (simp only [R_count, ec_j, hS_w, k2, k3t, if_true, if_false, reduceIte, Bool.false_eq_true, reduceCtorEq, decide_true, decide_false, Bool.and_true, Bool.and_false, Bool.true_and, Bool.false_and, Bool.or_true, Bool.or_false, Bool.true_or, Bool.false_or, not_true_eq_false, not_false_eq_true, Bool.not_true, Bool.not_false, eq_self, Nat.reduceEqDiff]; done) | rfl | (simp only [R_count, ec_j, hS_w, k2, k3t, if_true, if_false, reduceIte, Bool.false_eq_true, reduceCtorEq, decide_true, decide_false, Bool.and_true, Bool.and_false, Bool.true_and, Bool.false_and, Bool.or_true, Bool.or_false, Bool.true_or, Bool.false_or, not_true_eq_false, not_false_eq_true, Bool.not_true, Bool.not_false, eq_self, Nat.reduceEqDiff]; rfl) | contradiction | (exfalso; omega))) rfl
  by_cases k4 : j = 2
  · have k4t := eq_true k4
    refine v_tableIn (tgt := 101) (off := 100) hX dX6_count_1 (by rw [k4]; decide) (by rw [k4]; decide) (by rw [k4]; decide) (by decide) ?_
    subst k4
    refine v_aload_n hX dX6_count_101 rfl ?_
    refine v_iload_n hX dX6_count_102 rfl ?_
    refine v_callVi (r := Q_sum v.1 2) (rest := []) (ws' := wR E a v) hX (fun sz => c_X6_sumOf l E a sz v 2 (by first | omega | exact Nat.le_of_ble_eq_true rfl)) (cwV 1 hX.2.2.2.2.1 gX6_count_X6_sumOf rfl rfl rfl (by decide +kernel) ⟨Nat.le_of_ble_eq_true rfl, Nat.le_of_ble_eq_true rfl⟩) ([]) ([]) ((List.append_nil _).symm) ((List.append_nil _).symm).symm (wR_fst E a _ _) (ci := 6) (q0 := 0) rfl rfl rfl rfl rfl (Nat.le_of_ble_eq_true rfl) dX6_count_103 ?_
    exact v_iret hX hr hsz dX6_count_106 rfl rfl (by (first | (simp only [R_count, ec_j, hS_w, k2, k3, k4t, if_true, if_false, reduceIte, Bool.false_eq_true, reduceCtorEq, decide_true, decide_false, Bool.and_true, Bool.and_false, Bool.true_and, Bool.false_and, Bool.or_true, Bool.or_false, Bool.true_or, Bool.false_or, not_true_eq_false, not_false_eq_true, Bool.not_true, Bool.not_false, eq_self, Nat.reduceEqDiff]; done) | rfl | (simp only [R_count, ec_j, hS_w, k2, k3, k4t, if_true, if_false, reduceIte, Bool.false_eq_true, reduceCtorEq, decide_true, decide_false, Bool.and_true, Bool.and_false, Bool.true_and, Bool.false_and, Bool.or_true, Bool.or_false, Bool.true_or, Bool.false_or, not_true_eq_false, not_false_eq_true, Bool.not_true, Bool.not_false, eq_self, Nat.reduceEqDiff]; rfl) | contradiction | (exfalso; omega))) rfl
  by_cases k5 : j = 3
  · have k5t := eq_true k5
    refine v_tableIn (tgt := 101) (off := 100) hX dX6_count_1 (by rw [k5]; decide) (by rw [k5]; decide) (by rw [k5]; decide) (by decide) ?_
    subst k5
    refine v_aload_n hX dX6_count_101 rfl ?_
    refine v_iload_n hX dX6_count_102 rfl ?_
    refine v_callVi (r := Q_sum v.1 3) (rest := []) (ws' := wR E a v) hX (fun sz => c_X6_sumOf l E a sz v 3 (by first | omega | exact Nat.le_of_ble_eq_true rfl)) (cwV 1 hX.2.2.2.2.1 gX6_count_X6_sumOf rfl rfl rfl (by decide +kernel) ⟨Nat.le_of_ble_eq_true rfl, Nat.le_of_ble_eq_true rfl⟩) ([]) ([]) ((List.append_nil _).symm) ((List.append_nil _).symm).symm (wR_fst E a _ _) (ci := 6) (q0 := 0) rfl rfl rfl rfl rfl (Nat.le_of_ble_eq_true rfl) dX6_count_103 ?_
    exact v_iret hX hr hsz dX6_count_106 rfl rfl (by (first | (simp only [R_count, ec_j, hS_w, k2, k3, k4, k5t, if_true, if_false, reduceIte, Bool.false_eq_true, reduceCtorEq, decide_true, decide_false, Bool.and_true, Bool.and_false, Bool.true_and, Bool.false_and, Bool.or_true, Bool.or_false, Bool.true_or, Bool.false_or, not_true_eq_false, not_false_eq_true, Bool.not_true, Bool.not_false, eq_self, Nat.reduceEqDiff]; done) | rfl | (simp only [R_count, ec_j, hS_w, k2, k3, k4, k5t, if_true, if_false, reduceIte, Bool.false_eq_true, reduceCtorEq, decide_true, decide_false, Bool.and_true, Bool.and_false, Bool.true_and, Bool.false_and, Bool.or_true, Bool.or_false, Bool.true_or, Bool.false_or, not_true_eq_false, not_false_eq_true, Bool.not_true, Bool.not_false, eq_self, Nat.reduceEqDiff]; rfl) | contradiction | (exfalso; omega))) rfl
  by_cases k6 : j = 4
  · have k6t := eq_true k6
    refine v_tableIn (tgt := 101) (off := 100) hX dX6_count_1 (by rw [k6]; decide) (by rw [k6]; decide) (by rw [k6]; decide) (by decide) ?_
    subst k6
    refine v_aload_n hX dX6_count_101 rfl ?_
    refine v_iload_n hX dX6_count_102 rfl ?_
    refine v_callVi (r := Q_sum v.1 4) (rest := []) (ws' := wR E a v) hX (fun sz => c_X6_sumOf l E a sz v 4 (by first | omega | exact Nat.le_of_ble_eq_true rfl)) (cwV 1 hX.2.2.2.2.1 gX6_count_X6_sumOf rfl rfl rfl (by decide +kernel) ⟨Nat.le_of_ble_eq_true rfl, Nat.le_of_ble_eq_true rfl⟩) ([]) ([]) ((List.append_nil _).symm) ((List.append_nil _).symm).symm (wR_fst E a _ _) (ci := 6) (q0 := 0) rfl rfl rfl rfl rfl (Nat.le_of_ble_eq_true rfl) dX6_count_103 ?_
    exact v_iret hX hr hsz dX6_count_106 rfl rfl (by (first | (simp only [R_count, ec_j, hS_w, k2, k3, k4, k5, k6t, if_true, if_false, reduceIte, Bool.false_eq_true, reduceCtorEq, decide_true, decide_false, Bool.and_true, Bool.and_false, Bool.true_and, Bool.false_and, Bool.or_true, Bool.or_false, Bool.true_or, Bool.false_or, not_true_eq_false, not_false_eq_true, Bool.not_true, Bool.not_false, eq_self, Nat.reduceEqDiff]; done) | rfl | (simp only [R_count, ec_j, hS_w, k2, k3, k4, k5, k6t, if_true, if_false, reduceIte, Bool.false_eq_true, reduceCtorEq, decide_true, decide_false, Bool.and_true, Bool.and_false, Bool.true_and, Bool.false_and, Bool.or_true, Bool.or_false, Bool.true_or, Bool.false_or, not_true_eq_false, not_false_eq_true, Bool.not_true, Bool.not_false, eq_self, Nat.reduceEqDiff]; rfl) | contradiction | (exfalso; omega))) rfl
  by_cases k7 : j = 5
  · have k7t := eq_true k7
    refine v_tableIn (tgt := 107) (off := 106) hX dX6_count_1 (by rw [k7]; decide) (by rw [k7]; decide) (by rw [k7]; decide) (by decide) ?_
    subst k7
    refine v_aload_n hX dX6_count_107 rfl ?_
    refine v_get (C := RX6) (T := TX6) (N := 18) (ci := 6) (v := .ref (a 1)) hX in_X6 0 rfl rfl 0 (by decide) fl_7 rfl rfl dX6_count_108 ?_
    refine v_sipush (x := (538 : Int32)) hX dX6_count_111 (by decide) ?_
    refine v_iald (z := v.1.2.2.2.2.1) hX 1 rfl (vp_in_nI (by omega : 538 < 544) (by omega)) (by show encS _ 538 = _; exact gS_back v.1 (by omega)) dX6_count_114 ?_
    exact v_iret hX hr hsz dX6_count_115 rfl rfl (by (first | (simp only [R_count, ec_j, hS_w, k2, k3, k4, k5, k6, k7t, if_true, if_false, reduceIte, Bool.false_eq_true, reduceCtorEq, decide_true, decide_false, Bool.and_true, Bool.and_false, Bool.true_and, Bool.false_and, Bool.or_true, Bool.or_false, Bool.true_or, Bool.false_or, not_true_eq_false, not_false_eq_true, Bool.not_true, Bool.not_false, eq_self, Nat.reduceEqDiff]; done) | rfl | (simp only [R_count, ec_j, hS_w, k2, k3, k4, k5, k6, k7t, if_true, if_false, reduceIte, Bool.false_eq_true, reduceCtorEq, decide_true, decide_false, Bool.and_true, Bool.and_false, Bool.true_and, Bool.false_and, Bool.or_true, Bool.or_false, Bool.true_or, Bool.false_or, not_true_eq_false, not_false_eq_true, Bool.not_true, Bool.not_false, eq_self, Nat.reduceEqDiff]; rfl) | contradiction | (exfalso; omega))) rfl
  by_cases k8 : j = 6
  · have k8t := eq_true k8
    refine v_tableIn (tgt := 116) (off := 115) hX dX6_count_1 (by rw [k8]; decide) (by rw [k8]; decide) (by rw [k8]; decide) (by decide) ?_
    subst k8
    refine v_aload_n hX dX6_count_116 rfl ?_
    refine v_iconst (x := (5 : Int32)) hX dX6_count_117 (by decide) ?_
    refine v_callVi (r := Q_sum v.1 5) (rest := []) (ws' := wR E a v) hX (fun sz => c_X6_sumOf l E a sz v 5 (by first | omega | exact Nat.le_of_ble_eq_true rfl)) (cwV 1 hX.2.2.2.2.1 gX6_count_X6_sumOf rfl rfl rfl (by decide +kernel) ⟨Nat.le_of_ble_eq_true rfl, Nat.le_of_ble_eq_true rfl⟩) ([]) ([]) ((List.append_nil _).symm) ((List.append_nil _).symm).symm (wR_fst E a _ _) (ci := 6) (q0 := 0) rfl rfl rfl rfl rfl (Nat.le_of_ble_eq_true rfl) dX6_count_118 ?_
    exact v_iret hX hr hsz dX6_count_121 rfl rfl (by (first | (simp only [R_count, ec_j, hS_w, k2, k3, k4, k5, k6, k7, k8t, if_true, if_false, reduceIte, Bool.false_eq_true, reduceCtorEq, decide_true, decide_false, Bool.and_true, Bool.and_false, Bool.true_and, Bool.false_and, Bool.or_true, Bool.or_false, Bool.true_or, Bool.false_or, not_true_eq_false, not_false_eq_true, Bool.not_true, Bool.not_false, eq_self, Nat.reduceEqDiff]; done) | rfl | (simp only [R_count, ec_j, hS_w, k2, k3, k4, k5, k6, k7, k8t, if_true, if_false, reduceIte, Bool.false_eq_true, reduceCtorEq, decide_true, decide_false, Bool.and_true, Bool.and_false, Bool.true_and, Bool.false_and, Bool.or_true, Bool.or_false, Bool.true_or, Bool.false_or, not_true_eq_false, not_false_eq_true, Bool.not_true, Bool.not_false, eq_self, Nat.reduceEqDiff]; rfl) | contradiction | (exfalso; omega))) rfl
  by_cases k9 : j = 7
  · have k9t := eq_true k9
    refine v_tableIn (tgt := 122) (off := 121) hX dX6_count_1 (by rw [k9]; decide) (by rw [k9]; decide) (by rw [k9]; decide) (by decide) ?_
    subst k9
    refine v_aload_n hX dX6_count_122 rfl ?_
    refine v_iload_n hX dX6_count_123 rfl ?_
    refine v_bipush (x := (7 : Int32)) hX dX6_count_124 (by decide) ?_
    refine v_isub (z := nI (7 - 7)) hX dX6_count_126 (pk_sub (a := 7) (b := 7) (by omega)) ?_
    refine v_callVi (r := Q_sum v.1 (7 - 7)) (rest := []) (ws' := wR E a v) hX (fun sz => c_X6_sumOf l E a sz v (7 - 7) (by first | omega | exact Nat.le_of_ble_eq_true rfl)) (cwV 1 hX.2.2.2.2.1 gX6_count_X6_sumOf rfl rfl rfl (by decide +kernel) ⟨Nat.le_of_ble_eq_true rfl, Nat.le_of_ble_eq_true rfl⟩) ([]) ([]) ((List.append_nil _).symm) ((List.append_nil _).symm).symm (wR_fst E a _ _) (ci := 6) (q0 := 0) rfl rfl rfl rfl rfl (Nat.le_of_ble_eq_true rfl) dX6_count_127 ?_
    exact v_iret hX hr hsz dX6_count_130 rfl rfl (by (first | (simp only [R_count, ec_j, hS_w, k2, k3, k4, k5, k6, k7, k8, k9t, if_true, if_false, reduceIte, Bool.false_eq_true, reduceCtorEq, decide_true, decide_false, Bool.and_true, Bool.and_false, Bool.true_and, Bool.false_and, Bool.or_true, Bool.or_false, Bool.true_or, Bool.false_or, not_true_eq_false, not_false_eq_true, Bool.not_true, Bool.not_false, eq_self, Nat.reduceEqDiff]; done) | rfl | (simp only [R_count, ec_j, hS_w, k2, k3, k4, k5, k6, k7, k8, k9t, if_true, if_false, reduceIte, Bool.false_eq_true, reduceCtorEq, decide_true, decide_false, Bool.and_true, Bool.and_false, Bool.true_and, Bool.false_and, Bool.or_true, Bool.or_false, Bool.true_or, Bool.false_or, not_true_eq_false, not_false_eq_true, Bool.not_true, Bool.not_false, eq_self, Nat.reduceEqDiff]; rfl) | contradiction | (exfalso; omega))) rfl
  by_cases k10 : j = 8
  · have k10t := eq_true k10
    refine v_tableIn (tgt := 122) (off := 121) hX dX6_count_1 (by rw [k10]; decide) (by rw [k10]; decide) (by rw [k10]; decide) (by decide) ?_
    subst k10
    refine v_aload_n hX dX6_count_122 rfl ?_
    refine v_iload_n hX dX6_count_123 rfl ?_
    refine v_bipush (x := (7 : Int32)) hX dX6_count_124 (by decide) ?_
    refine v_isub (z := nI (8 - 7)) hX dX6_count_126 (pk_sub (a := 8) (b := 7) (by omega)) ?_
    refine v_callVi (r := Q_sum v.1 (8 - 7)) (rest := []) (ws' := wR E a v) hX (fun sz => c_X6_sumOf l E a sz v (8 - 7) (by first | omega | exact Nat.le_of_ble_eq_true rfl)) (cwV 1 hX.2.2.2.2.1 gX6_count_X6_sumOf rfl rfl rfl (by decide +kernel) ⟨Nat.le_of_ble_eq_true rfl, Nat.le_of_ble_eq_true rfl⟩) ([]) ([]) ((List.append_nil _).symm) ((List.append_nil _).symm).symm (wR_fst E a _ _) (ci := 6) (q0 := 0) rfl rfl rfl rfl rfl (Nat.le_of_ble_eq_true rfl) dX6_count_127 ?_
    exact v_iret hX hr hsz dX6_count_130 rfl rfl (by (first | (simp only [R_count, ec_j, hS_w, k2, k3, k4, k5, k6, k7, k8, k9, k10t, if_true, if_false, reduceIte, Bool.false_eq_true, reduceCtorEq, decide_true, decide_false, Bool.and_true, Bool.and_false, Bool.true_and, Bool.false_and, Bool.or_true, Bool.or_false, Bool.true_or, Bool.false_or, not_true_eq_false, not_false_eq_true, Bool.not_true, Bool.not_false, eq_self, Nat.reduceEqDiff]; done) | rfl | (simp only [R_count, ec_j, hS_w, k2, k3, k4, k5, k6, k7, k8, k9, k10t, if_true, if_false, reduceIte, Bool.false_eq_true, reduceCtorEq, decide_true, decide_false, Bool.and_true, Bool.and_false, Bool.true_and, Bool.false_and, Bool.or_true, Bool.or_false, Bool.true_or, Bool.false_or, not_true_eq_false, not_false_eq_true, Bool.not_true, Bool.not_false, eq_self, Nat.reduceEqDiff]; rfl) | contradiction | (exfalso; omega))) rfl
  by_cases k11 : j = 9
  · have k11t := eq_true k11
    refine v_tableIn (tgt := 131) (off := 130) hX dX6_count_1 (by rw [k11]; decide) (by rw [k11]; decide) (by rw [k11]; decide) (by decide) ?_
    subst k11
    refine v_aload_n hX dX6_count_131 rfl ?_
    refine v_get (C := RX6) (T := TX6) (N := 18) (ci := 6) (v := .ref (a 1)) hX in_X6 0 rfl rfl 0 (by decide) fl_7 rfl rfl dX6_count_132 ?_
    refine v_sipush (x := (539 : Int32)) hX dX6_count_135 (by decide) ?_
    refine v_iald (z := v.1.2.2.2.2.2) hX 1 rfl (vp_in_nI (by omega : 539 < 544) (by omega)) (by show encS _ 539 = _; exact gS_wr v.1 (by omega)) dX6_count_138 ?_
    exact v_iret hX hr hsz dX6_count_139 rfl rfl (by (first | (simp only [R_count, ec_j, hS_w, k2, k3, k4, k5, k6, k7, k8, k9, k10, k11t, if_true, if_false, reduceIte, Bool.false_eq_true, reduceCtorEq, decide_true, decide_false, Bool.and_true, Bool.and_false, Bool.true_and, Bool.false_and, Bool.or_true, Bool.or_false, Bool.true_or, Bool.false_or, not_true_eq_false, not_false_eq_true, Bool.not_true, Bool.not_false, eq_self, Nat.reduceEqDiff]; done) | rfl | (simp only [R_count, ec_j, hS_w, k2, k3, k4, k5, k6, k7, k8, k9, k10, k11t, if_true, if_false, reduceIte, Bool.false_eq_true, reduceCtorEq, decide_true, decide_false, Bool.and_true, Bool.and_false, Bool.true_and, Bool.false_and, Bool.or_true, Bool.or_false, Bool.true_or, Bool.false_or, not_true_eq_false, not_false_eq_true, Bool.not_true, Bool.not_false, eq_self, Nat.reduceEqDiff]; rfl) | contradiction | (exfalso; omega))) rfl
  by_cases k12 : j = 10
  · have k12t := eq_true k12
    refine v_tableIn (tgt := 140) (off := 139) hX dX6_count_1 (by rw [k12]; decide) (by rw [k12]; decide) (by rw [k12]; decide) (by decide) ?_
    subst k12
    refine v_aload_n hX dX6_count_140 rfl ?_
    refine v_get (C := RX6) (T := TX6) (N := 18) (ci := 6) (v := .ref (a 1)) hX in_X6 0 rfl rfl 0 (by decide) fl_7 rfl rfl dX6_count_141 ?_
    refine v_sipush (x := (536 : Int32)) hX dX6_count_144 (by decide) ?_
    refine v_iload_n hX dX6_count_147 rfl ?_
    refine v_iadd (z := nI (536 + 10)) hX dX6_count_148 (nI_add 536 10) ?_
    refine v_bipush (x := (10 : Int32)) hX dX6_count_149 (by decide) ?_
    refine v_isub (z := nI ((536 + 10) - 10)) hX dX6_count_151 (pk_sub (a := 536 + 10) (b := 10) (by omega)) ?_
    refine v_iald (z := v.1.2.2.1) hX 1 rfl (vp_in_nI (by omega : (536 + 10) - 10 < 544) (by omega)) (by simp only [nI_clamp (show (536 + 10) - 10 < 2 ^ 31 by omega)]; exact gS_lim v.1 (by omega)) dX6_count_152 ?_
    exact v_iret hX hr hsz dX6_count_153 rfl rfl (by (first | (simp only [R_count, ec_j, hS_w, k2, k3, k4, k5, k6, k7, k8, k9, k10, k11, k12t, if_true, if_false, reduceIte, Bool.false_eq_true, reduceCtorEq, decide_true, decide_false, Bool.and_true, Bool.and_false, Bool.true_and, Bool.false_and, Bool.or_true, Bool.or_false, Bool.true_or, Bool.false_or, not_true_eq_false, not_false_eq_true, Bool.not_true, Bool.not_false, eq_self, Nat.reduceEqDiff]; done) | rfl | (simp only [R_count, ec_j, hS_w, k2, k3, k4, k5, k6, k7, k8, k9, k10, k11, k12t, if_true, if_false, reduceIte, Bool.false_eq_true, reduceCtorEq, decide_true, decide_false, Bool.and_true, Bool.and_false, Bool.true_and, Bool.false_and, Bool.or_true, Bool.or_false, Bool.true_or, Bool.false_or, not_true_eq_false, not_false_eq_true, Bool.not_true, Bool.not_false, eq_self, Nat.reduceEqDiff]; rfl) | contradiction | (exfalso; omega))) rfl
  by_cases k13 : j = 11
  · have k13t := eq_true k13
    refine v_tableIn (tgt := 140) (off := 139) hX dX6_count_1 (by rw [k13]; decide) (by rw [k13]; decide) (by rw [k13]; decide) (by decide) ?_
    subst k13
    refine v_aload_n hX dX6_count_140 rfl ?_
    refine v_get (C := RX6) (T := TX6) (N := 18) (ci := 6) (v := .ref (a 1)) hX in_X6 0 rfl rfl 0 (by decide) fl_7 rfl rfl dX6_count_141 ?_
    refine v_sipush (x := (536 : Int32)) hX dX6_count_144 (by decide) ?_
    refine v_iload_n hX dX6_count_147 rfl ?_
    refine v_iadd (z := nI (536 + 11)) hX dX6_count_148 (nI_add 536 11) ?_
    refine v_bipush (x := (10 : Int32)) hX dX6_count_149 (by decide) ?_
    refine v_isub (z := nI ((536 + 11) - 10)) hX dX6_count_151 (pk_sub (a := 536 + 11) (b := 10) (by omega)) ?_
    refine v_iald (z := v.1.2.2.2.1) hX 1 rfl (vp_in_nI (by omega : (536 + 11) - 10 < 544) (by omega)) (by simp only [nI_clamp (show (536 + 11) - 10 < 2 ^ 31 by omega)]; exact gS_full v.1 (by omega)) dX6_count_152 ?_
    exact v_iret hX hr hsz dX6_count_153 rfl rfl (by (first | (simp only [R_count, ec_j, hS_w, k2, k3, k4, k5, k6, k7, k8, k9, k10, k11, k12, k13t, if_true, if_false, reduceIte, Bool.false_eq_true, reduceCtorEq, decide_true, decide_false, Bool.and_true, Bool.and_false, Bool.true_and, Bool.false_and, Bool.or_true, Bool.or_false, Bool.true_or, Bool.false_or, not_true_eq_false, not_false_eq_true, Bool.not_true, Bool.not_false, eq_self, Nat.reduceEqDiff]; done) | rfl | (simp only [R_count, ec_j, hS_w, k2, k3, k4, k5, k6, k7, k8, k9, k10, k11, k12, k13t, if_true, if_false, reduceIte, Bool.false_eq_true, reduceCtorEq, decide_true, decide_false, Bool.and_true, Bool.and_false, Bool.true_and, Bool.false_and, Bool.or_true, Bool.or_false, Bool.true_or, Bool.false_or, not_true_eq_false, not_false_eq_true, Bool.not_true, Bool.not_false, eq_self, Nat.reduceEqDiff]; rfl) | contradiction | (exfalso; omega))) rfl
  by_cases k14 : j = 12
  · have k14t := eq_true k14
    refine v_tableIn (tgt := 154) (off := 153) hX dX6_count_1 (by rw [k14]; decide) (by rw [k14]; decide) (by rw [k14]; decide) (by decide) ?_
    subst k14
    refine v_aload_n hX dX6_count_154 rfl ?_
    refine v_get (C := RX6) (T := TX6) (N := 18) (ci := 6) (v := .int (nI (v.2.2.2.2.1.val))) hX in_X6 0 rfl rfl 3 (by decide) fl_33 rfl rfl dX6_count_155 ?_
    have hb15 := (v.2.2.2.2.1).isLt
    exact v_iret hX hr hsz dX6_count_158 rfl rfl (by (first | (simp only [R_count, ec_j, hS_w, k2, k3, k4, k5, k6, k7, k8, k9, k10, k11, k12, k13, k14t, if_true, if_false, reduceIte, Bool.false_eq_true, reduceCtorEq, decide_true, decide_false, Bool.and_true, Bool.and_false, Bool.true_and, Bool.false_and, Bool.or_true, Bool.or_false, Bool.true_or, Bool.false_or, not_true_eq_false, not_false_eq_true, Bool.not_true, Bool.not_false, eq_self, Nat.reduceEqDiff]; done) | rfl | (simp only [R_count, ec_j, hS_w, k2, k3, k4, k5, k6, k7, k8, k9, k10, k11, k12, k13, k14t, if_true, if_false, reduceIte, Bool.false_eq_true, reduceCtorEq, decide_true, decide_false, Bool.and_true, Bool.and_false, Bool.true_and, Bool.false_and, Bool.or_true, Bool.or_false, Bool.true_or, Bool.false_or, not_true_eq_false, not_false_eq_true, Bool.not_true, Bool.not_false, eq_self, Nat.reduceEqDiff]; rfl) | contradiction | (exfalso; omega))) rfl
  by_cases k16 : j = 13
  · have k16t := eq_true k16
    refine v_tableIn (tgt := 159) (off := 158) hX dX6_count_1 (by rw [k16]; decide) (by rw [k16]; decide) (by rw [k16]; decide) (by decide) ?_
    subst k16
    refine v_aload_n hX dX6_count_159 rfl ?_
    refine v_get (C := RX6) (T := TX6) (N := 18) (ci := 6) (v := .int (nI (v.2.2.2.2.2.2.2.1.val))) hX in_X6 0 rfl rfl 7 (by decide) fl_125 rfl rfl dX6_count_160 ?_
    have hb17 := (v.2.2.2.2.2.2.2.1).isLt
    exact v_iret hX hr hsz dX6_count_163 rfl rfl (by (first | (simp only [R_count, ec_j, hS_w, k2, k3, k4, k5, k6, k7, k8, k9, k10, k11, k12, k13, k14, k16t, if_true, if_false, reduceIte, Bool.false_eq_true, reduceCtorEq, decide_true, decide_false, Bool.and_true, Bool.and_false, Bool.true_and, Bool.false_and, Bool.or_true, Bool.or_false, Bool.true_or, Bool.false_or, not_true_eq_false, not_false_eq_true, Bool.not_true, Bool.not_false, eq_self, Nat.reduceEqDiff]; done) | rfl | (simp only [R_count, ec_j, hS_w, k2, k3, k4, k5, k6, k7, k8, k9, k10, k11, k12, k13, k14, k16t, if_true, if_false, reduceIte, Bool.false_eq_true, reduceCtorEq, decide_true, decide_false, Bool.and_true, Bool.and_false, Bool.true_and, Bool.false_and, Bool.or_true, Bool.or_false, Bool.true_or, Bool.false_or, not_true_eq_false, not_false_eq_true, Bool.not_true, Bool.not_false, eq_self, Nat.reduceEqDiff]; rfl) | contradiction | (exfalso; omega))) rfl
  exfalso; omega
