theorem R_next_dig {v : RV} {hi : Int32} (h : R_next v 48 hi = true) : 48 ≤ (v.2.2.2.2.2.2.1 v.2.2.2.2.2.2.2.2.2.2.1.val).val := by
  simp only [R_next, S_within, Bool.and_eq_true, Bool.not_eq_true', decide_eq_false_iff_not] at h
  have h2 := h.2.2.1
  have hb := (v.2.2.2.2.2.2.1 v.2.2.2.2.2.2.2.2.2.2.1.val).isLt
  rw [show (48 : Int32) = nI 48 from rfl, nI_ltI (by omega) (by omega)] at h2
  omega
def R_numW (v : RV) (h : Nat) : Bool := if v.2.2.2.2.2.2.2.2.2.2.2.1 = true then true else if 9 ≤ h then (if R_next v 48 57 = true then false else true) else (if R_next v 48 (nI (48 + h)) = true then false else true)
def R_numC (h : Nat) : Nat × RV → Bool := fun u => !decide (u.1 ≤ 0) && (R_next u.2 48 57 && !decide (h < 10 * u.1 + (u.2.2.2.2.2.2.2.1 u.2.2.2.2.2.2.2.2.2.2.2.1.val).val - 48))
def R_numS : Nat × RV → Nat × RV := fun u => (10 * u.1 + (u.2.2.2.2.2.2.2.1 u.2.2.2.2.2.2.2.2.2.2.2.1.val).val - 48, R_setSpot u.2 (u.2.2.2.2.2.2.2.2.2.2.2.1.val + 1))
def R_num0 (v : RV) (h : Nat) : Nat × RV := if (R_setWrong v (R_numW v h)).2.2.2.2.2.2.2.2.2.2.2.1 = true then (0, R_setSpot (R_setWrong v (R_numW v h)) ((R_setWrong v (R_numW v h)).2.2.2.2.2.2.2.2.2.2.1.val + 0)) else (((R_setWrong v (R_numW v h)).2.2.2.2.2.2.1 (R_setWrong v (R_numW v h)).2.2.2.2.2.2.2.2.2.2.1.val).val - 48, R_setSpot (R_setWrong v (R_numW v h)) ((R_setWrong v (R_numW v h)).2.2.2.2.2.2.2.2.2.2.1.val + 1))
def R_num (v : RV) (h : Nat) : Nat × RV := wh (R_numC h) R_numS 81 (R_num0 v h)
theorem R_spot_at (v : RV) {x : Nat} (hx : x < 81) : (R_setSpot v x).2.2.2.2.2.2.2.2.2.2.1.val = x := Nat.mod_eq_of_lt hx
theorem R_num_le_gen (h : Nat) : ∀ (n : Nat) (u : Nat × RV), u.1 ≤ h → (wh (R_numC h) R_numS n u).1 ≤ h
  | 0, u, hu => hu
  | n + 1, u, hu => by
    simp only [wh]
    split
    · rename_i hc
      refine R_num_le_gen h n _ ?_
      simp only [R_numC, Bool.and_eq_true, Bool.not_eq_true', decide_eq_false_iff_not] at hc
      simp only [R_numS]
      omega
    · exact hu
theorem R_num0_le (v : RV) (h : Nat) : (R_num0 v h).1 ≤ h := by
  unfold R_num0
  split
  · exact Nat.zero_le _
  · rename_i hc
    have hb := (v.2.2.2.2.2.2.1 v.2.2.2.2.2.2.2.2.2.2.1.val).isLt
    have hw : R_numW v h = false := by simpa [R_setWrong] using hc
    show (v.2.2.2.2.2.2.1 v.2.2.2.2.2.2.2.2.2.2.1.val).val - 48 ≤ h
    unfold R_numW at hw
    split at hw
    · cases hw
    · split at hw
      · split at hw
        · rename_i h9 hn
          simp only [R_next, S_within, Bool.and_eq_true, Bool.not_eq_true', decide_eq_false_iff_not] at hn
          have h2 := hn.2.2.2
          rw [show (57 : Int32) = nI 57 from rfl, nI_ltI (by omega) (by omega)] at h2
          omega
        · cases hw
      · split at hw
        · rename_i h9 hn
          simp only [R_next, S_within, Bool.and_eq_true, Bool.not_eq_true', decide_eq_false_iff_not] at hn
          have h2 := hn.2.2.2
          rw [nI_ltI (by omega) (by omega)] at h2
          omega
        · cases hw
theorem R_num_le (v : RV) (h : Nat) : (R_num v h).1 ≤ h := R_num_le_gen h _ _ (R_num0_le v h)
set_option maxHeartbeats 4000000 in
set_option maxRecDepth 100000 in
theorem c_X6_number (l : Launch) (E : ET) (a : Nat → Nat) (sz : Nat) (v : RV) (h : Nat) (hh : h < 10000) : Met l yX6_number wsX6_number ({ frames := 2, cells := 0, slots := 0, locals := 44 }) (mPc E [.ref (a 0), .int (nI (h))] sz (wR E a v)) (mQi E (nI ((R_num v h).1)) (wR E a v) (wR E a ((R_num v h).2)) sz) 0 0 (va_A (wR E a v) sz) := by
  refine v_start (cc := cX6_number) (maxL := 3) (ret := (some .int)) (by decide) rfl (Nat.le_of_ble_eq_true rfl) rfl ?_
  intro p e s m args below meth c hsz hr hX
  have hX : Xc p s m args meth c E 3 (va_A (wR E a v) sz) cX6_number RX6 wsX6_number := hX
  have in_X6 : ∀ w ∈ u_ws RX6 TX6 18, w ∈ wsX6_number := by decide +kernel
  have fl_128 : Cond.fieldLink RX6 128 RX6 "isWrong" "Z" ∈ wsX6_number := by decide +kernel
  have fl_132 : Cond.fieldLink RX6 132 RX6 "spot" "I" ∈ wsX6_number := by decide +kernel
  have fl_22 : Cond.fieldLink RX6 22 RX6 "text" "[I" ∈ wsX6_number := by decide +kernel
  refine v_aload_n hX dX6_number_0 rfl ?_
  refine v_aload_n hX dX6_number_1 rfl ?_
  refine v_get (C := RX6) (T := TX6) (N := 18) (ci := 6) (v := .int (bI (v.2.2.2.2.2.2.2.2.2.2.2.1))) hX in_X6 0 rfl rfl 11 (by decide) fl_128 rfl rfl dX6_number_2 ?_
  refine v_if_ne (tgt := 32) hX dX6_number_5 (by decide) (fun c1 => ?_) (fun c1 => ?_)
  · replace c1 := bI_n0.mp c1
    refine v_iconst (x := (1 : Int32)) hX dX6_number_32 (by decide) ?_
    refine v_goto (tgt := 37) hX dX6_number_33 (by decide) ?_
    obtain ⟨v2, hv2⟩ : ∃ z_ : RV, z_ = R_setWrong v (true) := ⟨_, rfl⟩
    refine v_put (C := RX6) (T := TX6) (N := 18) (ci := 6) (v := .int (bI (true))) (ty := .boolean) (ws' := wR E a v2) hX in_X6 tyX6 tyX6_ok nmX6 0 rfl rfl 11 (by decide) fl_128 rfl rfl (by decide +kernel) (bI_narrow _) (bI_fits _) (Nat.le_of_ble_eq_true rfl) dX6_number_37 (by rw [hv2]; exact sR_Wrong E a v (true)) ?_
    have hw3 : v2.2.2.2.2.2.2.2.2.2.2.2.1 = true := by rw [hv2]; rfl
    refine v_aload_n hX dX6_number_40 rfl ?_
    refine v_get (C := RX6) (T := TX6) (N := 18) (ci := 6) (v := .int (bI (v2.2.2.2.2.2.2.2.2.2.2.2.1))) hX in_X6 0 rfl rfl 11 (by decide) fl_128 rfl rfl dX6_number_41 ?_
    refine v_if_eq (tgt := 51) hX dX6_number_44 (by decide) (fun c4 => ?_) (fun c4 => ?_)
    · replace c4 := bI_0.mp c4
      exact absurd (hw3.symm.trans c4) (by decide)
    · replace c4 := bI_n0.mp c4
      refine v_iconst (x := (0 : Int32)) hX dX6_number_47 (by decide) ?_
      refine v_goto (tgt := 63) hX dX6_number_48 (by decide) ?_
      refine v_istore_n (lv' := [.ref (a 0), .int (nI (h)), .int ((0 : Int32))]) hX dX6_number_63 (Nat.le_of_ble_eq_true rfl) (Nat.le_of_ble_eq_true rfl) rfl rfl ?_
      refine v_aload_n hX dX6_number_64 rfl ?_
      refine v_dup hX dX6_number_65 rfl ?_
      refine v_get (C := RX6) (T := TX6) (N := 18) (ci := 6) (v := .int (nI (v2.2.2.2.2.2.2.2.2.2.2.1.val))) hX in_X6 0 rfl rfl 10 (by decide) fl_132 rfl rfl dX6_number_66 ?_
      have hb5 := (v2.2.2.2.2.2.2.2.2.2.2.1).isLt
      refine v_aload_n hX dX6_number_69 rfl ?_
      refine v_get (C := RX6) (T := TX6) (N := 18) (ci := 6) (v := .int (bI (v2.2.2.2.2.2.2.2.2.2.2.2.1))) hX in_X6 0 rfl rfl 11 (by decide) fl_128 rfl rfl dX6_number_70 ?_
      refine v_if_eq (tgt := 80) hX dX6_number_73 (by decide) (fun c6 => ?_) (fun c6 => ?_)
      · replace c6 := bI_0.mp c6
        exact absurd (c4.symm.trans c6) (by decide)
      · replace c6 := bI_n0.mp c6
        refine v_iconst (x := (0 : Int32)) hX dX6_number_76 (by decide) ?_
        refine v_goto (tgt := 81) hX dX6_number_77 (by decide) ?_
        refine v_iadd (z := nI (v2.2.2.2.2.2.2.2.2.2.2.1.val + 0)) hX dX6_number_81 (nI_add v2.2.2.2.2.2.2.2.2.2.2.1.val 0) ?_
        obtain ⟨v7, hv7⟩ : ∃ z_ : RV, z_ = R_setSpot v2 (v2.2.2.2.2.2.2.2.2.2.2.1.val + 0) := ⟨_, rfl⟩
        refine v_put (C := RX6) (T := TX6) (N := 18) (ci := 6) (v := .int (nI (v2.2.2.2.2.2.2.2.2.2.2.1.val + 0))) (ty := .int) (ws' := wR E a v7) hX in_X6 tyX6 tyX6_ok nmX6 0 rfl rfl 10 (by decide) fl_132 rfl rfl (by decide +kernel) (rfl) (rfl) (Nat.le_of_ble_eq_true rfl) dX6_number_82 (by rw [hv7]; exact sR_Spot E a v2 (x := v2.2.2.2.2.2.2.2.2.2.2.1.val + 0) (by omega : v2.2.2.2.2.2.2.2.2.2.2.1.val + 0 < 81)) ?_
        have hw8 : v7.2.2.2.2.2.2.2.2.2.2.2.1 = true := by rw [hv7]; exact c6
        have loop_85 : ∀ (fu : Nat) (k : Nat) (w : RV), 80 - w.2.2.2.2.2.2.2.2.2.2.1.val ≤ fu → wh (R_numC h) R_numS fu (k, w) = R_num v h → k ≤ h → V p l e ({ frames := 2, cells := 0, slots := 0, locals := 44 } : Room) s m args below meth c E 3 (va_A (wR E a v) sz) (MQ below (mQi E (nI ((R_num v h).1)) (wR E a v) (wR E a ((R_num v h).2)) sz) args s 0 0 (va_A (wR E a v) sz)) (wR E a w) [.ref (a 0), .int (nI (h)), .int (nI (k))] 85 [] := by
          intro fu
          induction fu with
          | zero =>
            intro k w inv0 inv1 inv2
            refine v_iload_n hX dX6_number_85 rfl ?_
            refine v_if_le (tgt := 152) hX dX6_number_86 (by decide) (fun c9 => ?_) (fun c9 => ?_)
            · replace c9 := (nI_leI (a := k) (b := 0) (by omega) (by omega)).mp c9
              refine v_iload_n hX dX6_number_152 rfl ?_
              exact v_iret hX hr hsz dX6_number_153 rfl rfl (by (have hx : R_num v h = (k, w) := inv1.symm.trans (wh_stop _ (by simp only [R_numC, c1, c4, c6, c9, Bool.and_true, Bool.and_false, Bool.true_and, Bool.false_and, decide_true, decide_false, Bool.not_true, Bool.not_false]) _); rw [hx])) (by (have hx : R_num v h = (k, w) := inv1.symm.trans (wh_stop _ (by simp only [R_numC, c1, c4, c6, c9, Bool.and_true, Bool.and_false, Bool.true_and, Bool.false_and, decide_true, decide_false, Bool.not_true, Bool.not_false]) _); rw [hx]))
            · replace c9 := (not_congr (nI_leI (a := k) (b := 0) (by omega) (by omega))).mp c9
              refine v_aload_n hX dX6_number_89 rfl ?_
              refine v_bipush (x := (48 : Int32)) hX dX6_number_90 (by decide) ?_
              refine v_bipush (x := (57 : Int32)) hX dX6_number_92 (by decide) ?_
              refine v_callVi (r := bI (R_next w (48 : Int32) (57 : Int32))) (rest := []) (ws' := wR E a w) hX (fun sz => c_X6_isNext l E a sz w (48 : Int32) (57 : Int32)) (cwV 2 hX.2.2.2.2.1 gX6_number_X6_isNext rfl rfl rfl (by decide +kernel) ⟨Nat.le_of_ble_eq_true rfl, Nat.le_of_ble_eq_true rfl⟩) ([]) ([]) ((List.append_nil _).symm) ((List.append_nil _).symm).symm (wR_fst E a _ _) (ci := 6) (q0 := 0) rfl rfl rfl rfl rfl (Nat.le_of_ble_eq_true rfl) dX6_number_94 ?_
              refine v_if_eq (tgt := 152) hX dX6_number_97 (by decide) (fun c10 => ?_) (fun c10 => ?_)
              · replace c10 := bI_0.mp c10
                refine v_iload_n hX dX6_number_152 rfl ?_
                exact v_iret hX hr hsz dX6_number_153 rfl rfl (by (have hx : R_num v h = (k, w) := inv1.symm.trans (wh_stop _ (by simp only [R_numC, c1, c4, c6, c9, c10, Bool.and_true, Bool.and_false, Bool.true_and, Bool.false_and, decide_true, decide_false, Bool.not_true, Bool.not_false]) _); rw [hx])) (by (have hx : R_num v h = (k, w) := inv1.symm.trans (wh_stop _ (by simp only [R_numC, c1, c4, c6, c9, c10, Bool.and_true, Bool.and_false, Bool.true_and, Bool.false_and, decide_true, decide_false, Bool.not_true, Bool.not_false]) _); rw [hx]))
              · replace c10 := bI_n0.mp c10
                exfalso; have hnx := R_next_spec c10; omega
          | succ fu ih =>
            intro k w inv0 inv1 inv2
            refine v_iload_n hX dX6_number_85 rfl ?_
            refine v_if_le (tgt := 152) hX dX6_number_86 (by decide) (fun c11 => ?_) (fun c11 => ?_)
            · replace c11 := (nI_leI (a := k) (b := 0) (by omega) (by omega)).mp c11
              refine v_iload_n hX dX6_number_152 rfl ?_
              exact v_iret hX hr hsz dX6_number_153 rfl rfl (by (have hx : R_num v h = (k, w) := inv1.symm.trans (wh_stop _ (by simp only [R_numC, c1, c4, c6, c11, Bool.and_true, Bool.and_false, Bool.true_and, Bool.false_and, decide_true, decide_false, Bool.not_true, Bool.not_false]) _); rw [hx])) (by (have hx : R_num v h = (k, w) := inv1.symm.trans (wh_stop _ (by simp only [R_numC, c1, c4, c6, c11, Bool.and_true, Bool.and_false, Bool.true_and, Bool.false_and, decide_true, decide_false, Bool.not_true, Bool.not_false]) _); rw [hx]))
            · replace c11 := (not_congr (nI_leI (a := k) (b := 0) (by omega) (by omega))).mp c11
              refine v_aload_n hX dX6_number_89 rfl ?_
              refine v_bipush (x := (48 : Int32)) hX dX6_number_90 (by decide) ?_
              refine v_bipush (x := (57 : Int32)) hX dX6_number_92 (by decide) ?_
              refine v_callVi (r := bI (R_next w (48 : Int32) (57 : Int32))) (rest := []) (ws' := wR E a w) hX (fun sz => c_X6_isNext l E a sz w (48 : Int32) (57 : Int32)) (cwV 2 hX.2.2.2.2.1 gX6_number_X6_isNext rfl rfl rfl (by decide +kernel) ⟨Nat.le_of_ble_eq_true rfl, Nat.le_of_ble_eq_true rfl⟩) ([]) ([]) ((List.append_nil _).symm) ((List.append_nil _).symm).symm (wR_fst E a _ _) (ci := 6) (q0 := 0) rfl rfl rfl rfl rfl (Nat.le_of_ble_eq_true rfl) dX6_number_94 ?_
              refine v_if_eq (tgt := 152) hX dX6_number_97 (by decide) (fun c12 => ?_) (fun c12 => ?_)
              · replace c12 := bI_0.mp c12
                refine v_iload_n hX dX6_number_152 rfl ?_
                exact v_iret hX hr hsz dX6_number_153 rfl rfl (by (have hx : R_num v h = (k, w) := inv1.symm.trans (wh_stop _ (by simp only [R_numC, c1, c4, c6, c11, c12, Bool.and_true, Bool.and_false, Bool.true_and, Bool.false_and, decide_true, decide_false, Bool.not_true, Bool.not_false]) _); rw [hx])) (by (have hx : R_num v h = (k, w) := inv1.symm.trans (wh_stop _ (by simp only [R_numC, c1, c4, c6, c11, c12, Bool.and_true, Bool.and_false, Bool.true_and, Bool.false_and, decide_true, decide_false, Bool.not_true, Bool.not_false]) _); rw [hx]))
              · replace c12 := bI_n0.mp c12
                have hnx := R_next_spec c12
                have hnd := R_next_dig c12
                refine v_bipush (x := (10 : Int32)) hX dX6_number_100 (by decide) ?_
                refine v_iload_n hX dX6_number_102 rfl ?_
                refine v_imul (z := nI (10 * k)) hX dX6_number_103 (pk_mul 10 k) ?_
                refine v_aload_n hX dX6_number_104 rfl ?_
                refine v_get (C := RX6) (T := TX6) (N := 18) (ci := 6) (v := .ref (a 5)) hX in_X6 0 rfl rfl 6 (by decide) fl_22 rfl rfl dX6_number_105 ?_
                refine v_aload_n hX dX6_number_108 rfl ?_
                refine v_get (C := RX6) (T := TX6) (N := 18) (ci := 6) (v := .int (nI (w.2.2.2.2.2.2.2.2.2.2.1.val))) hX in_X6 0 rfl rfl 10 (by decide) fl_132 rfl rfl dX6_number_109 ?_
                have hb13 := (w.2.2.2.2.2.2.2.2.2.2.1).isLt
                refine v_iald (z := nI (w.2.2.2.2.2.2.1 (w.2.2.2.2.2.2.2.2.2.2.1.val)).val) hX 5 rfl (vp_in_nI (by omega : w.2.2.2.2.2.2.2.2.2.2.1.val < 80) (by omega)) (by simp only [nI_clamp (show w.2.2.2.2.2.2.2.2.2.2.1.val < 2 ^ 31 by omega)]) dX6_number_112 ?_
                have hb14 := (w.2.2.2.2.2.2.1 (w.2.2.2.2.2.2.2.2.2.2.1.val)).isLt
                refine v_iadd (z := nI ((10 * k) + ((w.2.2.2.2.2.2.1 (w.2.2.2.2.2.2.2.2.2.2.1.val)).val))) hX dX6_number_113 (nI_add (10 * k) ((w.2.2.2.2.2.2.1 (w.2.2.2.2.2.2.2.2.2.2.1.val)).val)) ?_
                refine v_bipush (x := (48 : Int32)) hX dX6_number_114 (by decide) ?_
                refine v_isub (z := nI (((10 * k) + ((w.2.2.2.2.2.2.1 (w.2.2.2.2.2.2.2.2.2.2.1.val)).val)) - 48)) hX dX6_number_116 (pk_sub (a := (10 * k) + ((w.2.2.2.2.2.2.1 (w.2.2.2.2.2.2.2.2.2.2.1.val)).val)) (b := 48) (by omega)) ?_
                refine v_iload_n hX dX6_number_117 rfl ?_
                refine v_icmp_gt (tgt := 152) hX dX6_number_118 (by decide) (fun c15 => ?_) (fun c15 => ?_)
                · replace c15 := (nI_ltI (a := h) (b := ((10 * k) + ((w.2.2.2.2.2.2.1 (w.2.2.2.2.2.2.2.2.2.2.1.val)).val)) - 48) (by omega) (by omega)).mp c15
                  refine v_iload_n hX dX6_number_152 rfl ?_
                  exact v_iret hX hr hsz dX6_number_153 rfl rfl (by (have hx : R_num v h = (k, w) := inv1.symm.trans (wh_stop _ (by simp only [R_numC, c1, c4, c6, c11, c12, c15, Bool.and_true, Bool.and_false, Bool.true_and, Bool.false_and, decide_true, decide_false, Bool.not_true, Bool.not_false]) _); rw [hx])) (by (have hx : R_num v h = (k, w) := inv1.symm.trans (wh_stop _ (by simp only [R_numC, c1, c4, c6, c11, c12, c15, Bool.and_true, Bool.and_false, Bool.true_and, Bool.false_and, decide_true, decide_false, Bool.not_true, Bool.not_false]) _); rw [hx]))
                · replace c15 := (not_congr (nI_ltI (a := h) (b := ((10 * k) + ((w.2.2.2.2.2.2.1 (w.2.2.2.2.2.2.2.2.2.2.1.val)).val)) - 48) (by omega) (by omega))).mp c15
                  refine v_bipush (x := (10 : Int32)) hX dX6_number_121 (by decide) ?_
                  refine v_iload_n hX dX6_number_123 rfl ?_
                  refine v_imul (z := nI (10 * k)) hX dX6_number_124 (pk_mul 10 k) ?_
                  refine v_aload_n hX dX6_number_125 rfl ?_
                  refine v_get (C := RX6) (T := TX6) (N := 18) (ci := 6) (v := .ref (a 5)) hX in_X6 0 rfl rfl 6 (by decide) fl_22 rfl rfl dX6_number_126 ?_
                  refine v_aload_n hX dX6_number_129 rfl ?_
                  refine v_get (C := RX6) (T := TX6) (N := 18) (ci := 6) (v := .int (nI (w.2.2.2.2.2.2.2.2.2.2.1.val))) hX in_X6 0 rfl rfl 10 (by decide) fl_132 rfl rfl dX6_number_130 ?_
                  have hb16 := (w.2.2.2.2.2.2.2.2.2.2.1).isLt
                  refine v_iald (z := nI (w.2.2.2.2.2.2.1 (w.2.2.2.2.2.2.2.2.2.2.1.val)).val) hX 5 rfl (vp_in_nI (by omega : w.2.2.2.2.2.2.2.2.2.2.1.val < 80) (by omega)) (by simp only [nI_clamp (show w.2.2.2.2.2.2.2.2.2.2.1.val < 2 ^ 31 by omega)]) dX6_number_133 ?_
                  have hb17 := (w.2.2.2.2.2.2.1 (w.2.2.2.2.2.2.2.2.2.2.1.val)).isLt
                  refine v_iadd (z := nI ((10 * k) + ((w.2.2.2.2.2.2.1 (w.2.2.2.2.2.2.2.2.2.2.1.val)).val))) hX dX6_number_134 (nI_add (10 * k) ((w.2.2.2.2.2.2.1 (w.2.2.2.2.2.2.2.2.2.2.1.val)).val)) ?_
                  refine v_bipush (x := (48 : Int32)) hX dX6_number_135 (by decide) ?_
                  refine v_isub (z := nI (((10 * k) + ((w.2.2.2.2.2.2.1 (w.2.2.2.2.2.2.2.2.2.2.1.val)).val)) - 48)) hX dX6_number_137 (pk_sub (a := (10 * k) + ((w.2.2.2.2.2.2.1 (w.2.2.2.2.2.2.2.2.2.2.1.val)).val)) (b := 48) (by omega)) ?_
                  refine v_istore_n (lv' := [.ref (a 0), .int (nI (h)), .int (nI (((10 * k) + ((w.2.2.2.2.2.2.1 (w.2.2.2.2.2.2.2.2.2.2.1.val)).val)) - 48))]) hX dX6_number_138 (Nat.le_of_ble_eq_true rfl) (Nat.le_of_ble_eq_true rfl) rfl rfl ?_
                  refine v_aload_n hX dX6_number_139 rfl ?_
                  refine v_dup hX dX6_number_140 rfl ?_
                  refine v_get (C := RX6) (T := TX6) (N := 18) (ci := 6) (v := .int (nI (w.2.2.2.2.2.2.2.2.2.2.1.val))) hX in_X6 0 rfl rfl 10 (by decide) fl_132 rfl rfl dX6_number_141 ?_
                  have hb18 := (w.2.2.2.2.2.2.2.2.2.2.1).isLt
                  refine v_iconst (x := (1 : Int32)) hX dX6_number_144 (by decide) ?_
                  refine v_iadd (z := nI (w.2.2.2.2.2.2.2.2.2.2.1.val + 1)) hX dX6_number_145 (nI_add w.2.2.2.2.2.2.2.2.2.2.1.val 1) ?_
                  obtain ⟨v19, hv19⟩ : ∃ z_ : RV, z_ = R_setSpot w (w.2.2.2.2.2.2.2.2.2.2.1.val + 1) := ⟨_, rfl⟩
                  refine v_put (C := RX6) (T := TX6) (N := 18) (ci := 6) (v := .int (nI (w.2.2.2.2.2.2.2.2.2.2.1.val + 1))) (ty := .int) (ws' := wR E a v19) hX in_X6 tyX6 tyX6_ok nmX6 0 rfl rfl 10 (by decide) fl_132 rfl rfl (by decide +kernel) (rfl) (rfl) (Nat.le_of_ble_eq_true rfl) dX6_number_146 (by rw [hv19]; exact sR_Spot E a w (x := w.2.2.2.2.2.2.2.2.2.2.1.val + 1) (by omega : w.2.2.2.2.2.2.2.2.2.2.1.val + 1 < 81)) ?_
                  refine v_goto (tgt := 85) hX dX6_number_149 (by decide) ?_
                  exact ih (((10 * k) + ((w.2.2.2.2.2.2.1 (w.2.2.2.2.2.2.2.2.2.2.1.val)).val)) - 48) v19 (by rw [hv19, R_spot_at w (by omega : w.2.2.2.2.2.2.2.2.2.2.1.val + 1 < 81)]; omega) (by rw [hv19, ← inv1]; exact (wh_go (c := R_numC h) R_numS (x := (k, w)) (by simp only [R_numC, c1, c4, c6, c11, c12, c15, Bool.and_true, Bool.and_false, Bool.true_and, Bool.false_and, decide_true, decide_false, Bool.not_true, Bool.not_false]) fu).symm) (by omega)
        have e0 : (0, v7) = R_num0 v h := by subst hv7; subst hv2; simp only [R_num0, R_numW, c1, c4, c6, if_true, if_false, reduceIte, Bool.false_eq_true]; first | done | rfl
        exact loop_85 81 0 v7 (by omega) (congrArg (wh (R_numC h) R_numS 81) e0) (by have hle := R_num0_le v h; rw [← e0] at hle; exact hle)
  · replace c1 := bI_0.mp c1
    refine v_aload_n hX dX6_number_8 rfl ?_
    refine v_bipush (x := (48 : Int32)) hX dX6_number_9 (by decide) ?_
    refine v_iload_n hX dX6_number_11 rfl ?_
    refine v_bipush (x := (9 : Int32)) hX dX6_number_12 (by decide) ?_
    refine v_icmp_ge (tgt := 24) hX dX6_number_14 (by decide) (fun c21 => ?_) (fun c21 => ?_)
    · replace c21 := (nI_leI (a := 9) (b := h) (by omega) (by omega)).mp c21
      refine v_bipush (x := (57 : Int32)) hX dX6_number_24 (by decide) ?_
      refine v_callVi (r := bI (R_next v (48 : Int32) (57 : Int32))) (rest := [.ref (a 0)]) (ws' := wR E a v) hX (fun sz => c_X6_isNext l E a sz v (48 : Int32) (57 : Int32)) (cwV 2 hX.2.2.2.2.1 gX6_number_X6_isNext rfl rfl rfl (by decide +kernel) ⟨Nat.le_of_ble_eq_true rfl, Nat.le_of_ble_eq_true rfl⟩) ([]) ([]) ((List.append_nil _).symm) ((List.append_nil _).symm).symm (wR_fst E a _ _) (ci := 6) (q0 := 0) rfl rfl rfl rfl rfl (Nat.le_of_ble_eq_true rfl) dX6_number_26 ?_
      refine v_if_ne (tgt := 36) hX dX6_number_29 (by decide) (fun c22 => ?_) (fun c22 => ?_)
      · replace c22 := bI_n0.mp c22
        have hnx := R_next_spec c22
        have hnd := R_next_dig c22
        refine v_iconst (x := (0 : Int32)) hX dX6_number_36 (by decide) ?_
        obtain ⟨v23, hv23⟩ : ∃ z_ : RV, z_ = R_setWrong v (false) := ⟨_, rfl⟩
        refine v_put (C := RX6) (T := TX6) (N := 18) (ci := 6) (v := .int (bI (false))) (ty := .boolean) (ws' := wR E a v23) hX in_X6 tyX6 tyX6_ok nmX6 0 rfl rfl 11 (by decide) fl_128 rfl rfl (by decide +kernel) (bI_narrow _) (bI_fits _) (Nat.le_of_ble_eq_true rfl) dX6_number_37 (by rw [hv23]; exact sR_Wrong E a v (false)) ?_
        have hw24 : v23.2.2.2.2.2.2.2.2.2.2.2.1 = false := by rw [hv23]; rfl
        refine v_aload_n hX dX6_number_40 rfl ?_
        refine v_get (C := RX6) (T := TX6) (N := 18) (ci := 6) (v := .int (bI (v23.2.2.2.2.2.2.2.2.2.2.2.1))) hX in_X6 0 rfl rfl 11 (by decide) fl_128 rfl rfl dX6_number_41 ?_
        refine v_if_eq (tgt := 51) hX dX6_number_44 (by decide) (fun c25 => ?_) (fun c25 => ?_)
        · replace c25 := bI_0.mp c25
          have hq1 : v23.2.2.2.2.2.2.1 = v.2.2.2.2.2.2.1 := by rw [hv23]; rfl
          have hq2 : v23.2.2.2.2.2.2.2.2.2.2.1 = v.2.2.2.2.2.2.2.2.2.2.1 := by rw [hv23]; rfl
          have hnd1 : 48 ≤ (v23.2.2.2.2.2.2.1 v23.2.2.2.2.2.2.2.2.2.2.1.val).val := by rw [hq1, hq2]; exact hnd
          have hns1 : v23.2.2.2.2.2.2.2.2.2.2.1.val < 80 := by rw [hq2]; omega
          refine v_aload_n hX dX6_number_51 rfl ?_
          refine v_get (C := RX6) (T := TX6) (N := 18) (ci := 6) (v := .ref (a 5)) hX in_X6 0 rfl rfl 6 (by decide) fl_22 rfl rfl dX6_number_52 ?_
          refine v_aload_n hX dX6_number_55 rfl ?_
          refine v_get (C := RX6) (T := TX6) (N := 18) (ci := 6) (v := .int (nI (v23.2.2.2.2.2.2.2.2.2.2.1.val))) hX in_X6 0 rfl rfl 10 (by decide) fl_132 rfl rfl dX6_number_56 ?_
          have hb26 := (v23.2.2.2.2.2.2.2.2.2.2.1).isLt
          refine v_iald (z := nI (v23.2.2.2.2.2.2.1 (v23.2.2.2.2.2.2.2.2.2.2.1.val)).val) hX 5 rfl (vp_in_nI (by omega : v23.2.2.2.2.2.2.2.2.2.2.1.val < 80) (by omega)) (by simp only [nI_clamp (show v23.2.2.2.2.2.2.2.2.2.2.1.val < 2 ^ 31 by omega)]) dX6_number_59 ?_
          have hb27 := (v23.2.2.2.2.2.2.1 (v23.2.2.2.2.2.2.2.2.2.2.1.val)).isLt
          refine v_bipush (x := (48 : Int32)) hX dX6_number_60 (by decide) ?_
          refine v_isub (z := nI (((v23.2.2.2.2.2.2.1 (v23.2.2.2.2.2.2.2.2.2.2.1.val)).val) - 48)) hX dX6_number_62 (pk_sub (a := (v23.2.2.2.2.2.2.1 (v23.2.2.2.2.2.2.2.2.2.2.1.val)).val) (b := 48) (by omega)) ?_
          refine v_istore_n (lv' := [.ref (a 0), .int (nI (h)), .int (nI (((v23.2.2.2.2.2.2.1 (v23.2.2.2.2.2.2.2.2.2.2.1.val)).val) - 48))]) hX dX6_number_63 (Nat.le_of_ble_eq_true rfl) (Nat.le_of_ble_eq_true rfl) rfl rfl ?_
          refine v_aload_n hX dX6_number_64 rfl ?_
          refine v_dup hX dX6_number_65 rfl ?_
          refine v_get (C := RX6) (T := TX6) (N := 18) (ci := 6) (v := .int (nI (v23.2.2.2.2.2.2.2.2.2.2.1.val))) hX in_X6 0 rfl rfl 10 (by decide) fl_132 rfl rfl dX6_number_66 ?_
          have hb28 := (v23.2.2.2.2.2.2.2.2.2.2.1).isLt
          refine v_aload_n hX dX6_number_69 rfl ?_
          refine v_get (C := RX6) (T := TX6) (N := 18) (ci := 6) (v := .int (bI (v23.2.2.2.2.2.2.2.2.2.2.2.1))) hX in_X6 0 rfl rfl 11 (by decide) fl_128 rfl rfl dX6_number_70 ?_
          refine v_if_eq (tgt := 80) hX dX6_number_73 (by decide) (fun c29 => ?_) (fun c29 => ?_)
          · replace c29 := bI_0.mp c29
            refine v_iconst (x := (1 : Int32)) hX dX6_number_80 (by decide) ?_
            refine v_iadd (z := nI (v23.2.2.2.2.2.2.2.2.2.2.1.val + 1)) hX dX6_number_81 (nI_add v23.2.2.2.2.2.2.2.2.2.2.1.val 1) ?_
            obtain ⟨v30, hv30⟩ : ∃ z_ : RV, z_ = R_setSpot v23 (v23.2.2.2.2.2.2.2.2.2.2.1.val + 1) := ⟨_, rfl⟩
            refine v_put (C := RX6) (T := TX6) (N := 18) (ci := 6) (v := .int (nI (v23.2.2.2.2.2.2.2.2.2.2.1.val + 1))) (ty := .int) (ws' := wR E a v30) hX in_X6 tyX6 tyX6_ok nmX6 0 rfl rfl 10 (by decide) fl_132 rfl rfl (by decide +kernel) (rfl) (rfl) (Nat.le_of_ble_eq_true rfl) dX6_number_82 (by rw [hv30]; exact sR_Spot E a v23 (x := v23.2.2.2.2.2.2.2.2.2.2.1.val + 1) (by omega : v23.2.2.2.2.2.2.2.2.2.2.1.val + 1 < 81)) ?_
            have hw31 : v30.2.2.2.2.2.2.2.2.2.2.2.1 = false := by rw [hv30]; exact c29
            have loop_85 : ∀ (fu : Nat) (k : Nat) (w : RV), 80 - w.2.2.2.2.2.2.2.2.2.2.1.val ≤ fu → wh (R_numC h) R_numS fu (k, w) = R_num v h → k ≤ h → V p l e ({ frames := 2, cells := 0, slots := 0, locals := 44 } : Room) s m args below meth c E 3 (va_A (wR E a v) sz) (MQ below (mQi E (nI ((R_num v h).1)) (wR E a v) (wR E a ((R_num v h).2)) sz) args s 0 0 (va_A (wR E a v) sz)) (wR E a w) [.ref (a 0), .int (nI (h)), .int (nI (k))] 85 [] := by
              intro fu
              induction fu with
              | zero =>
                intro k w inv0 inv1 inv2
                refine v_iload_n hX dX6_number_85 rfl ?_
                refine v_if_le (tgt := 152) hX dX6_number_86 (by decide) (fun c32 => ?_) (fun c32 => ?_)
                · replace c32 := (nI_leI (a := k) (b := 0) (by omega) (by omega)).mp c32
                  refine v_iload_n hX dX6_number_152 rfl ?_
                  exact v_iret hX hr hsz dX6_number_153 rfl rfl (by (have hx : R_num v h = (k, w) := inv1.symm.trans (wh_stop _ (by simp only [R_numC, c1, c21, c22, c25, c29, c32, Bool.and_true, Bool.and_false, Bool.true_and, Bool.false_and, decide_true, decide_false, Bool.not_true, Bool.not_false]) _); rw [hx])) (by (have hx : R_num v h = (k, w) := inv1.symm.trans (wh_stop _ (by simp only [R_numC, c1, c21, c22, c25, c29, c32, Bool.and_true, Bool.and_false, Bool.true_and, Bool.false_and, decide_true, decide_false, Bool.not_true, Bool.not_false]) _); rw [hx]))
                · replace c32 := (not_congr (nI_leI (a := k) (b := 0) (by omega) (by omega))).mp c32
                  refine v_aload_n hX dX6_number_89 rfl ?_
                  refine v_bipush (x := (48 : Int32)) hX dX6_number_90 (by decide) ?_
                  refine v_bipush (x := (57 : Int32)) hX dX6_number_92 (by decide) ?_
                  refine v_callVi (r := bI (R_next w (48 : Int32) (57 : Int32))) (rest := []) (ws' := wR E a w) hX (fun sz => c_X6_isNext l E a sz w (48 : Int32) (57 : Int32)) (cwV 2 hX.2.2.2.2.1 gX6_number_X6_isNext rfl rfl rfl (by decide +kernel) ⟨Nat.le_of_ble_eq_true rfl, Nat.le_of_ble_eq_true rfl⟩) ([]) ([]) ((List.append_nil _).symm) ((List.append_nil _).symm).symm (wR_fst E a _ _) (ci := 6) (q0 := 0) rfl rfl rfl rfl rfl (Nat.le_of_ble_eq_true rfl) dX6_number_94 ?_
                  refine v_if_eq (tgt := 152) hX dX6_number_97 (by decide) (fun c33 => ?_) (fun c33 => ?_)
                  · replace c33 := bI_0.mp c33
                    refine v_iload_n hX dX6_number_152 rfl ?_
                    exact v_iret hX hr hsz dX6_number_153 rfl rfl (by (have hx : R_num v h = (k, w) := inv1.symm.trans (wh_stop _ (by simp only [R_numC, c1, c21, c22, c25, c29, c32, c33, Bool.and_true, Bool.and_false, Bool.true_and, Bool.false_and, decide_true, decide_false, Bool.not_true, Bool.not_false]) _); rw [hx])) (by (have hx : R_num v h = (k, w) := inv1.symm.trans (wh_stop _ (by simp only [R_numC, c1, c21, c22, c25, c29, c32, c33, Bool.and_true, Bool.and_false, Bool.true_and, Bool.false_and, decide_true, decide_false, Bool.not_true, Bool.not_false]) _); rw [hx]))
                  · replace c33 := bI_n0.mp c33
                    exfalso; have hnx := R_next_spec c33; omega
              | succ fu ih =>
                intro k w inv0 inv1 inv2
                refine v_iload_n hX dX6_number_85 rfl ?_
                refine v_if_le (tgt := 152) hX dX6_number_86 (by decide) (fun c34 => ?_) (fun c34 => ?_)
                · replace c34 := (nI_leI (a := k) (b := 0) (by omega) (by omega)).mp c34
                  refine v_iload_n hX dX6_number_152 rfl ?_
                  exact v_iret hX hr hsz dX6_number_153 rfl rfl (by (have hx : R_num v h = (k, w) := inv1.symm.trans (wh_stop _ (by simp only [R_numC, c1, c21, c22, c25, c29, c34, Bool.and_true, Bool.and_false, Bool.true_and, Bool.false_and, decide_true, decide_false, Bool.not_true, Bool.not_false]) _); rw [hx])) (by (have hx : R_num v h = (k, w) := inv1.symm.trans (wh_stop _ (by simp only [R_numC, c1, c21, c22, c25, c29, c34, Bool.and_true, Bool.and_false, Bool.true_and, Bool.false_and, decide_true, decide_false, Bool.not_true, Bool.not_false]) _); rw [hx]))
                · replace c34 := (not_congr (nI_leI (a := k) (b := 0) (by omega) (by omega))).mp c34
                  refine v_aload_n hX dX6_number_89 rfl ?_
                  refine v_bipush (x := (48 : Int32)) hX dX6_number_90 (by decide) ?_
                  refine v_bipush (x := (57 : Int32)) hX dX6_number_92 (by decide) ?_
                  refine v_callVi (r := bI (R_next w (48 : Int32) (57 : Int32))) (rest := []) (ws' := wR E a w) hX (fun sz => c_X6_isNext l E a sz w (48 : Int32) (57 : Int32)) (cwV 2 hX.2.2.2.2.1 gX6_number_X6_isNext rfl rfl rfl (by decide +kernel) ⟨Nat.le_of_ble_eq_true rfl, Nat.le_of_ble_eq_true rfl⟩) ([]) ([]) ((List.append_nil _).symm) ((List.append_nil _).symm).symm (wR_fst E a _ _) (ci := 6) (q0 := 0) rfl rfl rfl rfl rfl (Nat.le_of_ble_eq_true rfl) dX6_number_94 ?_
                  refine v_if_eq (tgt := 152) hX dX6_number_97 (by decide) (fun c35 => ?_) (fun c35 => ?_)
                  · replace c35 := bI_0.mp c35
                    refine v_iload_n hX dX6_number_152 rfl ?_
                    exact v_iret hX hr hsz dX6_number_153 rfl rfl (by (have hx : R_num v h = (k, w) := inv1.symm.trans (wh_stop _ (by simp only [R_numC, c1, c21, c22, c25, c29, c34, c35, Bool.and_true, Bool.and_false, Bool.true_and, Bool.false_and, decide_true, decide_false, Bool.not_true, Bool.not_false]) _); rw [hx])) (by (have hx : R_num v h = (k, w) := inv1.symm.trans (wh_stop _ (by simp only [R_numC, c1, c21, c22, c25, c29, c34, c35, Bool.and_true, Bool.and_false, Bool.true_and, Bool.false_and, decide_true, decide_false, Bool.not_true, Bool.not_false]) _); rw [hx]))
                  · replace c35 := bI_n0.mp c35
                    have hnx := R_next_spec c35
                    have hnd := R_next_dig c35
                    refine v_bipush (x := (10 : Int32)) hX dX6_number_100 (by decide) ?_
                    refine v_iload_n hX dX6_number_102 rfl ?_
                    refine v_imul (z := nI (10 * k)) hX dX6_number_103 (pk_mul 10 k) ?_
                    refine v_aload_n hX dX6_number_104 rfl ?_
                    refine v_get (C := RX6) (T := TX6) (N := 18) (ci := 6) (v := .ref (a 5)) hX in_X6 0 rfl rfl 6 (by decide) fl_22 rfl rfl dX6_number_105 ?_
                    refine v_aload_n hX dX6_number_108 rfl ?_
                    refine v_get (C := RX6) (T := TX6) (N := 18) (ci := 6) (v := .int (nI (w.2.2.2.2.2.2.2.2.2.2.1.val))) hX in_X6 0 rfl rfl 10 (by decide) fl_132 rfl rfl dX6_number_109 ?_
                    have hb36 := (w.2.2.2.2.2.2.2.2.2.2.1).isLt
                    refine v_iald (z := nI (w.2.2.2.2.2.2.1 (w.2.2.2.2.2.2.2.2.2.2.1.val)).val) hX 5 rfl (vp_in_nI (by omega : w.2.2.2.2.2.2.2.2.2.2.1.val < 80) (by omega)) (by simp only [nI_clamp (show w.2.2.2.2.2.2.2.2.2.2.1.val < 2 ^ 31 by omega)]) dX6_number_112 ?_
                    have hb37 := (w.2.2.2.2.2.2.1 (w.2.2.2.2.2.2.2.2.2.2.1.val)).isLt
                    refine v_iadd (z := nI ((10 * k) + ((w.2.2.2.2.2.2.1 (w.2.2.2.2.2.2.2.2.2.2.1.val)).val))) hX dX6_number_113 (nI_add (10 * k) ((w.2.2.2.2.2.2.1 (w.2.2.2.2.2.2.2.2.2.2.1.val)).val)) ?_
                    refine v_bipush (x := (48 : Int32)) hX dX6_number_114 (by decide) ?_
                    refine v_isub (z := nI (((10 * k) + ((w.2.2.2.2.2.2.1 (w.2.2.2.2.2.2.2.2.2.2.1.val)).val)) - 48)) hX dX6_number_116 (pk_sub (a := (10 * k) + ((w.2.2.2.2.2.2.1 (w.2.2.2.2.2.2.2.2.2.2.1.val)).val)) (b := 48) (by omega)) ?_
                    refine v_iload_n hX dX6_number_117 rfl ?_
                    refine v_icmp_gt (tgt := 152) hX dX6_number_118 (by decide) (fun c38 => ?_) (fun c38 => ?_)
                    · replace c38 := (nI_ltI (a := h) (b := ((10 * k) + ((w.2.2.2.2.2.2.1 (w.2.2.2.2.2.2.2.2.2.2.1.val)).val)) - 48) (by omega) (by omega)).mp c38
                      refine v_iload_n hX dX6_number_152 rfl ?_
                      exact v_iret hX hr hsz dX6_number_153 rfl rfl (by (have hx : R_num v h = (k, w) := inv1.symm.trans (wh_stop _ (by simp only [R_numC, c1, c21, c22, c25, c29, c34, c35, c38, Bool.and_true, Bool.and_false, Bool.true_and, Bool.false_and, decide_true, decide_false, Bool.not_true, Bool.not_false]) _); rw [hx])) (by (have hx : R_num v h = (k, w) := inv1.symm.trans (wh_stop _ (by simp only [R_numC, c1, c21, c22, c25, c29, c34, c35, c38, Bool.and_true, Bool.and_false, Bool.true_and, Bool.false_and, decide_true, decide_false, Bool.not_true, Bool.not_false]) _); rw [hx]))
                    · replace c38 := (not_congr (nI_ltI (a := h) (b := ((10 * k) + ((w.2.2.2.2.2.2.1 (w.2.2.2.2.2.2.2.2.2.2.1.val)).val)) - 48) (by omega) (by omega))).mp c38
                      refine v_bipush (x := (10 : Int32)) hX dX6_number_121 (by decide) ?_
                      refine v_iload_n hX dX6_number_123 rfl ?_
                      refine v_imul (z := nI (10 * k)) hX dX6_number_124 (pk_mul 10 k) ?_
                      refine v_aload_n hX dX6_number_125 rfl ?_
                      refine v_get (C := RX6) (T := TX6) (N := 18) (ci := 6) (v := .ref (a 5)) hX in_X6 0 rfl rfl 6 (by decide) fl_22 rfl rfl dX6_number_126 ?_
                      refine v_aload_n hX dX6_number_129 rfl ?_
                      refine v_get (C := RX6) (T := TX6) (N := 18) (ci := 6) (v := .int (nI (w.2.2.2.2.2.2.2.2.2.2.1.val))) hX in_X6 0 rfl rfl 10 (by decide) fl_132 rfl rfl dX6_number_130 ?_
                      have hb39 := (w.2.2.2.2.2.2.2.2.2.2.1).isLt
                      refine v_iald (z := nI (w.2.2.2.2.2.2.1 (w.2.2.2.2.2.2.2.2.2.2.1.val)).val) hX 5 rfl (vp_in_nI (by omega : w.2.2.2.2.2.2.2.2.2.2.1.val < 80) (by omega)) (by simp only [nI_clamp (show w.2.2.2.2.2.2.2.2.2.2.1.val < 2 ^ 31 by omega)]) dX6_number_133 ?_
                      have hb40 := (w.2.2.2.2.2.2.1 (w.2.2.2.2.2.2.2.2.2.2.1.val)).isLt
                      refine v_iadd (z := nI ((10 * k) + ((w.2.2.2.2.2.2.1 (w.2.2.2.2.2.2.2.2.2.2.1.val)).val))) hX dX6_number_134 (nI_add (10 * k) ((w.2.2.2.2.2.2.1 (w.2.2.2.2.2.2.2.2.2.2.1.val)).val)) ?_
                      refine v_bipush (x := (48 : Int32)) hX dX6_number_135 (by decide) ?_
                      refine v_isub (z := nI (((10 * k) + ((w.2.2.2.2.2.2.1 (w.2.2.2.2.2.2.2.2.2.2.1.val)).val)) - 48)) hX dX6_number_137 (pk_sub (a := (10 * k) + ((w.2.2.2.2.2.2.1 (w.2.2.2.2.2.2.2.2.2.2.1.val)).val)) (b := 48) (by omega)) ?_
                      refine v_istore_n (lv' := [.ref (a 0), .int (nI (h)), .int (nI (((10 * k) + ((w.2.2.2.2.2.2.1 (w.2.2.2.2.2.2.2.2.2.2.1.val)).val)) - 48))]) hX dX6_number_138 (Nat.le_of_ble_eq_true rfl) (Nat.le_of_ble_eq_true rfl) rfl rfl ?_
                      refine v_aload_n hX dX6_number_139 rfl ?_
                      refine v_dup hX dX6_number_140 rfl ?_
                      refine v_get (C := RX6) (T := TX6) (N := 18) (ci := 6) (v := .int (nI (w.2.2.2.2.2.2.2.2.2.2.1.val))) hX in_X6 0 rfl rfl 10 (by decide) fl_132 rfl rfl dX6_number_141 ?_
                      have hb41 := (w.2.2.2.2.2.2.2.2.2.2.1).isLt
                      refine v_iconst (x := (1 : Int32)) hX dX6_number_144 (by decide) ?_
                      refine v_iadd (z := nI (w.2.2.2.2.2.2.2.2.2.2.1.val + 1)) hX dX6_number_145 (nI_add w.2.2.2.2.2.2.2.2.2.2.1.val 1) ?_
                      obtain ⟨v42, hv42⟩ : ∃ z_ : RV, z_ = R_setSpot w (w.2.2.2.2.2.2.2.2.2.2.1.val + 1) := ⟨_, rfl⟩
                      refine v_put (C := RX6) (T := TX6) (N := 18) (ci := 6) (v := .int (nI (w.2.2.2.2.2.2.2.2.2.2.1.val + 1))) (ty := .int) (ws' := wR E a v42) hX in_X6 tyX6 tyX6_ok nmX6 0 rfl rfl 10 (by decide) fl_132 rfl rfl (by decide +kernel) (rfl) (rfl) (Nat.le_of_ble_eq_true rfl) dX6_number_146 (by rw [hv42]; exact sR_Spot E a w (x := w.2.2.2.2.2.2.2.2.2.2.1.val + 1) (by omega : w.2.2.2.2.2.2.2.2.2.2.1.val + 1 < 81)) ?_
                      refine v_goto (tgt := 85) hX dX6_number_149 (by decide) ?_
                      exact ih (((10 * k) + ((w.2.2.2.2.2.2.1 (w.2.2.2.2.2.2.2.2.2.2.1.val)).val)) - 48) v42 (by rw [hv42, R_spot_at w (by omega : w.2.2.2.2.2.2.2.2.2.2.1.val + 1 < 81)]; omega) (by rw [hv42, ← inv1]; exact (wh_go (c := R_numC h) R_numS (x := (k, w)) (by simp only [R_numC, c1, c21, c22, c25, c29, c34, c35, c38, Bool.and_true, Bool.and_false, Bool.true_and, Bool.false_and, decide_true, decide_false, Bool.not_true, Bool.not_false]) fu).symm) (by omega)
            have e0 : (((v23.2.2.2.2.2.2.1 (v23.2.2.2.2.2.2.2.2.2.2.1.val)).val) - 48, v30) = R_num0 v h := by subst hv30; subst hv23; simp only [R_num0, R_numW, c1, c21, c22, c25, c29, if_true, if_false, reduceIte, Bool.false_eq_true]; first | done | rfl
            exact loop_85 81 (((v23.2.2.2.2.2.2.1 (v23.2.2.2.2.2.2.2.2.2.2.1.val)).val) - 48) v30 (by omega) (congrArg (wh (R_numC h) R_numS 81) e0) (by have hle := R_num0_le v h; rw [← e0] at hle; exact hle)
          · replace c29 := bI_n0.mp c29
            exact absurd (c25.symm.trans c29) (by decide)
        · replace c25 := bI_n0.mp c25
          exact absurd (hw24.symm.trans c25) (by decide)
      · replace c22 := bI_0.mp c22
        refine v_iconst (x := (1 : Int32)) hX dX6_number_32 (by decide) ?_
        refine v_goto (tgt := 37) hX dX6_number_33 (by decide) ?_
        obtain ⟨v44, hv44⟩ : ∃ z_ : RV, z_ = R_setWrong v (true) := ⟨_, rfl⟩
        refine v_put (C := RX6) (T := TX6) (N := 18) (ci := 6) (v := .int (bI (true))) (ty := .boolean) (ws' := wR E a v44) hX in_X6 tyX6 tyX6_ok nmX6 0 rfl rfl 11 (by decide) fl_128 rfl rfl (by decide +kernel) (bI_narrow _) (bI_fits _) (Nat.le_of_ble_eq_true rfl) dX6_number_37 (by rw [hv44]; exact sR_Wrong E a v (true)) ?_
        have hw45 : v44.2.2.2.2.2.2.2.2.2.2.2.1 = true := by rw [hv44]; rfl
        refine v_aload_n hX dX6_number_40 rfl ?_
        refine v_get (C := RX6) (T := TX6) (N := 18) (ci := 6) (v := .int (bI (v44.2.2.2.2.2.2.2.2.2.2.2.1))) hX in_X6 0 rfl rfl 11 (by decide) fl_128 rfl rfl dX6_number_41 ?_
        refine v_if_eq (tgt := 51) hX dX6_number_44 (by decide) (fun c46 => ?_) (fun c46 => ?_)
        · replace c46 := bI_0.mp c46
          exact absurd (hw45.symm.trans c46) (by decide)
        · replace c46 := bI_n0.mp c46
          refine v_iconst (x := (0 : Int32)) hX dX6_number_47 (by decide) ?_
          refine v_goto (tgt := 63) hX dX6_number_48 (by decide) ?_
          refine v_istore_n (lv' := [.ref (a 0), .int (nI (h)), .int ((0 : Int32))]) hX dX6_number_63 (Nat.le_of_ble_eq_true rfl) (Nat.le_of_ble_eq_true rfl) rfl rfl ?_
          refine v_aload_n hX dX6_number_64 rfl ?_
          refine v_dup hX dX6_number_65 rfl ?_
          refine v_get (C := RX6) (T := TX6) (N := 18) (ci := 6) (v := .int (nI (v44.2.2.2.2.2.2.2.2.2.2.1.val))) hX in_X6 0 rfl rfl 10 (by decide) fl_132 rfl rfl dX6_number_66 ?_
          have hb47 := (v44.2.2.2.2.2.2.2.2.2.2.1).isLt
          refine v_aload_n hX dX6_number_69 rfl ?_
          refine v_get (C := RX6) (T := TX6) (N := 18) (ci := 6) (v := .int (bI (v44.2.2.2.2.2.2.2.2.2.2.2.1))) hX in_X6 0 rfl rfl 11 (by decide) fl_128 rfl rfl dX6_number_70 ?_
          refine v_if_eq (tgt := 80) hX dX6_number_73 (by decide) (fun c48 => ?_) (fun c48 => ?_)
          · replace c48 := bI_0.mp c48
            exact absurd (c46.symm.trans c48) (by decide)
          · replace c48 := bI_n0.mp c48
            refine v_iconst (x := (0 : Int32)) hX dX6_number_76 (by decide) ?_
            refine v_goto (tgt := 81) hX dX6_number_77 (by decide) ?_
            refine v_iadd (z := nI (v44.2.2.2.2.2.2.2.2.2.2.1.val + 0)) hX dX6_number_81 (nI_add v44.2.2.2.2.2.2.2.2.2.2.1.val 0) ?_
            obtain ⟨v49, hv49⟩ : ∃ z_ : RV, z_ = R_setSpot v44 (v44.2.2.2.2.2.2.2.2.2.2.1.val + 0) := ⟨_, rfl⟩
            refine v_put (C := RX6) (T := TX6) (N := 18) (ci := 6) (v := .int (nI (v44.2.2.2.2.2.2.2.2.2.2.1.val + 0))) (ty := .int) (ws' := wR E a v49) hX in_X6 tyX6 tyX6_ok nmX6 0 rfl rfl 10 (by decide) fl_132 rfl rfl (by decide +kernel) (rfl) (rfl) (Nat.le_of_ble_eq_true rfl) dX6_number_82 (by rw [hv49]; exact sR_Spot E a v44 (x := v44.2.2.2.2.2.2.2.2.2.2.1.val + 0) (by omega : v44.2.2.2.2.2.2.2.2.2.2.1.val + 0 < 81)) ?_
            have hw50 : v49.2.2.2.2.2.2.2.2.2.2.2.1 = true := by rw [hv49]; exact c48
            have loop_85 : ∀ (fu : Nat) (k : Nat) (w : RV), 80 - w.2.2.2.2.2.2.2.2.2.2.1.val ≤ fu → wh (R_numC h) R_numS fu (k, w) = R_num v h → k ≤ h → V p l e ({ frames := 2, cells := 0, slots := 0, locals := 44 } : Room) s m args below meth c E 3 (va_A (wR E a v) sz) (MQ below (mQi E (nI ((R_num v h).1)) (wR E a v) (wR E a ((R_num v h).2)) sz) args s 0 0 (va_A (wR E a v) sz)) (wR E a w) [.ref (a 0), .int (nI (h)), .int (nI (k))] 85 [] := by
              intro fu
              induction fu with
              | zero =>
                intro k w inv0 inv1 inv2
                refine v_iload_n hX dX6_number_85 rfl ?_
                refine v_if_le (tgt := 152) hX dX6_number_86 (by decide) (fun c51 => ?_) (fun c51 => ?_)
                · replace c51 := (nI_leI (a := k) (b := 0) (by omega) (by omega)).mp c51
                  refine v_iload_n hX dX6_number_152 rfl ?_
                  exact v_iret hX hr hsz dX6_number_153 rfl rfl (by (have hx : R_num v h = (k, w) := inv1.symm.trans (wh_stop _ (by simp only [R_numC, c1, c21, c22, c46, c48, c51, Bool.and_true, Bool.and_false, Bool.true_and, Bool.false_and, decide_true, decide_false, Bool.not_true, Bool.not_false]) _); rw [hx])) (by (have hx : R_num v h = (k, w) := inv1.symm.trans (wh_stop _ (by simp only [R_numC, c1, c21, c22, c46, c48, c51, Bool.and_true, Bool.and_false, Bool.true_and, Bool.false_and, decide_true, decide_false, Bool.not_true, Bool.not_false]) _); rw [hx]))
                · replace c51 := (not_congr (nI_leI (a := k) (b := 0) (by omega) (by omega))).mp c51
                  refine v_aload_n hX dX6_number_89 rfl ?_
                  refine v_bipush (x := (48 : Int32)) hX dX6_number_90 (by decide) ?_
                  refine v_bipush (x := (57 : Int32)) hX dX6_number_92 (by decide) ?_
                  refine v_callVi (r := bI (R_next w (48 : Int32) (57 : Int32))) (rest := []) (ws' := wR E a w) hX (fun sz => c_X6_isNext l E a sz w (48 : Int32) (57 : Int32)) (cwV 2 hX.2.2.2.2.1 gX6_number_X6_isNext rfl rfl rfl (by decide +kernel) ⟨Nat.le_of_ble_eq_true rfl, Nat.le_of_ble_eq_true rfl⟩) ([]) ([]) ((List.append_nil _).symm) ((List.append_nil _).symm).symm (wR_fst E a _ _) (ci := 6) (q0 := 0) rfl rfl rfl rfl rfl (Nat.le_of_ble_eq_true rfl) dX6_number_94 ?_
                  refine v_if_eq (tgt := 152) hX dX6_number_97 (by decide) (fun c52 => ?_) (fun c52 => ?_)
                  · replace c52 := bI_0.mp c52
                    refine v_iload_n hX dX6_number_152 rfl ?_
                    exact v_iret hX hr hsz dX6_number_153 rfl rfl (by (have hx : R_num v h = (k, w) := inv1.symm.trans (wh_stop _ (by simp only [R_numC, c1, c21, c22, c46, c48, c51, c52, Bool.and_true, Bool.and_false, Bool.true_and, Bool.false_and, decide_true, decide_false, Bool.not_true, Bool.not_false]) _); rw [hx])) (by (have hx : R_num v h = (k, w) := inv1.symm.trans (wh_stop _ (by simp only [R_numC, c1, c21, c22, c46, c48, c51, c52, Bool.and_true, Bool.and_false, Bool.true_and, Bool.false_and, decide_true, decide_false, Bool.not_true, Bool.not_false]) _); rw [hx]))
                  · replace c52 := bI_n0.mp c52
                    exfalso; have hnx := R_next_spec c52; omega
              | succ fu ih =>
                intro k w inv0 inv1 inv2
                refine v_iload_n hX dX6_number_85 rfl ?_
                refine v_if_le (tgt := 152) hX dX6_number_86 (by decide) (fun c53 => ?_) (fun c53 => ?_)
                · replace c53 := (nI_leI (a := k) (b := 0) (by omega) (by omega)).mp c53
                  refine v_iload_n hX dX6_number_152 rfl ?_
                  exact v_iret hX hr hsz dX6_number_153 rfl rfl (by (have hx : R_num v h = (k, w) := inv1.symm.trans (wh_stop _ (by simp only [R_numC, c1, c21, c22, c46, c48, c53, Bool.and_true, Bool.and_false, Bool.true_and, Bool.false_and, decide_true, decide_false, Bool.not_true, Bool.not_false]) _); rw [hx])) (by (have hx : R_num v h = (k, w) := inv1.symm.trans (wh_stop _ (by simp only [R_numC, c1, c21, c22, c46, c48, c53, Bool.and_true, Bool.and_false, Bool.true_and, Bool.false_and, decide_true, decide_false, Bool.not_true, Bool.not_false]) _); rw [hx]))
                · replace c53 := (not_congr (nI_leI (a := k) (b := 0) (by omega) (by omega))).mp c53
                  refine v_aload_n hX dX6_number_89 rfl ?_
                  refine v_bipush (x := (48 : Int32)) hX dX6_number_90 (by decide) ?_
                  refine v_bipush (x := (57 : Int32)) hX dX6_number_92 (by decide) ?_
                  refine v_callVi (r := bI (R_next w (48 : Int32) (57 : Int32))) (rest := []) (ws' := wR E a w) hX (fun sz => c_X6_isNext l E a sz w (48 : Int32) (57 : Int32)) (cwV 2 hX.2.2.2.2.1 gX6_number_X6_isNext rfl rfl rfl (by decide +kernel) ⟨Nat.le_of_ble_eq_true rfl, Nat.le_of_ble_eq_true rfl⟩) ([]) ([]) ((List.append_nil _).symm) ((List.append_nil _).symm).symm (wR_fst E a _ _) (ci := 6) (q0 := 0) rfl rfl rfl rfl rfl (Nat.le_of_ble_eq_true rfl) dX6_number_94 ?_
                  refine v_if_eq (tgt := 152) hX dX6_number_97 (by decide) (fun c54 => ?_) (fun c54 => ?_)
                  · replace c54 := bI_0.mp c54
                    refine v_iload_n hX dX6_number_152 rfl ?_
                    exact v_iret hX hr hsz dX6_number_153 rfl rfl (by (have hx : R_num v h = (k, w) := inv1.symm.trans (wh_stop _ (by simp only [R_numC, c1, c21, c22, c46, c48, c53, c54, Bool.and_true, Bool.and_false, Bool.true_and, Bool.false_and, decide_true, decide_false, Bool.not_true, Bool.not_false]) _); rw [hx])) (by (have hx : R_num v h = (k, w) := inv1.symm.trans (wh_stop _ (by simp only [R_numC, c1, c21, c22, c46, c48, c53, c54, Bool.and_true, Bool.and_false, Bool.true_and, Bool.false_and, decide_true, decide_false, Bool.not_true, Bool.not_false]) _); rw [hx]))
                  · replace c54 := bI_n0.mp c54
                    have hnx := R_next_spec c54
                    have hnd := R_next_dig c54
                    refine v_bipush (x := (10 : Int32)) hX dX6_number_100 (by decide) ?_
                    refine v_iload_n hX dX6_number_102 rfl ?_
                    refine v_imul (z := nI (10 * k)) hX dX6_number_103 (pk_mul 10 k) ?_
                    refine v_aload_n hX dX6_number_104 rfl ?_
                    refine v_get (C := RX6) (T := TX6) (N := 18) (ci := 6) (v := .ref (a 5)) hX in_X6 0 rfl rfl 6 (by decide) fl_22 rfl rfl dX6_number_105 ?_
                    refine v_aload_n hX dX6_number_108 rfl ?_
                    refine v_get (C := RX6) (T := TX6) (N := 18) (ci := 6) (v := .int (nI (w.2.2.2.2.2.2.2.2.2.2.1.val))) hX in_X6 0 rfl rfl 10 (by decide) fl_132 rfl rfl dX6_number_109 ?_
                    have hb55 := (w.2.2.2.2.2.2.2.2.2.2.1).isLt
                    refine v_iald (z := nI (w.2.2.2.2.2.2.1 (w.2.2.2.2.2.2.2.2.2.2.1.val)).val) hX 5 rfl (vp_in_nI (by omega : w.2.2.2.2.2.2.2.2.2.2.1.val < 80) (by omega)) (by simp only [nI_clamp (show w.2.2.2.2.2.2.2.2.2.2.1.val < 2 ^ 31 by omega)]) dX6_number_112 ?_
                    have hb56 := (w.2.2.2.2.2.2.1 (w.2.2.2.2.2.2.2.2.2.2.1.val)).isLt
                    refine v_iadd (z := nI ((10 * k) + ((w.2.2.2.2.2.2.1 (w.2.2.2.2.2.2.2.2.2.2.1.val)).val))) hX dX6_number_113 (nI_add (10 * k) ((w.2.2.2.2.2.2.1 (w.2.2.2.2.2.2.2.2.2.2.1.val)).val)) ?_
                    refine v_bipush (x := (48 : Int32)) hX dX6_number_114 (by decide) ?_
                    refine v_isub (z := nI (((10 * k) + ((w.2.2.2.2.2.2.1 (w.2.2.2.2.2.2.2.2.2.2.1.val)).val)) - 48)) hX dX6_number_116 (pk_sub (a := (10 * k) + ((w.2.2.2.2.2.2.1 (w.2.2.2.2.2.2.2.2.2.2.1.val)).val)) (b := 48) (by omega)) ?_
                    refine v_iload_n hX dX6_number_117 rfl ?_
                    refine v_icmp_gt (tgt := 152) hX dX6_number_118 (by decide) (fun c57 => ?_) (fun c57 => ?_)
                    · replace c57 := (nI_ltI (a := h) (b := ((10 * k) + ((w.2.2.2.2.2.2.1 (w.2.2.2.2.2.2.2.2.2.2.1.val)).val)) - 48) (by omega) (by omega)).mp c57
                      refine v_iload_n hX dX6_number_152 rfl ?_
                      exact v_iret hX hr hsz dX6_number_153 rfl rfl (by (have hx : R_num v h = (k, w) := inv1.symm.trans (wh_stop _ (by simp only [R_numC, c1, c21, c22, c46, c48, c53, c54, c57, Bool.and_true, Bool.and_false, Bool.true_and, Bool.false_and, decide_true, decide_false, Bool.not_true, Bool.not_false]) _); rw [hx])) (by (have hx : R_num v h = (k, w) := inv1.symm.trans (wh_stop _ (by simp only [R_numC, c1, c21, c22, c46, c48, c53, c54, c57, Bool.and_true, Bool.and_false, Bool.true_and, Bool.false_and, decide_true, decide_false, Bool.not_true, Bool.not_false]) _); rw [hx]))
                    · replace c57 := (not_congr (nI_ltI (a := h) (b := ((10 * k) + ((w.2.2.2.2.2.2.1 (w.2.2.2.2.2.2.2.2.2.2.1.val)).val)) - 48) (by omega) (by omega))).mp c57
                      refine v_bipush (x := (10 : Int32)) hX dX6_number_121 (by decide) ?_
                      refine v_iload_n hX dX6_number_123 rfl ?_
                      refine v_imul (z := nI (10 * k)) hX dX6_number_124 (pk_mul 10 k) ?_
                      refine v_aload_n hX dX6_number_125 rfl ?_
                      refine v_get (C := RX6) (T := TX6) (N := 18) (ci := 6) (v := .ref (a 5)) hX in_X6 0 rfl rfl 6 (by decide) fl_22 rfl rfl dX6_number_126 ?_
                      refine v_aload_n hX dX6_number_129 rfl ?_
                      refine v_get (C := RX6) (T := TX6) (N := 18) (ci := 6) (v := .int (nI (w.2.2.2.2.2.2.2.2.2.2.1.val))) hX in_X6 0 rfl rfl 10 (by decide) fl_132 rfl rfl dX6_number_130 ?_
                      have hb58 := (w.2.2.2.2.2.2.2.2.2.2.1).isLt
                      refine v_iald (z := nI (w.2.2.2.2.2.2.1 (w.2.2.2.2.2.2.2.2.2.2.1.val)).val) hX 5 rfl (vp_in_nI (by omega : w.2.2.2.2.2.2.2.2.2.2.1.val < 80) (by omega)) (by simp only [nI_clamp (show w.2.2.2.2.2.2.2.2.2.2.1.val < 2 ^ 31 by omega)]) dX6_number_133 ?_
                      have hb59 := (w.2.2.2.2.2.2.1 (w.2.2.2.2.2.2.2.2.2.2.1.val)).isLt
                      refine v_iadd (z := nI ((10 * k) + ((w.2.2.2.2.2.2.1 (w.2.2.2.2.2.2.2.2.2.2.1.val)).val))) hX dX6_number_134 (nI_add (10 * k) ((w.2.2.2.2.2.2.1 (w.2.2.2.2.2.2.2.2.2.2.1.val)).val)) ?_
                      refine v_bipush (x := (48 : Int32)) hX dX6_number_135 (by decide) ?_
                      refine v_isub (z := nI (((10 * k) + ((w.2.2.2.2.2.2.1 (w.2.2.2.2.2.2.2.2.2.2.1.val)).val)) - 48)) hX dX6_number_137 (pk_sub (a := (10 * k) + ((w.2.2.2.2.2.2.1 (w.2.2.2.2.2.2.2.2.2.2.1.val)).val)) (b := 48) (by omega)) ?_
                      refine v_istore_n (lv' := [.ref (a 0), .int (nI (h)), .int (nI (((10 * k) + ((w.2.2.2.2.2.2.1 (w.2.2.2.2.2.2.2.2.2.2.1.val)).val)) - 48))]) hX dX6_number_138 (Nat.le_of_ble_eq_true rfl) (Nat.le_of_ble_eq_true rfl) rfl rfl ?_
                      refine v_aload_n hX dX6_number_139 rfl ?_
                      refine v_dup hX dX6_number_140 rfl ?_
                      refine v_get (C := RX6) (T := TX6) (N := 18) (ci := 6) (v := .int (nI (w.2.2.2.2.2.2.2.2.2.2.1.val))) hX in_X6 0 rfl rfl 10 (by decide) fl_132 rfl rfl dX6_number_141 ?_
                      have hb60 := (w.2.2.2.2.2.2.2.2.2.2.1).isLt
                      refine v_iconst (x := (1 : Int32)) hX dX6_number_144 (by decide) ?_
                      refine v_iadd (z := nI (w.2.2.2.2.2.2.2.2.2.2.1.val + 1)) hX dX6_number_145 (nI_add w.2.2.2.2.2.2.2.2.2.2.1.val 1) ?_
                      obtain ⟨v61, hv61⟩ : ∃ z_ : RV, z_ = R_setSpot w (w.2.2.2.2.2.2.2.2.2.2.1.val + 1) := ⟨_, rfl⟩
                      refine v_put (C := RX6) (T := TX6) (N := 18) (ci := 6) (v := .int (nI (w.2.2.2.2.2.2.2.2.2.2.1.val + 1))) (ty := .int) (ws' := wR E a v61) hX in_X6 tyX6 tyX6_ok nmX6 0 rfl rfl 10 (by decide) fl_132 rfl rfl (by decide +kernel) (rfl) (rfl) (Nat.le_of_ble_eq_true rfl) dX6_number_146 (by rw [hv61]; exact sR_Spot E a w (x := w.2.2.2.2.2.2.2.2.2.2.1.val + 1) (by omega : w.2.2.2.2.2.2.2.2.2.2.1.val + 1 < 81)) ?_
                      refine v_goto (tgt := 85) hX dX6_number_149 (by decide) ?_
                      exact ih (((10 * k) + ((w.2.2.2.2.2.2.1 (w.2.2.2.2.2.2.2.2.2.2.1.val)).val)) - 48) v61 (by rw [hv61, R_spot_at w (by omega : w.2.2.2.2.2.2.2.2.2.2.1.val + 1 < 81)]; omega) (by rw [hv61, ← inv1]; exact (wh_go (c := R_numC h) R_numS (x := (k, w)) (by simp only [R_numC, c1, c21, c22, c46, c48, c53, c54, c57, Bool.and_true, Bool.and_false, Bool.true_and, Bool.false_and, decide_true, decide_false, Bool.not_true, Bool.not_false]) fu).symm) (by omega)
            have e0 : (0, v49) = R_num0 v h := by subst hv49; subst hv44; simp only [R_num0, R_numW, c1, c21, c22, c46, c48, if_true, if_false, reduceIte, Bool.false_eq_true]; first | done | rfl
            exact loop_85 81 0 v49 (by omega) (congrArg (wh (R_numC h) R_numS 81) e0) (by have hle := R_num0_le v h; rw [← e0] at hle; exact hle)
    · replace c21 := (not_congr (nI_leI (a := 9) (b := h) (by omega) (by omega))).mp c21
      refine v_bipush (x := (48 : Int32)) hX dX6_number_17 (by decide) ?_
      refine v_iload_n hX dX6_number_19 rfl ?_
      refine v_iadd (z := nI (48 + h)) hX dX6_number_20 (nI_add 48 h) ?_
      refine v_goto (tgt := 26) hX dX6_number_21 (by decide) ?_
      refine v_callVi (r := bI (R_next v (48 : Int32) (nI (48 + h)))) (rest := [.ref (a 0)]) (ws' := wR E a v) hX (fun sz => c_X6_isNext l E a sz v (48 : Int32) (nI (48 + h))) (cwV 2 hX.2.2.2.2.1 gX6_number_X6_isNext rfl rfl rfl (by decide +kernel) ⟨Nat.le_of_ble_eq_true rfl, Nat.le_of_ble_eq_true rfl⟩) ([]) ([]) ((List.append_nil _).symm) ((List.append_nil _).symm).symm (wR_fst E a _ _) (ci := 6) (q0 := 0) rfl rfl rfl rfl rfl (Nat.le_of_ble_eq_true rfl) dX6_number_26 ?_
      refine v_if_ne (tgt := 36) hX dX6_number_29 (by decide) (fun c63 => ?_) (fun c63 => ?_)
      · replace c63 := bI_n0.mp c63
        have hnx := R_next_spec c63
        have hnd := R_next_dig c63
        refine v_iconst (x := (0 : Int32)) hX dX6_number_36 (by decide) ?_
        obtain ⟨v64, hv64⟩ : ∃ z_ : RV, z_ = R_setWrong v (false) := ⟨_, rfl⟩
        refine v_put (C := RX6) (T := TX6) (N := 18) (ci := 6) (v := .int (bI (false))) (ty := .boolean) (ws' := wR E a v64) hX in_X6 tyX6 tyX6_ok nmX6 0 rfl rfl 11 (by decide) fl_128 rfl rfl (by decide +kernel) (bI_narrow _) (bI_fits _) (Nat.le_of_ble_eq_true rfl) dX6_number_37 (by rw [hv64]; exact sR_Wrong E a v (false)) ?_
        have hw65 : v64.2.2.2.2.2.2.2.2.2.2.2.1 = false := by rw [hv64]; rfl
        refine v_aload_n hX dX6_number_40 rfl ?_
        refine v_get (C := RX6) (T := TX6) (N := 18) (ci := 6) (v := .int (bI (v64.2.2.2.2.2.2.2.2.2.2.2.1))) hX in_X6 0 rfl rfl 11 (by decide) fl_128 rfl rfl dX6_number_41 ?_
        refine v_if_eq (tgt := 51) hX dX6_number_44 (by decide) (fun c66 => ?_) (fun c66 => ?_)
        · replace c66 := bI_0.mp c66
          have hq1 : v64.2.2.2.2.2.2.1 = v.2.2.2.2.2.2.1 := by rw [hv64]; rfl
          have hq2 : v64.2.2.2.2.2.2.2.2.2.2.1 = v.2.2.2.2.2.2.2.2.2.2.1 := by rw [hv64]; rfl
          have hnd1 : 48 ≤ (v64.2.2.2.2.2.2.1 v64.2.2.2.2.2.2.2.2.2.2.1.val).val := by rw [hq1, hq2]; exact hnd
          have hns1 : v64.2.2.2.2.2.2.2.2.2.2.1.val < 80 := by rw [hq2]; omega
          refine v_aload_n hX dX6_number_51 rfl ?_
          refine v_get (C := RX6) (T := TX6) (N := 18) (ci := 6) (v := .ref (a 5)) hX in_X6 0 rfl rfl 6 (by decide) fl_22 rfl rfl dX6_number_52 ?_
          refine v_aload_n hX dX6_number_55 rfl ?_
          refine v_get (C := RX6) (T := TX6) (N := 18) (ci := 6) (v := .int (nI (v64.2.2.2.2.2.2.2.2.2.2.1.val))) hX in_X6 0 rfl rfl 10 (by decide) fl_132 rfl rfl dX6_number_56 ?_
          have hb67 := (v64.2.2.2.2.2.2.2.2.2.2.1).isLt
          refine v_iald (z := nI (v64.2.2.2.2.2.2.1 (v64.2.2.2.2.2.2.2.2.2.2.1.val)).val) hX 5 rfl (vp_in_nI (by omega : v64.2.2.2.2.2.2.2.2.2.2.1.val < 80) (by omega)) (by simp only [nI_clamp (show v64.2.2.2.2.2.2.2.2.2.2.1.val < 2 ^ 31 by omega)]) dX6_number_59 ?_
          have hb68 := (v64.2.2.2.2.2.2.1 (v64.2.2.2.2.2.2.2.2.2.2.1.val)).isLt
          refine v_bipush (x := (48 : Int32)) hX dX6_number_60 (by decide) ?_
          refine v_isub (z := nI (((v64.2.2.2.2.2.2.1 (v64.2.2.2.2.2.2.2.2.2.2.1.val)).val) - 48)) hX dX6_number_62 (pk_sub (a := (v64.2.2.2.2.2.2.1 (v64.2.2.2.2.2.2.2.2.2.2.1.val)).val) (b := 48) (by omega)) ?_
          refine v_istore_n (lv' := [.ref (a 0), .int (nI (h)), .int (nI (((v64.2.2.2.2.2.2.1 (v64.2.2.2.2.2.2.2.2.2.2.1.val)).val) - 48))]) hX dX6_number_63 (Nat.le_of_ble_eq_true rfl) (Nat.le_of_ble_eq_true rfl) rfl rfl ?_
          refine v_aload_n hX dX6_number_64 rfl ?_
          refine v_dup hX dX6_number_65 rfl ?_
          refine v_get (C := RX6) (T := TX6) (N := 18) (ci := 6) (v := .int (nI (v64.2.2.2.2.2.2.2.2.2.2.1.val))) hX in_X6 0 rfl rfl 10 (by decide) fl_132 rfl rfl dX6_number_66 ?_
          have hb69 := (v64.2.2.2.2.2.2.2.2.2.2.1).isLt
          refine v_aload_n hX dX6_number_69 rfl ?_
          refine v_get (C := RX6) (T := TX6) (N := 18) (ci := 6) (v := .int (bI (v64.2.2.2.2.2.2.2.2.2.2.2.1))) hX in_X6 0 rfl rfl 11 (by decide) fl_128 rfl rfl dX6_number_70 ?_
          refine v_if_eq (tgt := 80) hX dX6_number_73 (by decide) (fun c70 => ?_) (fun c70 => ?_)
          · replace c70 := bI_0.mp c70
            refine v_iconst (x := (1 : Int32)) hX dX6_number_80 (by decide) ?_
            refine v_iadd (z := nI (v64.2.2.2.2.2.2.2.2.2.2.1.val + 1)) hX dX6_number_81 (nI_add v64.2.2.2.2.2.2.2.2.2.2.1.val 1) ?_
            obtain ⟨v71, hv71⟩ : ∃ z_ : RV, z_ = R_setSpot v64 (v64.2.2.2.2.2.2.2.2.2.2.1.val + 1) := ⟨_, rfl⟩
            refine v_put (C := RX6) (T := TX6) (N := 18) (ci := 6) (v := .int (nI (v64.2.2.2.2.2.2.2.2.2.2.1.val + 1))) (ty := .int) (ws' := wR E a v71) hX in_X6 tyX6 tyX6_ok nmX6 0 rfl rfl 10 (by decide) fl_132 rfl rfl (by decide +kernel) (rfl) (rfl) (Nat.le_of_ble_eq_true rfl) dX6_number_82 (by rw [hv71]; exact sR_Spot E a v64 (x := v64.2.2.2.2.2.2.2.2.2.2.1.val + 1) (by omega : v64.2.2.2.2.2.2.2.2.2.2.1.val + 1 < 81)) ?_
            have hw72 : v71.2.2.2.2.2.2.2.2.2.2.2.1 = false := by rw [hv71]; exact c70
            have loop_85 : ∀ (fu : Nat) (k : Nat) (w : RV), 80 - w.2.2.2.2.2.2.2.2.2.2.1.val ≤ fu → wh (R_numC h) R_numS fu (k, w) = R_num v h → k ≤ h → V p l e ({ frames := 2, cells := 0, slots := 0, locals := 44 } : Room) s m args below meth c E 3 (va_A (wR E a v) sz) (MQ below (mQi E (nI ((R_num v h).1)) (wR E a v) (wR E a ((R_num v h).2)) sz) args s 0 0 (va_A (wR E a v) sz)) (wR E a w) [.ref (a 0), .int (nI (h)), .int (nI (k))] 85 [] := by
              intro fu
              induction fu with
              | zero =>
                intro k w inv0 inv1 inv2
                refine v_iload_n hX dX6_number_85 rfl ?_
                refine v_if_le (tgt := 152) hX dX6_number_86 (by decide) (fun c73 => ?_) (fun c73 => ?_)
                · replace c73 := (nI_leI (a := k) (b := 0) (by omega) (by omega)).mp c73
                  refine v_iload_n hX dX6_number_152 rfl ?_
                  exact v_iret hX hr hsz dX6_number_153 rfl rfl (by (have hx : R_num v h = (k, w) := inv1.symm.trans (wh_stop _ (by simp only [R_numC, c1, c21, c63, c66, c70, c73, Bool.and_true, Bool.and_false, Bool.true_and, Bool.false_and, decide_true, decide_false, Bool.not_true, Bool.not_false]) _); rw [hx])) (by (have hx : R_num v h = (k, w) := inv1.symm.trans (wh_stop _ (by simp only [R_numC, c1, c21, c63, c66, c70, c73, Bool.and_true, Bool.and_false, Bool.true_and, Bool.false_and, decide_true, decide_false, Bool.not_true, Bool.not_false]) _); rw [hx]))
                · replace c73 := (not_congr (nI_leI (a := k) (b := 0) (by omega) (by omega))).mp c73
                  refine v_aload_n hX dX6_number_89 rfl ?_
                  refine v_bipush (x := (48 : Int32)) hX dX6_number_90 (by decide) ?_
                  refine v_bipush (x := (57 : Int32)) hX dX6_number_92 (by decide) ?_
                  refine v_callVi (r := bI (R_next w (48 : Int32) (57 : Int32))) (rest := []) (ws' := wR E a w) hX (fun sz => c_X6_isNext l E a sz w (48 : Int32) (57 : Int32)) (cwV 2 hX.2.2.2.2.1 gX6_number_X6_isNext rfl rfl rfl (by decide +kernel) ⟨Nat.le_of_ble_eq_true rfl, Nat.le_of_ble_eq_true rfl⟩) ([]) ([]) ((List.append_nil _).symm) ((List.append_nil _).symm).symm (wR_fst E a _ _) (ci := 6) (q0 := 0) rfl rfl rfl rfl rfl (Nat.le_of_ble_eq_true rfl) dX6_number_94 ?_
                  refine v_if_eq (tgt := 152) hX dX6_number_97 (by decide) (fun c74 => ?_) (fun c74 => ?_)
                  · replace c74 := bI_0.mp c74
                    refine v_iload_n hX dX6_number_152 rfl ?_
                    exact v_iret hX hr hsz dX6_number_153 rfl rfl (by (have hx : R_num v h = (k, w) := inv1.symm.trans (wh_stop _ (by simp only [R_numC, c1, c21, c63, c66, c70, c73, c74, Bool.and_true, Bool.and_false, Bool.true_and, Bool.false_and, decide_true, decide_false, Bool.not_true, Bool.not_false]) _); rw [hx])) (by (have hx : R_num v h = (k, w) := inv1.symm.trans (wh_stop _ (by simp only [R_numC, c1, c21, c63, c66, c70, c73, c74, Bool.and_true, Bool.and_false, Bool.true_and, Bool.false_and, decide_true, decide_false, Bool.not_true, Bool.not_false]) _); rw [hx]))
                  · replace c74 := bI_n0.mp c74
                    exfalso; have hnx := R_next_spec c74; omega
              | succ fu ih =>
                intro k w inv0 inv1 inv2
                refine v_iload_n hX dX6_number_85 rfl ?_
                refine v_if_le (tgt := 152) hX dX6_number_86 (by decide) (fun c75 => ?_) (fun c75 => ?_)
                · replace c75 := (nI_leI (a := k) (b := 0) (by omega) (by omega)).mp c75
                  refine v_iload_n hX dX6_number_152 rfl ?_
                  exact v_iret hX hr hsz dX6_number_153 rfl rfl (by (have hx : R_num v h = (k, w) := inv1.symm.trans (wh_stop _ (by simp only [R_numC, c1, c21, c63, c66, c70, c75, Bool.and_true, Bool.and_false, Bool.true_and, Bool.false_and, decide_true, decide_false, Bool.not_true, Bool.not_false]) _); rw [hx])) (by (have hx : R_num v h = (k, w) := inv1.symm.trans (wh_stop _ (by simp only [R_numC, c1, c21, c63, c66, c70, c75, Bool.and_true, Bool.and_false, Bool.true_and, Bool.false_and, decide_true, decide_false, Bool.not_true, Bool.not_false]) _); rw [hx]))
                · replace c75 := (not_congr (nI_leI (a := k) (b := 0) (by omega) (by omega))).mp c75
                  refine v_aload_n hX dX6_number_89 rfl ?_
                  refine v_bipush (x := (48 : Int32)) hX dX6_number_90 (by decide) ?_
                  refine v_bipush (x := (57 : Int32)) hX dX6_number_92 (by decide) ?_
                  refine v_callVi (r := bI (R_next w (48 : Int32) (57 : Int32))) (rest := []) (ws' := wR E a w) hX (fun sz => c_X6_isNext l E a sz w (48 : Int32) (57 : Int32)) (cwV 2 hX.2.2.2.2.1 gX6_number_X6_isNext rfl rfl rfl (by decide +kernel) ⟨Nat.le_of_ble_eq_true rfl, Nat.le_of_ble_eq_true rfl⟩) ([]) ([]) ((List.append_nil _).symm) ((List.append_nil _).symm).symm (wR_fst E a _ _) (ci := 6) (q0 := 0) rfl rfl rfl rfl rfl (Nat.le_of_ble_eq_true rfl) dX6_number_94 ?_
                  refine v_if_eq (tgt := 152) hX dX6_number_97 (by decide) (fun c76 => ?_) (fun c76 => ?_)
                  · replace c76 := bI_0.mp c76
                    refine v_iload_n hX dX6_number_152 rfl ?_
                    exact v_iret hX hr hsz dX6_number_153 rfl rfl (by (have hx : R_num v h = (k, w) := inv1.symm.trans (wh_stop _ (by simp only [R_numC, c1, c21, c63, c66, c70, c75, c76, Bool.and_true, Bool.and_false, Bool.true_and, Bool.false_and, decide_true, decide_false, Bool.not_true, Bool.not_false]) _); rw [hx])) (by (have hx : R_num v h = (k, w) := inv1.symm.trans (wh_stop _ (by simp only [R_numC, c1, c21, c63, c66, c70, c75, c76, Bool.and_true, Bool.and_false, Bool.true_and, Bool.false_and, decide_true, decide_false, Bool.not_true, Bool.not_false]) _); rw [hx]))
                  · replace c76 := bI_n0.mp c76
                    have hnx := R_next_spec c76
                    have hnd := R_next_dig c76
                    refine v_bipush (x := (10 : Int32)) hX dX6_number_100 (by decide) ?_
                    refine v_iload_n hX dX6_number_102 rfl ?_
                    refine v_imul (z := nI (10 * k)) hX dX6_number_103 (pk_mul 10 k) ?_
                    refine v_aload_n hX dX6_number_104 rfl ?_
                    refine v_get (C := RX6) (T := TX6) (N := 18) (ci := 6) (v := .ref (a 5)) hX in_X6 0 rfl rfl 6 (by decide) fl_22 rfl rfl dX6_number_105 ?_
                    refine v_aload_n hX dX6_number_108 rfl ?_
                    refine v_get (C := RX6) (T := TX6) (N := 18) (ci := 6) (v := .int (nI (w.2.2.2.2.2.2.2.2.2.2.1.val))) hX in_X6 0 rfl rfl 10 (by decide) fl_132 rfl rfl dX6_number_109 ?_
                    have hb77 := (w.2.2.2.2.2.2.2.2.2.2.1).isLt
                    refine v_iald (z := nI (w.2.2.2.2.2.2.1 (w.2.2.2.2.2.2.2.2.2.2.1.val)).val) hX 5 rfl (vp_in_nI (by omega : w.2.2.2.2.2.2.2.2.2.2.1.val < 80) (by omega)) (by simp only [nI_clamp (show w.2.2.2.2.2.2.2.2.2.2.1.val < 2 ^ 31 by omega)]) dX6_number_112 ?_
                    have hb78 := (w.2.2.2.2.2.2.1 (w.2.2.2.2.2.2.2.2.2.2.1.val)).isLt
                    refine v_iadd (z := nI ((10 * k) + ((w.2.2.2.2.2.2.1 (w.2.2.2.2.2.2.2.2.2.2.1.val)).val))) hX dX6_number_113 (nI_add (10 * k) ((w.2.2.2.2.2.2.1 (w.2.2.2.2.2.2.2.2.2.2.1.val)).val)) ?_
                    refine v_bipush (x := (48 : Int32)) hX dX6_number_114 (by decide) ?_
                    refine v_isub (z := nI (((10 * k) + ((w.2.2.2.2.2.2.1 (w.2.2.2.2.2.2.2.2.2.2.1.val)).val)) - 48)) hX dX6_number_116 (pk_sub (a := (10 * k) + ((w.2.2.2.2.2.2.1 (w.2.2.2.2.2.2.2.2.2.2.1.val)).val)) (b := 48) (by omega)) ?_
                    refine v_iload_n hX dX6_number_117 rfl ?_
                    refine v_icmp_gt (tgt := 152) hX dX6_number_118 (by decide) (fun c79 => ?_) (fun c79 => ?_)
                    · replace c79 := (nI_ltI (a := h) (b := ((10 * k) + ((w.2.2.2.2.2.2.1 (w.2.2.2.2.2.2.2.2.2.2.1.val)).val)) - 48) (by omega) (by omega)).mp c79
                      refine v_iload_n hX dX6_number_152 rfl ?_
                      exact v_iret hX hr hsz dX6_number_153 rfl rfl (by (have hx : R_num v h = (k, w) := inv1.symm.trans (wh_stop _ (by simp only [R_numC, c1, c21, c63, c66, c70, c75, c76, c79, Bool.and_true, Bool.and_false, Bool.true_and, Bool.false_and, decide_true, decide_false, Bool.not_true, Bool.not_false]) _); rw [hx])) (by (have hx : R_num v h = (k, w) := inv1.symm.trans (wh_stop _ (by simp only [R_numC, c1, c21, c63, c66, c70, c75, c76, c79, Bool.and_true, Bool.and_false, Bool.true_and, Bool.false_and, decide_true, decide_false, Bool.not_true, Bool.not_false]) _); rw [hx]))
                    · replace c79 := (not_congr (nI_ltI (a := h) (b := ((10 * k) + ((w.2.2.2.2.2.2.1 (w.2.2.2.2.2.2.2.2.2.2.1.val)).val)) - 48) (by omega) (by omega))).mp c79
                      refine v_bipush (x := (10 : Int32)) hX dX6_number_121 (by decide) ?_
                      refine v_iload_n hX dX6_number_123 rfl ?_
                      refine v_imul (z := nI (10 * k)) hX dX6_number_124 (pk_mul 10 k) ?_
                      refine v_aload_n hX dX6_number_125 rfl ?_
                      refine v_get (C := RX6) (T := TX6) (N := 18) (ci := 6) (v := .ref (a 5)) hX in_X6 0 rfl rfl 6 (by decide) fl_22 rfl rfl dX6_number_126 ?_
                      refine v_aload_n hX dX6_number_129 rfl ?_
                      refine v_get (C := RX6) (T := TX6) (N := 18) (ci := 6) (v := .int (nI (w.2.2.2.2.2.2.2.2.2.2.1.val))) hX in_X6 0 rfl rfl 10 (by decide) fl_132 rfl rfl dX6_number_130 ?_
                      have hb80 := (w.2.2.2.2.2.2.2.2.2.2.1).isLt
                      refine v_iald (z := nI (w.2.2.2.2.2.2.1 (w.2.2.2.2.2.2.2.2.2.2.1.val)).val) hX 5 rfl (vp_in_nI (by omega : w.2.2.2.2.2.2.2.2.2.2.1.val < 80) (by omega)) (by simp only [nI_clamp (show w.2.2.2.2.2.2.2.2.2.2.1.val < 2 ^ 31 by omega)]) dX6_number_133 ?_
                      have hb81 := (w.2.2.2.2.2.2.1 (w.2.2.2.2.2.2.2.2.2.2.1.val)).isLt
                      refine v_iadd (z := nI ((10 * k) + ((w.2.2.2.2.2.2.1 (w.2.2.2.2.2.2.2.2.2.2.1.val)).val))) hX dX6_number_134 (nI_add (10 * k) ((w.2.2.2.2.2.2.1 (w.2.2.2.2.2.2.2.2.2.2.1.val)).val)) ?_
                      refine v_bipush (x := (48 : Int32)) hX dX6_number_135 (by decide) ?_
                      refine v_isub (z := nI (((10 * k) + ((w.2.2.2.2.2.2.1 (w.2.2.2.2.2.2.2.2.2.2.1.val)).val)) - 48)) hX dX6_number_137 (pk_sub (a := (10 * k) + ((w.2.2.2.2.2.2.1 (w.2.2.2.2.2.2.2.2.2.2.1.val)).val)) (b := 48) (by omega)) ?_
                      refine v_istore_n (lv' := [.ref (a 0), .int (nI (h)), .int (nI (((10 * k) + ((w.2.2.2.2.2.2.1 (w.2.2.2.2.2.2.2.2.2.2.1.val)).val)) - 48))]) hX dX6_number_138 (Nat.le_of_ble_eq_true rfl) (Nat.le_of_ble_eq_true rfl) rfl rfl ?_
                      refine v_aload_n hX dX6_number_139 rfl ?_
                      refine v_dup hX dX6_number_140 rfl ?_
                      refine v_get (C := RX6) (T := TX6) (N := 18) (ci := 6) (v := .int (nI (w.2.2.2.2.2.2.2.2.2.2.1.val))) hX in_X6 0 rfl rfl 10 (by decide) fl_132 rfl rfl dX6_number_141 ?_
                      have hb82 := (w.2.2.2.2.2.2.2.2.2.2.1).isLt
                      refine v_iconst (x := (1 : Int32)) hX dX6_number_144 (by decide) ?_
                      refine v_iadd (z := nI (w.2.2.2.2.2.2.2.2.2.2.1.val + 1)) hX dX6_number_145 (nI_add w.2.2.2.2.2.2.2.2.2.2.1.val 1) ?_
                      obtain ⟨v83, hv83⟩ : ∃ z_ : RV, z_ = R_setSpot w (w.2.2.2.2.2.2.2.2.2.2.1.val + 1) := ⟨_, rfl⟩
                      refine v_put (C := RX6) (T := TX6) (N := 18) (ci := 6) (v := .int (nI (w.2.2.2.2.2.2.2.2.2.2.1.val + 1))) (ty := .int) (ws' := wR E a v83) hX in_X6 tyX6 tyX6_ok nmX6 0 rfl rfl 10 (by decide) fl_132 rfl rfl (by decide +kernel) (rfl) (rfl) (Nat.le_of_ble_eq_true rfl) dX6_number_146 (by rw [hv83]; exact sR_Spot E a w (x := w.2.2.2.2.2.2.2.2.2.2.1.val + 1) (by omega : w.2.2.2.2.2.2.2.2.2.2.1.val + 1 < 81)) ?_
                      refine v_goto (tgt := 85) hX dX6_number_149 (by decide) ?_
                      exact ih (((10 * k) + ((w.2.2.2.2.2.2.1 (w.2.2.2.2.2.2.2.2.2.2.1.val)).val)) - 48) v83 (by rw [hv83, R_spot_at w (by omega : w.2.2.2.2.2.2.2.2.2.2.1.val + 1 < 81)]; omega) (by rw [hv83, ← inv1]; exact (wh_go (c := R_numC h) R_numS (x := (k, w)) (by simp only [R_numC, c1, c21, c63, c66, c70, c75, c76, c79, Bool.and_true, Bool.and_false, Bool.true_and, Bool.false_and, decide_true, decide_false, Bool.not_true, Bool.not_false]) fu).symm) (by omega)
            have e0 : (((v64.2.2.2.2.2.2.1 (v64.2.2.2.2.2.2.2.2.2.2.1.val)).val) - 48, v71) = R_num0 v h := by subst hv71; subst hv64; simp only [R_num0, R_numW, c1, c21, c63, c66, c70, if_true, if_false, reduceIte, Bool.false_eq_true]; first | done | rfl
            exact loop_85 81 (((v64.2.2.2.2.2.2.1 (v64.2.2.2.2.2.2.2.2.2.2.1.val)).val) - 48) v71 (by omega) (congrArg (wh (R_numC h) R_numS 81) e0) (by have hle := R_num0_le v h; rw [← e0] at hle; exact hle)
          · replace c70 := bI_n0.mp c70
            exact absurd (c66.symm.trans c70) (by decide)
        · replace c66 := bI_n0.mp c66
          exact absurd (hw65.symm.trans c66) (by decide)
      · replace c63 := bI_0.mp c63
        refine v_iconst (x := (1 : Int32)) hX dX6_number_32 (by decide) ?_
        refine v_goto (tgt := 37) hX dX6_number_33 (by decide) ?_
        obtain ⟨v85, hv85⟩ : ∃ z_ : RV, z_ = R_setWrong v (true) := ⟨_, rfl⟩
        refine v_put (C := RX6) (T := TX6) (N := 18) (ci := 6) (v := .int (bI (true))) (ty := .boolean) (ws' := wR E a v85) hX in_X6 tyX6 tyX6_ok nmX6 0 rfl rfl 11 (by decide) fl_128 rfl rfl (by decide +kernel) (bI_narrow _) (bI_fits _) (Nat.le_of_ble_eq_true rfl) dX6_number_37 (by rw [hv85]; exact sR_Wrong E a v (true)) ?_
        have hw86 : v85.2.2.2.2.2.2.2.2.2.2.2.1 = true := by rw [hv85]; rfl
        refine v_aload_n hX dX6_number_40 rfl ?_
        refine v_get (C := RX6) (T := TX6) (N := 18) (ci := 6) (v := .int (bI (v85.2.2.2.2.2.2.2.2.2.2.2.1))) hX in_X6 0 rfl rfl 11 (by decide) fl_128 rfl rfl dX6_number_41 ?_
        refine v_if_eq (tgt := 51) hX dX6_number_44 (by decide) (fun c87 => ?_) (fun c87 => ?_)
        · replace c87 := bI_0.mp c87
          exact absurd (hw86.symm.trans c87) (by decide)
        · replace c87 := bI_n0.mp c87
          refine v_iconst (x := (0 : Int32)) hX dX6_number_47 (by decide) ?_
          refine v_goto (tgt := 63) hX dX6_number_48 (by decide) ?_
          refine v_istore_n (lv' := [.ref (a 0), .int (nI (h)), .int ((0 : Int32))]) hX dX6_number_63 (Nat.le_of_ble_eq_true rfl) (Nat.le_of_ble_eq_true rfl) rfl rfl ?_
          refine v_aload_n hX dX6_number_64 rfl ?_
          refine v_dup hX dX6_number_65 rfl ?_
          refine v_get (C := RX6) (T := TX6) (N := 18) (ci := 6) (v := .int (nI (v85.2.2.2.2.2.2.2.2.2.2.1.val))) hX in_X6 0 rfl rfl 10 (by decide) fl_132 rfl rfl dX6_number_66 ?_
          have hb88 := (v85.2.2.2.2.2.2.2.2.2.2.1).isLt
          refine v_aload_n hX dX6_number_69 rfl ?_
          refine v_get (C := RX6) (T := TX6) (N := 18) (ci := 6) (v := .int (bI (v85.2.2.2.2.2.2.2.2.2.2.2.1))) hX in_X6 0 rfl rfl 11 (by decide) fl_128 rfl rfl dX6_number_70 ?_
          refine v_if_eq (tgt := 80) hX dX6_number_73 (by decide) (fun c89 => ?_) (fun c89 => ?_)
          · replace c89 := bI_0.mp c89
            exact absurd (c87.symm.trans c89) (by decide)
          · replace c89 := bI_n0.mp c89
            refine v_iconst (x := (0 : Int32)) hX dX6_number_76 (by decide) ?_
            refine v_goto (tgt := 81) hX dX6_number_77 (by decide) ?_
            refine v_iadd (z := nI (v85.2.2.2.2.2.2.2.2.2.2.1.val + 0)) hX dX6_number_81 (nI_add v85.2.2.2.2.2.2.2.2.2.2.1.val 0) ?_
            obtain ⟨v90, hv90⟩ : ∃ z_ : RV, z_ = R_setSpot v85 (v85.2.2.2.2.2.2.2.2.2.2.1.val + 0) := ⟨_, rfl⟩
            refine v_put (C := RX6) (T := TX6) (N := 18) (ci := 6) (v := .int (nI (v85.2.2.2.2.2.2.2.2.2.2.1.val + 0))) (ty := .int) (ws' := wR E a v90) hX in_X6 tyX6 tyX6_ok nmX6 0 rfl rfl 10 (by decide) fl_132 rfl rfl (by decide +kernel) (rfl) (rfl) (Nat.le_of_ble_eq_true rfl) dX6_number_82 (by rw [hv90]; exact sR_Spot E a v85 (x := v85.2.2.2.2.2.2.2.2.2.2.1.val + 0) (by omega : v85.2.2.2.2.2.2.2.2.2.2.1.val + 0 < 81)) ?_
            have hw91 : v90.2.2.2.2.2.2.2.2.2.2.2.1 = true := by rw [hv90]; exact c89
            have loop_85 : ∀ (fu : Nat) (k : Nat) (w : RV), 80 - w.2.2.2.2.2.2.2.2.2.2.1.val ≤ fu → wh (R_numC h) R_numS fu (k, w) = R_num v h → k ≤ h → V p l e ({ frames := 2, cells := 0, slots := 0, locals := 44 } : Room) s m args below meth c E 3 (va_A (wR E a v) sz) (MQ below (mQi E (nI ((R_num v h).1)) (wR E a v) (wR E a ((R_num v h).2)) sz) args s 0 0 (va_A (wR E a v) sz)) (wR E a w) [.ref (a 0), .int (nI (h)), .int (nI (k))] 85 [] := by
              intro fu
              induction fu with
              | zero =>
                intro k w inv0 inv1 inv2
                refine v_iload_n hX dX6_number_85 rfl ?_
                refine v_if_le (tgt := 152) hX dX6_number_86 (by decide) (fun c92 => ?_) (fun c92 => ?_)
                · replace c92 := (nI_leI (a := k) (b := 0) (by omega) (by omega)).mp c92
                  refine v_iload_n hX dX6_number_152 rfl ?_
                  exact v_iret hX hr hsz dX6_number_153 rfl rfl (by (have hx : R_num v h = (k, w) := inv1.symm.trans (wh_stop _ (by simp only [R_numC, c1, c21, c63, c87, c89, c92, Bool.and_true, Bool.and_false, Bool.true_and, Bool.false_and, decide_true, decide_false, Bool.not_true, Bool.not_false]) _); rw [hx])) (by (have hx : R_num v h = (k, w) := inv1.symm.trans (wh_stop _ (by simp only [R_numC, c1, c21, c63, c87, c89, c92, Bool.and_true, Bool.and_false, Bool.true_and, Bool.false_and, decide_true, decide_false, Bool.not_true, Bool.not_false]) _); rw [hx]))
                · replace c92 := (not_congr (nI_leI (a := k) (b := 0) (by omega) (by omega))).mp c92
                  refine v_aload_n hX dX6_number_89 rfl ?_
                  refine v_bipush (x := (48 : Int32)) hX dX6_number_90 (by decide) ?_
                  refine v_bipush (x := (57 : Int32)) hX dX6_number_92 (by decide) ?_
                  refine v_callVi (r := bI (R_next w (48 : Int32) (57 : Int32))) (rest := []) (ws' := wR E a w) hX (fun sz => c_X6_isNext l E a sz w (48 : Int32) (57 : Int32)) (cwV 2 hX.2.2.2.2.1 gX6_number_X6_isNext rfl rfl rfl (by decide +kernel) ⟨Nat.le_of_ble_eq_true rfl, Nat.le_of_ble_eq_true rfl⟩) ([]) ([]) ((List.append_nil _).symm) ((List.append_nil _).symm).symm (wR_fst E a _ _) (ci := 6) (q0 := 0) rfl rfl rfl rfl rfl (Nat.le_of_ble_eq_true rfl) dX6_number_94 ?_
                  refine v_if_eq (tgt := 152) hX dX6_number_97 (by decide) (fun c93 => ?_) (fun c93 => ?_)
                  · replace c93 := bI_0.mp c93
                    refine v_iload_n hX dX6_number_152 rfl ?_
                    exact v_iret hX hr hsz dX6_number_153 rfl rfl (by (have hx : R_num v h = (k, w) := inv1.symm.trans (wh_stop _ (by simp only [R_numC, c1, c21, c63, c87, c89, c92, c93, Bool.and_true, Bool.and_false, Bool.true_and, Bool.false_and, decide_true, decide_false, Bool.not_true, Bool.not_false]) _); rw [hx])) (by (have hx : R_num v h = (k, w) := inv1.symm.trans (wh_stop _ (by simp only [R_numC, c1, c21, c63, c87, c89, c92, c93, Bool.and_true, Bool.and_false, Bool.true_and, Bool.false_and, decide_true, decide_false, Bool.not_true, Bool.not_false]) _); rw [hx]))
                  · replace c93 := bI_n0.mp c93
                    exfalso; have hnx := R_next_spec c93; omega
              | succ fu ih =>
                intro k w inv0 inv1 inv2
                refine v_iload_n hX dX6_number_85 rfl ?_
                refine v_if_le (tgt := 152) hX dX6_number_86 (by decide) (fun c94 => ?_) (fun c94 => ?_)
                · replace c94 := (nI_leI (a := k) (b := 0) (by omega) (by omega)).mp c94
                  refine v_iload_n hX dX6_number_152 rfl ?_
                  exact v_iret hX hr hsz dX6_number_153 rfl rfl (by (have hx : R_num v h = (k, w) := inv1.symm.trans (wh_stop _ (by simp only [R_numC, c1, c21, c63, c87, c89, c94, Bool.and_true, Bool.and_false, Bool.true_and, Bool.false_and, decide_true, decide_false, Bool.not_true, Bool.not_false]) _); rw [hx])) (by (have hx : R_num v h = (k, w) := inv1.symm.trans (wh_stop _ (by simp only [R_numC, c1, c21, c63, c87, c89, c94, Bool.and_true, Bool.and_false, Bool.true_and, Bool.false_and, decide_true, decide_false, Bool.not_true, Bool.not_false]) _); rw [hx]))
                · replace c94 := (not_congr (nI_leI (a := k) (b := 0) (by omega) (by omega))).mp c94
                  refine v_aload_n hX dX6_number_89 rfl ?_
                  refine v_bipush (x := (48 : Int32)) hX dX6_number_90 (by decide) ?_
                  refine v_bipush (x := (57 : Int32)) hX dX6_number_92 (by decide) ?_
                  refine v_callVi (r := bI (R_next w (48 : Int32) (57 : Int32))) (rest := []) (ws' := wR E a w) hX (fun sz => c_X6_isNext l E a sz w (48 : Int32) (57 : Int32)) (cwV 2 hX.2.2.2.2.1 gX6_number_X6_isNext rfl rfl rfl (by decide +kernel) ⟨Nat.le_of_ble_eq_true rfl, Nat.le_of_ble_eq_true rfl⟩) ([]) ([]) ((List.append_nil _).symm) ((List.append_nil _).symm).symm (wR_fst E a _ _) (ci := 6) (q0 := 0) rfl rfl rfl rfl rfl (Nat.le_of_ble_eq_true rfl) dX6_number_94 ?_
                  refine v_if_eq (tgt := 152) hX dX6_number_97 (by decide) (fun c95 => ?_) (fun c95 => ?_)
                  · replace c95 := bI_0.mp c95
                    refine v_iload_n hX dX6_number_152 rfl ?_
                    exact v_iret hX hr hsz dX6_number_153 rfl rfl (by (have hx : R_num v h = (k, w) := inv1.symm.trans (wh_stop _ (by simp only [R_numC, c1, c21, c63, c87, c89, c94, c95, Bool.and_true, Bool.and_false, Bool.true_and, Bool.false_and, decide_true, decide_false, Bool.not_true, Bool.not_false]) _); rw [hx])) (by (have hx : R_num v h = (k, w) := inv1.symm.trans (wh_stop _ (by simp only [R_numC, c1, c21, c63, c87, c89, c94, c95, Bool.and_true, Bool.and_false, Bool.true_and, Bool.false_and, decide_true, decide_false, Bool.not_true, Bool.not_false]) _); rw [hx]))
                  · replace c95 := bI_n0.mp c95
                    have hnx := R_next_spec c95
                    have hnd := R_next_dig c95
                    refine v_bipush (x := (10 : Int32)) hX dX6_number_100 (by decide) ?_
                    refine v_iload_n hX dX6_number_102 rfl ?_
                    refine v_imul (z := nI (10 * k)) hX dX6_number_103 (pk_mul 10 k) ?_
                    refine v_aload_n hX dX6_number_104 rfl ?_
                    refine v_get (C := RX6) (T := TX6) (N := 18) (ci := 6) (v := .ref (a 5)) hX in_X6 0 rfl rfl 6 (by decide) fl_22 rfl rfl dX6_number_105 ?_
                    refine v_aload_n hX dX6_number_108 rfl ?_
                    refine v_get (C := RX6) (T := TX6) (N := 18) (ci := 6) (v := .int (nI (w.2.2.2.2.2.2.2.2.2.2.1.val))) hX in_X6 0 rfl rfl 10 (by decide) fl_132 rfl rfl dX6_number_109 ?_
                    have hb96 := (w.2.2.2.2.2.2.2.2.2.2.1).isLt
                    refine v_iald (z := nI (w.2.2.2.2.2.2.1 (w.2.2.2.2.2.2.2.2.2.2.1.val)).val) hX 5 rfl (vp_in_nI (by omega : w.2.2.2.2.2.2.2.2.2.2.1.val < 80) (by omega)) (by simp only [nI_clamp (show w.2.2.2.2.2.2.2.2.2.2.1.val < 2 ^ 31 by omega)]) dX6_number_112 ?_
                    have hb97 := (w.2.2.2.2.2.2.1 (w.2.2.2.2.2.2.2.2.2.2.1.val)).isLt
                    refine v_iadd (z := nI ((10 * k) + ((w.2.2.2.2.2.2.1 (w.2.2.2.2.2.2.2.2.2.2.1.val)).val))) hX dX6_number_113 (nI_add (10 * k) ((w.2.2.2.2.2.2.1 (w.2.2.2.2.2.2.2.2.2.2.1.val)).val)) ?_
                    refine v_bipush (x := (48 : Int32)) hX dX6_number_114 (by decide) ?_
                    refine v_isub (z := nI (((10 * k) + ((w.2.2.2.2.2.2.1 (w.2.2.2.2.2.2.2.2.2.2.1.val)).val)) - 48)) hX dX6_number_116 (pk_sub (a := (10 * k) + ((w.2.2.2.2.2.2.1 (w.2.2.2.2.2.2.2.2.2.2.1.val)).val)) (b := 48) (by omega)) ?_
                    refine v_iload_n hX dX6_number_117 rfl ?_
                    refine v_icmp_gt (tgt := 152) hX dX6_number_118 (by decide) (fun c98 => ?_) (fun c98 => ?_)
                    · replace c98 := (nI_ltI (a := h) (b := ((10 * k) + ((w.2.2.2.2.2.2.1 (w.2.2.2.2.2.2.2.2.2.2.1.val)).val)) - 48) (by omega) (by omega)).mp c98
                      refine v_iload_n hX dX6_number_152 rfl ?_
                      exact v_iret hX hr hsz dX6_number_153 rfl rfl (by (have hx : R_num v h = (k, w) := inv1.symm.trans (wh_stop _ (by simp only [R_numC, c1, c21, c63, c87, c89, c94, c95, c98, Bool.and_true, Bool.and_false, Bool.true_and, Bool.false_and, decide_true, decide_false, Bool.not_true, Bool.not_false]) _); rw [hx])) (by (have hx : R_num v h = (k, w) := inv1.symm.trans (wh_stop _ (by simp only [R_numC, c1, c21, c63, c87, c89, c94, c95, c98, Bool.and_true, Bool.and_false, Bool.true_and, Bool.false_and, decide_true, decide_false, Bool.not_true, Bool.not_false]) _); rw [hx]))
                    · replace c98 := (not_congr (nI_ltI (a := h) (b := ((10 * k) + ((w.2.2.2.2.2.2.1 (w.2.2.2.2.2.2.2.2.2.2.1.val)).val)) - 48) (by omega) (by omega))).mp c98
                      refine v_bipush (x := (10 : Int32)) hX dX6_number_121 (by decide) ?_
                      refine v_iload_n hX dX6_number_123 rfl ?_
                      refine v_imul (z := nI (10 * k)) hX dX6_number_124 (pk_mul 10 k) ?_
                      refine v_aload_n hX dX6_number_125 rfl ?_
                      refine v_get (C := RX6) (T := TX6) (N := 18) (ci := 6) (v := .ref (a 5)) hX in_X6 0 rfl rfl 6 (by decide) fl_22 rfl rfl dX6_number_126 ?_
                      refine v_aload_n hX dX6_number_129 rfl ?_
                      refine v_get (C := RX6) (T := TX6) (N := 18) (ci := 6) (v := .int (nI (w.2.2.2.2.2.2.2.2.2.2.1.val))) hX in_X6 0 rfl rfl 10 (by decide) fl_132 rfl rfl dX6_number_130 ?_
                      have hb99 := (w.2.2.2.2.2.2.2.2.2.2.1).isLt
                      refine v_iald (z := nI (w.2.2.2.2.2.2.1 (w.2.2.2.2.2.2.2.2.2.2.1.val)).val) hX 5 rfl (vp_in_nI (by omega : w.2.2.2.2.2.2.2.2.2.2.1.val < 80) (by omega)) (by simp only [nI_clamp (show w.2.2.2.2.2.2.2.2.2.2.1.val < 2 ^ 31 by omega)]) dX6_number_133 ?_
                      have hb100 := (w.2.2.2.2.2.2.1 (w.2.2.2.2.2.2.2.2.2.2.1.val)).isLt
                      refine v_iadd (z := nI ((10 * k) + ((w.2.2.2.2.2.2.1 (w.2.2.2.2.2.2.2.2.2.2.1.val)).val))) hX dX6_number_134 (nI_add (10 * k) ((w.2.2.2.2.2.2.1 (w.2.2.2.2.2.2.2.2.2.2.1.val)).val)) ?_
                      refine v_bipush (x := (48 : Int32)) hX dX6_number_135 (by decide) ?_
                      refine v_isub (z := nI (((10 * k) + ((w.2.2.2.2.2.2.1 (w.2.2.2.2.2.2.2.2.2.2.1.val)).val)) - 48)) hX dX6_number_137 (pk_sub (a := (10 * k) + ((w.2.2.2.2.2.2.1 (w.2.2.2.2.2.2.2.2.2.2.1.val)).val)) (b := 48) (by omega)) ?_
                      refine v_istore_n (lv' := [.ref (a 0), .int (nI (h)), .int (nI (((10 * k) + ((w.2.2.2.2.2.2.1 (w.2.2.2.2.2.2.2.2.2.2.1.val)).val)) - 48))]) hX dX6_number_138 (Nat.le_of_ble_eq_true rfl) (Nat.le_of_ble_eq_true rfl) rfl rfl ?_
                      refine v_aload_n hX dX6_number_139 rfl ?_
                      refine v_dup hX dX6_number_140 rfl ?_
                      refine v_get (C := RX6) (T := TX6) (N := 18) (ci := 6) (v := .int (nI (w.2.2.2.2.2.2.2.2.2.2.1.val))) hX in_X6 0 rfl rfl 10 (by decide) fl_132 rfl rfl dX6_number_141 ?_
                      have hb101 := (w.2.2.2.2.2.2.2.2.2.2.1).isLt
                      refine v_iconst (x := (1 : Int32)) hX dX6_number_144 (by decide) ?_
                      refine v_iadd (z := nI (w.2.2.2.2.2.2.2.2.2.2.1.val + 1)) hX dX6_number_145 (nI_add w.2.2.2.2.2.2.2.2.2.2.1.val 1) ?_
                      obtain ⟨v102, hv102⟩ : ∃ z_ : RV, z_ = R_setSpot w (w.2.2.2.2.2.2.2.2.2.2.1.val + 1) := ⟨_, rfl⟩
                      refine v_put (C := RX6) (T := TX6) (N := 18) (ci := 6) (v := .int (nI (w.2.2.2.2.2.2.2.2.2.2.1.val + 1))) (ty := .int) (ws' := wR E a v102) hX in_X6 tyX6 tyX6_ok nmX6 0 rfl rfl 10 (by decide) fl_132 rfl rfl (by decide +kernel) (rfl) (rfl) (Nat.le_of_ble_eq_true rfl) dX6_number_146 (by rw [hv102]; exact sR_Spot E a w (x := w.2.2.2.2.2.2.2.2.2.2.1.val + 1) (by omega : w.2.2.2.2.2.2.2.2.2.2.1.val + 1 < 81)) ?_
                      refine v_goto (tgt := 85) hX dX6_number_149 (by decide) ?_
                      exact ih (((10 * k) + ((w.2.2.2.2.2.2.1 (w.2.2.2.2.2.2.2.2.2.2.1.val)).val)) - 48) v102 (by rw [hv102, R_spot_at w (by omega : w.2.2.2.2.2.2.2.2.2.2.1.val + 1 < 81)]; omega) (by rw [hv102, ← inv1]; exact (wh_go (c := R_numC h) R_numS (x := (k, w)) (by simp only [R_numC, c1, c21, c63, c87, c89, c94, c95, c98, Bool.and_true, Bool.and_false, Bool.true_and, Bool.false_and, decide_true, decide_false, Bool.not_true, Bool.not_false]) fu).symm) (by omega)
            have e0 : (0, v90) = R_num0 v h := by subst hv90; subst hv85; simp only [R_num0, R_numW, c1, c21, c63, c87, c89, if_true, if_false, reduceIte, Bool.false_eq_true]; first | done | rfl
            exact loop_85 81 0 v90 (by omega) (congrArg (wh (R_numC h) R_numS 81) e0) (by have hle := R_num0_le v h; rw [← e0] at hle; exact hle)
