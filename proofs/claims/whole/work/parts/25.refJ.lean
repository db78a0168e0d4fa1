/-! ===== the reference reads a program ===== -/
def R_pC : RV × Nat × Bool → Bool := fun u => u.2.2
def R_pD (bd : Bool) (w : RV) (k : Nat) : RV := if bd = true then (if (R_done w).1 = true then R_setStopN (R_done w).2 (R_done w).2.2.2.2.2.2.2.2.2.2.2.2.2.2.2.2.2.2 else R_setStopN (R_done w).2 (nI k)) else R_setStopN w w.2.2.2.2.2.2.2.2.2.2.2.2.2.2.2.2.2
def R_pM (w : RV) : RV × Bool := if w.2.2.2.2.2.2.2.2.2.2.2.1 = true then (w, false) else if w.2.2.2.2.2.2.2.2.2.2.2.2.2.2.2.2.2 = -5 then (if w.2.2.2.2.2.2.2.1.val ≤ w.2.2.2.2.2.2.2.2.2.2.1.val then (w, false) else if (R_needs w 59).2.2.2.2.2.2.2.2.2.2.2.1 = true then (R_needs w 59, false) else (R_needs w 59, true)) else (w, false)
def R_pS (bd : Bool) : RV × Nat × Bool → RV × Nat × Bool := fun u => ((R_pM (R_pD bd (R_deed u.1) u.2.1)).1, u.2.1 + 1, (R_pM (R_pD bd (R_deed u.1) u.2.1)).2)
def R_prog0 (v : RV) : RV := R_setStopN (R_setSum (R_setWrong (R_setSpot v 0) false) 0) (-5)
def R_prog (v : RV) (bd : Bool) : RV × Nat × Bool := wh R_pC (R_pS bd) 82 (R_prog0 v, 0, true)
def R_progA (w : RV) : Int32 := if w.2.2.2.2.2.2.2.2.2.2.2.1 = true then nI w.2.2.2.2.2.2.2.2.2.2.1.val else -5
-- the spot never goes back
theorem R_numS_spot (h : Nat) : ∀ (n : Nat) (u : Nat × RV), u.2.2.2.2.2.2.2.2.2.2.2.1.val ≤ (wh (R_numC h) R_numS n u).2.2.2.2.2.2.2.2.2.2.2.1.val
  | 0, u => Nat.le_refl _
  | n + 1, u => by
    simp only [wh]
    split
    · rename_i hc
      refine Nat.le_trans ?_ (R_numS_spot h n _)
      simp only [R_numC, Bool.and_eq_true] at hc
      have hs := (R_next_spec hc.2.1).2
      have hl := u.2.2.2.2.2.2.2.2.1.isLt
      show _ ≤ (R_setSpot u.2 (u.2.2.2.2.2.2.2.2.2.2.2.1.val + 1)).2.2.2.2.2.2.2.2.2.2.1.val
      rw [R_spot_at _ (by omega)]
      omega
    · exact Nat.le_refl _
theorem R_num_spot (v : RV) (h : Nat) : v.2.2.2.2.2.2.2.2.2.2.1.val ≤ (R_num v h).2.2.2.2.2.2.2.2.2.2.2.1.val := by
  refine Nat.le_trans ?_ (R_numS_spot h 81 _)
  have hb := v.2.2.2.2.2.2.2.2.2.2.1.isLt
  have hl := v.2.2.2.2.2.2.2.1.isLt
  unfold R_num0
  split
  · show _ ≤ (R_setSpot _ (v.2.2.2.2.2.2.2.2.2.2.1.val + 0)).2.2.2.2.2.2.2.2.2.2.1.val
    rw [R_spot_at _ (by omega)]
    omega
  · rename_i hc
    have hw : R_numW v h = false := by simpa [R_setWrong] using hc
    have hs : v.2.2.2.2.2.2.2.2.2.2.1.val < v.2.2.2.2.2.2.2.1.val := by
      unfold R_numW at hw
      split at hw
      · cases hw
      · split at hw
        · split at hw
          · rename_i hn
            exact (R_next_spec hn).2
          · cases hw
        · split at hw
          · rename_i hn
            exact (R_next_spec hn).2
          · cases hw
    show _ ≤ (R_setSpot _ (v.2.2.2.2.2.2.2.2.2.2.1.val + 1)).2.2.2.2.2.2.2.2.2.2.1.val
    rw [R_spot_at _ (by omega)]
    omega
theorem R_needs_spot (v : RV) (z : Int32) : v.2.2.2.2.2.2.2.2.2.2.1.val ≤ (R_needs v z).2.2.2.2.2.2.2.2.2.2.1.val ∧ ((R_needs v z).2.2.2.2.2.2.2.2.2.2.2.1 = false → v.2.2.2.2.2.2.2.2.2.2.1.val < (R_needs v z).2.2.2.2.2.2.2.2.2.2.1.val) := by
  have hb := v.2.2.2.2.2.2.2.2.2.2.1.isLt
  have hl := v.2.2.2.2.2.2.2.1.isLt
  unfold R_needs
  split
  · rename_i hn
    have hs := R_next_spec hn
    have e := R_spot_at v (x := v.2.2.2.2.2.2.2.2.2.2.1.val + 1) (by omega)
    split
    · exact ⟨by show _ ≤ (R_setSpot v (v.2.2.2.2.2.2.2.2.2.2.1.val + 1)).2.2.2.2.2.2.2.2.2.2.1.val; omega, fun h => nomatch h⟩
    · exact ⟨by show _ ≤ (R_setSpot v (v.2.2.2.2.2.2.2.2.2.2.1.val + 1)).2.2.2.2.2.2.2.2.2.2.1.val; omega, fun _ => by show _ < (R_setSpot v (v.2.2.2.2.2.2.2.2.2.2.1.val + 1)).2.2.2.2.2.2.2.2.2.2.1.val; omega⟩
  · have e := R_spot_at v (x := v.2.2.2.2.2.2.2.2.2.2.1.val + 0) (by omega)
    split
    · exact ⟨by show _ ≤ (R_setSpot v (v.2.2.2.2.2.2.2.2.2.2.1.val + 0)).2.2.2.2.2.2.2.2.2.2.1.val; omega, fun h => nomatch h⟩
    · exact ⟨by show _ ≤ (R_setSpot v (v.2.2.2.2.2.2.2.2.2.2.1.val + 0)).2.2.2.2.2.2.2.2.2.2.1.val; omega, fun h => nomatch h⟩
theorem R_dL_spot (v : RV) : (R_dL v).2.2.2.2.2.2.2.2.2.2.1 = v.2.2.2.2.2.2.2.2.2.2.1 ∧ ((R_dL v).2.2.2.2.2.2.2.2.2.2.2.2.1.val ≠ 0 → v.2.2.2.2.2.2.2.2.2.2.1.val < 80) := by
  have hl := v.2.2.2.2.2.2.2.1.isLt
  unfold R_dL
  split
  · rename_i h
    exact ⟨rfl, fun _ => by have := (R_next_spec h).2; omega⟩
  · split
    · rename_i h
      exact ⟨rfl, fun _ => by have := (R_next_spec h).2; omega⟩
    · split
      · rename_i h
        exact ⟨rfl, fun _ => by have := (R_next_spec h).2; omega⟩
      · split
        · rename_i h
          exact ⟨rfl, fun _ => by have := (R_next_spec h).2; omega⟩
        · exact ⟨rfl, fun h => absurd rfl h⟩
theorem R_d2_spot (w : RV) (h : w.2.2.2.2.2.2.2.2.2.2.2.2.1.val ≠ 0 → w.2.2.2.2.2.2.2.2.2.2.1.val < 80) : (R_d2 w).2.2.2.2.2.2.2.2.2.2.1 = w.2.2.2.2.2.2.2.2.2.2.1 ∧ ((R_d2 w).2.2.2.2.2.2.2.2.2.2.2.1 = false → w.2.2.2.2.2.2.2.2.2.2.1.val < 80) := by
  unfold R_d2
  split
  · exact ⟨rfl, fun h => nomatch h⟩
  · split
    · exact ⟨rfl, fun h => nomatch h⟩
    · rename_i h2
      exact ⟨rfl, fun _ => h h2⟩
theorem R_d3_spot (w : RV) (h : w.2.2.2.2.2.2.2.2.2.2.2.1 = false → w.2.2.2.2.2.2.2.2.2.2.1.val < 80) : w.2.2.2.2.2.2.2.2.2.2.1.val ≤ (R_d3 w).2.2.2.2.2.2.2.2.2.2.1.val := by
  refine Nat.le_trans ?_ (R_num_spot (R_d3s w) 3)
  have hb := w.2.2.2.2.2.2.2.2.2.2.1.isLt
  unfold R_d3s
  split
  · rw [R_spot_at _ (by omega)]
    omega
  · rename_i hc
    have := h (by simpa using hc)
    rw [R_spot_at _ (by omega)]
    omega
theorem R_d4_spot (w : RV) : w.2.2.2.2.2.2.2.2.2.2.1.val ≤ (R_d4 w).2.2.2.2.2.2.2.2.2.2.1.val := by
  unfold R_d4
  split
  · exact Nat.le_refl _
  · exact Nat.le_trans (R_needs_spot w 46).1 (R_num_spot (R_needs w 46) 255)
theorem R_d5_spot (w : RV) : w.2.2.2.2.2.2.2.2.2.2.1.val ≤ (R_d5 w).2.2.2.2.2.2.2.2.2.2.1.val := by
  unfold R_d5
  split
  · exact Nat.le_trans (R_needs_spot w 61).1 (R_num_spot (R_needs w 61) 9999)
  · exact Nat.le_refl _
theorem R_deed_spot (v : RV) : v.2.2.2.2.2.2.2.2.2.2.1.val ≤ (R_deed v).2.2.2.2.2.2.2.2.2.2.1.val := by
  have h1 := R_dL_spot v
  have h2 := R_d2_spot (R_dL v) (by rw [h1.1]; exact h1.2)
  have h3 := R_d3_spot (R_d2 (R_dL v)) (by rw [h2.1]; exact h2.2)
  have h4 := R_d4_spot (R_d3 (R_d2 (R_dL v)))
  have h5 := R_d5_spot (R_d4 (R_d3 (R_d2 (R_dL v))))
  have e : (R_d2 (R_dL v)).2.2.2.2.2.2.2.2.2.2.1 = v.2.2.2.2.2.2.2.2.2.2.1 := h2.1.trans h1.1
  rw [e] at h3
  exact Nat.le_trans h3 (Nat.le_trans h4 h5)
theorem R_done_spot (v : RV) : (R_done v).2.2.2.2.2.2.2.2.2.2.2.1 = v.2.2.2.2.2.2.2.2.2.2.1 := by
  have hd : (R_do v).2.2.2.2.2.2.2.2.2.2.1 = v.2.2.2.2.2.2.2.2.2.2.1 := by
    unfold R_do
    split
    · rfl
    · split
      · rfl
      · split
        · rfl
        · split <;> rfl
  unfold R_done
  split
  · split
    · exact hd
    · rfl
  · exact hd
theorem R_pD_spot (bd : Bool) (w : RV) (k : Nat) : (R_pD bd w k).2.2.2.2.2.2.2.2.2.2.1 = w.2.2.2.2.2.2.2.2.2.2.1 := by
  unfold R_pD
  split
  · split
    · exact R_done_spot w
    · exact R_done_spot w
  · rfl
theorem R_pM_spot {w : RV} (h : (R_pM w).2 = true) : w.2.2.2.2.2.2.2.2.2.2.1.val < (R_pM w).1.2.2.2.2.2.2.2.2.2.2.1.val := by
  unfold R_pM at h ⊢
  split
  · rename_i h1; simp only [h1, if_true] at h; cases h
  · rename_i h1
    rw [if_neg h1] at h
    split
    · rename_i h2
      rw [if_pos h2] at h
      split
      · rename_i h3
        rw [if_pos h3] at h
        cases h
      · rename_i h3
        rw [if_neg h3] at h
        split
        · rename_i h4
          rw [if_pos h4] at h
          cases h
        · rename_i h4
          exact (R_needs_spot w 59).2 (by simpa using h4)
    · rename_i h2
      rw [if_neg h2] at h
      cases h
theorem R_pS_spot {bd : Bool} {u : RV × Nat × Bool} (h : (R_pS bd u).2.2 = true) : u.1.2.2.2.2.2.2.2.2.2.2.1.val < (R_pS bd u).1.2.2.2.2.2.2.2.2.2.2.1.val := by
  have h1 := R_pM_spot h
  rw [R_pD_spot] at h1
  exact Nat.lt_of_le_of_lt (R_deed_spot u.1) h1
theorem R_pS_dec {bd : Bool} {w w2 : RV} {k k2 : Nat} {mo : Bool} {fu : Nat} (e : R_pS bd (w, k, mo) = (w2, k2, true)) (h : 81 - w.2.2.2.2.2.2.2.2.2.2.1.val ≤ fu + 1) : 81 - w2.2.2.2.2.2.2.2.2.2.2.1.val ≤ fu := by
  have h1 := R_pS_spot (bd := bd) (u := (w, k, mo)) (by rw [e])
  rw [e] at h1
  have h2 : w.2.2.2.2.2.2.2.2.2.2.1.val < w2.2.2.2.2.2.2.2.2.2.2.1.val := h1
  omega
set_option maxHeartbeats 4000000 in
set_option maxRecDepth 100000 in
theorem c_X6_readsProgram (l : Launch) (E : ET) (a : Nat → Nat) (sz : Nat) (v : RV) (bd : Bool) : Met l yX6_readsProgram wsX6_readsProgram ({ frames := 8, cells := 0, slots := 0, locals := 190 }) (mPc E [.ref (a 0), .int (bI (bd))] sz (wR E a v)) (mQi E (R_progA (R_prog v bd).1) (wR E a v) (wR E a ((R_prog v bd).1)) sz) 0 0 (va_A (wR E a v) sz) := by
  refine v_start (cc := cX6_readsProgram) (maxL := 4) (ret := (some .int)) (by decide) rfl (Nat.le_of_ble_eq_true rfl) rfl ?_
  intro p e s m args below meth c hsz hr hX
  have hX : Xc p s m args meth c E 4 (va_A (wR E a v) sz) cX6_readsProgram RX6 wsX6_readsProgram := hX
  have in_X6 : ∀ w ∈ u_ws RX6 TX6 18, w ∈ wsX6_readsProgram := by decide +kernel
  have fl_132 : Cond.fieldLink RX6 132 RX6 "spot" "I" ∈ wsX6_readsProgram := by decide +kernel
  have fl_128 : Cond.fieldLink RX6 128 RX6 "isWrong" "Z" ∈ wsX6_readsProgram := by decide +kernel
  have fl_156 : Cond.fieldLink RX6 156 RX6 "sum" "I" ∈ wsX6_readsProgram := by decide +kernel
  have fl_159 : Cond.fieldLink RX6 159 RX6 "stopNow" "I" ∈ wsX6_readsProgram := by decide +kernel
  have fl_125 : Cond.fieldLink RX6 125 RX6 "length" "I" ∈ wsX6_readsProgram := by decide +kernel
  refine v_aload_n hX dX6_readsProgram_0 rfl ?_
  refine v_iconst (x := (0 : Int32)) hX dX6_readsProgram_1 (by decide) ?_
  obtain ⟨v1, hv1⟩ : ∃ z_ : RV, z_ = R_setSpot v (0) := ⟨_, rfl⟩
  refine v_put (C := RX6) (T := TX6) (N := 18) (ci := 6) (v := .int ((0 : Int32))) (ty := .int) (ws' := wR E a v1) hX in_X6 tyX6 tyX6_ok nmX6 0 rfl rfl 10 (by decide) fl_132 rfl rfl (by decide +kernel) (rfl) (rfl) (Nat.le_of_ble_eq_true rfl) dX6_readsProgram_2 (by rw [hv1]; exact sR_Spot E a v (x := 0) (by omega : 0 < 81)) ?_
  refine v_aload_n hX dX6_readsProgram_5 rfl ?_
  refine v_iconst (x := (0 : Int32)) hX dX6_readsProgram_6 (by decide) ?_
  obtain ⟨v3, hv3⟩ : ∃ z_ : RV, z_ = R_setWrong v1 (false) := ⟨_, rfl⟩
  refine v_put (C := RX6) (T := TX6) (N := 18) (ci := 6) (v := .int (bI (false))) (ty := .boolean) (ws' := wR E a v3) hX in_X6 tyX6 tyX6_ok nmX6 0 rfl rfl 11 (by decide) fl_128 rfl rfl (by decide +kernel) (bI_narrow _) (bI_fits _) (Nat.le_of_ble_eq_true rfl) dX6_readsProgram_7 (by rw [hv3]; exact sR_Wrong E a v1 (false)) ?_
  have hw4 : v3.2.2.2.2.2.2.2.2.2.2.2.1 = false := by rw [hv3]; rfl
  refine v_aload_n hX dX6_readsProgram_10 rfl ?_
  refine v_iconst (x := (0 : Int32)) hX dX6_readsProgram_11 (by decide) ?_
  obtain ⟨v5, hv5⟩ : ∃ z_ : RV, z_ = R_setSum v3 ((0 : Int32)) := ⟨_, rfl⟩
  refine v_put (C := RX6) (T := TX6) (N := 18) (ci := 6) (v := .int ((0 : Int32))) (ty := .int) (ws' := wR E a v5) hX in_X6 tyX6 tyX6_ok nmX6 0 rfl rfl 16 (by decide) fl_156 rfl rfl (by decide +kernel) (rfl) (rfl) (Nat.le_of_ble_eq_true rfl) dX6_readsProgram_12 (by rw [hv5]; exact sR_Sum E a v3 _) ?_
  have hw6 : v5.2.2.2.2.2.2.2.2.2.2.2.1 = false := by rw [hv5]; exact hw4
  refine v_aload_n hX dX6_readsProgram_15 rfl ?_
  refine v_bipush (x := (-5 : Int32)) hX dX6_readsProgram_16 (by decide) ?_
  obtain ⟨v7, hv7⟩ : ∃ z_ : RV, z_ = R_setStopN v5 ((-5 : Int32)) := ⟨_, rfl⟩
  refine v_put (C := RX6) (T := TX6) (N := 18) (ci := 6) (v := .int ((-5 : Int32))) (ty := .int) (ws' := wR E a v7) hX in_X6 tyX6 tyX6_ok nmX6 0 rfl rfl 17 (by decide) fl_159 rfl rfl (by decide +kernel) (rfl) (rfl) (Nat.le_of_ble_eq_true rfl) dX6_readsProgram_18 (by rw [hv7]; exact sR_StopN E a v5 _) ?_
  have hw8 : v7.2.2.2.2.2.2.2.2.2.2.2.1 = false := by rw [hv7]; exact hw6
  refine v_iconst (x := (0 : Int32)) hX dX6_readsProgram_21 (by decide) ?_
  refine v_istore_n (lv' := [.ref (a 0), .int (bI (bd)), .int ((0 : Int32))]) hX dX6_readsProgram_22 (Nat.le_of_ble_eq_true rfl) (Nat.le_of_ble_eq_true rfl) rfl rfl ?_
  refine v_iconst (x := (1 : Int32)) hX dX6_readsProgram_23 (by decide) ?_
  refine v_istore_n (lv' := [.ref (a 0), .int (bI (bd)), .int ((0 : Int32)), .int ((1 : Int32))]) hX dX6_readsProgram_24 (Nat.le_of_ble_eq_true rfl) (Nat.le_of_ble_eq_true rfl) rfl rfl ?_
  have loop_25 : ∀ (fu : Nat) (w : RV) (n : Nat) (mo : Bool), (mo = true → 81 - w.2.2.2.2.2.2.2.2.2.2.1.val ≤ fu) → wh R_pC (R_pS bd) fu (w, n, mo) = R_prog v bd → V p l e ({ frames := 8, cells := 0, slots := 0, locals := 190 } : Room) s m args below meth c E 4 (va_A (wR E a v) sz) (MQ below (mQi E (R_progA (R_prog v bd).1) (wR E a v) (wR E a ((R_prog v bd).1)) sz) args s 0 0 (va_A (wR E a v) sz)) (wR E a w) [.ref (a 0), .int (bI (bd)), .int (nI (n)), .int (bI (mo))] 25 [] := by
    intro fu
    induction fu with
    | zero =>
      intro w n mo inv0 inv1
      refine v_iload_n hX dX6_readsProgram_25 rfl ?_
      refine v_if_eq (tgt := 118) hX dX6_readsProgram_26 (by decide) (fun c9 => ?_) (fun c9 => ?_)
      · replace c9 := bI_0.mp c9
        refine v_aload_n hX dX6_readsProgram_118 rfl ?_
        refine v_get (C := RX6) (T := TX6) (N := 18) (ci := 6) (v := .int (bI (w.2.2.2.2.2.2.2.2.2.2.2.1))) hX in_X6 0 rfl rfl 11 (by decide) fl_128 rfl rfl dX6_readsProgram_119 ?_
        refine v_if_eq (tgt := 132) hX dX6_readsProgram_122 (by decide) (fun c10 => ?_) (fun c10 => ?_)
        · replace c10 := bI_0.mp c10
          refine v_bipush (x := (-5 : Int32)) hX dX6_readsProgram_132 (by decide) ?_
          exact v_iret hX hr hsz dX6_readsProgram_134 rfl rfl (by (rw [(inv1.symm.trans (wh_stop _ (show R_pC (w, n, mo) = false from c9) _))]; simp only [R_progA, c9, c10, if_true, if_false, reduceIte, Bool.false_eq_true, reduceCtorEq, decide_true, decide_false, Bool.and_true, Bool.and_false, Bool.true_and, Bool.false_and, Bool.or_true, Bool.or_false, Bool.true_or, Bool.false_or, not_true_eq_false, not_false_eq_true, Bool.not_true, Bool.not_false, eq_self, Nat.reduceEqDiff])) (by (rw [(inv1.symm.trans (wh_stop _ (show R_pC (w, n, mo) = false from c9) _))]))
        · replace c10 := bI_n0.mp c10
          refine v_aload_n hX dX6_readsProgram_125 rfl ?_
          refine v_get (C := RX6) (T := TX6) (N := 18) (ci := 6) (v := .int (nI (w.2.2.2.2.2.2.2.2.2.2.1.val))) hX in_X6 0 rfl rfl 10 (by decide) fl_132 rfl rfl dX6_readsProgram_126 ?_
          have hb11 := (w.2.2.2.2.2.2.2.2.2.2.1).isLt
          refine v_goto (tgt := 134) hX dX6_readsProgram_129 (by decide) ?_
          exact v_iret hX hr hsz dX6_readsProgram_134 rfl rfl (by (rw [(inv1.symm.trans (wh_stop _ (show R_pC (w, n, mo) = false from c9) _))]; simp only [R_progA, c9, c10, if_true, if_false, reduceIte, Bool.false_eq_true, reduceCtorEq, decide_true, decide_false, Bool.and_true, Bool.and_false, Bool.true_and, Bool.false_and, Bool.or_true, Bool.or_false, Bool.true_or, Bool.false_or, not_true_eq_false, not_false_eq_true, Bool.not_true, Bool.not_false, eq_self, Nat.reduceEqDiff])) (by (rw [(inv1.symm.trans (wh_stop _ (show R_pC (w, n, mo) = false from c9) _))]))
      · replace c9 := bI_n0.mp c9
        exfalso; have := inv0 c9; have := w.2.2.2.2.2.2.2.2.2.2.1.isLt; omega
    | succ fu ih =>
      intro w n mo inv0 inv1
      refine v_iload_n hX dX6_readsProgram_25 rfl ?_
      refine v_if_eq (tgt := 118) hX dX6_readsProgram_26 (by decide) (fun c12 => ?_) (fun c12 => ?_)
      · replace c12 := bI_0.mp c12
        refine v_aload_n hX dX6_readsProgram_118 rfl ?_
        refine v_get (C := RX6) (T := TX6) (N := 18) (ci := 6) (v := .int (bI (w.2.2.2.2.2.2.2.2.2.2.2.1))) hX in_X6 0 rfl rfl 11 (by decide) fl_128 rfl rfl dX6_readsProgram_119 ?_
        refine v_if_eq (tgt := 132) hX dX6_readsProgram_122 (by decide) (fun c13 => ?_) (fun c13 => ?_)
        · replace c13 := bI_0.mp c13
          refine v_bipush (x := (-5 : Int32)) hX dX6_readsProgram_132 (by decide) ?_
          exact v_iret hX hr hsz dX6_readsProgram_134 rfl rfl (by (rw [(inv1.symm.trans (wh_stop _ (show R_pC (w, n, mo) = false from c12) _))]; simp only [R_progA, c12, c13, if_true, if_false, reduceIte, Bool.false_eq_true, reduceCtorEq, decide_true, decide_false, Bool.and_true, Bool.and_false, Bool.true_and, Bool.false_and, Bool.or_true, Bool.or_false, Bool.true_or, Bool.false_or, not_true_eq_false, not_false_eq_true, Bool.not_true, Bool.not_false, eq_self, Nat.reduceEqDiff])) (by (rw [(inv1.symm.trans (wh_stop _ (show R_pC (w, n, mo) = false from c12) _))]))
        · replace c13 := bI_n0.mp c13
          refine v_aload_n hX dX6_readsProgram_125 rfl ?_
          refine v_get (C := RX6) (T := TX6) (N := 18) (ci := 6) (v := .int (nI (w.2.2.2.2.2.2.2.2.2.2.1.val))) hX in_X6 0 rfl rfl 10 (by decide) fl_132 rfl rfl dX6_readsProgram_126 ?_
          have hb14 := (w.2.2.2.2.2.2.2.2.2.2.1).isLt
          refine v_goto (tgt := 134) hX dX6_readsProgram_129 (by decide) ?_
          exact v_iret hX hr hsz dX6_readsProgram_134 rfl rfl (by (rw [(inv1.symm.trans (wh_stop _ (show R_pC (w, n, mo) = false from c12) _))]; simp only [R_progA, c12, c13, if_true, if_false, reduceIte, Bool.false_eq_true, reduceCtorEq, decide_true, decide_false, Bool.and_true, Bool.and_false, Bool.true_and, Bool.false_and, Bool.or_true, Bool.or_false, Bool.true_or, Bool.false_or, not_true_eq_false, not_false_eq_true, Bool.not_true, Bool.not_false, eq_self, Nat.reduceEqDiff])) (by (rw [(inv1.symm.trans (wh_stop _ (show R_pC (w, n, mo) = false from c12) _))]))
      · replace c12 := bI_n0.mp c12
        refine v_aload_n hX dX6_readsProgram_29 rfl ?_
        obtain ⟨v15, hv15⟩ : ∃ z_ : RV, z_ = R_deed w := ⟨_, rfl⟩
        refine v_callVv (rest := []) (ws' := wR E a v15) hX (fun sz => c_X6_readsDeed l E a sz w ) (cwV 0 hX.2.2.2.2.1 gX6_readsProgram_X6_readsDeed rfl rfl rfl (by decide +kernel) ⟨Nat.le_of_ble_eq_true rfl, Nat.le_of_ble_eq_true rfl⟩) ([]) ([]) ((List.append_nil _).symm) (by rw [hv15]; exact List.append_nil _) (wR_fst E a _ _) (ci := 6) (q0 := 0) rfl rfl rfl rfl rfl (Nat.le_of_ble_eq_true rfl) dX6_readsProgram_30 ?_
        refine v_aload_n hX dX6_readsProgram_33 rfl ?_
        refine v_iload_n hX dX6_readsProgram_34 rfl ?_
        refine v_if_eq (tgt := 49) hX dX6_readsProgram_35 (by decide) (fun c16 => ?_) (fun c16 => ?_)
        · replace c16 := bI_0.mp c16
          refine v_aload_n hX dX6_readsProgram_49 rfl ?_
          refine v_get (C := RX6) (T := TX6) (N := 18) (ci := 6) (v := .int (v15.2.2.2.2.2.2.2.2.2.2.2.2.2.2.2.2.2)) hX in_X6 0 rfl rfl 17 (by decide) fl_159 rfl rfl dX6_readsProgram_50 ?_
          obtain ⟨v17, hv17⟩ : ∃ z_ : RV, z_ = R_setStopN v15 (v15.2.2.2.2.2.2.2.2.2.2.2.2.2.2.2.2.2) := ⟨_, rfl⟩
          refine v_put (C := RX6) (T := TX6) (N := 18) (ci := 6) (v := .int (v15.2.2.2.2.2.2.2.2.2.2.2.2.2.2.2.2.2)) (ty := .int) (ws' := wR E a v17) hX in_X6 tyX6 tyX6_ok nmX6 0 rfl rfl 17 (by decide) fl_159 rfl rfl (by decide +kernel) (rfl) (rfl) (Nat.le_of_ble_eq_true rfl) dX6_readsProgram_53 (by rw [hv17]; exact sR_StopN E a v15 _) ?_
          refine v_iinc (y := nI (n + 1)) (lv' := [.ref (a 0), .int (bI (bd)), .int (nI (n + 1)), .int (bI (mo))]) hX dX6_readsProgram_56 rfl (nI_inc _) (Nat.le_of_ble_eq_true rfl) (Nat.le_of_ble_eq_true rfl) rfl rfl ?_
          refine v_aload_n hX dX6_readsProgram_59 rfl ?_
          refine v_get (C := RX6) (T := TX6) (N := 18) (ci := 6) (v := .int (bI (v17.2.2.2.2.2.2.2.2.2.2.2.1))) hX in_X6 0 rfl rfl 11 (by decide) fl_128 rfl rfl dX6_readsProgram_60 ?_
          refine v_if_ne (tgt := 90) hX dX6_readsProgram_63 (by decide) (fun c19 => ?_) (fun c19 => ?_)
          · replace c19 := bI_n0.mp c19
            refine v_iconst (x := (0 : Int32)) hX dX6_readsProgram_90 (by decide) ?_
            refine v_istore_n (lv' := [.ref (a 0), .int (bI (bd)), .int (nI (n + 1)), .int ((0 : Int32))]) hX dX6_readsProgram_91 (Nat.le_of_ble_eq_true rfl) (Nat.le_of_ble_eq_true rfl) rfl rfl ?_
            refine v_iload_n hX dX6_readsProgram_92 rfl ?_
            refine v_if_eq (tgt := 25) hX dX6_readsProgram_93 (by decide) (fun c20 => ?_) (fun c20 => ?_)
            · replace c20 := (nI_eq (a := 0) (b := 0) (by omega) (by omega)).mp c20
              have c20t := eq_true c20
              exact ih v17 (n + 1) false (fun h => nomatch h) (by rw [← (show R_pS bd (w, n, mo) = (v17, n + 1, false) from by subst hv17; subst hv15; subst hv7; subst hv5; subst hv3; subst hv1; simp only [R_pS, R_pM, R_pD, c12, c16, c19, c20t, if_true, if_false, reduceIte, Bool.false_eq_true, reduceCtorEq, decide_true, decide_false, Bool.and_true, Bool.and_false, Bool.true_and, Bool.false_and, Bool.or_true, Bool.or_false, Bool.true_or, Bool.false_or, not_true_eq_false, not_false_eq_true, Bool.not_true, Bool.not_false, eq_self, Nat.reduceEqDiff])]; exact (wh_go (c := R_pC) (R_pS bd) (x := (w, n, mo)) c12 fu).symm.trans inv1)
            · replace c20 := (not_congr (nI_eq (a := 0) (b := 0) (by omega) (by omega))).mp c20
              exfalso; omega
          · replace c19 := bI_0.mp c19
            refine v_aload_n hX dX6_readsProgram_66 rfl ?_
            refine v_get (C := RX6) (T := TX6) (N := 18) (ci := 6) (v := .int (v17.2.2.2.2.2.2.2.2.2.2.2.2.2.2.2.2.2)) hX in_X6 0 rfl rfl 17 (by decide) fl_159 rfl rfl dX6_readsProgram_67 ?_
            refine v_bipush (x := (-5 : Int32)) hX dX6_readsProgram_70 (by decide) ?_
            refine v_icmp_ne (tgt := 90) hX dX6_readsProgram_72 (by decide) (fun c21 => ?_) (fun c21 => ?_)
            · refine v_iconst (x := (0 : Int32)) hX dX6_readsProgram_90 (by decide) ?_
              refine v_istore_n (lv' := [.ref (a 0), .int (bI (bd)), .int (nI (n + 1)), .int ((0 : Int32))]) hX dX6_readsProgram_91 (Nat.le_of_ble_eq_true rfl) (Nat.le_of_ble_eq_true rfl) rfl rfl ?_
              refine v_iload_n hX dX6_readsProgram_92 rfl ?_
              refine v_if_eq (tgt := 25) hX dX6_readsProgram_93 (by decide) (fun c22 => ?_) (fun c22 => ?_)
              · replace c22 := (nI_eq (a := 0) (b := 0) (by omega) (by omega)).mp c22
                have c22t := eq_true c22
                exact ih v17 (n + 1) false (fun h => nomatch h) (by rw [← (show R_pS bd (w, n, mo) = (v17, n + 1, false) from by subst hv17; subst hv15; subst hv7; subst hv5; subst hv3; subst hv1; simp only [R_pS, R_pM, R_pD, c12, c16, c19, c21, c22t, if_true, if_false, reduceIte, Bool.false_eq_true, reduceCtorEq, decide_true, decide_false, Bool.and_true, Bool.and_false, Bool.true_and, Bool.false_and, Bool.or_true, Bool.or_false, Bool.true_or, Bool.false_or, not_true_eq_false, not_false_eq_true, Bool.not_true, Bool.not_false, eq_self, Nat.reduceEqDiff])]; exact (wh_go (c := R_pC) (R_pS bd) (x := (w, n, mo)) c12 fu).symm.trans inv1)
              · replace c22 := (not_congr (nI_eq (a := 0) (b := 0) (by omega) (by omega))).mp c22
                exfalso; omega
            · have c21t := eq_true c21
              refine v_aload_n hX dX6_readsProgram_75 rfl ?_
              refine v_get (C := RX6) (T := TX6) (N := 18) (ci := 6) (v := .int (nI (v17.2.2.2.2.2.2.2.2.2.2.1.val))) hX in_X6 0 rfl rfl 10 (by decide) fl_132 rfl rfl dX6_readsProgram_76 ?_
              have hb23 := (v17.2.2.2.2.2.2.2.2.2.2.1).isLt
              refine v_aload_n hX dX6_readsProgram_79 rfl ?_
              refine v_get (C := RX6) (T := TX6) (N := 18) (ci := 6) (v := .int (nI (v17.2.2.2.2.2.2.2.1.val))) hX in_X6 0 rfl rfl 7 (by decide) fl_125 rfl rfl dX6_readsProgram_80 ?_
              have hb24 := (v17.2.2.2.2.2.2.2.1).isLt
              refine v_icmp_ge (tgt := 90) hX dX6_readsProgram_83 (by decide) (fun c25 => ?_) (fun c25 => ?_)
              · replace c25 := (nI_leI (a := v17.2.2.2.2.2.2.2.1.val) (b := v17.2.2.2.2.2.2.2.2.2.2.1.val) (by omega) (by omega)).mp c25
                refine v_iconst (x := (0 : Int32)) hX dX6_readsProgram_90 (by decide) ?_
                refine v_istore_n (lv' := [.ref (a 0), .int (bI (bd)), .int (nI (n + 1)), .int ((0 : Int32))]) hX dX6_readsProgram_91 (Nat.le_of_ble_eq_true rfl) (Nat.le_of_ble_eq_true rfl) rfl rfl ?_
                refine v_iload_n hX dX6_readsProgram_92 rfl ?_
                refine v_if_eq (tgt := 25) hX dX6_readsProgram_93 (by decide) (fun c26 => ?_) (fun c26 => ?_)
                · replace c26 := (nI_eq (a := 0) (b := 0) (by omega) (by omega)).mp c26
                  have c26t := eq_true c26
                  exact ih v17 (n + 1) false (fun h => nomatch h) (by rw [← (show R_pS bd (w, n, mo) = (v17, n + 1, false) from by subst hv17; subst hv15; subst hv7; subst hv5; subst hv3; subst hv1; simp only [R_pS, R_pM, R_pD, c12, c16, c19, c21t, c25, c26t, if_true, if_false, reduceIte, Bool.false_eq_true, reduceCtorEq, decide_true, decide_false, Bool.and_true, Bool.and_false, Bool.true_and, Bool.false_and, Bool.or_true, Bool.or_false, Bool.true_or, Bool.false_or, not_true_eq_false, not_false_eq_true, Bool.not_true, Bool.not_false, eq_self, Nat.reduceEqDiff])]; exact (wh_go (c := R_pC) (R_pS bd) (x := (w, n, mo)) c12 fu).symm.trans inv1)
                · replace c26 := (not_congr (nI_eq (a := 0) (b := 0) (by omega) (by omega))).mp c26
                  exfalso; omega
              · replace c25 := (not_congr (nI_leI (a := v17.2.2.2.2.2.2.2.1.val) (b := v17.2.2.2.2.2.2.2.2.2.2.1.val) (by omega) (by omega))).mp c25
                refine v_iconst (x := (1 : Int32)) hX dX6_readsProgram_86 (by decide) ?_
                refine v_goto (tgt := 91) hX dX6_readsProgram_87 (by decide) ?_
                refine v_istore_n (lv' := [.ref (a 0), .int (bI (bd)), .int (nI (n + 1)), .int ((1 : Int32))]) hX dX6_readsProgram_91 (Nat.le_of_ble_eq_true rfl) (Nat.le_of_ble_eq_true rfl) rfl rfl ?_
                refine v_iload_n hX dX6_readsProgram_92 rfl ?_
                refine v_if_eq (tgt := 25) hX dX6_readsProgram_93 (by decide) (fun c27 => ?_) (fun c27 => ?_)
                · replace c27 := (nI_eq (a := 1) (b := 0) (by omega) (by omega)).mp c27
                  have c27t := eq_true c27
                  exfalso; omega
                · replace c27 := (not_congr (nI_eq (a := 1) (b := 0) (by omega) (by omega))).mp c27
                  refine v_aload_n hX dX6_readsProgram_96 rfl ?_
                  refine v_bipush (x := (59 : Int32)) hX dX6_readsProgram_97 (by decide) ?_
                  obtain ⟨v28, hv28⟩ : ∃ z_ : RV, z_ = R_needs v17 (59 : Int32) := ⟨_, rfl⟩
                  refine v_callVv (rest := []) (ws' := wR E a v28) hX (fun sz => c_X6_needs l E a sz v17 (59 : Int32)) (cwV 1 hX.2.2.2.2.1 gX6_readsProgram_X6_needs rfl rfl rfl (by decide +kernel) ⟨Nat.le_of_ble_eq_true rfl, Nat.le_of_ble_eq_true rfl⟩) ([]) ([]) ((List.append_nil _).symm) (by rw [hv28]; exact List.append_nil _) (wR_fst E a _ _) (ci := 6) (q0 := 0) rfl rfl rfl rfl rfl (Nat.le_of_ble_eq_true rfl) dX6_readsProgram_99 ?_
                  refine v_aload_n hX dX6_readsProgram_102 rfl ?_
                  refine v_get (C := RX6) (T := TX6) (N := 18) (ci := 6) (v := .int (bI (v28.2.2.2.2.2.2.2.2.2.2.2.1))) hX in_X6 0 rfl rfl 11 (by decide) fl_128 rfl rfl dX6_readsProgram_103 ?_
                  refine v_if_ne (tgt := 113) hX dX6_readsProgram_106 (by decide) (fun c29 => ?_) (fun c29 => ?_)
                  · replace c29 := bI_n0.mp c29
                    refine v_iconst (x := (0 : Int32)) hX dX6_readsProgram_113 (by decide) ?_
                    refine v_istore_n (lv' := [.ref (a 0), .int (bI (bd)), .int (nI (n + 1)), .int ((0 : Int32))]) hX dX6_readsProgram_114 (Nat.le_of_ble_eq_true rfl) (Nat.le_of_ble_eq_true rfl) rfl rfl ?_
                    refine v_goto (tgt := 25) hX dX6_readsProgram_115 (by decide) ?_
                    exact ih v28 (n + 1) false (fun h => nomatch h) (by rw [← (show R_pS bd (w, n, mo) = (v28, n + 1, false) from by subst hv28; subst hv17; subst hv15; subst hv7; subst hv5; subst hv3; subst hv1; simp only [R_pS, R_pM, R_pD, c12, c16, c19, c21t, c25, c27, c29, if_true, if_false, reduceIte, Bool.false_eq_true, reduceCtorEq, decide_true, decide_false, Bool.and_true, Bool.and_false, Bool.true_and, Bool.false_and, Bool.or_true, Bool.or_false, Bool.true_or, Bool.false_or, not_true_eq_false, not_false_eq_true, Bool.not_true, Bool.not_false, eq_self, Nat.reduceEqDiff])]; exact (wh_go (c := R_pC) (R_pS bd) (x := (w, n, mo)) c12 fu).symm.trans inv1)
                  · replace c29 := bI_0.mp c29
                    refine v_iconst (x := (1 : Int32)) hX dX6_readsProgram_109 (by decide) ?_
                    refine v_goto (tgt := 114) hX dX6_readsProgram_110 (by decide) ?_
                    refine v_istore_n (lv' := [.ref (a 0), .int (bI (bd)), .int (nI (n + 1)), .int ((1 : Int32))]) hX dX6_readsProgram_114 (Nat.le_of_ble_eq_true rfl) (Nat.le_of_ble_eq_true rfl) rfl rfl ?_
                    refine v_goto (tgt := 25) hX dX6_readsProgram_115 (by decide) ?_
                    exact ih v28 (n + 1) true (fun _ => R_pS_dec (show R_pS bd (w, n, mo) = (v28, n + 1, true) from by subst hv28; subst hv17; subst hv15; subst hv7; subst hv5; subst hv3; subst hv1; simp only [R_pS, R_pM, R_pD, c12, c16, c19, c21t, c25, c27, c29, if_true, if_false, reduceIte, Bool.false_eq_true, reduceCtorEq, decide_true, decide_false, Bool.and_true, Bool.and_false, Bool.true_and, Bool.false_and, Bool.or_true, Bool.or_false, Bool.true_or, Bool.false_or, not_true_eq_false, not_false_eq_true, Bool.not_true, Bool.not_false, eq_self, Nat.reduceEqDiff]) (inv0 c12)) (by rw [← (show R_pS bd (w, n, mo) = (v28, n + 1, true) from by subst hv28; subst hv17; subst hv15; subst hv7; subst hv5; subst hv3; subst hv1; simp only [R_pS, R_pM, R_pD, c12, c16, c19, c21t, c25, c27, c29, if_true, if_false, reduceIte, Bool.false_eq_true, reduceCtorEq, decide_true, decide_false, Bool.and_true, Bool.and_false, Bool.true_and, Bool.false_and, Bool.or_true, Bool.or_false, Bool.true_or, Bool.false_or, not_true_eq_false, not_false_eq_true, Bool.not_true, Bool.not_false, eq_self, Nat.reduceEqDiff])]; exact (wh_go (c := R_pC) (R_pS bd) (x := (w, n, mo)) c12 fu).symm.trans inv1)
        · replace c16 := bI_n0.mp c16
          refine v_aload_n hX dX6_readsProgram_38 rfl ?_
          obtain ⟨v30, hv30⟩ : ∃ z_ : RV, z_ = (R_done v15).2 := ⟨_, rfl⟩
          refine v_callVi (r := bI ((R_done v15).1)) (rest := [.ref (a 0)]) (ws' := wR E a v30) hX (fun sz => c_X6_isDone l E a sz v15 ) (cwV 0 hX.2.2.2.2.1 gX6_readsProgram_X6_isDone rfl rfl rfl (by decide +kernel) ⟨Nat.le_of_ble_eq_true rfl, Nat.le_of_ble_eq_true rfl⟩) ([]) ([]) ((List.append_nil _).symm) (by rw [hv30]; exact List.append_nil _) (wR_fst E a _ _) (ci := 6) (q0 := 0) rfl rfl rfl rfl rfl (Nat.le_of_ble_eq_true rfl) dX6_readsProgram_39 ?_
          refine v_if_ne (tgt := 49) hX dX6_readsProgram_42 (by decide) (fun c31 => ?_) (fun c31 => ?_)
          · replace c31 := bI_n0.mp c31
            refine v_aload_n hX dX6_readsProgram_49 rfl ?_
            refine v_get (C := RX6) (T := TX6) (N := 18) (ci := 6) (v := .int (v30.2.2.2.2.2.2.2.2.2.2.2.2.2.2.2.2.2)) hX in_X6 0 rfl rfl 17 (by decide) fl_159 rfl rfl dX6_readsProgram_50 ?_
            obtain ⟨v32, hv32⟩ : ∃ z_ : RV, z_ = R_setStopN v30 (v30.2.2.2.2.2.2.2.2.2.2.2.2.2.2.2.2.2) := ⟨_, rfl⟩
            refine v_put (C := RX6) (T := TX6) (N := 18) (ci := 6) (v := .int (v30.2.2.2.2.2.2.2.2.2.2.2.2.2.2.2.2.2)) (ty := .int) (ws' := wR E a v32) hX in_X6 tyX6 tyX6_ok nmX6 0 rfl rfl 17 (by decide) fl_159 rfl rfl (by decide +kernel) (rfl) (rfl) (Nat.le_of_ble_eq_true rfl) dX6_readsProgram_53 (by rw [hv32]; exact sR_StopN E a v30 _) ?_
            refine v_iinc (y := nI (n + 1)) (lv' := [.ref (a 0), .int (bI (bd)), .int (nI (n + 1)), .int (bI (mo))]) hX dX6_readsProgram_56 rfl (nI_inc _) (Nat.le_of_ble_eq_true rfl) (Nat.le_of_ble_eq_true rfl) rfl rfl ?_
            refine v_aload_n hX dX6_readsProgram_59 rfl ?_
            refine v_get (C := RX6) (T := TX6) (N := 18) (ci := 6) (v := .int (bI (v32.2.2.2.2.2.2.2.2.2.2.2.1))) hX in_X6 0 rfl rfl 11 (by decide) fl_128 rfl rfl dX6_readsProgram_60 ?_
            refine v_if_ne (tgt := 90) hX dX6_readsProgram_63 (by decide) (fun c34 => ?_) (fun c34 => ?_)
            · replace c34 := bI_n0.mp c34
              refine v_iconst (x := (0 : Int32)) hX dX6_readsProgram_90 (by decide) ?_
              refine v_istore_n (lv' := [.ref (a 0), .int (bI (bd)), .int (nI (n + 1)), .int ((0 : Int32))]) hX dX6_readsProgram_91 (Nat.le_of_ble_eq_true rfl) (Nat.le_of_ble_eq_true rfl) rfl rfl ?_
              refine v_iload_n hX dX6_readsProgram_92 rfl ?_
              refine v_if_eq (tgt := 25) hX dX6_readsProgram_93 (by decide) (fun c35 => ?_) (fun c35 => ?_)
              · replace c35 := (nI_eq (a := 0) (b := 0) (by omega) (by omega)).mp c35
                have c35t := eq_true c35
                exact ih v32 (n + 1) false (fun h => nomatch h) (by rw [← (show R_pS bd (w, n, mo) = (v32, n + 1, false) from by subst hv32; subst hv30; subst hv15; subst hv7; subst hv5; subst hv3; subst hv1; simp only [R_pS, R_pM, R_pD, c12, c16, c31, c34, c35t, if_true, if_false, reduceIte, Bool.false_eq_true, reduceCtorEq, decide_true, decide_false, Bool.and_true, Bool.and_false, Bool.true_and, Bool.false_and, Bool.or_true, Bool.or_false, Bool.true_or, Bool.false_or, not_true_eq_false, not_false_eq_true, Bool.not_true, Bool.not_false, eq_self, Nat.reduceEqDiff])]; exact (wh_go (c := R_pC) (R_pS bd) (x := (w, n, mo)) c12 fu).symm.trans inv1)
              · replace c35 := (not_congr (nI_eq (a := 0) (b := 0) (by omega) (by omega))).mp c35
                exfalso; omega
            · replace c34 := bI_0.mp c34
              refine v_aload_n hX dX6_readsProgram_66 rfl ?_
              refine v_get (C := RX6) (T := TX6) (N := 18) (ci := 6) (v := .int (v32.2.2.2.2.2.2.2.2.2.2.2.2.2.2.2.2.2)) hX in_X6 0 rfl rfl 17 (by decide) fl_159 rfl rfl dX6_readsProgram_67 ?_
              refine v_bipush (x := (-5 : Int32)) hX dX6_readsProgram_70 (by decide) ?_
              refine v_icmp_ne (tgt := 90) hX dX6_readsProgram_72 (by decide) (fun c36 => ?_) (fun c36 => ?_)
              · refine v_iconst (x := (0 : Int32)) hX dX6_readsProgram_90 (by decide) ?_
                refine v_istore_n (lv' := [.ref (a 0), .int (bI (bd)), .int (nI (n + 1)), .int ((0 : Int32))]) hX dX6_readsProgram_91 (Nat.le_of_ble_eq_true rfl) (Nat.le_of_ble_eq_true rfl) rfl rfl ?_
                refine v_iload_n hX dX6_readsProgram_92 rfl ?_
                refine v_if_eq (tgt := 25) hX dX6_readsProgram_93 (by decide) (fun c37 => ?_) (fun c37 => ?_)
                · replace c37 := (nI_eq (a := 0) (b := 0) (by omega) (by omega)).mp c37
                  have c37t := eq_true c37
                  exact ih v32 (n + 1) false (fun h => nomatch h) (by rw [← (show R_pS bd (w, n, mo) = (v32, n + 1, false) from by subst hv32; subst hv30; subst hv15; subst hv7; subst hv5; subst hv3; subst hv1; simp only [R_pS, R_pM, R_pD, c12, c16, c31, c34, c36, c37t, if_true, if_false, reduceIte, Bool.false_eq_true, reduceCtorEq, decide_true, decide_false, Bool.and_true, Bool.and_false, Bool.true_and, Bool.false_and, Bool.or_true, Bool.or_false, Bool.true_or, Bool.false_or, not_true_eq_false, not_false_eq_true, Bool.not_true, Bool.not_false, eq_self, Nat.reduceEqDiff])]; exact (wh_go (c := R_pC) (R_pS bd) (x := (w, n, mo)) c12 fu).symm.trans inv1)
                · replace c37 := (not_congr (nI_eq (a := 0) (b := 0) (by omega) (by omega))).mp c37
                  exfalso; omega
              · have c36t := eq_true c36
                refine v_aload_n hX dX6_readsProgram_75 rfl ?_
                refine v_get (C := RX6) (T := TX6) (N := 18) (ci := 6) (v := .int (nI (v32.2.2.2.2.2.2.2.2.2.2.1.val))) hX in_X6 0 rfl rfl 10 (by decide) fl_132 rfl rfl dX6_readsProgram_76 ?_
                have hb38 := (v32.2.2.2.2.2.2.2.2.2.2.1).isLt
                refine v_aload_n hX dX6_readsProgram_79 rfl ?_
                refine v_get (C := RX6) (T := TX6) (N := 18) (ci := 6) (v := .int (nI (v32.2.2.2.2.2.2.2.1.val))) hX in_X6 0 rfl rfl 7 (by decide) fl_125 rfl rfl dX6_readsProgram_80 ?_
                have hb39 := (v32.2.2.2.2.2.2.2.1).isLt
                refine v_icmp_ge (tgt := 90) hX dX6_readsProgram_83 (by decide) (fun c40 => ?_) (fun c40 => ?_)
                · replace c40 := (nI_leI (a := v32.2.2.2.2.2.2.2.1.val) (b := v32.2.2.2.2.2.2.2.2.2.2.1.val) (by omega) (by omega)).mp c40
                  refine v_iconst (x := (0 : Int32)) hX dX6_readsProgram_90 (by decide) ?_
                  refine v_istore_n (lv' := [.ref (a 0), .int (bI (bd)), .int (nI (n + 1)), .int ((0 : Int32))]) hX dX6_readsProgram_91 (Nat.le_of_ble_eq_true rfl) (Nat.le_of_ble_eq_true rfl) rfl rfl ?_
                  refine v_iload_n hX dX6_readsProgram_92 rfl ?_
                  refine v_if_eq (tgt := 25) hX dX6_readsProgram_93 (by decide) (fun c41 => ?_) (fun c41 => ?_)
                  · replace c41 := (nI_eq (a := 0) (b := 0) (by omega) (by omega)).mp c41
                    have c41t := eq_true c41
                    exact ih v32 (n + 1) false (fun h => nomatch h) (by rw [← (show R_pS bd (w, n, mo) = (v32, n + 1, false) from by subst hv32; subst hv30; subst hv15; subst hv7; subst hv5; subst hv3; subst hv1; simp only [R_pS, R_pM, R_pD, c12, c16, c31, c34, c36t, c40, c41t, if_true, if_false, reduceIte, Bool.false_eq_true, reduceCtorEq, decide_true, decide_false, Bool.and_true, Bool.and_false, Bool.true_and, Bool.false_and, Bool.or_true, Bool.or_false, Bool.true_or, Bool.false_or, not_true_eq_false, not_false_eq_true, Bool.not_true, Bool.not_false, eq_self, Nat.reduceEqDiff])]; exact (wh_go (c := R_pC) (R_pS bd) (x := (w, n, mo)) c12 fu).symm.trans inv1)
                  · replace c41 := (not_congr (nI_eq (a := 0) (b := 0) (by omega) (by omega))).mp c41
                    exfalso; omega
                · replace c40 := (not_congr (nI_leI (a := v32.2.2.2.2.2.2.2.1.val) (b := v32.2.2.2.2.2.2.2.2.2.2.1.val) (by omega) (by omega))).mp c40
                  refine v_iconst (x := (1 : Int32)) hX dX6_readsProgram_86 (by decide) ?_
                  refine v_goto (tgt := 91) hX dX6_readsProgram_87 (by decide) ?_
                  refine v_istore_n (lv' := [.ref (a 0), .int (bI (bd)), .int (nI (n + 1)), .int ((1 : Int32))]) hX dX6_readsProgram_91 (Nat.le_of_ble_eq_true rfl) (Nat.le_of_ble_eq_true rfl) rfl rfl ?_
                  refine v_iload_n hX dX6_readsProgram_92 rfl ?_
                  refine v_if_eq (tgt := 25) hX dX6_readsProgram_93 (by decide) (fun c42 => ?_) (fun c42 => ?_)
                  · replace c42 := (nI_eq (a := 1) (b := 0) (by omega) (by omega)).mp c42
                    have c42t := eq_true c42
                    exfalso; omega
                  · replace c42 := (not_congr (nI_eq (a := 1) (b := 0) (by omega) (by omega))).mp c42
                    refine v_aload_n hX dX6_readsProgram_96 rfl ?_
                    refine v_bipush (x := (59 : Int32)) hX dX6_readsProgram_97 (by decide) ?_
                    obtain ⟨v43, hv43⟩ : ∃ z_ : RV, z_ = R_needs v32 (59 : Int32) := ⟨_, rfl⟩
                    refine v_callVv (rest := []) (ws' := wR E a v43) hX (fun sz => c_X6_needs l E a sz v32 (59 : Int32)) (cwV 1 hX.2.2.2.2.1 gX6_readsProgram_X6_needs rfl rfl rfl (by decide +kernel) ⟨Nat.le_of_ble_eq_true rfl, Nat.le_of_ble_eq_true rfl⟩) ([]) ([]) ((List.append_nil _).symm) (by rw [hv43]; exact List.append_nil _) (wR_fst E a _ _) (ci := 6) (q0 := 0) rfl rfl rfl rfl rfl (Nat.le_of_ble_eq_true rfl) dX6_readsProgram_99 ?_
                    refine v_aload_n hX dX6_readsProgram_102 rfl ?_
                    refine v_get (C := RX6) (T := TX6) (N := 18) (ci := 6) (v := .int (bI (v43.2.2.2.2.2.2.2.2.2.2.2.1))) hX in_X6 0 rfl rfl 11 (by decide) fl_128 rfl rfl dX6_readsProgram_103 ?_
                    refine v_if_ne (tgt := 113) hX dX6_readsProgram_106 (by decide) (fun c44 => ?_) (fun c44 => ?_)
                    · replace c44 := bI_n0.mp c44
                      refine v_iconst (x := (0 : Int32)) hX dX6_readsProgram_113 (by decide) ?_
                      refine v_istore_n (lv' := [.ref (a 0), .int (bI (bd)), .int (nI (n + 1)), .int ((0 : Int32))]) hX dX6_readsProgram_114 (Nat.le_of_ble_eq_true rfl) (Nat.le_of_ble_eq_true rfl) rfl rfl ?_
                      refine v_goto (tgt := 25) hX dX6_readsProgram_115 (by decide) ?_
                      exact ih v43 (n + 1) false (fun h => nomatch h) (by rw [← (show R_pS bd (w, n, mo) = (v43, n + 1, false) from by subst hv43; subst hv32; subst hv30; subst hv15; subst hv7; subst hv5; subst hv3; subst hv1; simp only [R_pS, R_pM, R_pD, c12, c16, c31, c34, c36t, c40, c42, c44, if_true, if_false, reduceIte, Bool.false_eq_true, reduceCtorEq, decide_true, decide_false, Bool.and_true, Bool.and_false, Bool.true_and, Bool.false_and, Bool.or_true, Bool.or_false, Bool.true_or, Bool.false_or, not_true_eq_false, not_false_eq_true, Bool.not_true, Bool.not_false, eq_self, Nat.reduceEqDiff])]; exact (wh_go (c := R_pC) (R_pS bd) (x := (w, n, mo)) c12 fu).symm.trans inv1)
                    · replace c44 := bI_0.mp c44
                      refine v_iconst (x := (1 : Int32)) hX dX6_readsProgram_109 (by decide) ?_
                      refine v_goto (tgt := 114) hX dX6_readsProgram_110 (by decide) ?_
                      refine v_istore_n (lv' := [.ref (a 0), .int (bI (bd)), .int (nI (n + 1)), .int ((1 : Int32))]) hX dX6_readsProgram_114 (Nat.le_of_ble_eq_true rfl) (Nat.le_of_ble_eq_true rfl) rfl rfl ?_
                      refine v_goto (tgt := 25) hX dX6_readsProgram_115 (by decide) ?_
                      exact ih v43 (n + 1) true (fun _ => R_pS_dec (show R_pS bd (w, n, mo) = (v43, n + 1, true) from by subst hv43; subst hv32; subst hv30; subst hv15; subst hv7; subst hv5; subst hv3; subst hv1; simp only [R_pS, R_pM, R_pD, c12, c16, c31, c34, c36t, c40, c42, c44, if_true, if_false, reduceIte, Bool.false_eq_true, reduceCtorEq, decide_true, decide_false, Bool.and_true, Bool.and_false, Bool.true_and, Bool.false_and, Bool.or_true, Bool.or_false, Bool.true_or, Bool.false_or, not_true_eq_false, not_false_eq_true, Bool.not_true, Bool.not_false, eq_self, Nat.reduceEqDiff]) (inv0 c12)) (by rw [← (show R_pS bd (w, n, mo) = (v43, n + 1, true) from by subst hv43; subst hv32; subst hv30; subst hv15; subst hv7; subst hv5; subst hv3; subst hv1; simp only [R_pS, R_pM, R_pD, c12, c16, c31, c34, c36t, c40, c42, c44, if_true, if_false, reduceIte, Bool.false_eq_true, reduceCtorEq, decide_true, decide_false, Bool.and_true, Bool.and_false, Bool.true_and, Bool.false_and, Bool.or_true, Bool.or_false, Bool.true_or, Bool.false_or, not_true_eq_false, not_false_eq_true, Bool.not_true, Bool.not_false, eq_self, Nat.reduceEqDiff])]; exact (wh_go (c := R_pC) (R_pS bd) (x := (w, n, mo)) c12 fu).symm.trans inv1)
          · replace c31 := bI_0.mp c31
            refine v_iload_n hX dX6_readsProgram_45 rfl ?_
            refine v_goto (tgt := 53) hX dX6_readsProgram_46 (by decide) ?_
            obtain ⟨v45, hv45⟩ : ∃ z_ : RV, z_ = R_setStopN v30 (nI (n)) := ⟨_, rfl⟩
            refine v_put (C := RX6) (T := TX6) (N := 18) (ci := 6) (v := .int (nI (n))) (ty := .int) (ws' := wR E a v45) hX in_X6 tyX6 tyX6_ok nmX6 0 rfl rfl 17 (by decide) fl_159 rfl rfl (by decide +kernel) (rfl) (rfl) (Nat.le_of_ble_eq_true rfl) dX6_readsProgram_53 (by rw [hv45]; exact sR_StopN E a v30 _) ?_
            refine v_iinc (y := nI (n + 1)) (lv' := [.ref (a 0), .int (bI (bd)), .int (nI (n + 1)), .int (bI (mo))]) hX dX6_readsProgram_56 rfl (nI_inc _) (Nat.le_of_ble_eq_true rfl) (Nat.le_of_ble_eq_true rfl) rfl rfl ?_
            refine v_aload_n hX dX6_readsProgram_59 rfl ?_
            refine v_get (C := RX6) (T := TX6) (N := 18) (ci := 6) (v := .int (bI (v45.2.2.2.2.2.2.2.2.2.2.2.1))) hX in_X6 0 rfl rfl 11 (by decide) fl_128 rfl rfl dX6_readsProgram_60 ?_
            refine v_if_ne (tgt := 90) hX dX6_readsProgram_63 (by decide) (fun c47 => ?_) (fun c47 => ?_)
            · replace c47 := bI_n0.mp c47
              refine v_iconst (x := (0 : Int32)) hX dX6_readsProgram_90 (by decide) ?_
              refine v_istore_n (lv' := [.ref (a 0), .int (bI (bd)), .int (nI (n + 1)), .int ((0 : Int32))]) hX dX6_readsProgram_91 (Nat.le_of_ble_eq_true rfl) (Nat.le_of_ble_eq_true rfl) rfl rfl ?_
              refine v_iload_n hX dX6_readsProgram_92 rfl ?_
              refine v_if_eq (tgt := 25) hX dX6_readsProgram_93 (by decide) (fun c48 => ?_) (fun c48 => ?_)
              · replace c48 := (nI_eq (a := 0) (b := 0) (by omega) (by omega)).mp c48
                have c48t := eq_true c48
                exact ih v45 (n + 1) false (fun h => nomatch h) (by rw [← (show R_pS bd (w, n, mo) = (v45, n + 1, false) from by subst hv45; subst hv30; subst hv15; subst hv7; subst hv5; subst hv3; subst hv1; simp only [R_pS, R_pM, R_pD, c12, c16, c31, c47, c48t, if_true, if_false, reduceIte, Bool.false_eq_true, reduceCtorEq, decide_true, decide_false, Bool.and_true, Bool.and_false, Bool.true_and, Bool.false_and, Bool.or_true, Bool.or_false, Bool.true_or, Bool.false_or, not_true_eq_false, not_false_eq_true, Bool.not_true, Bool.not_false, eq_self, Nat.reduceEqDiff])]; exact (wh_go (c := R_pC) (R_pS bd) (x := (w, n, mo)) c12 fu).symm.trans inv1)
              · replace c48 := (not_congr (nI_eq (a := 0) (b := 0) (by omega) (by omega))).mp c48
                exfalso; omega
            · replace c47 := bI_0.mp c47
              refine v_aload_n hX dX6_readsProgram_66 rfl ?_
              refine v_get (C := RX6) (T := TX6) (N := 18) (ci := 6) (v := .int (v45.2.2.2.2.2.2.2.2.2.2.2.2.2.2.2.2.2)) hX in_X6 0 rfl rfl 17 (by decide) fl_159 rfl rfl dX6_readsProgram_67 ?_
              refine v_bipush (x := (-5 : Int32)) hX dX6_readsProgram_70 (by decide) ?_
              refine v_icmp_ne (tgt := 90) hX dX6_readsProgram_72 (by decide) (fun c49 => ?_) (fun c49 => ?_)
              · refine v_iconst (x := (0 : Int32)) hX dX6_readsProgram_90 (by decide) ?_
                refine v_istore_n (lv' := [.ref (a 0), .int (bI (bd)), .int (nI (n + 1)), .int ((0 : Int32))]) hX dX6_readsProgram_91 (Nat.le_of_ble_eq_true rfl) (Nat.le_of_ble_eq_true rfl) rfl rfl ?_
                refine v_iload_n hX dX6_readsProgram_92 rfl ?_
                refine v_if_eq (tgt := 25) hX dX6_readsProgram_93 (by decide) (fun c50 => ?_) (fun c50 => ?_)
                · replace c50 := (nI_eq (a := 0) (b := 0) (by omega) (by omega)).mp c50
                  have c50t := eq_true c50
                  exact ih v45 (n + 1) false (fun h => nomatch h) (by rw [← (show R_pS bd (w, n, mo) = (v45, n + 1, false) from by subst hv45; subst hv30; subst hv15; subst hv7; subst hv5; subst hv3; subst hv1; simp only [R_pS, R_pM, R_pD, c12, c16, c31, c47, c49, c50t, if_true, if_false, reduceIte, Bool.false_eq_true, reduceCtorEq, decide_true, decide_false, Bool.and_true, Bool.and_false, Bool.true_and, Bool.false_and, Bool.or_true, Bool.or_false, Bool.true_or, Bool.false_or, not_true_eq_false, not_false_eq_true, Bool.not_true, Bool.not_false, eq_self, Nat.reduceEqDiff])]; exact (wh_go (c := R_pC) (R_pS bd) (x := (w, n, mo)) c12 fu).symm.trans inv1)
                · replace c50 := (not_congr (nI_eq (a := 0) (b := 0) (by omega) (by omega))).mp c50
                  exfalso; omega
              · have c49t := eq_true c49
                refine v_aload_n hX dX6_readsProgram_75 rfl ?_
                refine v_get (C := RX6) (T := TX6) (N := 18) (ci := 6) (v := .int (nI (v45.2.2.2.2.2.2.2.2.2.2.1.val))) hX in_X6 0 rfl rfl 10 (by decide) fl_132 rfl rfl dX6_readsProgram_76 ?_
                have hb51 := (v45.2.2.2.2.2.2.2.2.2.2.1).isLt
                refine v_aload_n hX dX6_readsProgram_79 rfl ?_
                refine v_get (C := RX6) (T := TX6) (N := 18) (ci := 6) (v := .int (nI (v45.2.2.2.2.2.2.2.1.val))) hX in_X6 0 rfl rfl 7 (by decide) fl_125 rfl rfl dX6_readsProgram_80 ?_
                have hb52 := (v45.2.2.2.2.2.2.2.1).isLt
                refine v_icmp_ge (tgt := 90) hX dX6_readsProgram_83 (by decide) (fun c53 => ?_) (fun c53 => ?_)
                · replace c53 := (nI_leI (a := v45.2.2.2.2.2.2.2.1.val) (b := v45.2.2.2.2.2.2.2.2.2.2.1.val) (by omega) (by omega)).mp c53
                  refine v_iconst (x := (0 : Int32)) hX dX6_readsProgram_90 (by decide) ?_
                  refine v_istore_n (lv' := [.ref (a 0), .int (bI (bd)), .int (nI (n + 1)), .int ((0 : Int32))]) hX dX6_readsProgram_91 (Nat.le_of_ble_eq_true rfl) (Nat.le_of_ble_eq_true rfl) rfl rfl ?_
                  refine v_iload_n hX dX6_readsProgram_92 rfl ?_
                  refine v_if_eq (tgt := 25) hX dX6_readsProgram_93 (by decide) (fun c54 => ?_) (fun c54 => ?_)
                  · replace c54 := (nI_eq (a := 0) (b := 0) (by omega) (by omega)).mp c54
                    have c54t := eq_true c54
                    exact ih v45 (n + 1) false (fun h => nomatch h) (by rw [← (show R_pS bd (w, n, mo) = (v45, n + 1, false) from by subst hv45; subst hv30; subst hv15; subst hv7; subst hv5; subst hv3; subst hv1; simp only [R_pS, R_pM, R_pD, c12, c16, c31, c47, c49t, c53, c54t, if_true, if_false, reduceIte, Bool.false_eq_true, reduceCtorEq, decide_true, decide_false, Bool.and_true, Bool.and_false, Bool.true_and, Bool.false_and, Bool.or_true, Bool.or_false, Bool.true_or, Bool.false_or, not_true_eq_false, not_false_eq_true, Bool.not_true, Bool.not_false, eq_self, Nat.reduceEqDiff])]; exact (wh_go (c := R_pC) (R_pS bd) (x := (w, n, mo)) c12 fu).symm.trans inv1)
                  · replace c54 := (not_congr (nI_eq (a := 0) (b := 0) (by omega) (by omega))).mp c54
                    exfalso; omega
                · replace c53 := (not_congr (nI_leI (a := v45.2.2.2.2.2.2.2.1.val) (b := v45.2.2.2.2.2.2.2.2.2.2.1.val) (by omega) (by omega))).mp c53
                  refine v_iconst (x := (1 : Int32)) hX dX6_readsProgram_86 (by decide) ?_
                  refine v_goto (tgt := 91) hX dX6_readsProgram_87 (by decide) ?_
                  refine v_istore_n (lv' := [.ref (a 0), .int (bI (bd)), .int (nI (n + 1)), .int ((1 : Int32))]) hX dX6_readsProgram_91 (Nat.le_of_ble_eq_true rfl) (Nat.le_of_ble_eq_true rfl) rfl rfl ?_
                  refine v_iload_n hX dX6_readsProgram_92 rfl ?_
                  refine v_if_eq (tgt := 25) hX dX6_readsProgram_93 (by decide) (fun c55 => ?_) (fun c55 => ?_)
                  · replace c55 := (nI_eq (a := 1) (b := 0) (by omega) (by omega)).mp c55
                    have c55t := eq_true c55
                    exfalso; omega
                  · replace c55 := (not_congr (nI_eq (a := 1) (b := 0) (by omega) (by omega))).mp c55
                    refine v_aload_n hX dX6_readsProgram_96 rfl ?_
                    refine v_bipush (x := (59 : Int32)) hX dX6_readsProgram_97 (by decide) ?_
                    obtain ⟨v56, hv56⟩ : ∃ z_ : RV, z_ = R_needs v45 (59 : Int32) := ⟨_, rfl⟩
                    refine v_callVv (rest := []) (ws' := wR E a v56) hX (fun sz => c_X6_needs l E a sz v45 (59 : Int32)) (cwV 1 hX.2.2.2.2.1 gX6_readsProgram_X6_needs rfl rfl rfl (by decide +kernel) ⟨Nat.le_of_ble_eq_true rfl, Nat.le_of_ble_eq_true rfl⟩) ([]) ([]) ((List.append_nil _).symm) (by rw [hv56]; exact List.append_nil _) (wR_fst E a _ _) (ci := 6) (q0 := 0) rfl rfl rfl rfl rfl (Nat.le_of_ble_eq_true rfl) dX6_readsProgram_99 ?_
                    refine v_aload_n hX dX6_readsProgram_102 rfl ?_
                    refine v_get (C := RX6) (T := TX6) (N := 18) (ci := 6) (v := .int (bI (v56.2.2.2.2.2.2.2.2.2.2.2.1))) hX in_X6 0 rfl rfl 11 (by decide) fl_128 rfl rfl dX6_readsProgram_103 ?_
                    refine v_if_ne (tgt := 113) hX dX6_readsProgram_106 (by decide) (fun c57 => ?_) (fun c57 => ?_)
                    · replace c57 := bI_n0.mp c57
                      refine v_iconst (x := (0 : Int32)) hX dX6_readsProgram_113 (by decide) ?_
                      refine v_istore_n (lv' := [.ref (a 0), .int (bI (bd)), .int (nI (n + 1)), .int ((0 : Int32))]) hX dX6_readsProgram_114 (Nat.le_of_ble_eq_true rfl) (Nat.le_of_ble_eq_true rfl) rfl rfl ?_
                      refine v_goto (tgt := 25) hX dX6_readsProgram_115 (by decide) ?_
                      exact ih v56 (n + 1) false (fun h => nomatch h) (by rw [← (show R_pS bd (w, n, mo) = (v56, n + 1, false) from by subst hv56; subst hv45; subst hv30; subst hv15; subst hv7; subst hv5; subst hv3; subst hv1; simp only [R_pS, R_pM, R_pD, c12, c16, c31, c47, c49t, c53, c55, c57, if_true, if_false, reduceIte, Bool.false_eq_true, reduceCtorEq, decide_true, decide_false, Bool.and_true, Bool.and_false, Bool.true_and, Bool.false_and, Bool.or_true, Bool.or_false, Bool.true_or, Bool.false_or, not_true_eq_false, not_false_eq_true, Bool.not_true, Bool.not_false, eq_self, Nat.reduceEqDiff])]; exact (wh_go (c := R_pC) (R_pS bd) (x := (w, n, mo)) c12 fu).symm.trans inv1)
                    · replace c57 := bI_0.mp c57
                      refine v_iconst (x := (1 : Int32)) hX dX6_readsProgram_109 (by decide) ?_
                      refine v_goto (tgt := 114) hX dX6_readsProgram_110 (by decide) ?_
                      refine v_istore_n (lv' := [.ref (a 0), .int (bI (bd)), .int (nI (n + 1)), .int ((1 : Int32))]) hX dX6_readsProgram_114 (Nat.le_of_ble_eq_true rfl) (Nat.le_of_ble_eq_true rfl) rfl rfl ?_
                      refine v_goto (tgt := 25) hX dX6_readsProgram_115 (by decide) ?_
                      exact ih v56 (n + 1) true (fun _ => R_pS_dec (show R_pS bd (w, n, mo) = (v56, n + 1, true) from by subst hv56; subst hv45; subst hv30; subst hv15; subst hv7; subst hv5; subst hv3; subst hv1; simp only [R_pS, R_pM, R_pD, c12, c16, c31, c47, c49t, c53, c55, c57, if_true, if_false, reduceIte, Bool.false_eq_true, reduceCtorEq, decide_true, decide_false, Bool.and_true, Bool.and_false, Bool.true_and, Bool.false_and, Bool.or_true, Bool.or_false, Bool.true_or, Bool.false_or, not_true_eq_false, not_false_eq_true, Bool.not_true, Bool.not_false, eq_self, Nat.reduceEqDiff]) (inv0 c12)) (by rw [← (show R_pS bd (w, n, mo) = (v56, n + 1, true) from by subst hv56; subst hv45; subst hv30; subst hv15; subst hv7; subst hv5; subst hv3; subst hv1; simp only [R_pS, R_pM, R_pD, c12, c16, c31, c47, c49t, c53, c55, c57, if_true, if_false, reduceIte, Bool.false_eq_true, reduceCtorEq, decide_true, decide_false, Bool.and_true, Bool.and_false, Bool.true_and, Bool.false_and, Bool.or_true, Bool.or_false, Bool.true_or, Bool.false_or, not_true_eq_false, not_false_eq_true, Bool.not_true, Bool.not_false, eq_self, Nat.reduceEqDiff])]; exact (wh_go (c := R_pC) (R_pS bd) (x := (w, n, mo)) c12 fu).symm.trans inv1)
  subst hv7
  subst hv5
  subst hv3
  subst hv1
  exact loop_25 82 _ 0 true (fun _ => by omega) rfl
