/-! ===== histories ===== -/
abbrev HV : Type := (Nat → MV) × Fin 4 × Fin 5
def f5 (x : Nat) : Fin 5 := ⟨x % 5, Nat.mod_lt _ (by decide)⟩
def wH1 (E : ET) (b : Nat → Nat → Nat) (h : HV) : va_W := [(b 0 0, .inr (2, [.ref (b 0 1), .int (nI h.2.1.val), .int (nI h.2.2.val)])), (b 0 1, .inl (E.2 4, 4, .inr (.inr (.inr (.inr (fun j => some (b (1 + j) 0)))))))]
def wH (E : ET) (b : Nat → Nat → Nat) (h : HV) : va_W := wH1 E b h ++ (wM E (b 1) (h.1 0) ++ (wM E (b 2) (h.1 1) ++ (wM E (b 3) (h.1 2) ++ wM E (b 4) (h.1 3))))
def H_set (h : HV) (k : Nat) (m : MV) : HV := (va_up h.1 k m, h.2.1, h.2.2)
def H_setOld (h : HV) (x : Nat) : HV := (h.1, f4 x, h.2.2)
def H_setSize (h : HV) (x : Nat) : HV := (h.1, h.2.1, f5 x)
set_option maxRecDepth 100000 in
theorem wH_fst (E : ET) (b : Nat → Nat → Nat) (v w : HV) : (wH E b v).map Prod.fst = (wH E b w).map Prod.fst := rfl
def hPre (E : ET) (b : Nat → Nat → Nat) (h : HV) (k : Nat) : va_W := wH1 E b h ++ (match k with
  | 0 => []
  | 1 => wM E (b 1) (h.1 0)
  | 2 => wM E (b 1) (h.1 0) ++ wM E (b 2) (h.1 1)
  | _ => wM E (b 1) (h.1 0) ++ (wM E (b 2) (h.1 1) ++ wM E (b 3) (h.1 2)))
def hPost (E : ET) (b : Nat → Nat → Nat) (h : HV) (k : Nat) : va_W := match k with
  | 0 => wM E (b 2) (h.1 1) ++ (wM E (b 3) (h.1 2) ++ wM E (b 4) (h.1 3))
  | 1 => wM E (b 3) (h.1 2) ++ wM E (b 4) (h.1 3)
  | 2 => wM E (b 4) (h.1 3)
  | _ => []
theorem wH_cut (E : ET) (b : Nat → Nat → Nat) (h : HV) {k : Nat} (hk : k < 4) : wH E b h = hPre E b h k ++ (wM E (b (1 + k)) (h.1 k) ++ hPost E b h k) := by
  refine four (P := fun k => wH E b h = hPre E b h k ++ (wM E (b (1 + k)) (h.1 k) ++ hPost E b h k)) ?_ ?_ ?_ ?_ hk <;> simp [wH, hPre, hPost]
theorem wH_put (E : ET) (b : Nat → Nat → Nat) (h : HV) {k : Nat} (hk : k < 4) (m : MV) : hPre E b h k ++ (wM E (b (1 + k)) m ++ hPost E b h k) = wH E b (H_set h k m) := by
  refine four (P := fun k => hPre E b h k ++ (wM E (b (1 + k)) m ++ hPost E b h k) = wH E b (H_set h k m)) ?_ ?_ ?_ ?_ hk <;> simp [wH, hPre, hPost, H_set, wH1, va_up]
theorem sH_Size (E : ET) (b : Nat → Nat → Nat) (h : HV) {x : Nat} (hx : x < 5) : (wH1 E b h).set 0 (b 0 0, .inr (2, ([.ref (b 0 1), .int (nI h.2.1.val), .int (nI h.2.2.val)] : List Value).set 2 (.int (nI x)))) = wH1 E b (H_setSize h x) := by
  have e : (f5 x).val = x := Nat.mod_eq_of_lt hx
  simp [wH1, H_setSize, e]
theorem sH_Old (E : ET) (b : Nat → Nat → Nat) (h : HV) {x : Nat} (hx : x < 4) : (wH1 E b h).set 0 (b 0 0, .inr (2, ([.ref (b 0 1), .int (nI h.2.1.val), .int (nI h.2.2.val)] : List Value).set 1 (.int (nI x)))) = wH1 E b (H_setOld h x) := by
  have e : (f4 x).val = x := Nat.mod_eq_of_lt hx
  simp [wH1, H_setOld, e]
def H_rec (h : HV) (m : MV) : HV := if 4 ≤ h.2.2.val then H_setOld (H_set h ((h.2.1.val + h.2.2.val) % 4) m) ((h.2.1.val + 1) % 4) else H_setSize (H_set h ((h.2.1.val + h.2.2.val) % 4) m) (h.2.2.val + 1)
def H_take (v : HV × MV) : HV × MV := if v.1.2.2.val ≤ 0 then v else (H_setSize v.1 (v.1.2.2.val - 1), v.1.1 ((v.1.2.1.val + (v.1.2.2.val - 1)) % 4))
set_option maxHeartbeats 4000000 in
set_option maxRecDepth 100000 in
theorem c_X2_record (l : Launch) (E : ET) (a : Nat → Nat) (b : Nat → Nat → Nat) (sz : Nat) (v : HV × MV) : Met l yX2_record wsX2_record ({ frames := 4, cells := 0, slots := 0, locals := 82 }) (mPc E [.ref (b 0 0), .ref (a 0)] sz (wH E b v.1 ++ wM E a v.2)) (mQv E (wH E b v.1 ++ wM E a v.2) (wH E b (H_rec v.1 v.2, v.2).1 ++ wM E a (H_rec v.1 v.2, v.2).2) sz) 0 0 (va_A (wH E b v.1 ++ wM E a v.2) sz) := by
  refine v_start (cc := cX2_record) (maxL := 2) (ret := none) (by decide) rfl (Nat.le_of_ble_eq_true rfl) rfl ?_
  intro p e s m args below meth c hsz hr hX
  have hX : Xc p s m args meth c E 2 (va_A (wH E b v.1 ++ wM E a v.2) sz) cX2_record RX2 wsX2_record := hX
  have in_X2 : ∀ w ∈ u_ws RX2 TX2 3, w ∈ wsX2_record := by decide +kernel
  have fl_11 : Cond.fieldLink RX2 11 RX2 "states" "[LSnoopFilter$Machine;" ∈ wsX2_record := by decide +kernel
  have fl_18 : Cond.fieldLink RX2 18 RX2 "oldest" "I" ∈ wsX2_record := by decide +kernel
  have fl_22 : Cond.fieldLink RX2 22 RX2 "size" "I" ∈ wsX2_record := by decide +kernel
  refine v_aload_n hX dX2_record_0 rfl ?_
  refine v_get (C := RX2) (T := TX2) (N := 3) (ci := 2) (v := .ref (b 0 1)) hX in_X2 0 rfl rfl 0 (by decide) fl_11 rfl rfl dX2_record_1 ?_
  refine v_aload_n hX dX2_record_4 rfl ?_
  refine v_get (C := RX2) (T := TX2) (N := 3) (ci := 2) (v := .int (nI (v.1.2.1.val))) hX in_X2 0 rfl rfl 1 (by decide) fl_18 rfl rfl dX2_record_5 ?_
  have hb1 := (v.1.2.1).isLt
  refine v_aload_n hX dX2_record_8 rfl ?_
  refine v_get (C := RX2) (T := TX2) (N := 3) (ci := 2) (v := .int (nI (v.1.2.2.val))) hX in_X2 0 rfl rfl 2 (by decide) fl_22 rfl rfl dX2_record_9 ?_
  have hb2 := (v.1.2.2).isLt
  refine v_iadd (z := nI (v.1.2.1.val + v.1.2.2.val)) hX dX2_record_12 (nI_add v.1.2.1.val v.1.2.2.val) ?_
  refine v_iconst (x := (4 : Int32)) hX dX2_record_13 (by decide) ?_
  refine v_irem (z := nI ((v.1.2.1.val + v.1.2.2.val) % 4)) hX dX2_record_14 (by decide) (rem_c (v.1.2.1.val + v.1.2.2.val) 4 (by omega) (by decide) (by decide)) ?_
  refine v_aaldM (b := b (1 + ((v.1.2.1.val + v.1.2.2.val) % 4)) 0) hX 1 rfl (vp_in_nI (by omega : (v.1.2.1.val + v.1.2.2.val) % 4 < 4) (by omega)) (by simp only [nI_clamp (show (v.1.2.1.val + v.1.2.2.val) % 4 < 2 ^ 31 by omega)]) dX2_record_15 ?_
  refine v_aload_n hX dX2_record_16 rfl ?_
  obtain ⟨v3, hv3⟩ : ∃ z_ : HV × MV, z_ = (H_set v.1 ((v.1.2.1.val + v.1.2.2.val) % 4) v.2, v.2) := ⟨_, rfl⟩
  refine v_callVv2 (rest := []) (ws' := wH E b v3.1 ++ wM E a v3.2) hX (fun sz => c_X3_copyFrom l E (b (1 + ((v.1.2.1.val + v.1.2.2.val) % 4))) a sz (v.1.1 ((v.1.2.1.val + v.1.2.2.val) % 4)) v.2) (cwV 1 hX.2.2.2.2.1 gX2_record_X3_copyFrom rfl rfl rfl (by decide +kernel) ⟨Nat.le_of_ble_eq_true rfl, Nat.le_of_ble_eq_true rfl⟩) (hPre E b v.1 ((v.1.2.1.val + v.1.2.2.val) % 4)) (hPost E b v.1 ((v.1.2.1.val + v.1.2.2.val) % 4)) [] (by rw [wH_cut E b v.1 (by omega : (v.1.2.1.val + v.1.2.2.val) % 4 < 4)]; simp only [List.append_assoc, List.append_nil]) (by rw [hv3, ← wH_put E b v.1 (by omega : (v.1.2.1.val + v.1.2.2.val) % 4 < 4)]; simp only [List.append_assoc, List.append_nil]) (wM_fst E _ _ _) (ci := 3) (q0 := 0) rfl rfl rfl rfl rfl (Nat.le_of_ble_eq_true rfl) dX2_record_17 ?_
  have hq1 : v3.1.2.2.val = v.1.2.2.val := by rw [hv3]; rfl
  have hq2 : v3.1.2.1.val = v.1.2.1.val := by rw [hv3]; rfl
  refine v_aload_n hX dX2_record_20 rfl ?_
  refine v_get (C := RX2) (T := TX2) (N := 3) (ci := 2) (v := .int (nI (v3.1.2.2.val))) hX in_X2 0 rfl rfl 2 (by decide) fl_22 rfl rfl dX2_record_21 ?_
  have hb4 := (v3.1.2.2).isLt
  refine v_iconst (x := (4 : Int32)) hX dX2_record_24 (by decide) ?_
  refine v_icmp_ge (tgt := 41) hX dX2_record_25 (by decide) (fun c5 => ?_) (fun c5 => ?_)
  · replace c5 := (nI_leI (a := 4) (b := v3.1.2.2.val) (by omega) (by omega)).mp c5
    refine v_aload_n hX dX2_record_41 rfl ?_
    refine v_aload_n hX dX2_record_42 rfl ?_
    refine v_get (C := RX2) (T := TX2) (N := 3) (ci := 2) (v := .int (nI (v3.1.2.1.val))) hX in_X2 0 rfl rfl 1 (by decide) fl_18 rfl rfl dX2_record_43 ?_
    have hb6 := (v3.1.2.1).isLt
    refine v_iconst (x := (1 : Int32)) hX dX2_record_46 (by decide) ?_
    refine v_iadd (z := nI (v3.1.2.1.val + 1)) hX dX2_record_47 (nI_add v3.1.2.1.val 1) ?_
    refine v_iconst (x := (4 : Int32)) hX dX2_record_48 (by decide) ?_
    refine v_irem (z := nI ((v3.1.2.1.val + 1) % 4)) hX dX2_record_49 (by decide) (rem_c (v3.1.2.1.val + 1) 4 (by omega) (by decide) (by decide)) ?_
    obtain ⟨v7, hv7⟩ : ∃ z_ : HV × MV, z_ = (H_setOld v3.1 ((v3.1.2.1.val + 1) % 4), v3.2) := ⟨_, rfl⟩
    refine v_put (C := RX2) (T := TX2) (N := 3) (ci := 2) (v := .int (nI ((v3.1.2.1.val + 1) % 4))) (ty := .int) (ws' := wH E b v7.1 ++ wM E a v7.2) hX in_X2 tyX2 tyX2_ok nmX2 0 rfl rfl 1 (by decide) fl_18 rfl rfl (by decide +kernel) (rfl) (rfl) (Nat.le_of_ble_eq_true rfl) dX2_record_50 (by rw [hv7]; exact (stL (Nat.le_of_ble_eq_true rfl) (stL (Nat.le_of_ble_eq_true rfl) (sH_Old E b v3.1 (x := (v3.1.2.1.val + 1) % 4) (by omega))))) ?_
    exact v_vret hX hr hsz dX2_record_53 rfl rfl (by (subst hv7; subst hv3; unfold H_rec; first | (rw [if_pos (by omega)]; first | done | rfl) | (rw [if_neg (by omega)]; first | done | rfl)))
  · replace c5 := (not_congr (nI_leI (a := 4) (b := v3.1.2.2.val) (by omega) (by omega))).mp c5
    refine v_aload_n hX dX2_record_28 rfl ?_
    refine v_dup hX dX2_record_29 rfl ?_
    refine v_get (C := RX2) (T := TX2) (N := 3) (ci := 2) (v := .int (nI (v3.1.2.2.val))) hX in_X2 0 rfl rfl 2 (by decide) fl_22 rfl rfl dX2_record_30 ?_
    have hb8 := (v3.1.2.2).isLt
    refine v_iconst (x := (1 : Int32)) hX dX2_record_33 (by decide) ?_
    refine v_iadd (z := nI (v3.1.2.2.val + 1)) hX dX2_record_34 (nI_add v3.1.2.2.val 1) ?_
    obtain ⟨v9, hv9⟩ : ∃ z_ : HV × MV, z_ = (H_setSize v3.1 (v3.1.2.2.val + 1), v3.2) := ⟨_, rfl⟩
    refine v_put (C := RX2) (T := TX2) (N := 3) (ci := 2) (v := .int (nI (v3.1.2.2.val + 1))) (ty := .int) (ws' := wH E b v9.1 ++ wM E a v9.2) hX in_X2 tyX2 tyX2_ok nmX2 0 rfl rfl 2 (by decide) fl_22 rfl rfl (by decide +kernel) (rfl) (rfl) (Nat.le_of_ble_eq_true rfl) dX2_record_35 (by rw [hv9]; exact (stL (Nat.le_of_ble_eq_true rfl) (stL (Nat.le_of_ble_eq_true rfl) (sH_Size E b v3.1 (x := v3.1.2.2.val + 1) (by omega))))) ?_
    refine v_goto (tgt := 53) hX dX2_record_38 (by decide) ?_
    exact v_vret hX hr hsz dX2_record_53 rfl rfl (by (subst hv9; subst hv3; unfold H_rec; first | (rw [if_pos (by omega)]; first | done | rfl) | (rw [if_neg (by omega)]; first | done | rfl)))
set_option maxHeartbeats 4000000 in
set_option maxRecDepth 100000 in
theorem c_X2_takeLatest (l : Launch) (E : ET) (a : Nat → Nat) (b : Nat → Nat → Nat) (sz : Nat) (v : HV × MV) : Met l yX2_takeLatest wsX2_takeLatest ({ frames := 4, cells := 0, slots := 0, locals := 82 }) (mPc E [.ref (b 0 0), .ref (a 0)] sz (wH E b v.1 ++ wM E a v.2)) (mQv E (wH E b v.1 ++ wM E a v.2) (wH E b (H_take v).1 ++ wM E a (H_take v).2) sz) 0 0 (va_A (wH E b v.1 ++ wM E a v.2) sz) := by
  refine v_start (cc := cX2_takeLatest) (maxL := 2) (ret := none) (by decide) rfl (Nat.le_of_ble_eq_true rfl) rfl ?_
  intro p e s m args below meth c hsz hr hX
  have hX : Xc p s m args meth c E 2 (va_A (wH E b v.1 ++ wM E a v.2) sz) cX2_takeLatest RX2 wsX2_takeLatest := hX
  have in_X2 : ∀ w ∈ u_ws RX2 TX2 3, w ∈ wsX2_takeLatest := by decide +kernel
  have fl_22 : Cond.fieldLink RX2 22 RX2 "size" "I" ∈ wsX2_takeLatest := by decide +kernel
  have fl_11 : Cond.fieldLink RX2 11 RX2 "states" "[LSnoopFilter$Machine;" ∈ wsX2_takeLatest := by decide +kernel
  have fl_18 : Cond.fieldLink RX2 18 RX2 "oldest" "I" ∈ wsX2_takeLatest := by decide +kernel
  refine v_aload_n hX dX2_takeLatest_0 rfl ?_
  refine v_get (C := RX2) (T := TX2) (N := 3) (ci := 2) (v := .int (nI (v.1.2.2.val))) hX in_X2 0 rfl rfl 2 (by decide) fl_22 rfl rfl dX2_takeLatest_1 ?_
  have hb1 := (v.1.2.2).isLt
  refine v_if_le (tgt := 37) hX dX2_takeLatest_4 (by decide) (fun c2 => ?_) (fun c2 => ?_)
  · replace c2 := (nI_leI (a := v.1.2.2.val) (b := 0) (by omega) (by omega)).mp c2
    exact v_vret hX hr hsz dX2_takeLatest_37 rfl rfl (by (unfold H_take; rw [if_pos c2]))
  · replace c2 := (not_congr (nI_leI (a := v.1.2.2.val) (b := 0) (by omega) (by omega))).mp c2
    refine v_aload_n hX dX2_takeLatest_7 rfl ?_
    refine v_dup hX dX2_takeLatest_8 rfl ?_
    refine v_get (C := RX2) (T := TX2) (N := 3) (ci := 2) (v := .int (nI (v.1.2.2.val))) hX in_X2 0 rfl rfl 2 (by decide) fl_22 rfl rfl dX2_takeLatest_9 ?_
    have hb3 := (v.1.2.2).isLt
    refine v_iconst (x := (1 : Int32)) hX dX2_takeLatest_12 (by decide) ?_
    refine v_isub (z := nI (v.1.2.2.val - 1)) hX dX2_takeLatest_13 (pk_sub (a := v.1.2.2.val) (b := 1) (by omega)) ?_
    obtain ⟨v4, hv4⟩ : ∃ z_ : HV × MV, z_ = (H_setSize v.1 (v.1.2.2.val - 1), v.2) := ⟨_, rfl⟩
    refine v_put (C := RX2) (T := TX2) (N := 3) (ci := 2) (v := .int (nI (v.1.2.2.val - 1))) (ty := .int) (ws' := wH E b v4.1 ++ wM E a v4.2) hX in_X2 tyX2 tyX2_ok nmX2 0 rfl rfl 2 (by decide) fl_22 rfl rfl (by decide +kernel) (rfl) (rfl) (Nat.le_of_ble_eq_true rfl) dX2_takeLatest_14 (by rw [hv4]; exact (stL (Nat.le_of_ble_eq_true rfl) (stL (Nat.le_of_ble_eq_true rfl) (sH_Size E b v.1 (x := v.1.2.2.val - 1) (by omega))))) ?_
    have hq1 : v4.1.2.2.val = v.1.2.2.val - 1 := by rw [hv4]; exact Nat.mod_eq_of_lt (by omega)
    have hq2 : v4.1.2.1.val = v.1.2.1.val := by rw [hv4]; rfl
    refine v_aload_n hX dX2_takeLatest_17 rfl ?_
    refine v_aload_n hX dX2_takeLatest_18 rfl ?_
    refine v_get (C := RX2) (T := TX2) (N := 3) (ci := 2) (v := .ref (b 0 1)) hX in_X2 0 rfl rfl 0 (by decide) fl_11 rfl rfl dX2_takeLatest_19 ?_
    refine v_aload_n hX dX2_takeLatest_22 rfl ?_
    refine v_get (C := RX2) (T := TX2) (N := 3) (ci := 2) (v := .int (nI (v4.1.2.1.val))) hX in_X2 0 rfl rfl 1 (by decide) fl_18 rfl rfl dX2_takeLatest_23 ?_
    have hb5 := (v4.1.2.1).isLt
    refine v_aload_n hX dX2_takeLatest_26 rfl ?_
    refine v_get (C := RX2) (T := TX2) (N := 3) (ci := 2) (v := .int (nI (v4.1.2.2.val))) hX in_X2 0 rfl rfl 2 (by decide) fl_22 rfl rfl dX2_takeLatest_27 ?_
    have hb6 := (v4.1.2.2).isLt
    refine v_iadd (z := nI (v4.1.2.1.val + v4.1.2.2.val)) hX dX2_takeLatest_30 (nI_add v4.1.2.1.val v4.1.2.2.val) ?_
    refine v_iconst (x := (4 : Int32)) hX dX2_takeLatest_31 (by decide) ?_
    refine v_irem (z := nI ((v4.1.2.1.val + v4.1.2.2.val) % 4)) hX dX2_takeLatest_32 (by decide) (rem_c (v4.1.2.1.val + v4.1.2.2.val) 4 (by omega) (by decide) (by decide)) ?_
    refine v_aaldM (b := b (1 + ((v4.1.2.1.val + v4.1.2.2.val) % 4)) 0) hX 1 rfl (vp_in_nI (by omega : (v4.1.2.1.val + v4.1.2.2.val) % 4 < 4) (by omega)) (by simp only [nI_clamp (show (v4.1.2.1.val + v4.1.2.2.val) % 4 < 2 ^ 31 by omega)]) dX2_takeLatest_33 ?_
    obtain ⟨v7, hv7⟩ : ∃ z_ : HV × MV, z_ = (v4.1, v4.1.1 ((v4.1.2.1.val + v4.1.2.2.val) % 4)) := ⟨_, rfl⟩
    refine v_callVv2s (rest := []) (ws' := wH E b v7.1 ++ wM E a v7.2) hX (fun sz => c_X3_copyFrom l E a (b (1 + ((v4.1.2.1.val + v4.1.2.2.val) % 4))) sz v4.2 (v4.1.1 ((v4.1.2.1.val + v4.1.2.2.val) % 4))) (cwV 1 hX.2.2.2.2.1 gX2_takeLatest_X3_copyFrom rfl rfl rfl (by decide +kernel) ⟨Nat.le_of_ble_eq_true rfl, Nat.le_of_ble_eq_true rfl⟩) (hPre E b v4.1 ((v4.1.2.1.val + v4.1.2.2.val) % 4)) (hPost E b v4.1 ((v4.1.2.1.val + v4.1.2.2.val) % 4)) [] (by rw [wH_cut E b v4.1 (by omega : (v4.1.2.1.val + v4.1.2.2.val) % 4 < 4)]; simp only [List.append_assoc, List.append_nil]) (by rw [hv7, wH_cut E b v4.1 (by omega : (v4.1.2.1.val + v4.1.2.2.val) % 4 < 4)]; simp only [List.append_assoc, List.append_nil]) (wM_fst E _ _ _) (ci := 3) (q0 := 0) rfl rfl rfl rfl rfl (Nat.le_of_ble_eq_true rfl) dX2_takeLatest_34 ?_
    exact v_vret hX hr hsz dX2_takeLatest_37 rfl rfl (by (subst hv7; unfold H_take; rw [if_neg c2, hq1, hq2]; subst hv4; rfl))
