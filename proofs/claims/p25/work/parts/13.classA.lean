/-! ===== the class itself: its value, its world, what its methods answer ===== -/
abbrev XV : Type := MV × MV × MV × HV × PV × Bool × Bool × Int32 × Int32
def fsX (b : Nat → Nat → Nat) (v : XV) : List Value := [.ref (b 1 0), .ref (b 2 0), .ref (b 3 0), .ref (b 4 0), .ref (b 9 0), .int (bI v.2.2.2.2.2.1), .int (bI v.2.2.2.2.2.2.1), .int v.2.2.2.2.2.2.2.1, .int v.2.2.2.2.2.2.2.2]
def w1X (b : Nat → Nat → Nat) (v : XV) : va_W := [(b 0 0, .inr (5, fsX b v))]
abbrev hA (b : Nat → Nat → Nat) : Nat → Nat → Nat := fun j => b (4 + j)
def wX (E : ET) (b : Nat → Nat → Nat) (v : XV) : va_W := w1X b v ++ (wM E (b 1) v.1 ++ (wM E (b 2) v.2.1 ++ (wM E (b 3) v.2.2.1 ++ (wH E (hA b) v.2.2.2.1 ++ wP E (b 9) v.2.2.2.2.1))))
def X_setNow (v : XV) (m : MV) : XV := (m, v.2.1, v.2.2.1, v.2.2.2.1, v.2.2.2.2.1, v.2.2.2.2.2.1, v.2.2.2.2.2.2.1, v.2.2.2.2.2.2.2.1, v.2.2.2.2.2.2.2.2)
def X_setTrial (v : XV) (m : MV) : XV := (v.1, m, v.2.2.1, v.2.2.2.1, v.2.2.2.2.1, v.2.2.2.2.2.1, v.2.2.2.2.2.2.1, v.2.2.2.2.2.2.2.1, v.2.2.2.2.2.2.2.2)
def X_setSnap (v : XV) (m : MV) : XV := (v.1, v.2.1, m, v.2.2.2.1, v.2.2.2.2.1, v.2.2.2.2.2.1, v.2.2.2.2.2.2.1, v.2.2.2.2.2.2.2.1, v.2.2.2.2.2.2.2.2)
def X_setHist (v : XV) (h : HV) : XV := (v.1, v.2.1, v.2.2.1, h, v.2.2.2.2.1, v.2.2.2.2.2.1, v.2.2.2.2.2.2.1, v.2.2.2.2.2.2.2.1, v.2.2.2.2.2.2.2.2)
def X_setProg (v : XV) (q : PV) : XV := (v.1, v.2.1, v.2.2.1, v.2.2.2.1, q, v.2.2.2.2.2.1, v.2.2.2.2.2.2.1, v.2.2.2.2.2.2.2.1, v.2.2.2.2.2.2.2.2)
def X_setHasSnap (v : XV) (x : Bool) : XV := (v.1, v.2.1, v.2.2.1, v.2.2.2.1, v.2.2.2.2.1, x, v.2.2.2.2.2.2.1, v.2.2.2.2.2.2.2.1, v.2.2.2.2.2.2.2.2)
def X_setHasStop (v : XV) (x : Bool) : XV := (v.1, v.2.1, v.2.2.1, v.2.2.2.1, v.2.2.2.2.1, v.2.2.2.2.2.1, x, v.2.2.2.2.2.2.2.1, v.2.2.2.2.2.2.2.2)
def X_setSn (v : XV) (x : Int32) : XV := (v.1, v.2.1, v.2.2.1, v.2.2.2.1, v.2.2.2.2.1, v.2.2.2.2.2.1, v.2.2.2.2.2.2.1, x, v.2.2.2.2.2.2.2.2)
def X_setSe (v : XV) (x : Int32) : XV := (v.1, v.2.1, v.2.2.1, v.2.2.2.1, v.2.2.2.2.1, v.2.2.2.2.2.1, v.2.2.2.2.2.2.1, v.2.2.2.2.2.2.2.1, x)
-- a part of a world within a part of a world
theorem lift0 {x y z pre wc post : va_W} (h : y = pre ++ (wc ++ post)) : x ++ (y ++ z) = (x ++ pre) ++ (wc ++ (post ++ z)) := by rw [h]; simp only [List.append_assoc]
theorem lift1 {x0 x y z pre wc post : va_W} (h : y = pre ++ (wc ++ post)) : x0 ++ (x ++ (y ++ z)) = (x0 ++ (x ++ pre)) ++ (wc ++ (post ++ z)) := by rw [h]; simp only [List.append_assoc]
theorem lift5 {x0 x1 x2 x3 x4 y pre wc post : va_W} (h : y = pre ++ (wc ++ post)) : x0 ++ (x1 ++ (x2 ++ (x3 ++ (x4 ++ y)))) = (x0 ++ (x1 ++ (x2 ++ (x3 ++ (x4 ++ pre))))) ++ (wc ++ post) := by rw [h]; simp only [List.append_assoc]
theorem sX_HasSnap (E : ET) (b : Nat → Nat → Nat) (v : XV) (x : Bool) : (wX E b v).set 0 (b 0 0, .inr (5, (fsX b v).set 5 (.int (bI x)))) = wX E b (X_setHasSnap v x) := rfl
theorem sX_HasStop (E : ET) (b : Nat → Nat → Nat) (v : XV) (x : Bool) : (wX E b v).set 0 (b 0 0, .inr (5, (fsX b v).set 6 (.int (bI x)))) = wX E b (X_setHasStop v x) := rfl
theorem sX_Sn (E : ET) (b : Nat → Nat → Nat) (v : XV) (x : Int32) : (wX E b v).set 0 (b 0 0, .inr (5, (fsX b v).set 7 (.int x))) = wX E b (X_setSn v x) := rfl
theorem sX_Se (E : ET) (b : Nat → Nat → Nat) (v : XV) (x : Int32) : (wX E b v).set 0 (b 0 0, .inr (5, (fsX b v).set 8 (.int x))) = wX E b (X_setSe v x) := rfl
-- numbers that are asked for
def cN (x : Int32) : Nat := x.toNatClampNeg
def lF (x : Int32) : Fin 256 := f256 x.toNatClampNeg
theorem cN_nI {n : Nat} (h : n < 2 ^ 31) : cN (nI n) = n := nI_clamp h
theorem f256_val {n : Nat} (h : n < 256) : (f256 n).val = n := Nat.mod_eq_of_lt h
theorem lF_nI (n : Fin 256) : lF (nI n.val) = n := by
  have := n.isLt
  unfold lF
  rw [nI_clamp (by omega)]
  exact Fin.ext (f256_val this)
theorem within_nat {x hi : Int32} {B : Nat} (hB : hi = nI B) (hb : B < 2 ^ 31) (h : S_within x 0 hi = true) : ∃ r : Nat, r ≤ B ∧ x = nI r := by
  simp only [S_within, Bool.and_eq_true, Bool.not_eq_true', decide_eq_false_iff_not] at h
  obtain ⟨j, hj, rfl⟩ := nI_of h.1
  refine ⟨j, ?_, rfl⟩
  have h2 := h.2
  rw [hB, nI_ltI (by omega) (by omega)] at h2
  omega
theorem within_fin {x : Int32} (h : S_within x 0 255 = true) : ∃ n : Fin 256, x = nI n.val := by
  obtain ⟨r, hr, rfl⟩ := within_nat (B := 255) rfl (by decide) h
  exact ⟨⟨r, by omega⟩, rfl⟩
theorem within_nI {n B : Nat} {hi : Int32} (hB : hi = nI B) (h : n ≤ B) (hb : B < 2 ^ 31) : S_within (nI n) 0 hi = true := by
  simp only [S_within, Bool.and_eq_true, Bool.not_eq_true', decide_eq_false_iff_not]
  refine ⟨nI_pos (by omega), ?_⟩
  rw [hB, nI_ltI (by omega) (by omega)]
  omega
theorem within_lo {x hi : Int32} (h : x < 0) : S_within x 0 hi = false := by simp [S_within, h]
theorem within_hi {x hi : Int32} {B : Nat} (hB : hi = nI B) (hb : B + 1 < 2 ^ 31) (h : nI (B + 1) ≤ x) : S_within x 0 hi = false := by
  have h2 : hi < x := by
    rw [hB, Int32.lt_iff_toInt_lt, nI_toInt (by omega)]
    rw [Int32.le_iff_toInt_le, nI_toInt hb] at h
    omega
  simp [S_within, h2]
def X_rec (v : XV) : XV := X_setHist v (H_rec v.2.2.2.1 v.1)
def X_read (v : XV) (c l : Int32) : Int32 × XV := if S_within c 0 3 = true then if S_within l 0 255 = true then ((M_read v.1 (cN c) (lF l)).2, X_setNow (X_rec v) (M_read v.1 (cN c) (lF l)).1) else (-1, v) else (-1, v)
def X_write (v : XV) (c l x : Int32) : Int32 × XV := if S_within c 0 3 = true then if S_within l 0 255 = true then if S_within x 0 9999 = true then ((M_write v.1 (cN c) (lF l) x).2, X_setNow (X_rec v) (M_write v.1 (cN c) (lF l) x).1) else (-2, v) else (-1, v) else (-1, v)
def X_drop (v : XV) (c l : Int32) : Int32 × XV := if S_within c 0 3 = true then if S_within l 0 255 = true then if K_holds (v.1.2.1 (cN c)) (lF l) = true then ((M_drop v.1 (cN c) (lF l)).2, X_setNow (X_rec v) (M_drop v.1 (cN c) (lF l)).1) else (-4, v) else (-1, v) else (-1, v)
def X_forget (v : XV) (c : Int32) : Int32 × XV := if S_within c 0 3 = true then if K_nothing (v.1.2.1 (cN c)) = true then (-5, v) else ((M_forget v.1 (cN c)).2, X_setNow (X_rec v) (M_forget v.1 (cN c)).1) else (-1, v)
def X_set (v : XV) (w x : Int32) : Int32 × XV := if S_within w 0 1 = true then
    if S_within x 1 (if w = 0 then 9 else 24) = true then
      if (if w = 0 then v.1.2.2.1 else v.1.2.2.2.1) = x then (-5, v) else ((if w = 0 then v.1.2.2.1 else v.1.2.2.2.1), X_setNow (X_rec v) (if w = 0 then M_setLim v.1 x else M_setFull v.1 x))
    else (-2, v)
  else (-1, v)
def X_type (v : XV) (x : Nat) : Int32 × XV := if decide (v.2.2.2.2.1.2.2.2.2.2.1.val < 80) = true then (nI (P_app v.2.2.2.2.1 x).2.2.2.2.2.1.val, X_setProg v (P_app v.2.2.2.2.1 x)) else (-3, X_setProg v (P_app v.2.2.2.2.1 x))
def X_clear (v : XV) : Int32 × XV := (nI v.2.2.2.2.1.2.2.2.2.2.1.val, X_setProg v (P_setLen v.2.2.2.2.1 0))
def X_stopped (v : XV) (w : Int32) : Int32 := if S_within w 0 1 = true then if v.2.2.2.2.2.2.1 = true then (if w = 0 then v.2.2.2.2.2.2.2.1 else v.2.2.2.2.2.2.2.2) else -5 else -2
def X_undo (v : XV) : Int32 × XV := if v.2.2.2.1.2.2.val = 0 then (-5, v) else (nI (H_take (v.2.2.2.1, v.1)).1.2.2.val, X_setNow (X_setHist v (H_take (v.2.2.2.1, v.1)).1) (H_take (v.2.2.2.1, v.1)).2)
def X_keep (v : XV) : Int32 × XV := (M_held v.1, X_setHasSnap (X_setSnap v v.1) true)
def X_restore (v : XV) : Int32 × XV := if v.2.2.2.2.2.1 = true then (M_held v.2.2.1, X_setNow (X_rec v) v.2.2.1) else (-5, v)
def X_core (v : XV) (c w : Int32) : Int32 := if S_within c 0 3 = true then if S_within w 0 10 = true then
    (if cN w = 0 then K_held (v.1.2.1 (cN c)) else if cN w = 1 then K_dirties (v.1.2.1 (cN c)) else if cN w = 2 then F_above (v.1.2.1 (cN c)).2.2.2.2 else if cN w = 3 then cntT (v.1.2.1 (cN c)).2.2.2.2.2.1 24 else if cN w = 4 then cntT (v.1.2.1 (cN c)).2.2.2.2.2.2 16 else (v.1.2.1 (cN c)).2.2.2.1 (cN w - 5))
  else -2 else -1
def X_held (v : XV) (c pl w : Int32) : Int32 := if S_within c 0 3 = true then if S_within pl 0 7 = true then if S_within w 0 2 = true then
    (if (v.1.2.1 (cN c)).1 (cN pl) = none then -5 else if cN w = 0 then encL ((v.1.2.1 (cN c)).1 (cN pl)) else if cN w = 1 then (v.1.2.1 (cN c)).2.1 (cN pl) else bI ((v.1.2.1 (cN c)).2.2.1 (cN pl)))
  else -2 else -2 else -1
def X_counter (v : XV) (c k : Int32) : Int32 := if S_within c 0 3 = true then if S_within k 0 23 = true then (v.1.2.1 (cN c)).2.2.2.2.1 (cN k) else -1 else -1
def X_bit (v : XV) (c k : Int32) : Int32 := if S_within c 0 3 = true then if S_within k 0 15 = true then bI ((v.1.2.1 (cN c)).2.2.2.2.2.2 (cN k)) else -1 else -1
def X_line (v : XV) (l w : Int32) : Int32 := if S_within l 0 255 = true then if S_within w 0 5 = true then
    (if cN w = 0 then v.1.1 (lF l).val else if cN w = 1 then M_vfr v.1 (lF l) else if cN w = 2 then M_holders v.1 (lF l) else if cN w = 3 then M_mays v.1 (lF l) else if cN w = 4 then nI ((lF l).val % 24) else nI ((7 * (lF l).val + 5) % 24))
  else -2 else -1
def X_reason (v : XV) (c l : Int32) : Int32 := if S_within c 0 3 = true then if S_within l 0 255 = true then
    (if K_holds (v.1.2.1 (cN c)) (lF l) = true then 0 else if F_may (v.1.2.1 (cN c)).2.2.2.2 (lF l).val = true then 1 else if (v.1.2.1 (cN c)).2.2.2.2.2.2 ((lF l).val / 16) = true then 3 else 2)
  else -1 else -1
def X_try (v : XV) (c l : Int32) (b : Bool) : MV := if b = true then (M_write v.1 (cN c) (lF l) 0).1 else (M_read v.1 (cN c) (lF l)).1
def X_cost (v : XV) (c l : Int32) (b : Bool) (w : Int32) : Int32 × XV := if S_within c 0 3 = true then if S_within l 0 255 = true then if S_within w 0 3 = true then
    ((if cN w = 0 then M_sum (X_try v c l b) 2 - M_sum v.1 2 else if cN w = 1 then M_sum (X_try v c l b) 3 - M_sum v.1 3 else if cN w = 2 then (X_try v c l b).2.2.2.2.1 - v.1.2.2.2.2.1 else M_sum (X_try v c l b) 5 - M_sum v.1 5), X_setTrial v (X_try v c l b))
  else (-2, v) else (-1, v) else (-1, v)
def X_vainF (k : KV) : Nat → Int32 → Int32 := fun i x => if F_may k.2.2.2.2 i = true then (if K_holds k (f256 i) = true then x else x + 1) else x
def X_vain (v : XV) (c : Int32) : Int32 := if S_within c 0 3 = true then it (X_vainF (v.1.2.1 (cN c))) 256 0 else -1
def X_worstF (v : MV) : Nat → Int32 × Int32 → Int32 × Int32 := fun i u => if (v.2.1 i).2.2.2.1 3 ≤ u.2 then u else (nI i, (v.2.1 i).2.2.2.1 3)
def X_worst (v : XV) : Int32 := (it (X_worstF v.1) 4 (-5, 0)).1
def X_count (v : XV) (w : Int32) : Int32 := if S_within w 0 13 = true then
    (if cN w = 0 then M_held v.1 else if cN w = 1 then M_dirty v.1 else if cN w = 2 then M_sum v.1 2 else if cN w = 3 then M_sum v.1 3 else if cN w = 4 then M_sum v.1 4 else if cN w = 5 then v.1.2.2.2.2.1 else if cN w = 6 then M_sum v.1 5 else if cN w = 7 then M_sum v.1 0 else if cN w = 8 then M_sum v.1 1 else if cN w = 9 then v.1.2.2.2.2.2 else if cN w = 10 then v.1.2.2.1 else if cN w = 11 then v.1.2.2.2.1 else if cN w = 12 then nI v.2.2.2.1.2.2.val else nI v.2.2.2.2.1.2.2.2.2.2.1.val)
  else -2
theorem wX_fst (E : ET) (b : Nat → Nat → Nat) (v w : XV) : (wX E b v).map Prod.fst = (wX E b w).map Prod.fst := by
  simp only [wX, List.map_append, wM_fst E (b 1) v.1 w.1, wM_fst E (b 2) v.2.1 w.2.1, wM_fst E (b 3) v.2.2.1 w.2.2.1, wH_fst E (hA b) v.2.2.2.1 w.2.2.2.1, wP_fst E (b 9) v.2.2.2.2.1 w.2.2.2.2.1]
  rfl
theorem look_out (x : Nat) (hx : x < 2 ^ 31) {o0 o1 df : Int} (h0 : ¬ x = 0) (h1 : ¬ x = 1) : Op.lookupswitch.offset [(0, o0), (1, o1)] df (nI x).toInt = df := by
  rw [nI_toInt hx]
  have e0 : ¬ ((0 : Int) = (x : Int)) := by omega
  have e1 : ¬ ((1 : Int) = (x : Int)) := by omega
  simp [Op.lookupswitch.offset, e0, e1]
def X_runL (q : PV) : Nat → Nat → MV → Int32 → Option (Nat × Int32) × MV × Int32
  | 0, _, t, sm => (none, t, sm)
  | fu + 1, i, t, sm => if 0 ≤ (P_run q t i).2 then X_runL q fu (i + 1) (P_run q t i).1 (if decide ((q.2.1 i).val = 114) = true then sm + (P_run q t i).2 else sm)
    else if (P_run q t i).2 = -5 then X_runL q fu (i + 1) (P_run q t i).1 (if decide ((q.2.1 i).val = 114) = true then sm + (P_run q t i).2 else sm)
    else (some (i, (P_run q t i).2), (P_run q t i).1, sm)
def X_stop (v : XV) (no : Nat) (er : Int32) : XV := X_setSe (X_setSn (X_setHasStop v true) (nI no)) er
def X_runs (q : PV) (m : MV) : Option (Nat × Int32) × MV × Int32 := X_runL q q.2.2.2.2.2.2.1.val 0 m 0
def X_ff (v : XV) : XV := X_setProg v (P_ff v.2.2.2.2.1).2
def X_perform (v : XV) : Int32 × XV := if (P_ff v.2.2.2.2.1).1 < 0 then
    (match (X_runs (P_ff v.2.2.2.2.1).2 v.1).1 with
    | some x => (-4, X_stop (X_setTrial (X_ff v) (X_runs (P_ff v.2.2.2.2.1).2 v.1).2.1) x.1 x.2)
    | none => ((X_runs (P_ff v.2.2.2.2.1).2 v.1).2.2, X_setNow (X_rec (X_setTrial (X_ff v) (X_runs (P_ff v.2.2.2.2.1).2 v.1).2.1)) (X_runs (P_ff v.2.2.2.2.1).2 v.1).2.1))
  else (-100 - (P_ff v.2.2.2.2.1).1, X_ff v)
set_option maxHeartbeats 4000000 in
set_option maxRecDepth 100000 in
theorem c_X5_read (l : Launch) (E : ET) (b : Nat → Nat → Nat) (sz : Nat) (v : XV) (co : Int32) (li : Int32) : Met l yX5_read wsX5_read ({ frames := 5, cells := 0, slots := 0, locals := 112 }) (mPc E [.ref (b 0 0), .int (co), .int (li)] sz (wX E b v)) (mQi E ((X_read v co li).1) (wX E b v) (wX E b ((X_read v co li).2)) sz) 0 0 (va_A (wX E b v) sz) := by
  refine v_start (cc := cX5_read) (maxL := 3) (ret := (some .int)) (by decide) rfl (Nat.le_of_ble_eq_true rfl) rfl ?_
  intro p e s m args below meth c hsz hr hX
  have hX : Xc p s m args meth c E 3 (va_A (wX E b v) sz) cX5_read RX5 wsX5_read := hX
  have in_X5 : ∀ w ∈ u_ws RX5 TX5 9, w ∈ wsX5_read := by decide +kernel
  have fl_25 : Cond.fieldLink RX5 25 RX5 "history" "LSnoopFilter$History;" ∈ wsX5_read := by decide +kernel
  have fl_12 : Cond.fieldLink RX5 12 RX5 "now" "LSnoopFilter$Machine;" ∈ wsX5_read := by decide +kernel
  refine v_iload_n hX dX5_read_0 rfl ?_
  refine v_callSi (r := bI (S_within co (0 : Int32) (3 : Int32))) (rest := []) (ws' := wX E b v) hX (fun sz => c_X5_isCore l E sz co) (va_cwS 1 hX.2.2.2.2.1 gX5_read_X5_isCore rfl rfl rfl (by decide +kernel) ⟨Nat.le_of_ble_eq_true rfl, Nat.le_of_ble_eq_true rfl⟩) ([]) (wX E b v) (rfl) rfl (rfl) rfl rfl (Nat.le_of_ble_eq_true rfl) dX5_read_1 ?_
  refine v_if_eq (tgt := 14) hX dX5_read_4 (by decide) (fun c1 => ?_) (fun c1 => ?_)
  · replace c1 := bI_0.mp c1
    refine v_iconst (x := (-1 : Int32)) hX dX5_read_14 (by decide) ?_
    exact v_iret hX hr hsz dX5_read_15 rfl rfl (by (first | rfl | (simp only [X_read, X_rec, c1, if_true, if_false, reduceIte, Bool.false_eq_true, reduceCtorEq, decide_true, decide_false, Bool.and_true, Bool.and_false, Bool.true_and, Bool.false_and, Bool.or_true, Bool.or_false, Bool.true_or, Bool.false_or, not_true_eq_false, not_false_eq_true, Bool.not_true, Bool.not_false, eq_self, Nat.reduceEqDiff]; done) | (simp only [X_read, X_rec, c1, if_true, if_false, reduceIte, Bool.false_eq_true, reduceCtorEq, decide_true, decide_false, Bool.and_true, Bool.and_false, Bool.true_and, Bool.false_and, Bool.or_true, Bool.or_false, Bool.true_or, Bool.false_or, not_true_eq_false, not_false_eq_true, Bool.not_true, Bool.not_false, eq_self, Nat.reduceEqDiff]; rfl) | contradiction | (exfalso; omega))) (by (first | rfl | (simp only [X_read, X_rec, c1, if_true, if_false, reduceIte, Bool.false_eq_true, reduceCtorEq, decide_true, decide_false, Bool.and_true, Bool.and_false, Bool.true_and, Bool.false_and, Bool.or_true, Bool.or_false, Bool.true_or, Bool.false_or, not_true_eq_false, not_false_eq_true, Bool.not_true, Bool.not_false, eq_self, Nat.reduceEqDiff]; done) | (simp only [X_read, X_rec, c1, if_true, if_false, reduceIte, Bool.false_eq_true, reduceCtorEq, decide_true, decide_false, Bool.and_true, Bool.and_false, Bool.true_and, Bool.false_and, Bool.or_true, Bool.or_false, Bool.true_or, Bool.false_or, not_true_eq_false, not_false_eq_true, Bool.not_true, Bool.not_false, eq_self, Nat.reduceEqDiff]; rfl) | contradiction | (exfalso; omega)))
  · replace c1 := bI_n0.mp c1
    refine v_iload_n hX dX5_read_7 rfl ?_
    refine v_callSi (r := bI (S_within li (0 : Int32) (255 : Int32))) (rest := []) (ws' := wX E b v) hX (fun sz => c_X5_isLine l E sz li) (va_cwS 1 hX.2.2.2.2.1 gX5_read_X5_isLine rfl rfl rfl (by decide +kernel) ⟨Nat.le_of_ble_eq_true rfl, Nat.le_of_ble_eq_true rfl⟩) ([]) (wX E b v) (rfl) rfl (rfl) rfl rfl (Nat.le_of_ble_eq_true rfl) dX5_read_8 ?_
    refine v_if_ne (tgt := 16) hX dX5_read_11 (by decide) (fun c2 => ?_) (fun c2 => ?_)
    · replace c2 := bI_n0.mp c2
      obtain ⟨r, hle_r, heq_r⟩ := within_nat (B := 3) rfl (by decide) c1
      subst heq_r
      have ec_r : cN (nI r) = r := cN_nI (by omega)
      obtain ⟨n, heq_n⟩ := within_fin c2
      subst heq_n
      have hlt_n := n.isLt
      have el_n := lF_nI n
      refine v_aload_n hX dX5_read_16 rfl ?_
      refine v_get (C := RX5) (T := TX5) (N := 9) (ci := 5) (v := .ref (b 4 0)) hX in_X5 0 rfl rfl 3 (by decide) fl_25 rfl rfl dX5_read_17 ?_
      refine v_aload_n hX dX5_read_20 rfl ?_
      refine v_get (C := RX5) (T := TX5) (N := 9) (ci := 5) (v := .ref (b 1 0)) hX in_X5 0 rfl rfl 0 (by decide) fl_12 rfl rfl dX5_read_21 ?_
      obtain ⟨v3, hv3⟩ : ∃ z_ : XV, z_ = X_setHist v (H_rec v.2.2.2.1 v.1) := ⟨_, rfl⟩
      refine v_callVv2s (rest := []) (ws' := wX E b v3) (x1 := wH E (hA b) v.2.2.2.1) (x2 := wM E (b 1) v.1) (x1' := wH E (hA b) (H_rec v.2.2.2.1 v.1)) hX (fun sz => c_X2_record l E (b 1) (hA b) sz (v.2.2.2.1, v.1)) (cwV 1 hX.2.2.2.2.1 gX5_read_X2_record rfl rfl rfl (by decide +kernel) ⟨Nat.le_of_ble_eq_true rfl, Nat.le_of_ble_eq_true rfl⟩) (w1X b v) (wM E (b 2) v.2.1 ++ wM E (b 3) v.2.2.1) (wP E (b 9) v.2.2.2.2.1) (by simp only [wX, List.append_assoc]) (by rw [hv3]; simp only [wX, List.append_assoc]; rfl) (wH_fst E (hA b) _ _) (ci := 2) (q0 := 0) rfl rfl rfl rfl rfl (Nat.le_of_ble_eq_true rfl) dX5_read_24 ?_
      refine v_aload_n hX dX5_read_27 rfl ?_
      refine v_get (C := RX5) (T := TX5) (N := 9) (ci := 5) (v := .ref (b 1 0)) hX in_X5 0 rfl rfl 0 (by decide) fl_12 rfl rfl dX5_read_28 ?_
      refine v_iload_n hX dX5_read_31 rfl ?_
      refine v_iload_n hX dX5_read_32 rfl ?_
      obtain ⟨v4, hv4⟩ : ∃ z_ : XV, z_ = X_setNow v3 ((M_read v3.1 r n).1) := ⟨_, rfl⟩
      refine v_callVi (r := (M_read v3.1 r n).2) (rest := []) (ws' := wX E b v4) hX (fun sz => c_X3_readLine l E (b 1) sz v3.1 r (by first | omega | exact Nat.le_of_ble_eq_true rfl | assumption | decide) n) (cwV 2 hX.2.2.2.2.1 gX5_read_X3_readLine rfl rfl rfl (by decide +kernel) ⟨Nat.le_of_ble_eq_true rfl, Nat.le_of_ble_eq_true rfl⟩) (w1X b v3 ++ ([])) (([]) ++ (wM E (b 2) v3.2.1 ++ (wM E (b 3) v3.2.2.1 ++ (wH E (hA b) v3.2.2.2.1 ++ (wP E (b 9) v3.2.2.2.2.1))))) (lift0 ((List.append_nil _).symm)) (by rw [hv4]; exact (lift0 (y := wM E (b 1) ((M_read v3.1 r n).1)) (List.append_nil _).symm).symm) (wM_fst E (b 1) _ _) (ci := 3) (q0 := 0) rfl rfl rfl rfl rfl (Nat.le_of_ble_eq_true rfl) dX5_read_33 ?_
      exact v_iret hX hr hsz dX5_read_36 rfl rfl (by (subst hv4; subst hv3; first | rfl | (simp only [X_read, X_rec, c1, c2, ec_r, el_n, if_true, if_false, reduceIte, Bool.false_eq_true, reduceCtorEq, decide_true, decide_false, Bool.and_true, Bool.and_false, Bool.true_and, Bool.false_and, Bool.or_true, Bool.or_false, Bool.true_or, Bool.false_or, not_true_eq_false, not_false_eq_true, Bool.not_true, Bool.not_false, eq_self, Nat.reduceEqDiff]; done) | (simp only [X_read, X_rec, c1, c2, ec_r, el_n, if_true, if_false, reduceIte, Bool.false_eq_true, reduceCtorEq, decide_true, decide_false, Bool.and_true, Bool.and_false, Bool.true_and, Bool.false_and, Bool.or_true, Bool.or_false, Bool.true_or, Bool.false_or, not_true_eq_false, not_false_eq_true, Bool.not_true, Bool.not_false, eq_self, Nat.reduceEqDiff]; rfl) | contradiction | (exfalso; omega))) (by (subst hv4; subst hv3; first | rfl | (simp only [X_read, X_rec, c1, c2, ec_r, el_n, if_true, if_false, reduceIte, Bool.false_eq_true, reduceCtorEq, decide_true, decide_false, Bool.and_true, Bool.and_false, Bool.true_and, Bool.false_and, Bool.or_true, Bool.or_false, Bool.true_or, Bool.false_or, not_true_eq_false, not_false_eq_true, Bool.not_true, Bool.not_false, eq_self, Nat.reduceEqDiff]; done) | (simp only [X_read, X_rec, c1, c2, ec_r, el_n, if_true, if_false, reduceIte, Bool.false_eq_true, reduceCtorEq, decide_true, decide_false, Bool.and_true, Bool.and_false, Bool.true_and, Bool.false_and, Bool.or_true, Bool.or_false, Bool.true_or, Bool.false_or, not_true_eq_false, not_false_eq_true, Bool.not_true, Bool.not_false, eq_self, Nat.reduceEqDiff]; rfl) | contradiction | (exfalso; omega)))
    · replace c2 := bI_0.mp c2
      refine v_iconst (x := (-1 : Int32)) hX dX5_read_14 (by decide) ?_
      exact v_iret hX hr hsz dX5_read_15 rfl rfl (by (first | rfl | (simp only [X_read, X_rec, c1, c2, if_true, if_false, reduceIte, Bool.false_eq_true, reduceCtorEq, decide_true, decide_false, Bool.and_true, Bool.and_false, Bool.true_and, Bool.false_and, Bool.or_true, Bool.or_false, Bool.true_or, Bool.false_or, not_true_eq_false, not_false_eq_true, Bool.not_true, Bool.not_false, eq_self, Nat.reduceEqDiff]; done) | (simp only [X_read, X_rec, c1, c2, if_true, if_false, reduceIte, Bool.false_eq_true, reduceCtorEq, decide_true, decide_false, Bool.and_true, Bool.and_false, Bool.true_and, Bool.false_and, Bool.or_true, Bool.or_false, Bool.true_or, Bool.false_or, not_true_eq_false, not_false_eq_true, Bool.not_true, Bool.not_false, eq_self, Nat.reduceEqDiff]; rfl) | contradiction | (exfalso; omega))) (by (first | rfl | (simp only [X_read, X_rec, c1, c2, if_true, if_false, reduceIte, Bool.false_eq_true, reduceCtorEq, decide_true, decide_false, Bool.and_true, Bool.and_false, Bool.true_and, Bool.false_and, Bool.or_true, Bool.or_false, Bool.true_or, Bool.false_or, not_true_eq_false, not_false_eq_true, Bool.not_true, Bool.not_false, eq_self, Nat.reduceEqDiff]; done) | (simp only [X_read, X_rec, c1, c2, if_true, if_false, reduceIte, Bool.false_eq_true, reduceCtorEq, decide_true, decide_false, Bool.and_true, Bool.and_false, Bool.true_and, Bool.false_and, Bool.or_true, Bool.or_false, Bool.true_or, Bool.false_or, not_true_eq_false, not_false_eq_true, Bool.not_true, Bool.not_false, eq_self, Nat.reduceEqDiff]; rfl) | contradiction | (exfalso; omega)))
set_option maxHeartbeats 4000000 in
set_option maxRecDepth 100000 in
theorem c_X5_write (l : Launch) (E : ET) (b : Nat → Nat → Nat) (sz : Nat) (v : XV) (co : Int32) (li : Int32) (x : Int32) : Met l yX5_write wsX5_write ({ frames := 5, cells := 0, slots := 0, locals := 113 }) (mPc E [.ref (b 0 0), .int (co), .int (li), .int (x)] sz (wX E b v)) (mQi E ((X_write v co li x).1) (wX E b v) (wX E b ((X_write v co li x).2)) sz) 0 0 (va_A (wX E b v) sz) := by
  refine v_start (cc := cX5_write) (maxL := 4) (ret := (some .int)) (by decide) rfl (Nat.le_of_ble_eq_true rfl) rfl ?_
  intro p e s m args below meth c hsz hr hX
  have hX : Xc p s m args meth c E 4 (va_A (wX E b v) sz) cX5_write RX5 wsX5_write := hX
  have in_X5 : ∀ w ∈ u_ws RX5 TX5 9, w ∈ wsX5_write := by decide +kernel
  have fl_25 : Cond.fieldLink RX5 25 RX5 "history" "LSnoopFilter$History;" ∈ wsX5_write := by decide +kernel
  have fl_12 : Cond.fieldLink RX5 12 RX5 "now" "LSnoopFilter$Machine;" ∈ wsX5_write := by decide +kernel
  refine v_iload_n hX dX5_write_0 rfl ?_
  refine v_callSi (r := bI (S_within co (0 : Int32) (3 : Int32))) (rest := []) (ws' := wX E b v) hX (fun sz => c_X5_isCore l E sz co) (va_cwS 1 hX.2.2.2.2.1 gX5_write_X5_isCore rfl rfl rfl (by decide +kernel) ⟨Nat.le_of_ble_eq_true rfl, Nat.le_of_ble_eq_true rfl⟩) ([]) (wX E b v) (rfl) rfl (rfl) rfl rfl (Nat.le_of_ble_eq_true rfl) dX5_write_1 ?_
  refine v_if_eq (tgt := 14) hX dX5_write_4 (by decide) (fun c1 => ?_) (fun c1 => ?_)
  · replace c1 := bI_0.mp c1
    refine v_iconst (x := (-1 : Int32)) hX dX5_write_14 (by decide) ?_
    exact v_iret hX hr hsz dX5_write_15 rfl rfl (by (first | rfl | (simp only [X_write, X_rec, c1, if_true, if_false, reduceIte, Bool.false_eq_true, reduceCtorEq, decide_true, decide_false, Bool.and_true, Bool.and_false, Bool.true_and, Bool.false_and, Bool.or_true, Bool.or_false, Bool.true_or, Bool.false_or, not_true_eq_false, not_false_eq_true, Bool.not_true, Bool.not_false, eq_self, Nat.reduceEqDiff]; done) | (simp only [X_write, X_rec, c1, if_true, if_false, reduceIte, Bool.false_eq_true, reduceCtorEq, decide_true, decide_false, Bool.and_true, Bool.and_false, Bool.true_and, Bool.false_and, Bool.or_true, Bool.or_false, Bool.true_or, Bool.false_or, not_true_eq_false, not_false_eq_true, Bool.not_true, Bool.not_false, eq_self, Nat.reduceEqDiff]; rfl) | contradiction | (exfalso; omega))) (by (first | rfl | (simp only [X_write, X_rec, c1, if_true, if_false, reduceIte, Bool.false_eq_true, reduceCtorEq, decide_true, decide_false, Bool.and_true, Bool.and_false, Bool.true_and, Bool.false_and, Bool.or_true, Bool.or_false, Bool.true_or, Bool.false_or, not_true_eq_false, not_false_eq_true, Bool.not_true, Bool.not_false, eq_self, Nat.reduceEqDiff]; done) | (simp only [X_write, X_rec, c1, if_true, if_false, reduceIte, Bool.false_eq_true, reduceCtorEq, decide_true, decide_false, Bool.and_true, Bool.and_false, Bool.true_and, Bool.false_and, Bool.or_true, Bool.or_false, Bool.true_or, Bool.false_or, not_true_eq_false, not_false_eq_true, Bool.not_true, Bool.not_false, eq_self, Nat.reduceEqDiff]; rfl) | contradiction | (exfalso; omega)))
  · replace c1 := bI_n0.mp c1
    refine v_iload_n hX dX5_write_7 rfl ?_
    refine v_callSi (r := bI (S_within li (0 : Int32) (255 : Int32))) (rest := []) (ws' := wX E b v) hX (fun sz => c_X5_isLine l E sz li) (va_cwS 1 hX.2.2.2.2.1 gX5_write_X5_isLine rfl rfl rfl (by decide +kernel) ⟨Nat.le_of_ble_eq_true rfl, Nat.le_of_ble_eq_true rfl⟩) ([]) (wX E b v) (rfl) rfl (rfl) rfl rfl (Nat.le_of_ble_eq_true rfl) dX5_write_8 ?_
    refine v_if_ne (tgt := 16) hX dX5_write_11 (by decide) (fun c2 => ?_) (fun c2 => ?_)
    · replace c2 := bI_n0.mp c2
      refine v_iload_n hX dX5_write_16 rfl ?_
      refine v_iconst (x := (0 : Int32)) hX dX5_write_17 (by decide) ?_
      refine v_sipush (x := (9999 : Int32)) hX dX5_write_18 (by decide) ?_
      refine v_callSi (r := bI (S_within x (0 : Int32) (9999 : Int32))) (rest := []) (ws' := wX E b v) hX (fun sz => c_X5_isWithin l E sz x (0 : Int32) (9999 : Int32)) (va_cwS 3 hX.2.2.2.2.1 gX5_write_X5_isWithin rfl rfl rfl (by decide +kernel) ⟨Nat.le_of_ble_eq_true rfl, Nat.le_of_ble_eq_true rfl⟩) ([]) (wX E b v) (rfl) rfl (rfl) rfl rfl (Nat.le_of_ble_eq_true rfl) dX5_write_21 ?_
      refine v_if_ne (tgt := 30) hX dX5_write_24 (by decide) (fun c3 => ?_) (fun c3 => ?_)
      · replace c3 := bI_n0.mp c3
        obtain ⟨r, hle_r, heq_r⟩ := within_nat (B := 3) rfl (by decide) c1
        subst heq_r
        have ec_r : cN (nI r) = r := cN_nI (by omega)
        obtain ⟨n, heq_n⟩ := within_fin c2
        subst heq_n
        have hlt_n := n.isLt
        have el_n := lF_nI n
        refine v_aload_n hX dX5_write_30 rfl ?_
        refine v_get (C := RX5) (T := TX5) (N := 9) (ci := 5) (v := .ref (b 4 0)) hX in_X5 0 rfl rfl 3 (by decide) fl_25 rfl rfl dX5_write_31 ?_
        refine v_aload_n hX dX5_write_34 rfl ?_
        refine v_get (C := RX5) (T := TX5) (N := 9) (ci := 5) (v := .ref (b 1 0)) hX in_X5 0 rfl rfl 0 (by decide) fl_12 rfl rfl dX5_write_35 ?_
        obtain ⟨v4, hv4⟩ : ∃ z_ : XV, z_ = X_setHist v (H_rec v.2.2.2.1 v.1) := ⟨_, rfl⟩
        refine v_callVv2s (rest := []) (ws' := wX E b v4) (x1 := wH E (hA b) v.2.2.2.1) (x2 := wM E (b 1) v.1) (x1' := wH E (hA b) (H_rec v.2.2.2.1 v.1)) hX (fun sz => c_X2_record l E (b 1) (hA b) sz (v.2.2.2.1, v.1)) (cwV 1 hX.2.2.2.2.1 gX5_write_X2_record rfl rfl rfl (by decide +kernel) ⟨Nat.le_of_ble_eq_true rfl, Nat.le_of_ble_eq_true rfl⟩) (w1X b v) (wM E (b 2) v.2.1 ++ wM E (b 3) v.2.2.1) (wP E (b 9) v.2.2.2.2.1) (by simp only [wX, List.append_assoc]) (by rw [hv4]; simp only [wX, List.append_assoc]; rfl) (wH_fst E (hA b) _ _) (ci := 2) (q0 := 0) rfl rfl rfl rfl rfl (Nat.le_of_ble_eq_true rfl) dX5_write_38 ?_
        refine v_aload_n hX dX5_write_41 rfl ?_
        refine v_get (C := RX5) (T := TX5) (N := 9) (ci := 5) (v := .ref (b 1 0)) hX in_X5 0 rfl rfl 0 (by decide) fl_12 rfl rfl dX5_write_42 ?_
        refine v_iload_n hX dX5_write_45 rfl ?_
        refine v_iload_n hX dX5_write_46 rfl ?_
        refine v_iload_n hX dX5_write_47 rfl ?_
        obtain ⟨v5, hv5⟩ : ∃ z_ : XV, z_ = X_setNow v4 ((M_write v4.1 r n x).1) := ⟨_, rfl⟩
        refine v_callVi (r := (M_write v4.1 r n x).2) (rest := []) (ws' := wX E b v5) hX (fun sz => c_X3_writeLine l E (b 1) sz v4.1 r (by first | omega | exact Nat.le_of_ble_eq_true rfl | assumption | decide) n x) (cwV 3 hX.2.2.2.2.1 gX5_write_X3_writeLine rfl rfl rfl (by decide +kernel) ⟨Nat.le_of_ble_eq_true rfl, Nat.le_of_ble_eq_true rfl⟩) (w1X b v4 ++ ([])) (([]) ++ (wM E (b 2) v4.2.1 ++ (wM E (b 3) v4.2.2.1 ++ (wH E (hA b) v4.2.2.2.1 ++ (wP E (b 9) v4.2.2.2.2.1))))) (lift0 ((List.append_nil _).symm)) (by rw [hv5]; exact (lift0 (y := wM E (b 1) ((M_write v4.1 r n x).1)) (List.append_nil _).symm).symm) (wM_fst E (b 1) _ _) (ci := 3) (q0 := 0) rfl rfl rfl rfl rfl (Nat.le_of_ble_eq_true rfl) dX5_write_48 ?_
        exact v_iret hX hr hsz dX5_write_51 rfl rfl (by (subst hv5; subst hv4; first | rfl | (simp only [X_write, X_rec, c1, c2, c3, ec_r, el_n, if_true, if_false, reduceIte, Bool.false_eq_true, reduceCtorEq, decide_true, decide_false, Bool.and_true, Bool.and_false, Bool.true_and, Bool.false_and, Bool.or_true, Bool.or_false, Bool.true_or, Bool.false_or, not_true_eq_false, not_false_eq_true, Bool.not_true, Bool.not_false, eq_self, Nat.reduceEqDiff]; done) | (simp only [X_write, X_rec, c1, c2, c3, ec_r, el_n, if_true, if_false, reduceIte, Bool.false_eq_true, reduceCtorEq, decide_true, decide_false, Bool.and_true, Bool.and_false, Bool.true_and, Bool.false_and, Bool.or_true, Bool.or_false, Bool.true_or, Bool.false_or, not_true_eq_false, not_false_eq_true, Bool.not_true, Bool.not_false, eq_self, Nat.reduceEqDiff]; rfl) | contradiction | (exfalso; omega))) (by (subst hv5; subst hv4; first | rfl | (simp only [X_write, X_rec, c1, c2, c3, ec_r, el_n, if_true, if_false, reduceIte, Bool.false_eq_true, reduceCtorEq, decide_true, decide_false, Bool.and_true, Bool.and_false, Bool.true_and, Bool.false_and, Bool.or_true, Bool.or_false, Bool.true_or, Bool.false_or, not_true_eq_false, not_false_eq_true, Bool.not_true, Bool.not_false, eq_self, Nat.reduceEqDiff]; done) | (simp only [X_write, X_rec, c1, c2, c3, ec_r, el_n, if_true, if_false, reduceIte, Bool.false_eq_true, reduceCtorEq, decide_true, decide_false, Bool.and_true, Bool.and_false, Bool.true_and, Bool.false_and, Bool.or_true, Bool.or_false, Bool.true_or, Bool.false_or, not_true_eq_false, not_false_eq_true, Bool.not_true, Bool.not_false, eq_self, Nat.reduceEqDiff]; rfl) | contradiction | (exfalso; omega)))
      · replace c3 := bI_0.mp c3
        refine v_bipush (x := (-2 : Int32)) hX dX5_write_27 (by decide) ?_
        exact v_iret hX hr hsz dX5_write_29 rfl rfl (by (first | rfl | (simp only [X_write, X_rec, c1, c2, c3, if_true, if_false, reduceIte, Bool.false_eq_true, reduceCtorEq, decide_true, decide_false, Bool.and_true, Bool.and_false, Bool.true_and, Bool.false_and, Bool.or_true, Bool.or_false, Bool.true_or, Bool.false_or, not_true_eq_false, not_false_eq_true, Bool.not_true, Bool.not_false, eq_self, Nat.reduceEqDiff]; done) | (simp only [X_write, X_rec, c1, c2, c3, if_true, if_false, reduceIte, Bool.false_eq_true, reduceCtorEq, decide_true, decide_false, Bool.and_true, Bool.and_false, Bool.true_and, Bool.false_and, Bool.or_true, Bool.or_false, Bool.true_or, Bool.false_or, not_true_eq_false, not_false_eq_true, Bool.not_true, Bool.not_false, eq_self, Nat.reduceEqDiff]; rfl) | contradiction | (exfalso; omega))) (by (first | rfl | (simp only [X_write, X_rec, c1, c2, c3, if_true, if_false, reduceIte, Bool.false_eq_true, reduceCtorEq, decide_true, decide_false, Bool.and_true, Bool.and_false, Bool.true_and, Bool.false_and, Bool.or_true, Bool.or_false, Bool.true_or, Bool.false_or, not_true_eq_false, not_false_eq_true, Bool.not_true, Bool.not_false, eq_self, Nat.reduceEqDiff]; done) | (simp only [X_write, X_rec, c1, c2, c3, if_true, if_false, reduceIte, Bool.false_eq_true, reduceCtorEq, decide_true, decide_false, Bool.and_true, Bool.and_false, Bool.true_and, Bool.false_and, Bool.or_true, Bool.or_false, Bool.true_or, Bool.false_or, not_true_eq_false, not_false_eq_true, Bool.not_true, Bool.not_false, eq_self, Nat.reduceEqDiff]; rfl) | contradiction | (exfalso; omega)))
    · replace c2 := bI_0.mp c2
      refine v_iconst (x := (-1 : Int32)) hX dX5_write_14 (by decide) ?_
      exact v_iret hX hr hsz dX5_write_15 rfl rfl (by (first | rfl | (simp only [X_write, X_rec, c1, c2, if_true, if_false, reduceIte, Bool.false_eq_true, reduceCtorEq, decide_true, decide_false, Bool.and_true, Bool.and_false, Bool.true_and, Bool.false_and, Bool.or_true, Bool.or_false, Bool.true_or, Bool.false_or, not_true_eq_false, not_false_eq_true, Bool.not_true, Bool.not_false, eq_self, Nat.reduceEqDiff]; done) | (simp only [X_write, X_rec, c1, c2, if_true, if_false, reduceIte, Bool.false_eq_true, reduceCtorEq, decide_true, decide_false, Bool.and_true, Bool.and_false, Bool.true_and, Bool.false_and, Bool.or_true, Bool.or_false, Bool.true_or, Bool.false_or, not_true_eq_false, not_false_eq_true, Bool.not_true, Bool.not_false, eq_self, Nat.reduceEqDiff]; rfl) | contradiction | (exfalso; omega))) (by (first | rfl | (simp only [X_write, X_rec, c1, c2, if_true, if_false, reduceIte, Bool.false_eq_true, reduceCtorEq, decide_true, decide_false, Bool.and_true, Bool.and_false, Bool.true_and, Bool.false_and, Bool.or_true, Bool.or_false, Bool.true_or, Bool.false_or, not_true_eq_false, not_false_eq_true, Bool.not_true, Bool.not_false, eq_self, Nat.reduceEqDiff]; done) | (simp only [X_write, X_rec, c1, c2, if_true, if_false, reduceIte, Bool.false_eq_true, reduceCtorEq, decide_true, decide_false, Bool.and_true, Bool.and_false, Bool.true_and, Bool.false_and, Bool.or_true, Bool.or_false, Bool.true_or, Bool.false_or, not_true_eq_false, not_false_eq_true, Bool.not_true, Bool.not_false, eq_self, Nat.reduceEqDiff]; rfl) | contradiction | (exfalso; omega)))
set_option maxHeartbeats 4000000 in
set_option maxRecDepth 100000 in
theorem c_X5_drop (l : Launch) (E : ET) (b : Nat → Nat → Nat) (sz : Nat) (v : XV) (co : Int32) (li : Int32) : Met l yX5_drop wsX5_drop ({ frames := 5, cells := 0, slots := 0, locals := 110 }) (mPc E [.ref (b 0 0), .int (co), .int (li)] sz (wX E b v)) (mQi E ((X_drop v co li).1) (wX E b v) (wX E b ((X_drop v co li).2)) sz) 0 0 (va_A (wX E b v) sz) := by
  refine v_start (cc := cX5_drop) (maxL := 3) (ret := (some .int)) (by decide) rfl (Nat.le_of_ble_eq_true rfl) rfl ?_
  intro p e s m args below meth c hsz hr hX
  have hX : Xc p s m args meth c E 3 (va_A (wX E b v) sz) cX5_drop RX5 wsX5_drop := hX
  have in_X5 : ∀ w ∈ u_ws RX5 TX5 9, w ∈ wsX5_drop := by decide +kernel
  have fl_12 : Cond.fieldLink RX5 12 RX5 "now" "LSnoopFilter$Machine;" ∈ wsX5_drop := by decide +kernel
  have in_X3 : ∀ w ∈ u_ws RX3 TX3 6, w ∈ wsX5_drop := by decide +kernel
  have fl_59 : Cond.fieldLink RX5 59 RX3 "cores" "[LSnoopFilter$Core;" ∈ wsX5_drop := by decide +kernel
  have fl_25 : Cond.fieldLink RX5 25 RX5 "history" "LSnoopFilter$History;" ∈ wsX5_drop := by decide +kernel
  refine v_iload_n hX dX5_drop_0 rfl ?_
  refine v_callSi (r := bI (S_within co (0 : Int32) (3 : Int32))) (rest := []) (ws' := wX E b v) hX (fun sz => c_X5_isCore l E sz co) (va_cwS 1 hX.2.2.2.2.1 gX5_drop_X5_isCore rfl rfl rfl (by decide +kernel) ⟨Nat.le_of_ble_eq_true rfl, Nat.le_of_ble_eq_true rfl⟩) ([]) (wX E b v) (rfl) rfl (rfl) rfl rfl (Nat.le_of_ble_eq_true rfl) dX5_drop_1 ?_
  refine v_if_eq (tgt := 14) hX dX5_drop_4 (by decide) (fun c1 => ?_) (fun c1 => ?_)
  · replace c1 := bI_0.mp c1
    refine v_iconst (x := (-1 : Int32)) hX dX5_drop_14 (by decide) ?_
    exact v_iret hX hr hsz dX5_drop_15 rfl rfl (by (first | rfl | (simp only [X_drop, X_rec, c1, if_true, if_false, reduceIte, Bool.false_eq_true, reduceCtorEq, decide_true, decide_false, Bool.and_true, Bool.and_false, Bool.true_and, Bool.false_and, Bool.or_true, Bool.or_false, Bool.true_or, Bool.false_or, not_true_eq_false, not_false_eq_true, Bool.not_true, Bool.not_false, eq_self, Nat.reduceEqDiff]; done) | (simp only [X_drop, X_rec, c1, if_true, if_false, reduceIte, Bool.false_eq_true, reduceCtorEq, decide_true, decide_false, Bool.and_true, Bool.and_false, Bool.true_and, Bool.false_and, Bool.or_true, Bool.or_false, Bool.true_or, Bool.false_or, not_true_eq_false, not_false_eq_true, Bool.not_true, Bool.not_false, eq_self, Nat.reduceEqDiff]; rfl) | contradiction | (exfalso; omega))) (by (first | rfl | (simp only [X_drop, X_rec, c1, if_true, if_false, reduceIte, Bool.false_eq_true, reduceCtorEq, decide_true, decide_false, Bool.and_true, Bool.and_false, Bool.true_and, Bool.false_and, Bool.or_true, Bool.or_false, Bool.true_or, Bool.false_or, not_true_eq_false, not_false_eq_true, Bool.not_true, Bool.not_false, eq_self, Nat.reduceEqDiff]; done) | (simp only [X_drop, X_rec, c1, if_true, if_false, reduceIte, Bool.false_eq_true, reduceCtorEq, decide_true, decide_false, Bool.and_true, Bool.and_false, Bool.true_and, Bool.false_and, Bool.or_true, Bool.or_false, Bool.true_or, Bool.false_or, not_true_eq_false, not_false_eq_true, Bool.not_true, Bool.not_false, eq_self, Nat.reduceEqDiff]; rfl) | contradiction | (exfalso; omega)))
  · replace c1 := bI_n0.mp c1
    refine v_iload_n hX dX5_drop_7 rfl ?_
    refine v_callSi (r := bI (S_within li (0 : Int32) (255 : Int32))) (rest := []) (ws' := wX E b v) hX (fun sz => c_X5_isLine l E sz li) (va_cwS 1 hX.2.2.2.2.1 gX5_drop_X5_isLine rfl rfl rfl (by decide +kernel) ⟨Nat.le_of_ble_eq_true rfl, Nat.le_of_ble_eq_true rfl⟩) ([]) (wX E b v) (rfl) rfl (rfl) rfl rfl (Nat.le_of_ble_eq_true rfl) dX5_drop_8 ?_
    refine v_if_ne (tgt := 16) hX dX5_drop_11 (by decide) (fun c2 => ?_) (fun c2 => ?_)
    · replace c2 := bI_n0.mp c2
      obtain ⟨r, hle_r, heq_r⟩ := within_nat (B := 3) rfl (by decide) c1
      subst heq_r
      have ec_r : cN (nI r) = r := cN_nI (by omega)
      obtain ⟨n, heq_n⟩ := within_fin c2
      subst heq_n
      have hlt_n := n.isLt
      have el_n := lF_nI n
      refine v_aload_n hX dX5_drop_16 rfl ?_
      refine v_get (C := RX5) (T := TX5) (N := 9) (ci := 5) (v := .ref (b 1 0)) hX in_X5 0 rfl rfl 0 (by decide) fl_12 rfl rfl dX5_drop_17 ?_
      refine v_get (C := RX3) (T := TX3) (N := 6) (ci := 3) (v := .ref ((b 1) 2)) hX in_X3 _ (atR (atL (rfl : (wM E (b 1) v.1)[0]? = _))) rfl 1 (by decide) fl_59 rfl rfl dX5_drop_20 ?_
      refine v_iload_n hX dX5_drop_23 rfl ?_
      refine v_aaldK (b := (b 1) (3 + 9 * (r))) hX _ (atR (atL (rfl : (wM E (b 1) v.1)[2]? = _))) (vp_in_nI (by omega : r < 4) (by omega)) (by simp only [nI_clamp (show r < 2 ^ 31 by omega)]) dX5_drop_24 ?_
      refine v_iload_n hX dX5_drop_25 rfl ?_
      refine v_callVi (r := bI (K_holds (v.1.2.1 r) n)) (rest := []) (ws' := wX E b v) hX (fun sz => c_X0_holds l E (kA (b 1) r) sz (v.1.2.1 r) n) (cwV 1 hX.2.2.2.2.1 gX5_drop_X0_holds rfl rfl rfl (by decide +kernel) ⟨Nat.le_of_ble_eq_true rfl, Nat.le_of_ble_eq_true rfl⟩) (w1X b v ++ (mPre E (b 1) v.1 r)) ((mPost E (b 1) v.1 r) ++ (wM E (b 2) v.2.1 ++ (wM E (b 3) v.2.2.1 ++ (wH E (hA b) v.2.2.2.1 ++ (wP E (b 9) v.2.2.2.2.1))))) (lift0 (wM_cut E (b 1) v.1 (by omega : r < 4))) (lift0 (wM_cut E (b 1) v.1 (by omega : r < 4))).symm (wK_fst E (kA (b 1) r) _ _) (ci := 0) (q0 := 0) rfl rfl rfl rfl rfl (Nat.le_of_ble_eq_true rfl) dX5_drop_26 ?_
      refine v_if_ne (tgt := 35) hX dX5_drop_29 (by decide) (fun c3 => ?_) (fun c3 => ?_)
      · replace c3 := bI_n0.mp c3
        refine v_aload_n hX dX5_drop_35 rfl ?_
        refine v_get (C := RX5) (T := TX5) (N := 9) (ci := 5) (v := .ref (b 4 0)) hX in_X5 0 rfl rfl 3 (by decide) fl_25 rfl rfl dX5_drop_36 ?_
        refine v_aload_n hX dX5_drop_39 rfl ?_
        refine v_get (C := RX5) (T := TX5) (N := 9) (ci := 5) (v := .ref (b 1 0)) hX in_X5 0 rfl rfl 0 (by decide) fl_12 rfl rfl dX5_drop_40 ?_
        obtain ⟨v4, hv4⟩ : ∃ z_ : XV, z_ = X_setHist v (H_rec v.2.2.2.1 v.1) := ⟨_, rfl⟩
        refine v_callVv2s (rest := []) (ws' := wX E b v4) (x1 := wH E (hA b) v.2.2.2.1) (x2 := wM E (b 1) v.1) (x1' := wH E (hA b) (H_rec v.2.2.2.1 v.1)) hX (fun sz => c_X2_record l E (b 1) (hA b) sz (v.2.2.2.1, v.1)) (cwV 1 hX.2.2.2.2.1 gX5_drop_X2_record rfl rfl rfl (by decide +kernel) ⟨Nat.le_of_ble_eq_true rfl, Nat.le_of_ble_eq_true rfl⟩) (w1X b v) (wM E (b 2) v.2.1 ++ wM E (b 3) v.2.2.1) (wP E (b 9) v.2.2.2.2.1) (by simp only [wX, List.append_assoc]) (by rw [hv4]; simp only [wX, List.append_assoc]; rfl) (wH_fst E (hA b) _ _) (ci := 2) (q0 := 0) rfl rfl rfl rfl rfl (Nat.le_of_ble_eq_true rfl) dX5_drop_43 ?_
        refine v_aload_n hX dX5_drop_46 rfl ?_
        refine v_get (C := RX5) (T := TX5) (N := 9) (ci := 5) (v := .ref (b 1 0)) hX in_X5 0 rfl rfl 0 (by decide) fl_12 rfl rfl dX5_drop_47 ?_
        refine v_iload_n hX dX5_drop_50 rfl ?_
        refine v_iload_n hX dX5_drop_51 rfl ?_
        obtain ⟨v5, hv5⟩ : ∃ z_ : XV, z_ = X_setNow v4 ((M_drop v4.1 r n).1) := ⟨_, rfl⟩
        refine v_callVi (r := (M_drop v4.1 r n).2) (rest := []) (ws' := wX E b v5) hX (fun sz => c_X3_dropLine l E (b 1) sz v4.1 r (by first | omega | exact Nat.le_of_ble_eq_true rfl | assumption | decide) n) (cwV 2 hX.2.2.2.2.1 gX5_drop_X3_dropLine rfl rfl rfl (by decide +kernel) ⟨Nat.le_of_ble_eq_true rfl, Nat.le_of_ble_eq_true rfl⟩) (w1X b v4 ++ ([])) (([]) ++ (wM E (b 2) v4.2.1 ++ (wM E (b 3) v4.2.2.1 ++ (wH E (hA b) v4.2.2.2.1 ++ (wP E (b 9) v4.2.2.2.2.1))))) (lift0 ((List.append_nil _).symm)) (by rw [hv5]; exact (lift0 (y := wM E (b 1) ((M_drop v4.1 r n).1)) (List.append_nil _).symm).symm) (wM_fst E (b 1) _ _) (ci := 3) (q0 := 0) rfl rfl rfl rfl rfl (Nat.le_of_ble_eq_true rfl) dX5_drop_52 ?_
        exact v_iret hX hr hsz dX5_drop_55 rfl rfl (by (subst hv5; subst hv4; first | rfl | (simp only [X_drop, X_rec, c1, c2, ec_r, el_n, c3, if_true, if_false, reduceIte, Bool.false_eq_true, reduceCtorEq, decide_true, decide_false, Bool.and_true, Bool.and_false, Bool.true_and, Bool.false_and, Bool.or_true, Bool.or_false, Bool.true_or, Bool.false_or, not_true_eq_false, not_false_eq_true, Bool.not_true, Bool.not_false, eq_self, Nat.reduceEqDiff]; done) | (simp only [X_drop, X_rec, c1, c2, ec_r, el_n, c3, if_true, if_false, reduceIte, Bool.false_eq_true, reduceCtorEq, decide_true, decide_false, Bool.and_true, Bool.and_false, Bool.true_and, Bool.false_and, Bool.or_true, Bool.or_false, Bool.true_or, Bool.false_or, not_true_eq_false, not_false_eq_true, Bool.not_true, Bool.not_false, eq_self, Nat.reduceEqDiff]; rfl) | contradiction | (exfalso; omega))) (by (subst hv5; subst hv4; first | rfl | (simp only [X_drop, X_rec, c1, c2, ec_r, el_n, c3, if_true, if_false, reduceIte, Bool.false_eq_true, reduceCtorEq, decide_true, decide_false, Bool.and_true, Bool.and_false, Bool.true_and, Bool.false_and, Bool.or_true, Bool.or_false, Bool.true_or, Bool.false_or, not_true_eq_false, not_false_eq_true, Bool.not_true, Bool.not_false, eq_self, Nat.reduceEqDiff]; done) | (simp only [X_drop, X_rec, c1, c2, ec_r, el_n, c3, if_true, if_false, reduceIte, Bool.false_eq_true, reduceCtorEq, decide_true, decide_false, Bool.and_true, Bool.and_false, Bool.true_and, Bool.false_and, Bool.or_true, Bool.or_false, Bool.true_or, Bool.false_or, not_true_eq_false, not_false_eq_true, Bool.not_true, Bool.not_false, eq_self, Nat.reduceEqDiff]; rfl) | contradiction | (exfalso; omega)))
      · replace c3 := bI_0.mp c3
        refine v_bipush (x := (-4 : Int32)) hX dX5_drop_32 (by decide) ?_
        exact v_iret hX hr hsz dX5_drop_34 rfl rfl (by (first | rfl | (simp only [X_drop, X_rec, c1, c2, ec_r, el_n, c3, if_true, if_false, reduceIte, Bool.false_eq_true, reduceCtorEq, decide_true, decide_false, Bool.and_true, Bool.and_false, Bool.true_and, Bool.false_and, Bool.or_true, Bool.or_false, Bool.true_or, Bool.false_or, not_true_eq_false, not_false_eq_true, Bool.not_true, Bool.not_false, eq_self, Nat.reduceEqDiff]; done) | (simp only [X_drop, X_rec, c1, c2, ec_r, el_n, c3, if_true, if_false, reduceIte, Bool.false_eq_true, reduceCtorEq, decide_true, decide_false, Bool.and_true, Bool.and_false, Bool.true_and, Bool.false_and, Bool.or_true, Bool.or_false, Bool.true_or, Bool.false_or, not_true_eq_false, not_false_eq_true, Bool.not_true, Bool.not_false, eq_self, Nat.reduceEqDiff]; rfl) | contradiction | (exfalso; omega))) (by (first | rfl | (simp only [X_drop, X_rec, c1, c2, ec_r, el_n, c3, if_true, if_false, reduceIte, Bool.false_eq_true, reduceCtorEq, decide_true, decide_false, Bool.and_true, Bool.and_false, Bool.true_and, Bool.false_and, Bool.or_true, Bool.or_false, Bool.true_or, Bool.false_or, not_true_eq_false, not_false_eq_true, Bool.not_true, Bool.not_false, eq_self, Nat.reduceEqDiff]; done) | (simp only [X_drop, X_rec, c1, c2, ec_r, el_n, c3, if_true, if_false, reduceIte, Bool.false_eq_true, reduceCtorEq, decide_true, decide_false, Bool.and_true, Bool.and_false, Bool.true_and, Bool.false_and, Bool.or_true, Bool.or_false, Bool.true_or, Bool.false_or, not_true_eq_false, not_false_eq_true, Bool.not_true, Bool.not_false, eq_self, Nat.reduceEqDiff]; rfl) | contradiction | (exfalso; omega)))
    · replace c2 := bI_0.mp c2
      refine v_iconst (x := (-1 : Int32)) hX dX5_drop_14 (by decide) ?_
      exact v_iret hX hr hsz dX5_drop_15 rfl rfl (by (first | rfl | (simp only [X_drop, X_rec, c1, c2, if_true, if_false, reduceIte, Bool.false_eq_true, reduceCtorEq, decide_true, decide_false, Bool.and_true, Bool.and_false, Bool.true_and, Bool.false_and, Bool.or_true, Bool.or_false, Bool.true_or, Bool.false_or, not_true_eq_false, not_false_eq_true, Bool.not_true, Bool.not_false, eq_self, Nat.reduceEqDiff]; done) | (simp only [X_drop, X_rec, c1, c2, if_true, if_false, reduceIte, Bool.false_eq_true, reduceCtorEq, decide_true, decide_false, Bool.and_true, Bool.and_false, Bool.true_and, Bool.false_and, Bool.or_true, Bool.or_false, Bool.true_or, Bool.false_or, not_true_eq_false, not_false_eq_true, Bool.not_true, Bool.not_false, eq_self, Nat.reduceEqDiff]; rfl) | contradiction | (exfalso; omega))) (by (first | rfl | (simp only [X_drop, X_rec, c1, c2, if_true, if_false, reduceIte, Bool.false_eq_true, reduceCtorEq, decide_true, decide_false, Bool.and_true, Bool.and_false, Bool.true_and, Bool.false_and, Bool.or_true, Bool.or_false, Bool.true_or, Bool.false_or, not_true_eq_false, not_false_eq_true, Bool.not_true, Bool.not_false, eq_self, Nat.reduceEqDiff]; done) | (simp only [X_drop, X_rec, c1, c2, if_true, if_false, reduceIte, Bool.false_eq_true, reduceCtorEq, decide_true, decide_false, Bool.and_true, Bool.and_false, Bool.true_and, Bool.false_and, Bool.or_true, Bool.or_false, Bool.true_or, Bool.false_or, not_true_eq_false, not_false_eq_true, Bool.not_true, Bool.not_false, eq_self, Nat.reduceEqDiff]; rfl) | contradiction | (exfalso; omega)))
set_option maxHeartbeats 4000000 in
set_option maxRecDepth 100000 in
theorem c_X5_forget (l : Launch) (E : ET) (b : Nat → Nat → Nat) (sz : Nat) (v : XV) (co : Int32) : Met l yX5_forget wsX5_forget ({ frames := 5, cells := 0, slots := 0, locals := 103 }) (mPc E [.ref (b 0 0), .int (co)] sz (wX E b v)) (mQi E ((X_forget v co).1) (wX E b v) (wX E b ((X_forget v co).2)) sz) 0 0 (va_A (wX E b v) sz) := by
  refine v_start (cc := cX5_forget) (maxL := 2) (ret := (some .int)) (by decide) rfl (Nat.le_of_ble_eq_true rfl) rfl ?_
  intro p e s m args below meth c hsz hr hX
  have hX : Xc p s m args meth c E 2 (va_A (wX E b v) sz) cX5_forget RX5 wsX5_forget := hX
  have in_X5 : ∀ w ∈ u_ws RX5 TX5 9, w ∈ wsX5_forget := by decide +kernel
  have fl_12 : Cond.fieldLink RX5 12 RX5 "now" "LSnoopFilter$Machine;" ∈ wsX5_forget := by decide +kernel
  have in_X3 : ∀ w ∈ u_ws RX3 TX3 6, w ∈ wsX5_forget := by decide +kernel
  have fl_59 : Cond.fieldLink RX5 59 RX3 "cores" "[LSnoopFilter$Core;" ∈ wsX5_forget := by decide +kernel
  have fl_25 : Cond.fieldLink RX5 25 RX5 "history" "LSnoopFilter$History;" ∈ wsX5_forget := by decide +kernel
  refine v_iload_n hX dX5_forget_0 rfl ?_
  refine v_callSi (r := bI (S_within co (0 : Int32) (3 : Int32))) (rest := []) (ws' := wX E b v) hX (fun sz => c_X5_isCore l E sz co) (va_cwS 1 hX.2.2.2.2.1 gX5_forget_X5_isCore rfl rfl rfl (by decide +kernel) ⟨Nat.le_of_ble_eq_true rfl, Nat.le_of_ble_eq_true rfl⟩) ([]) (wX E b v) (rfl) rfl (rfl) rfl rfl (Nat.le_of_ble_eq_true rfl) dX5_forget_1 ?_
  refine v_if_ne (tgt := 9) hX dX5_forget_4 (by decide) (fun c1 => ?_) (fun c1 => ?_)
  · replace c1 := bI_n0.mp c1
    obtain ⟨r, hle_r, heq_r⟩ := within_nat (B := 3) rfl (by decide) c1
    subst heq_r
    have ec_r : cN (nI r) = r := cN_nI (by omega)
    refine v_aload_n hX dX5_forget_9 rfl ?_
    refine v_get (C := RX5) (T := TX5) (N := 9) (ci := 5) (v := .ref (b 1 0)) hX in_X5 0 rfl rfl 0 (by decide) fl_12 rfl rfl dX5_forget_10 ?_
    refine v_get (C := RX3) (T := TX3) (N := 6) (ci := 3) (v := .ref ((b 1) 2)) hX in_X3 _ (atR (atL (rfl : (wM E (b 1) v.1)[0]? = _))) rfl 1 (by decide) fl_59 rfl rfl dX5_forget_13 ?_
    refine v_iload_n hX dX5_forget_16 rfl ?_
    refine v_aaldK (b := (b 1) (3 + 9 * (r))) hX _ (atR (atL (rfl : (wM E (b 1) v.1)[2]? = _))) (vp_in_nI (by omega : r < 4) (by omega)) (by simp only [nI_clamp (show r < 2 ^ 31 by omega)]) dX5_forget_17 ?_
    refine v_callVi (r := bI (K_nothing (v.1.2.1 r))) (rest := []) (ws' := wX E b v) hX (fun sz => c_X0_hasNothingToForget l E (kA (b 1) r) sz (v.1.2.1 r) ) (cwV 0 hX.2.2.2.2.1 gX5_forget_X0_hasNothingToForget rfl rfl rfl (by decide +kernel) ⟨Nat.le_of_ble_eq_true rfl, Nat.le_of_ble_eq_true rfl⟩) (w1X b v ++ (mPre E (b 1) v.1 r)) ((mPost E (b 1) v.1 r) ++ (wM E (b 2) v.2.1 ++ (wM E (b 3) v.2.2.1 ++ (wH E (hA b) v.2.2.2.1 ++ (wP E (b 9) v.2.2.2.2.1))))) (lift0 (wM_cut E (b 1) v.1 (by omega : r < 4))) (lift0 (wM_cut E (b 1) v.1 (by omega : r < 4))).symm (wK_fst E (kA (b 1) r) _ _) (ci := 0) (q0 := 0) rfl rfl rfl rfl rfl (Nat.le_of_ble_eq_true rfl) dX5_forget_18 ?_
    refine v_if_eq (tgt := 27) hX dX5_forget_21 (by decide) (fun c2 => ?_) (fun c2 => ?_)
    · replace c2 := bI_0.mp c2
      refine v_aload_n hX dX5_forget_27 rfl ?_
      refine v_get (C := RX5) (T := TX5) (N := 9) (ci := 5) (v := .ref (b 4 0)) hX in_X5 0 rfl rfl 3 (by decide) fl_25 rfl rfl dX5_forget_28 ?_
      refine v_aload_n hX dX5_forget_31 rfl ?_
      refine v_get (C := RX5) (T := TX5) (N := 9) (ci := 5) (v := .ref (b 1 0)) hX in_X5 0 rfl rfl 0 (by decide) fl_12 rfl rfl dX5_forget_32 ?_
      obtain ⟨v3, hv3⟩ : ∃ z_ : XV, z_ = X_setHist v (H_rec v.2.2.2.1 v.1) := ⟨_, rfl⟩
      refine v_callVv2s (rest := []) (ws' := wX E b v3) (x1 := wH E (hA b) v.2.2.2.1) (x2 := wM E (b 1) v.1) (x1' := wH E (hA b) (H_rec v.2.2.2.1 v.1)) hX (fun sz => c_X2_record l E (b 1) (hA b) sz (v.2.2.2.1, v.1)) (cwV 1 hX.2.2.2.2.1 gX5_forget_X2_record rfl rfl rfl (by decide +kernel) ⟨Nat.le_of_ble_eq_true rfl, Nat.le_of_ble_eq_true rfl⟩) (w1X b v) (wM E (b 2) v.2.1 ++ wM E (b 3) v.2.2.1) (wP E (b 9) v.2.2.2.2.1) (by simp only [wX, List.append_assoc]) (by rw [hv3]; simp only [wX, List.append_assoc]; rfl) (wH_fst E (hA b) _ _) (ci := 2) (q0 := 0) rfl rfl rfl rfl rfl (Nat.le_of_ble_eq_true rfl) dX5_forget_35 ?_
      refine v_aload_n hX dX5_forget_38 rfl ?_
      refine v_get (C := RX5) (T := TX5) (N := 9) (ci := 5) (v := .ref (b 1 0)) hX in_X5 0 rfl rfl 0 (by decide) fl_12 rfl rfl dX5_forget_39 ?_
      refine v_iload_n hX dX5_forget_42 rfl ?_
      obtain ⟨v4, hv4⟩ : ∃ z_ : XV, z_ = X_setNow v3 ((M_forget v3.1 r).1) := ⟨_, rfl⟩
      refine v_callVi (r := (M_forget v3.1 r).2) (rest := []) (ws' := wX E b v4) hX (fun sz => c_X3_forgetOnPurpose l E (b 1) sz v3.1 r (by first | omega | exact Nat.le_of_ble_eq_true rfl | assumption | decide)) (cwV 1 hX.2.2.2.2.1 gX5_forget_X3_forgetOnPurpose rfl rfl rfl (by decide +kernel) ⟨Nat.le_of_ble_eq_true rfl, Nat.le_of_ble_eq_true rfl⟩) (w1X b v3 ++ ([])) (([]) ++ (wM E (b 2) v3.2.1 ++ (wM E (b 3) v3.2.2.1 ++ (wH E (hA b) v3.2.2.2.1 ++ (wP E (b 9) v3.2.2.2.2.1))))) (lift0 ((List.append_nil _).symm)) (by rw [hv4]; exact (lift0 (y := wM E (b 1) ((M_forget v3.1 r).1)) (List.append_nil _).symm).symm) (wM_fst E (b 1) _ _) (ci := 3) (q0 := 0) rfl rfl rfl rfl rfl (Nat.le_of_ble_eq_true rfl) dX5_forget_43 ?_
      exact v_iret hX hr hsz dX5_forget_46 rfl rfl (by (subst hv4; subst hv3; first | rfl | (simp only [X_forget, X_rec, c1, ec_r, c2, if_true, if_false, reduceIte, Bool.false_eq_true, reduceCtorEq, decide_true, decide_false, Bool.and_true, Bool.and_false, Bool.true_and, Bool.false_and, Bool.or_true, Bool.or_false, Bool.true_or, Bool.false_or, not_true_eq_false, not_false_eq_true, Bool.not_true, Bool.not_false, eq_self, Nat.reduceEqDiff]; done) | (simp only [X_forget, X_rec, c1, ec_r, c2, if_true, if_false, reduceIte, Bool.false_eq_true, reduceCtorEq, decide_true, decide_false, Bool.and_true, Bool.and_false, Bool.true_and, Bool.false_and, Bool.or_true, Bool.or_false, Bool.true_or, Bool.false_or, not_true_eq_false, not_false_eq_true, Bool.not_true, Bool.not_false, eq_self, Nat.reduceEqDiff]; rfl) | contradiction | (exfalso; omega))) (by (subst hv4; subst hv3; first | rfl | (simp only [X_forget, X_rec, c1, ec_r, c2, if_true, if_false, reduceIte, Bool.false_eq_true, reduceCtorEq, decide_true, decide_false, Bool.and_true, Bool.and_false, Bool.true_and, Bool.false_and, Bool.or_true, Bool.or_false, Bool.true_or, Bool.false_or, not_true_eq_false, not_false_eq_true, Bool.not_true, Bool.not_false, eq_self, Nat.reduceEqDiff]; done) | (simp only [X_forget, X_rec, c1, ec_r, c2, if_true, if_false, reduceIte, Bool.false_eq_true, reduceCtorEq, decide_true, decide_false, Bool.and_true, Bool.and_false, Bool.true_and, Bool.false_and, Bool.or_true, Bool.or_false, Bool.true_or, Bool.false_or, not_true_eq_false, not_false_eq_true, Bool.not_true, Bool.not_false, eq_self, Nat.reduceEqDiff]; rfl) | contradiction | (exfalso; omega)))
    · replace c2 := bI_n0.mp c2
      refine v_bipush (x := (-5 : Int32)) hX dX5_forget_24 (by decide) ?_
      exact v_iret hX hr hsz dX5_forget_26 rfl rfl (by (first | rfl | (simp only [X_forget, X_rec, c1, ec_r, c2, if_true, if_false, reduceIte, Bool.false_eq_true, reduceCtorEq, decide_true, decide_false, Bool.and_true, Bool.and_false, Bool.true_and, Bool.false_and, Bool.or_true, Bool.or_false, Bool.true_or, Bool.false_or, not_true_eq_false, not_false_eq_true, Bool.not_true, Bool.not_false, eq_self, Nat.reduceEqDiff]; done) | (simp only [X_forget, X_rec, c1, ec_r, c2, if_true, if_false, reduceIte, Bool.false_eq_true, reduceCtorEq, decide_true, decide_false, Bool.and_true, Bool.and_false, Bool.true_and, Bool.false_and, Bool.or_true, Bool.or_false, Bool.true_or, Bool.false_or, not_true_eq_false, not_false_eq_true, Bool.not_true, Bool.not_false, eq_self, Nat.reduceEqDiff]; rfl) | contradiction | (exfalso; omega))) (by (first | rfl | (simp only [X_forget, X_rec, c1, ec_r, c2, if_true, if_false, reduceIte, Bool.false_eq_true, reduceCtorEq, decide_true, decide_false, Bool.and_true, Bool.and_false, Bool.true_and, Bool.false_and, Bool.or_true, Bool.or_false, Bool.true_or, Bool.false_or, not_true_eq_false, not_false_eq_true, Bool.not_true, Bool.not_false, eq_self, Nat.reduceEqDiff]; done) | (simp only [X_forget, X_rec, c1, ec_r, c2, if_true, if_false, reduceIte, Bool.false_eq_true, reduceCtorEq, decide_true, decide_false, Bool.and_true, Bool.and_false, Bool.true_and, Bool.false_and, Bool.or_true, Bool.or_false, Bool.true_or, Bool.false_or, not_true_eq_false, not_false_eq_true, Bool.not_true, Bool.not_false, eq_self, Nat.reduceEqDiff]; rfl) | contradiction | (exfalso; omega)))
  · replace c1 := bI_0.mp c1
    refine v_iconst (x := (-1 : Int32)) hX dX5_forget_7 (by decide) ?_
    exact v_iret hX hr hsz dX5_forget_8 rfl rfl (by (first | rfl | (simp only [X_forget, X_rec, c1, if_true, if_false, reduceIte, Bool.false_eq_true, reduceCtorEq, decide_true, decide_false, Bool.and_true, Bool.and_false, Bool.true_and, Bool.false_and, Bool.or_true, Bool.or_false, Bool.true_or, Bool.false_or, not_true_eq_false, not_false_eq_true, Bool.not_true, Bool.not_false, eq_self, Nat.reduceEqDiff]; done) | (simp only [X_forget, X_rec, c1, if_true, if_false, reduceIte, Bool.false_eq_true, reduceCtorEq, decide_true, decide_false, Bool.and_true, Bool.and_false, Bool.true_and, Bool.false_and, Bool.or_true, Bool.or_false, Bool.true_or, Bool.false_or, not_true_eq_false, not_false_eq_true, Bool.not_true, Bool.not_false, eq_self, Nat.reduceEqDiff]; rfl) | contradiction | (exfalso; omega))) (by (first | rfl | (simp only [X_forget, X_rec, c1, if_true, if_false, reduceIte, Bool.false_eq_true, reduceCtorEq, decide_true, decide_false, Bool.and_true, Bool.and_false, Bool.true_and, Bool.false_and, Bool.or_true, Bool.or_false, Bool.true_or, Bool.false_or, not_true_eq_false, not_false_eq_true, Bool.not_true, Bool.not_false, eq_self, Nat.reduceEqDiff]; done) | (simp only [X_forget, X_rec, c1, if_true, if_false, reduceIte, Bool.false_eq_true, reduceCtorEq, decide_true, decide_false, Bool.and_true, Bool.and_false, Bool.true_and, Bool.false_and, Bool.or_true, Bool.or_false, Bool.true_or, Bool.false_or, not_true_eq_false, not_false_eq_true, Bool.not_true, Bool.not_false, eq_self, Nat.reduceEqDiff]; rfl) | contradiction | (exfalso; omega)))
set_option maxHeartbeats 4000000 in
set_option maxRecDepth 100000 in
theorem c_X5_set (l : Launch) (E : ET) (b : Nat → Nat → Nat) (sz : Nat) (v : XV) (w : Int32) (x : Int32) : Met l yX5_set wsX5_set ({ frames := 5, cells := 0, slots := 0, locals := 103 }) (mPc E [.ref (b 0 0), .int (w), .int (x)] sz (wX E b v)) (mQi E ((X_set v w x).1) (wX E b v) (wX E b ((X_set v w x).2)) sz) 0 0 (va_A (wX E b v) sz) := by
  refine v_start (cc := cX5_set) (maxL := 4) (ret := (some .int)) (by decide) rfl (Nat.le_of_ble_eq_true rfl) rfl ?_
  intro p e s m args below meth c hsz hr hX
  have hX : Xc p s m args meth c E 4 (va_A (wX E b v) sz) cX5_set RX5 wsX5_set := hX
  have in_X5 : ∀ w ∈ u_ws RX5 TX5 9, w ∈ wsX5_set := by decide +kernel
  have fl_12 : Cond.fieldLink RX5 12 RX5 "now" "LSnoopFilter$Machine;" ∈ wsX5_set := by decide +kernel
  have in_X3 : ∀ w ∈ u_ws RX3 TX3 6, w ∈ wsX5_set := by decide +kernel
  have fl_83 : Cond.fieldLink RX5 83 RX3 "fullFrom" "I" ∈ wsX5_set := by decide +kernel
  have fl_25 : Cond.fieldLink RX5 25 RX5 "history" "LSnoopFilter$History;" ∈ wsX5_set := by decide +kernel
  have fl_79 : Cond.fieldLink RX5 79 RX3 "limit" "I" ∈ wsX5_set := by decide +kernel
  refine v_iload_n hX dX5_set_0 rfl ?_
  refine v_iconst (x := (0 : Int32)) hX dX5_set_1 (by decide) ?_
  refine v_iconst (x := (1 : Int32)) hX dX5_set_2 (by decide) ?_
  refine v_callSi (r := bI (S_within w (0 : Int32) (1 : Int32))) (rest := []) (ws' := wX E b v) hX (fun sz => c_X5_isWithin l E sz w (0 : Int32) (1 : Int32)) (va_cwS 3 hX.2.2.2.2.1 gX5_set_X5_isWithin rfl rfl rfl (by decide +kernel) ⟨Nat.le_of_ble_eq_true rfl, Nat.le_of_ble_eq_true rfl⟩) ([]) (wX E b v) (rfl) rfl (rfl) rfl rfl (Nat.le_of_ble_eq_true rfl) dX5_set_3 ?_
  refine v_if_ne (tgt := 11) hX dX5_set_6 (by decide) (fun c1 => ?_) (fun c1 => ?_)
  · replace c1 := bI_n0.mp c1
    refine v_iload_n hX dX5_set_11 rfl ?_
    refine v_iconst (x := (1 : Int32)) hX dX5_set_12 (by decide) ?_
    refine v_iload_n hX dX5_set_13 rfl ?_
    refine v_if_ne (tgt := 22) hX dX5_set_14 (by decide) (fun c2 => ?_) (fun c2 => ?_)
    · refine v_bipush (x := (24 : Int32)) hX dX5_set_22 (by decide) ?_
      refine v_callSi (r := bI (S_within x (1 : Int32) (24 : Int32))) (rest := []) (ws' := wX E b v) hX (fun sz => c_X5_isWithin l E sz x (1 : Int32) (24 : Int32)) (va_cwS 3 hX.2.2.2.2.1 gX5_set_X5_isWithin rfl rfl rfl (by decide +kernel) ⟨Nat.le_of_ble_eq_true rfl, Nat.le_of_ble_eq_true rfl⟩) ([]) (wX E b v) (rfl) rfl (rfl) rfl rfl (Nat.le_of_ble_eq_true rfl) dX5_set_24 ?_
      refine v_if_ne (tgt := 33) hX dX5_set_27 (by decide) (fun c3 => ?_) (fun c3 => ?_)
      · replace c3 := bI_n0.mp c3
        refine v_iload_n hX dX5_set_33 rfl ?_
        refine v_if_ne (tgt := 47) hX dX5_set_34 (by decide) (fun c4 => ?_) (fun c4 => ?_)
        · refine v_aload_n hX dX5_set_47 rfl ?_
          refine v_get (C := RX5) (T := TX5) (N := 9) (ci := 5) (v := .ref (b 1 0)) hX in_X5 0 rfl rfl 0 (by decide) fl_12 rfl rfl dX5_set_48 ?_
          refine v_get (C := RX3) (T := TX3) (N := 6) (ci := 3) (v := .int (v.1.2.2.2.1)) hX in_X3 _ (atR (atL (rfl : (wM E (b 1) v.1)[0]? = _))) rfl 3 (by decide) fl_83 rfl rfl dX5_set_51 ?_
          refine v_istore_n (lv' := [.ref (b 0 0), .int (w), .int (x), .int (v.1.2.2.2.1)]) hX dX5_set_54 (Nat.le_of_ble_eq_true rfl) (Nat.le_of_ble_eq_true rfl) rfl rfl ?_
          refine v_iload_n hX dX5_set_55 rfl ?_
          refine v_iload_n hX dX5_set_56 rfl ?_
          refine v_icmp_ne (tgt := 63) hX dX5_set_57 (by decide) (fun c5 => ?_) (fun c5 => ?_)
          · refine v_aload_n hX dX5_set_63 rfl ?_
            refine v_get (C := RX5) (T := TX5) (N := 9) (ci := 5) (v := .ref (b 4 0)) hX in_X5 0 rfl rfl 3 (by decide) fl_25 rfl rfl dX5_set_64 ?_
            refine v_aload_n hX dX5_set_67 rfl ?_
            refine v_get (C := RX5) (T := TX5) (N := 9) (ci := 5) (v := .ref (b 1 0)) hX in_X5 0 rfl rfl 0 (by decide) fl_12 rfl rfl dX5_set_68 ?_
            obtain ⟨v6, hv6⟩ : ∃ z_ : XV, z_ = X_setHist v (H_rec v.2.2.2.1 v.1) := ⟨_, rfl⟩
            refine v_callVv2s (rest := []) (ws' := wX E b v6) (x1 := wH E (hA b) v.2.2.2.1) (x2 := wM E (b 1) v.1) (x1' := wH E (hA b) (H_rec v.2.2.2.1 v.1)) hX (fun sz => c_X2_record l E (b 1) (hA b) sz (v.2.2.2.1, v.1)) (cwV 1 hX.2.2.2.2.1 gX5_set_X2_record rfl rfl rfl (by decide +kernel) ⟨Nat.le_of_ble_eq_true rfl, Nat.le_of_ble_eq_true rfl⟩) (w1X b v) (wM E (b 2) v.2.1 ++ wM E (b 3) v.2.2.1) (wP E (b 9) v.2.2.2.2.1) (by simp only [wX, List.append_assoc]) (by rw [hv6]; simp only [wX, List.append_assoc]; rfl) (wH_fst E (hA b) _ _) (ci := 2) (q0 := 0) rfl rfl rfl rfl rfl (Nat.le_of_ble_eq_true rfl) dX5_set_71 ?_
            refine v_iload_n hX dX5_set_74 rfl ?_
            refine v_if_ne (tgt := 89) hX dX5_set_75 (by decide) (fun c7 => ?_) (fun c7 => ?_)
            · refine v_aload_n hX dX5_set_89 rfl ?_
              refine v_get (C := RX5) (T := TX5) (N := 9) (ci := 5) (v := .ref (b 1 0)) hX in_X5 0 rfl rfl 0 (by decide) fl_12 rfl rfl dX5_set_90 ?_
              refine v_iload_n hX dX5_set_93 rfl ?_
              obtain ⟨v8, hv8⟩ : ∃ z_ : XV, z_ = X_setNow v6 (M_setFull v6.1 (x)) := ⟨_, rfl⟩
              refine v_put (C := RX3) (T := TX3) (N := 6) (ci := 3) (v := .int (x)) (ty := .int) (ws' := wX E b v8) hX in_X3 tyX3 tyX3_ok nmX3 _ (atR (atL (rfl : (wM E (b 1) v6.1)[0]? = _))) rfl 3 (by decide) fl_83 rfl rfl (by decide +kernel) (rfl) (rfl) (Nat.le_of_ble_eq_true rfl) dX5_set_94 (by rw [hv8]; exact (stR (stL (y' := wM E (b 1) (M_setFull v6.1 (x))) (Nat.le_of_ble_eq_true rfl) rfl))) ?_
              refine v_iload_n hX dX5_set_97 rfl ?_
              exact v_iret hX hr hsz dX5_set_98 rfl rfl (by (subst hv8; subst hv6; first | rfl | (simp only [X_set, X_rec, c1, c2, c3, c4, c5, c7, if_true, if_false, reduceIte, Bool.false_eq_true, reduceCtorEq, decide_true, decide_false, Bool.and_true, Bool.and_false, Bool.true_and, Bool.false_and, Bool.or_true, Bool.or_false, Bool.true_or, Bool.false_or, not_true_eq_false, not_false_eq_true, Bool.not_true, Bool.not_false, eq_self, Nat.reduceEqDiff]; done) | (simp only [X_set, X_rec, c1, c2, c3, c4, c5, c7, if_true, if_false, reduceIte, Bool.false_eq_true, reduceCtorEq, decide_true, decide_false, Bool.and_true, Bool.and_false, Bool.true_and, Bool.false_and, Bool.or_true, Bool.or_false, Bool.true_or, Bool.false_or, not_true_eq_false, not_false_eq_true, Bool.not_true, Bool.not_false, eq_self, Nat.reduceEqDiff]; rfl) | contradiction | (exfalso; omega))) (by (subst hv8; subst hv6; first | rfl | (simp only [X_set, X_rec, c1, c2, c3, c4, c5, c7, if_true, if_false, reduceIte, Bool.false_eq_true, reduceCtorEq, decide_true, decide_false, Bool.and_true, Bool.and_false, Bool.true_and, Bool.false_and, Bool.or_true, Bool.or_false, Bool.true_or, Bool.false_or, not_true_eq_false, not_false_eq_true, Bool.not_true, Bool.not_false, eq_self, Nat.reduceEqDiff]; done) | (simp only [X_set, X_rec, c1, c2, c3, c4, c5, c7, if_true, if_false, reduceIte, Bool.false_eq_true, reduceCtorEq, decide_true, decide_false, Bool.and_true, Bool.and_false, Bool.true_and, Bool.false_and, Bool.or_true, Bool.or_false, Bool.true_or, Bool.false_or, not_true_eq_false, not_false_eq_true, Bool.not_true, Bool.not_false, eq_self, Nat.reduceEqDiff]; rfl) | contradiction | (exfalso; omega)))
            · have c7t := eq_true c7
              refine v_aload_n hX dX5_set_78 rfl ?_
              refine v_get (C := RX5) (T := TX5) (N := 9) (ci := 5) (v := .ref (b 1 0)) hX in_X5 0 rfl rfl 0 (by decide) fl_12 rfl rfl dX5_set_79 ?_
              refine v_iload_n hX dX5_set_82 rfl ?_
              obtain ⟨v9, hv9⟩ : ∃ z_ : XV, z_ = X_setNow v6 (M_setLim v6.1 (x)) := ⟨_, rfl⟩
              refine v_put (C := RX3) (T := TX3) (N := 6) (ci := 3) (v := .int (x)) (ty := .int) (ws' := wX E b v9) hX in_X3 tyX3 tyX3_ok nmX3 _ (atR (atL (rfl : (wM E (b 1) v6.1)[0]? = _))) rfl 2 (by decide) fl_79 rfl rfl (by decide +kernel) (rfl) (rfl) (Nat.le_of_ble_eq_true rfl) dX5_set_83 (by rw [hv9]; exact (stR (stL (y' := wM E (b 1) (M_setLim v6.1 (x))) (Nat.le_of_ble_eq_true rfl) rfl))) ?_
              refine v_goto (tgt := 97) hX dX5_set_86 (by decide) ?_
              refine v_iload_n hX dX5_set_97 rfl ?_
              exact v_iret hX hr hsz dX5_set_98 rfl rfl (by (subst hv9; subst hv6; first | rfl | (simp only [X_set, X_rec, c1, c2, c3, c4, c5, c7t, if_true, if_false, reduceIte, Bool.false_eq_true, reduceCtorEq, decide_true, decide_false, Bool.and_true, Bool.and_false, Bool.true_and, Bool.false_and, Bool.or_true, Bool.or_false, Bool.true_or, Bool.false_or, not_true_eq_false, not_false_eq_true, Bool.not_true, Bool.not_false, eq_self, Nat.reduceEqDiff]; done) | (simp only [X_set, X_rec, c1, c2, c3, c4, c5, c7t, if_true, if_false, reduceIte, Bool.false_eq_true, reduceCtorEq, decide_true, decide_false, Bool.and_true, Bool.and_false, Bool.true_and, Bool.false_and, Bool.or_true, Bool.or_false, Bool.true_or, Bool.false_or, not_true_eq_false, not_false_eq_true, Bool.not_true, Bool.not_false, eq_self, Nat.reduceEqDiff]; rfl) | contradiction | (exfalso; omega))) (by (subst hv9; subst hv6; first | rfl | (simp only [X_set, X_rec, c1, c2, c3, c4, c5, c7t, if_true, if_false, reduceIte, Bool.false_eq_true, reduceCtorEq, decide_true, decide_false, Bool.and_true, Bool.and_false, Bool.true_and, Bool.false_and, Bool.or_true, Bool.or_false, Bool.true_or, Bool.false_or, not_true_eq_false, not_false_eq_true, Bool.not_true, Bool.not_false, eq_self, Nat.reduceEqDiff]; done) | (simp only [X_set, X_rec, c1, c2, c3, c4, c5, c7t, if_true, if_false, reduceIte, Bool.false_eq_true, reduceCtorEq, decide_true, decide_false, Bool.and_true, Bool.and_false, Bool.true_and, Bool.false_and, Bool.or_true, Bool.or_false, Bool.true_or, Bool.false_or, not_true_eq_false, not_false_eq_true, Bool.not_true, Bool.not_false, eq_self, Nat.reduceEqDiff]; rfl) | contradiction | (exfalso; omega)))
          · have c5t := eq_true c5
            refine v_bipush (x := (-5 : Int32)) hX dX5_set_60 (by decide) ?_
            exact v_iret hX hr hsz dX5_set_62 rfl rfl (by (first | rfl | (simp only [X_set, X_rec, c1, c2, c3, c4, c5t, if_true, if_false, reduceIte, Bool.false_eq_true, reduceCtorEq, decide_true, decide_false, Bool.and_true, Bool.and_false, Bool.true_and, Bool.false_and, Bool.or_true, Bool.or_false, Bool.true_or, Bool.false_or, not_true_eq_false, not_false_eq_true, Bool.not_true, Bool.not_false, eq_self, Nat.reduceEqDiff]; done) | (simp only [X_set, X_rec, c1, c2, c3, c4, c5t, if_true, if_false, reduceIte, Bool.false_eq_true, reduceCtorEq, decide_true, decide_false, Bool.and_true, Bool.and_false, Bool.true_and, Bool.false_and, Bool.or_true, Bool.or_false, Bool.true_or, Bool.false_or, not_true_eq_false, not_false_eq_true, Bool.not_true, Bool.not_false, eq_self, Nat.reduceEqDiff]; rfl) | contradiction | (exfalso; omega))) (by (first | rfl | (simp only [X_set, X_rec, c1, c2, c3, c4, c5t, if_true, if_false, reduceIte, Bool.false_eq_true, reduceCtorEq, decide_true, decide_false, Bool.and_true, Bool.and_false, Bool.true_and, Bool.false_and, Bool.or_true, Bool.or_false, Bool.true_or, Bool.false_or, not_true_eq_false, not_false_eq_true, Bool.not_true, Bool.not_false, eq_self, Nat.reduceEqDiff]; done) | (simp only [X_set, X_rec, c1, c2, c3, c4, c5t, if_true, if_false, reduceIte, Bool.false_eq_true, reduceCtorEq, decide_true, decide_false, Bool.and_true, Bool.and_false, Bool.true_and, Bool.false_and, Bool.or_true, Bool.or_false, Bool.true_or, Bool.false_or, not_true_eq_false, not_false_eq_true, Bool.not_true, Bool.not_false, eq_self, Nat.reduceEqDiff]; rfl) | contradiction | (exfalso; omega)))
        · have c4t := eq_true c4
          refine v_aload_n hX dX5_set_37 rfl ?_
          refine v_get (C := RX5) (T := TX5) (N := 9) (ci := 5) (v := .ref (b 1 0)) hX in_X5 0 rfl rfl 0 (by decide) fl_12 rfl rfl dX5_set_38 ?_
          refine v_get (C := RX3) (T := TX3) (N := 6) (ci := 3) (v := .int (v.1.2.2.1)) hX in_X3 _ (atR (atL (rfl : (wM E (b 1) v.1)[0]? = _))) rfl 2 (by decide) fl_79 rfl rfl dX5_set_41 ?_
          refine v_goto (tgt := 54) hX dX5_set_44 (by decide) ?_
          refine v_istore_n (lv' := [.ref (b 0 0), .int (w), .int (x), .int (v.1.2.2.1)]) hX dX5_set_54 (Nat.le_of_ble_eq_true rfl) (Nat.le_of_ble_eq_true rfl) rfl rfl ?_
          refine v_iload_n hX dX5_set_55 rfl ?_
          refine v_iload_n hX dX5_set_56 rfl ?_
          refine v_icmp_ne (tgt := 63) hX dX5_set_57 (by decide) (fun c10 => ?_) (fun c10 => ?_)
          · refine v_aload_n hX dX5_set_63 rfl ?_
            refine v_get (C := RX5) (T := TX5) (N := 9) (ci := 5) (v := .ref (b 4 0)) hX in_X5 0 rfl rfl 3 (by decide) fl_25 rfl rfl dX5_set_64 ?_
            refine v_aload_n hX dX5_set_67 rfl ?_
            refine v_get (C := RX5) (T := TX5) (N := 9) (ci := 5) (v := .ref (b 1 0)) hX in_X5 0 rfl rfl 0 (by decide) fl_12 rfl rfl dX5_set_68 ?_
            obtain ⟨v11, hv11⟩ : ∃ z_ : XV, z_ = X_setHist v (H_rec v.2.2.2.1 v.1) := ⟨_, rfl⟩
            refine v_callVv2s (rest := []) (ws' := wX E b v11) (x1 := wH E (hA b) v.2.2.2.1) (x2 := wM E (b 1) v.1) (x1' := wH E (hA b) (H_rec v.2.2.2.1 v.1)) hX (fun sz => c_X2_record l E (b 1) (hA b) sz (v.2.2.2.1, v.1)) (cwV 1 hX.2.2.2.2.1 gX5_set_X2_record rfl rfl rfl (by decide +kernel) ⟨Nat.le_of_ble_eq_true rfl, Nat.le_of_ble_eq_true rfl⟩) (w1X b v) (wM E (b 2) v.2.1 ++ wM E (b 3) v.2.2.1) (wP E (b 9) v.2.2.2.2.1) (by simp only [wX, List.append_assoc]) (by rw [hv11]; simp only [wX, List.append_assoc]; rfl) (wH_fst E (hA b) _ _) (ci := 2) (q0 := 0) rfl rfl rfl rfl rfl (Nat.le_of_ble_eq_true rfl) dX5_set_71 ?_
            refine v_iload_n hX dX5_set_74 rfl ?_
            refine v_if_ne (tgt := 89) hX dX5_set_75 (by decide) (fun c12 => ?_) (fun c12 => ?_)
            · refine v_aload_n hX dX5_set_89 rfl ?_
              refine v_get (C := RX5) (T := TX5) (N := 9) (ci := 5) (v := .ref (b 1 0)) hX in_X5 0 rfl rfl 0 (by decide) fl_12 rfl rfl dX5_set_90 ?_
              refine v_iload_n hX dX5_set_93 rfl ?_
              obtain ⟨v13, hv13⟩ : ∃ z_ : XV, z_ = X_setNow v11 (M_setFull v11.1 (x)) := ⟨_, rfl⟩
              refine v_put (C := RX3) (T := TX3) (N := 6) (ci := 3) (v := .int (x)) (ty := .int) (ws' := wX E b v13) hX in_X3 tyX3 tyX3_ok nmX3 _ (atR (atL (rfl : (wM E (b 1) v11.1)[0]? = _))) rfl 3 (by decide) fl_83 rfl rfl (by decide +kernel) (rfl) (rfl) (Nat.le_of_ble_eq_true rfl) dX5_set_94 (by rw [hv13]; exact (stR (stL (y' := wM E (b 1) (M_setFull v11.1 (x))) (Nat.le_of_ble_eq_true rfl) rfl))) ?_
              refine v_iload_n hX dX5_set_97 rfl ?_
              exact v_iret hX hr hsz dX5_set_98 rfl rfl (by (subst hv13; subst hv11; first | rfl | (simp only [X_set, X_rec, c1, c2, c3, c4t, c10, c12, if_true, if_false, reduceIte, Bool.false_eq_true, reduceCtorEq, decide_true, decide_false, Bool.and_true, Bool.and_false, Bool.true_and, Bool.false_and, Bool.or_true, Bool.or_false, Bool.true_or, Bool.false_or, not_true_eq_false, not_false_eq_true, Bool.not_true, Bool.not_false, eq_self, Nat.reduceEqDiff]; done) | (simp only [X_set, X_rec, c1, c2, c3, c4t, c10, c12, if_true, if_false, reduceIte, Bool.false_eq_true, reduceCtorEq, decide_true, decide_false, Bool.and_true, Bool.and_false, Bool.true_and, Bool.false_and, Bool.or_true, Bool.or_false, Bool.true_or, Bool.false_or, not_true_eq_false, not_false_eq_true, Bool.not_true, Bool.not_false, eq_self, Nat.reduceEqDiff]; rfl) | contradiction | (exfalso; omega))) (by (subst hv13; subst hv11; first | rfl | (simp only [X_set, X_rec, c1, c2, c3, c4t, c10, c12, if_true, if_false, reduceIte, Bool.false_eq_true, reduceCtorEq, decide_true, decide_false, Bool.and_true, Bool.and_false, Bool.true_and, Bool.false_and, Bool.or_true, Bool.or_false, Bool.true_or, Bool.false_or, not_true_eq_false, not_false_eq_true, Bool.not_true, Bool.not_false, eq_self, Nat.reduceEqDiff]; done) | (simp only [X_set, X_rec, c1, c2, c3, c4t, c10, c12, if_true, if_false, reduceIte, Bool.false_eq_true, reduceCtorEq, decide_true, decide_false, Bool.and_true, Bool.and_false, Bool.true_and, Bool.false_and, Bool.or_true, Bool.or_false, Bool.true_or, Bool.false_or, not_true_eq_false, not_false_eq_true, Bool.not_true, Bool.not_false, eq_self, Nat.reduceEqDiff]; rfl) | contradiction | (exfalso; omega)))
            · have c12t := eq_true c12
              refine v_aload_n hX dX5_set_78 rfl ?_
              refine v_get (C := RX5) (T := TX5) (N := 9) (ci := 5) (v := .ref (b 1 0)) hX in_X5 0 rfl rfl 0 (by decide) fl_12 rfl rfl dX5_set_79 ?_
              refine v_iload_n hX dX5_set_82 rfl ?_
              obtain ⟨v14, hv14⟩ : ∃ z_ : XV, z_ = X_setNow v11 (M_setLim v11.1 (x)) := ⟨_, rfl⟩
              refine v_put (C := RX3) (T := TX3) (N := 6) (ci := 3) (v := .int (x)) (ty := .int) (ws' := wX E b v14) hX in_X3 tyX3 tyX3_ok nmX3 _ (atR (atL (rfl : (wM E (b 1) v11.1)[0]? = _))) rfl 2 (by decide) fl_79 rfl rfl (by decide +kernel) (rfl) (rfl) (Nat.le_of_ble_eq_true rfl) dX5_set_83 (by rw [hv14]; exact (stR (stL (y' := wM E (b 1) (M_setLim v11.1 (x))) (Nat.le_of_ble_eq_true rfl) rfl))) ?_
              refine v_goto (tgt := 97) hX dX5_set_86 (by decide) ?_
              refine v_iload_n hX dX5_set_97 rfl ?_
              exact v_iret hX hr hsz dX5_set_98 rfl rfl (by (subst hv14; subst hv11; first | rfl | (simp only [X_set, X_rec, c1, c2, c3, c4t, c10, c12t, if_true, if_false, reduceIte, Bool.false_eq_true, reduceCtorEq, decide_true, decide_false, Bool.and_true, Bool.and_false, Bool.true_and, Bool.false_and, Bool.or_true, Bool.or_false, Bool.true_or, Bool.false_or, not_true_eq_false, not_false_eq_true, Bool.not_true, Bool.not_false, eq_self, Nat.reduceEqDiff]; done) | (simp only [X_set, X_rec, c1, c2, c3, c4t, c10, c12t, if_true, if_false, reduceIte, Bool.false_eq_true, reduceCtorEq, decide_true, decide_false, Bool.and_true, Bool.and_false, Bool.true_and, Bool.false_and, Bool.or_true, Bool.or_false, Bool.true_or, Bool.false_or, not_true_eq_false, not_false_eq_true, Bool.not_true, Bool.not_false, eq_self, Nat.reduceEqDiff]; rfl) | contradiction | (exfalso; omega))) (by (subst hv14; subst hv11; first | rfl | (simp only [X_set, X_rec, c1, c2, c3, c4t, c10, c12t, if_true, if_false, reduceIte, Bool.false_eq_true, reduceCtorEq, decide_true, decide_false, Bool.and_true, Bool.and_false, Bool.true_and, Bool.false_and, Bool.or_true, Bool.or_false, Bool.true_or, Bool.false_or, not_true_eq_false, not_false_eq_true, Bool.not_true, Bool.not_false, eq_self, Nat.reduceEqDiff]; done) | (simp only [X_set, X_rec, c1, c2, c3, c4t, c10, c12t, if_true, if_false, reduceIte, Bool.false_eq_true, reduceCtorEq, decide_true, decide_false, Bool.and_true, Bool.and_false, Bool.true_and, Bool.false_and, Bool.or_true, Bool.or_false, Bool.true_or, Bool.false_or, not_true_eq_false, not_false_eq_true, Bool.not_true, Bool.not_false, eq_self, Nat.reduceEqDiff]; rfl) | contradiction | (exfalso; omega)))
          · have c10t := eq_true c10
            refine v_bipush (x := (-5 : Int32)) hX dX5_set_60 (by decide) ?_
            exact v_iret hX hr hsz dX5_set_62 rfl rfl (by (first | rfl | (simp only [X_set, X_rec, c1, c2, c3, c4t, c10t, if_true, if_false, reduceIte, Bool.false_eq_true, reduceCtorEq, decide_true, decide_false, Bool.and_true, Bool.and_false, Bool.true_and, Bool.false_and, Bool.or_true, Bool.or_false, Bool.true_or, Bool.false_or, not_true_eq_false, not_false_eq_true, Bool.not_true, Bool.not_false, eq_self, Nat.reduceEqDiff]; done) | (simp only [X_set, X_rec, c1, c2, c3, c4t, c10t, if_true, if_false, reduceIte, Bool.false_eq_true, reduceCtorEq, decide_true, decide_false, Bool.and_true, Bool.and_false, Bool.true_and, Bool.false_and, Bool.or_true, Bool.or_false, Bool.true_or, Bool.false_or, not_true_eq_false, not_false_eq_true, Bool.not_true, Bool.not_false, eq_self, Nat.reduceEqDiff]; rfl) | contradiction | (exfalso; omega))) (by (first | rfl | (simp only [X_set, X_rec, c1, c2, c3, c4t, c10t, if_true, if_false, reduceIte, Bool.false_eq_true, reduceCtorEq, decide_true, decide_false, Bool.and_true, Bool.and_false, Bool.true_and, Bool.false_and, Bool.or_true, Bool.or_false, Bool.true_or, Bool.false_or, not_true_eq_false, not_false_eq_true, Bool.not_true, Bool.not_false, eq_self, Nat.reduceEqDiff]; done) | (simp only [X_set, X_rec, c1, c2, c3, c4t, c10t, if_true, if_false, reduceIte, Bool.false_eq_true, reduceCtorEq, decide_true, decide_false, Bool.and_true, Bool.and_false, Bool.true_and, Bool.false_and, Bool.or_true, Bool.or_false, Bool.true_or, Bool.false_or, not_true_eq_false, not_false_eq_true, Bool.not_true, Bool.not_false, eq_self, Nat.reduceEqDiff]; rfl) | contradiction | (exfalso; omega)))
      · replace c3 := bI_0.mp c3
        refine v_bipush (x := (-2 : Int32)) hX dX5_set_30 (by decide) ?_
        exact v_iret hX hr hsz dX5_set_32 rfl rfl (by (first | rfl | (simp only [X_set, X_rec, c1, c2, c3, if_true, if_false, reduceIte, Bool.false_eq_true, reduceCtorEq, decide_true, decide_false, Bool.and_true, Bool.and_false, Bool.true_and, Bool.false_and, Bool.or_true, Bool.or_false, Bool.true_or, Bool.false_or, not_true_eq_false, not_false_eq_true, Bool.not_true, Bool.not_false, eq_self, Nat.reduceEqDiff]; done) | (simp only [X_set, X_rec, c1, c2, c3, if_true, if_false, reduceIte, Bool.false_eq_true, reduceCtorEq, decide_true, decide_false, Bool.and_true, Bool.and_false, Bool.true_and, Bool.false_and, Bool.or_true, Bool.or_false, Bool.true_or, Bool.false_or, not_true_eq_false, not_false_eq_true, Bool.not_true, Bool.not_false, eq_self, Nat.reduceEqDiff]; rfl) | contradiction | (exfalso; omega))) (by (first | rfl | (simp only [X_set, X_rec, c1, c2, c3, if_true, if_false, reduceIte, Bool.false_eq_true, reduceCtorEq, decide_true, decide_false, Bool.and_true, Bool.and_false, Bool.true_and, Bool.false_and, Bool.or_true, Bool.or_false, Bool.true_or, Bool.false_or, not_true_eq_false, not_false_eq_true, Bool.not_true, Bool.not_false, eq_self, Nat.reduceEqDiff]; done) | (simp only [X_set, X_rec, c1, c2, c3, if_true, if_false, reduceIte, Bool.false_eq_true, reduceCtorEq, decide_true, decide_false, Bool.and_true, Bool.and_false, Bool.true_and, Bool.false_and, Bool.or_true, Bool.or_false, Bool.true_or, Bool.false_or, not_true_eq_false, not_false_eq_true, Bool.not_true, Bool.not_false, eq_self, Nat.reduceEqDiff]; rfl) | contradiction | (exfalso; omega)))
    · have c2t := eq_true c2
      refine v_bipush (x := (9 : Int32)) hX dX5_set_17 (by decide) ?_
      refine v_goto (tgt := 24) hX dX5_set_19 (by decide) ?_
      refine v_callSi (r := bI (S_within x (1 : Int32) (9 : Int32))) (rest := []) (ws' := wX E b v) hX (fun sz => c_X5_isWithin l E sz x (1 : Int32) (9 : Int32)) (va_cwS 3 hX.2.2.2.2.1 gX5_set_X5_isWithin rfl rfl rfl (by decide +kernel) ⟨Nat.le_of_ble_eq_true rfl, Nat.le_of_ble_eq_true rfl⟩) ([]) (wX E b v) (rfl) rfl (rfl) rfl rfl (Nat.le_of_ble_eq_true rfl) dX5_set_24 ?_
      refine v_if_ne (tgt := 33) hX dX5_set_27 (by decide) (fun c15 => ?_) (fun c15 => ?_)
      · replace c15 := bI_n0.mp c15
        refine v_iload_n hX dX5_set_33 rfl ?_
        refine v_if_ne (tgt := 47) hX dX5_set_34 (by decide) (fun c16 => ?_) (fun c16 => ?_)
        · refine v_aload_n hX dX5_set_47 rfl ?_
          refine v_get (C := RX5) (T := TX5) (N := 9) (ci := 5) (v := .ref (b 1 0)) hX in_X5 0 rfl rfl 0 (by decide) fl_12 rfl rfl dX5_set_48 ?_
          refine v_get (C := RX3) (T := TX3) (N := 6) (ci := 3) (v := .int (v.1.2.2.2.1)) hX in_X3 _ (atR (atL (rfl : (wM E (b 1) v.1)[0]? = _))) rfl 3 (by decide) fl_83 rfl rfl dX5_set_51 ?_
          refine v_istore_n (lv' := [.ref (b 0 0), .int (w), .int (x), .int (v.1.2.2.2.1)]) hX dX5_set_54 (Nat.le_of_ble_eq_true rfl) (Nat.le_of_ble_eq_true rfl) rfl rfl ?_
          refine v_iload_n hX dX5_set_55 rfl ?_
          refine v_iload_n hX dX5_set_56 rfl ?_
          refine v_icmp_ne (tgt := 63) hX dX5_set_57 (by decide) (fun c17 => ?_) (fun c17 => ?_)
          · refine v_aload_n hX dX5_set_63 rfl ?_
            refine v_get (C := RX5) (T := TX5) (N := 9) (ci := 5) (v := .ref (b 4 0)) hX in_X5 0 rfl rfl 3 (by decide) fl_25 rfl rfl dX5_set_64 ?_
            refine v_aload_n hX dX5_set_67 rfl ?_
            refine v_get (C := RX5) (T := TX5) (N := 9) (ci := 5) (v := .ref (b 1 0)) hX in_X5 0 rfl rfl 0 (by decide) fl_12 rfl rfl dX5_set_68 ?_
            obtain ⟨v18, hv18⟩ : ∃ z_ : XV, z_ = X_setHist v (H_rec v.2.2.2.1 v.1) := ⟨_, rfl⟩
            refine v_callVv2s (rest := []) (ws' := wX E b v18) (x1 := wH E (hA b) v.2.2.2.1) (x2 := wM E (b 1) v.1) (x1' := wH E (hA b) (H_rec v.2.2.2.1 v.1)) hX (fun sz => c_X2_record l E (b 1) (hA b) sz (v.2.2.2.1, v.1)) (cwV 1 hX.2.2.2.2.1 gX5_set_X2_record rfl rfl rfl (by decide +kernel) ⟨Nat.le_of_ble_eq_true rfl, Nat.le_of_ble_eq_true rfl⟩) (w1X b v) (wM E (b 2) v.2.1 ++ wM E (b 3) v.2.2.1) (wP E (b 9) v.2.2.2.2.1) (by simp only [wX, List.append_assoc]) (by rw [hv18]; simp only [wX, List.append_assoc]; rfl) (wH_fst E (hA b) _ _) (ci := 2) (q0 := 0) rfl rfl rfl rfl rfl (Nat.le_of_ble_eq_true rfl) dX5_set_71 ?_
            refine v_iload_n hX dX5_set_74 rfl ?_
            refine v_if_ne (tgt := 89) hX dX5_set_75 (by decide) (fun c19 => ?_) (fun c19 => ?_)
            · refine v_aload_n hX dX5_set_89 rfl ?_
              refine v_get (C := RX5) (T := TX5) (N := 9) (ci := 5) (v := .ref (b 1 0)) hX in_X5 0 rfl rfl 0 (by decide) fl_12 rfl rfl dX5_set_90 ?_
              refine v_iload_n hX dX5_set_93 rfl ?_
              obtain ⟨v20, hv20⟩ : ∃ z_ : XV, z_ = X_setNow v18 (M_setFull v18.1 (x)) := ⟨_, rfl⟩
              refine v_put (C := RX3) (T := TX3) (N := 6) (ci := 3) (v := .int (x)) (ty := .int) (ws' := wX E b v20) hX in_X3 tyX3 tyX3_ok nmX3 _ (atR (atL (rfl : (wM E (b 1) v18.1)[0]? = _))) rfl 3 (by decide) fl_83 rfl rfl (by decide +kernel) (rfl) (rfl) (Nat.le_of_ble_eq_true rfl) dX5_set_94 (by rw [hv20]; exact (stR (stL (y' := wM E (b 1) (M_setFull v18.1 (x))) (Nat.le_of_ble_eq_true rfl) rfl))) ?_
              refine v_iload_n hX dX5_set_97 rfl ?_
              exact v_iret hX hr hsz dX5_set_98 rfl rfl (by (subst hv20; subst hv18; first | rfl | (simp only [X_set, X_rec, c1, c2t, c15, c16, c17, c19, if_true, if_false, reduceIte, Bool.false_eq_true, reduceCtorEq, decide_true, decide_false, Bool.and_true, Bool.and_false, Bool.true_and, Bool.false_and, Bool.or_true, Bool.or_false, Bool.true_or, Bool.false_or, not_true_eq_false, not_false_eq_true, Bool.not_true, Bool.not_false, eq_self, Nat.reduceEqDiff]; done) | (simp only [X_set, X_rec, c1, c2t, c15, c16, c17, c19, if_true, if_false, reduceIte, Bool.false_eq_true, reduceCtorEq, decide_true, decide_false, Bool.and_true, Bool.and_false, Bool.true_and, Bool.false_and, Bool.or_true, Bool.or_false, Bool.true_or, Bool.false_or, not_true_eq_false, not_false_eq_true, Bool.not_true, Bool.not_false, eq_self, Nat.reduceEqDiff]; rfl) | contradiction | (exfalso; omega))) (by (subst hv20; subst hv18; first | rfl | (simp only [X_set, X_rec, c1, c2t, c15, c16, c17, c19, if_true, if_false, reduceIte, Bool.false_eq_true, reduceCtorEq, decide_true, decide_false, Bool.and_true, Bool.and_false, Bool.true_and, Bool.false_and, Bool.or_true, Bool.or_false, Bool.true_or, Bool.false_or, not_true_eq_false, not_false_eq_true, Bool.not_true, Bool.not_false, eq_self, Nat.reduceEqDiff]; done) | (simp only [X_set, X_rec, c1, c2t, c15, c16, c17, c19, if_true, if_false, reduceIte, Bool.false_eq_true, reduceCtorEq, decide_true, decide_false, Bool.and_true, Bool.and_false, Bool.true_and, Bool.false_and, Bool.or_true, Bool.or_false, Bool.true_or, Bool.false_or, not_true_eq_false, not_false_eq_true, Bool.not_true, Bool.not_false, eq_self, Nat.reduceEqDiff]; rfl) | contradiction | (exfalso; omega)))
            · have c19t := eq_true c19
              refine v_aload_n hX dX5_set_78 rfl ?_
              refine v_get (C := RX5) (T := TX5) (N := 9) (ci := 5) (v := .ref (b 1 0)) hX in_X5 0 rfl rfl 0 (by decide) fl_12 rfl rfl dX5_set_79 ?_
              refine v_iload_n hX dX5_set_82 rfl ?_
              obtain ⟨v21, hv21⟩ : ∃ z_ : XV, z_ = X_setNow v18 (M_setLim v18.1 (x)) := ⟨_, rfl⟩
              refine v_put (C := RX3) (T := TX3) (N := 6) (ci := 3) (v := .int (x)) (ty := .int) (ws' := wX E b v21) hX in_X3 tyX3 tyX3_ok nmX3 _ (atR (atL (rfl : (wM E (b 1) v18.1)[0]? = _))) rfl 2 (by decide) fl_79 rfl rfl (by decide +kernel) (rfl) (rfl) (Nat.le_of_ble_eq_true rfl) dX5_set_83 (by rw [hv21]; exact (stR (stL (y' := wM E (b 1) (M_setLim v18.1 (x))) (Nat.le_of_ble_eq_true rfl) rfl))) ?_
              refine v_goto (tgt := 97) hX dX5_set_86 (by decide) ?_
              refine v_iload_n hX dX5_set_97 rfl ?_
              exact v_iret hX hr hsz dX5_set_98 rfl rfl (by (subst hv21; subst hv18; first | rfl | (simp only [X_set, X_rec, c1, c2t, c15, c16, c17, c19t, if_true, if_false, reduceIte, Bool.false_eq_true, reduceCtorEq, decide_true, decide_false, Bool.and_true, Bool.and_false, Bool.true_and, Bool.false_and, Bool.or_true, Bool.or_false, Bool.true_or, Bool.false_or, not_true_eq_false, not_false_eq_true, Bool.not_true, Bool.not_false, eq_self, Nat.reduceEqDiff]; done) | (simp only [X_set, X_rec, c1, c2t, c15, c16, c17, c19t, if_true, if_false, reduceIte, Bool.false_eq_true, reduceCtorEq, decide_true, decide_false, Bool.and_true, Bool.and_false, Bool.true_and, Bool.false_and, Bool.or_true, Bool.or_false, Bool.true_or, Bool.false_or, not_true_eq_false, not_false_eq_true, Bool.not_true, Bool.not_false, eq_self, Nat.reduceEqDiff]; rfl) | contradiction | (exfalso; omega))) (by (subst hv21; subst hv18; first | rfl | (simp only [X_set, X_rec, c1, c2t, c15, c16, c17, c19t, if_true, if_false, reduceIte, Bool.false_eq_true, reduceCtorEq, decide_true, decide_false, Bool.and_true, Bool.and_false, Bool.true_and, Bool.false_and, Bool.or_true, Bool.or_false, Bool.true_or, Bool.false_or, not_true_eq_false, not_false_eq_true, Bool.not_true, Bool.not_false, eq_self, Nat.reduceEqDiff]; done) | (simp only [X_set, X_rec, c1, c2t, c15, c16, c17, c19t, if_true, if_false, reduceIte, Bool.false_eq_true, reduceCtorEq, decide_true, decide_false, Bool.and_true, Bool.and_false, Bool.true_and, Bool.false_and, Bool.or_true, Bool.or_false, Bool.true_or, Bool.false_or, not_true_eq_false, not_false_eq_true, Bool.not_true, Bool.not_false, eq_self, Nat.reduceEqDiff]; rfl) | contradiction | (exfalso; omega)))
          · have c17t := eq_true c17
            refine v_bipush (x := (-5 : Int32)) hX dX5_set_60 (by decide) ?_
            exact v_iret hX hr hsz dX5_set_62 rfl rfl (by (first | rfl | (simp only [X_set, X_rec, c1, c2t, c15, c16, c17t, if_true, if_false, reduceIte, Bool.false_eq_true, reduceCtorEq, decide_true, decide_false, Bool.and_true, Bool.and_false, Bool.true_and, Bool.false_and, Bool.or_true, Bool.or_false, Bool.true_or, Bool.false_or, not_true_eq_false, not_false_eq_true, Bool.not_true, Bool.not_false, eq_self, Nat.reduceEqDiff]; done) | (simp only [X_set, X_rec, c1, c2t, c15, c16, c17t, if_true, if_false, reduceIte, Bool.false_eq_true, reduceCtorEq, decide_true, decide_false, Bool.and_true, Bool.and_false, Bool.true_and, Bool.false_and, Bool.or_true, Bool.or_false, Bool.true_or, Bool.false_or, not_true_eq_false, not_false_eq_true, Bool.not_true, Bool.not_false, eq_self, Nat.reduceEqDiff]; rfl) | contradiction | (exfalso; omega))) (by (first | rfl | (simp only [X_set, X_rec, c1, c2t, c15, c16, c17t, if_true, if_false, reduceIte, Bool.false_eq_true, reduceCtorEq, decide_true, decide_false, Bool.and_true, Bool.and_false, Bool.true_and, Bool.false_and, Bool.or_true, Bool.or_false, Bool.true_or, Bool.false_or, not_true_eq_false, not_false_eq_true, Bool.not_true, Bool.not_false, eq_self, Nat.reduceEqDiff]; done) | (simp only [X_set, X_rec, c1, c2t, c15, c16, c17t, if_true, if_false, reduceIte, Bool.false_eq_true, reduceCtorEq, decide_true, decide_false, Bool.and_true, Bool.and_false, Bool.true_and, Bool.false_and, Bool.or_true, Bool.or_false, Bool.true_or, Bool.false_or, not_true_eq_false, not_false_eq_true, Bool.not_true, Bool.not_false, eq_self, Nat.reduceEqDiff]; rfl) | contradiction | (exfalso; omega)))
        · have c16t := eq_true c16
          refine v_aload_n hX dX5_set_37 rfl ?_
          refine v_get (C := RX5) (T := TX5) (N := 9) (ci := 5) (v := .ref (b 1 0)) hX in_X5 0 rfl rfl 0 (by decide) fl_12 rfl rfl dX5_set_38 ?_
          refine v_get (C := RX3) (T := TX3) (N := 6) (ci := 3) (v := .int (v.1.2.2.1)) hX in_X3 _ (atR (atL (rfl : (wM E (b 1) v.1)[0]? = _))) rfl 2 (by decide) fl_79 rfl rfl dX5_set_41 ?_
          refine v_goto (tgt := 54) hX dX5_set_44 (by decide) ?_
          refine v_istore_n (lv' := [.ref (b 0 0), .int (w), .int (x), .int (v.1.2.2.1)]) hX dX5_set_54 (Nat.le_of_ble_eq_true rfl) (Nat.le_of_ble_eq_true rfl) rfl rfl ?_
          refine v_iload_n hX dX5_set_55 rfl ?_
          refine v_iload_n hX dX5_set_56 rfl ?_
          refine v_icmp_ne (tgt := 63) hX dX5_set_57 (by decide) (fun c22 => ?_) (fun c22 => ?_)
          · refine v_aload_n hX dX5_set_63 rfl ?_
            refine v_get (C := RX5) (T := TX5) (N := 9) (ci := 5) (v := .ref (b 4 0)) hX in_X5 0 rfl rfl 3 (by decide) fl_25 rfl rfl dX5_set_64 ?_
            refine v_aload_n hX dX5_set_67 rfl ?_
            refine v_get (C := RX5) (T := TX5) (N := 9) (ci := 5) (v := .ref (b 1 0)) hX in_X5 0 rfl rfl 0 (by decide) fl_12 rfl rfl dX5_set_68 ?_
            obtain ⟨v23, hv23⟩ : ∃ z_ : XV, z_ = X_setHist v (H_rec v.2.2.2.1 v.1) := ⟨_, rfl⟩
            refine v_callVv2s (rest := []) (ws' := wX E b v23) (x1 := wH E (hA b) v.2.2.2.1) (x2 := wM E (b 1) v.1) (x1' := wH E (hA b) (H_rec v.2.2.2.1 v.1)) hX (fun sz => c_X2_record l E (b 1) (hA b) sz (v.2.2.2.1, v.1)) (cwV 1 hX.2.2.2.2.1 gX5_set_X2_record rfl rfl rfl (by decide +kernel) ⟨Nat.le_of_ble_eq_true rfl, Nat.le_of_ble_eq_true rfl⟩) (w1X b v) (wM E (b 2) v.2.1 ++ wM E (b 3) v.2.2.1) (wP E (b 9) v.2.2.2.2.1) (by simp only [wX, List.append_assoc]) (by rw [hv23]; simp only [wX, List.append_assoc]; rfl) (wH_fst E (hA b) _ _) (ci := 2) (q0 := 0) rfl rfl rfl rfl rfl (Nat.le_of_ble_eq_true rfl) dX5_set_71 ?_
            refine v_iload_n hX dX5_set_74 rfl ?_
            refine v_if_ne (tgt := 89) hX dX5_set_75 (by decide) (fun c24 => ?_) (fun c24 => ?_)
            · refine v_aload_n hX dX5_set_89 rfl ?_
              refine v_get (C := RX5) (T := TX5) (N := 9) (ci := 5) (v := .ref (b 1 0)) hX in_X5 0 rfl rfl 0 (by decide) fl_12 rfl rfl dX5_set_90 ?_
              refine v_iload_n hX dX5_set_93 rfl ?_
              obtain ⟨v25, hv25⟩ : ∃ z_ : XV, z_ = X_setNow v23 (M_setFull v23.1 (x)) := ⟨_, rfl⟩
              refine v_put (C := RX3) (T := TX3) (N := 6) (ci := 3) (v := .int (x)) (ty := .int) (ws' := wX E b v25) hX in_X3 tyX3 tyX3_ok nmX3 _ (atR (atL (rfl : (wM E (b 1) v23.1)[0]? = _))) rfl 3 (by decide) fl_83 rfl rfl (by decide +kernel) (rfl) (rfl) (Nat.le_of_ble_eq_true rfl) dX5_set_94 (by rw [hv25]; exact (stR (stL (y' := wM E (b 1) (M_setFull v23.1 (x))) (Nat.le_of_ble_eq_true rfl) rfl))) ?_
              refine v_iload_n hX dX5_set_97 rfl ?_
              exact v_iret hX hr hsz dX5_set_98 rfl rfl (by (subst hv25; subst hv23; first | rfl | (simp only [X_set, X_rec, c1, c2t, c15, c16t, c22, c24, if_true, if_false, reduceIte, Bool.false_eq_true, reduceCtorEq, decide_true, decide_false, Bool.and_true, Bool.and_false, Bool.true_and, Bool.false_and, Bool.or_true, Bool.or_false, Bool.true_or, Bool.false_or, not_true_eq_false, not_false_eq_true, Bool.not_true, Bool.not_false, eq_self, Nat.reduceEqDiff]; done) | (simp only [X_set, X_rec, c1, c2t, c15, c16t, c22, c24, if_true, if_false, reduceIte, Bool.false_eq_true, reduceCtorEq, decide_true, decide_false, Bool.and_true, Bool.and_false, Bool.true_and, Bool.false_and, Bool.or_true, Bool.or_false, Bool.true_or, Bool.false_or, not_true_eq_false, not_false_eq_true, Bool.not_true, Bool.not_false, eq_self, Nat.reduceEqDiff]; rfl) | contradiction | (exfalso; omega))) (by (subst hv25; subst hv23; first | rfl | (simp only [X_set, X_rec, c1, c2t, c15, c16t, c22, c24, if_true, if_false, reduceIte, Bool.false_eq_true, reduceCtorEq, decide_true, decide_false, Bool.and_true, Bool.and_false, Bool.true_and, Bool.false_and, Bool.or_true, Bool.or_false, Bool.true_or, Bool.false_or, not_true_eq_false, not_false_eq_true, Bool.not_true, Bool.not_false, eq_self, Nat.reduceEqDiff]; done) | (simp only [X_set, X_rec, c1, c2t, c15, c16t, c22, c24, if_true, if_false, reduceIte, Bool.false_eq_true, reduceCtorEq, decide_true, decide_false, Bool.and_true, Bool.and_false, Bool.true_and, Bool.false_and, Bool.or_true, Bool.or_false, Bool.true_or, Bool.false_or, not_true_eq_false, not_false_eq_true, Bool.not_true, Bool.not_false, eq_self, Nat.reduceEqDiff]; rfl) | contradiction | (exfalso; omega)))
            · have c24t := eq_true c24
              refine v_aload_n hX dX5_set_78 rfl ?_
              refine v_get (C := RX5) (T := TX5) (N := 9) (ci := 5) (v := .ref (b 1 0)) hX in_X5 0 rfl rfl 0 (by decide) fl_12 rfl rfl dX5_set_79 ?_
              refine v_iload_n hX dX5_set_82 rfl ?_
              obtain ⟨v26, hv26⟩ : ∃ z_ : XV, z_ = X_setNow v23 (M_setLim v23.1 (x)) := ⟨_, rfl⟩
              refine v_put (C := RX3) (T := TX3) (N := 6) (ci := 3) (v := .int (x)) (ty := .int) (ws' := wX E b v26) hX in_X3 tyX3 tyX3_ok nmX3 _ (atR (atL (rfl : (wM E (b 1) v23.1)[0]? = _))) rfl 2 (by decide) fl_79 rfl rfl (by decide +kernel) (rfl) (rfl) (Nat.le_of_ble_eq_true rfl) dX5_set_83 (by rw [hv26]; exact (stR (stL (y' := wM E (b 1) (M_setLim v23.1 (x))) (Nat.le_of_ble_eq_true rfl) rfl))) ?_
              refine v_goto (tgt := 97) hX dX5_set_86 (by decide) ?_
              refine v_iload_n hX dX5_set_97 rfl ?_
              exact v_iret hX hr hsz dX5_set_98 rfl rfl (by (subst hv26; subst hv23; first | rfl | (simp only [X_set, X_rec, c1, c2t, c15, c16t, c22, c24t, if_true, if_false, reduceIte, Bool.false_eq_true, reduceCtorEq, decide_true, decide_false, Bool.and_true, Bool.and_false, Bool.true_and, Bool.false_and, Bool.or_true, Bool.or_false, Bool.true_or, Bool.false_or, not_true_eq_false, not_false_eq_true, Bool.not_true, Bool.not_false, eq_self, Nat.reduceEqDiff]; done) | (simp only [X_set, X_rec, c1, c2t, c15, c16t, c22, c24t, if_true, if_false, reduceIte, Bool.false_eq_true, reduceCtorEq, decide_true, decide_false, Bool.and_true, Bool.and_false, Bool.true_and, Bool.false_and, Bool.or_true, Bool.or_false, Bool.true_or, Bool.false_or, not_true_eq_false, not_false_eq_true, Bool.not_true, Bool.not_false, eq_self, Nat.reduceEqDiff]; rfl) | contradiction | (exfalso; omega))) (by (subst hv26; subst hv23; first | rfl | (simp only [X_set, X_rec, c1, c2t, c15, c16t, c22, c24t, if_true, if_false, reduceIte, Bool.false_eq_true, reduceCtorEq, decide_true, decide_false, Bool.and_true, Bool.and_false, Bool.true_and, Bool.false_and, Bool.or_true, Bool.or_false, Bool.true_or, Bool.false_or, not_true_eq_false, not_false_eq_true, Bool.not_true, Bool.not_false, eq_self, Nat.reduceEqDiff]; done) | (simp only [X_set, X_rec, c1, c2t, c15, c16t, c22, c24t, if_true, if_false, reduceIte, Bool.false_eq_true, reduceCtorEq, decide_true, decide_false, Bool.and_true, Bool.and_false, Bool.true_and, Bool.false_and, Bool.or_true, Bool.or_false, Bool.true_or, Bool.false_or, not_true_eq_false, not_false_eq_true, Bool.not_true, Bool.not_false, eq_self, Nat.reduceEqDiff]; rfl) | contradiction | (exfalso; omega)))
          · have c22t := eq_true c22
            refine v_bipush (x := (-5 : Int32)) hX dX5_set_60 (by decide) ?_
            exact v_iret hX hr hsz dX5_set_62 rfl rfl (by (first | rfl | (simp only [X_set, X_rec, c1, c2t, c15, c16t, c22t, if_true, if_false, reduceIte, Bool.false_eq_true, reduceCtorEq, decide_true, decide_false, Bool.and_true, Bool.and_false, Bool.true_and, Bool.false_and, Bool.or_true, Bool.or_false, Bool.true_or, Bool.false_or, not_true_eq_false, not_false_eq_true, Bool.not_true, Bool.not_false, eq_self, Nat.reduceEqDiff]; done) | (simp only [X_set, X_rec, c1, c2t, c15, c16t, c22t, if_true, if_false, reduceIte, Bool.false_eq_true, reduceCtorEq, decide_true, decide_false, Bool.and_true, Bool.and_false, Bool.true_and, Bool.false_and, Bool.or_true, Bool.or_false, Bool.true_or, Bool.false_or, not_true_eq_false, not_false_eq_true, Bool.not_true, Bool.not_false, eq_self, Nat.reduceEqDiff]; rfl) | contradiction | (exfalso; omega))) (by (first | rfl | (simp only [X_set, X_rec, c1, c2t, c15, c16t, c22t, if_true, if_false, reduceIte, Bool.false_eq_true, reduceCtorEq, decide_true, decide_false, Bool.and_true, Bool.and_false, Bool.true_and, Bool.false_and, Bool.or_true, Bool.or_false, Bool.true_or, Bool.false_or, not_true_eq_false, not_false_eq_true, Bool.not_true, Bool.not_false, eq_self, Nat.reduceEqDiff]; done) | (simp only [X_set, X_rec, c1, c2t, c15, c16t, c22t, if_true, if_false, reduceIte, Bool.false_eq_true, reduceCtorEq, decide_true, decide_false, Bool.and_true, Bool.and_false, Bool.true_and, Bool.false_and, Bool.or_true, Bool.or_false, Bool.true_or, Bool.false_or, not_true_eq_false, not_false_eq_true, Bool.not_true, Bool.not_false, eq_self, Nat.reduceEqDiff]; rfl) | contradiction | (exfalso; omega)))
      · replace c15 := bI_0.mp c15
        refine v_bipush (x := (-2 : Int32)) hX dX5_set_30 (by decide) ?_
        exact v_iret hX hr hsz dX5_set_32 rfl rfl (by (first | rfl | (simp only [X_set, X_rec, c1, c2t, c15, if_true, if_false, reduceIte, Bool.false_eq_true, reduceCtorEq, decide_true, decide_false, Bool.and_true, Bool.and_false, Bool.true_and, Bool.false_and, Bool.or_true, Bool.or_false, Bool.true_or, Bool.false_or, not_true_eq_false, not_false_eq_true, Bool.not_true, Bool.not_false, eq_self, Nat.reduceEqDiff]; done) | (simp only [X_set, X_rec, c1, c2t, c15, if_true, if_false, reduceIte, Bool.false_eq_true, reduceCtorEq, decide_true, decide_false, Bool.and_true, Bool.and_false, Bool.true_and, Bool.false_and, Bool.or_true, Bool.or_false, Bool.true_or, Bool.false_or, not_true_eq_false, not_false_eq_true, Bool.not_true, Bool.not_false, eq_self, Nat.reduceEqDiff]; rfl) | contradiction | (exfalso; omega))) (by (first | rfl | (simp only [X_set, X_rec, c1, c2t, c15, if_true, if_false, reduceIte, Bool.false_eq_true, reduceCtorEq, decide_true, decide_false, Bool.and_true, Bool.and_false, Bool.true_and, Bool.false_and, Bool.or_true, Bool.or_false, Bool.true_or, Bool.false_or, not_true_eq_false, not_false_eq_true, Bool.not_true, Bool.not_false, eq_self, Nat.reduceEqDiff]; done) | (simp only [X_set, X_rec, c1, c2t, c15, if_true, if_false, reduceIte, Bool.false_eq_true, reduceCtorEq, decide_true, decide_false, Bool.and_true, Bool.and_false, Bool.true_and, Bool.false_and, Bool.or_true, Bool.or_false, Bool.true_or, Bool.false_or, not_true_eq_false, not_false_eq_true, Bool.not_true, Bool.not_false, eq_self, Nat.reduceEqDiff]; rfl) | contradiction | (exfalso; omega)))
  · replace c1 := bI_0.mp c1
    refine v_iconst (x := (-1 : Int32)) hX dX5_set_9 (by decide) ?_
    exact v_iret hX hr hsz dX5_set_10 rfl rfl (by (first | rfl | (simp only [X_set, X_rec, c1, if_true, if_false, reduceIte, Bool.false_eq_true, reduceCtorEq, decide_true, decide_false, Bool.and_true, Bool.and_false, Bool.true_and, Bool.false_and, Bool.or_true, Bool.or_false, Bool.true_or, Bool.false_or, not_true_eq_false, not_false_eq_true, Bool.not_true, Bool.not_false, eq_self, Nat.reduceEqDiff]; done) | (simp only [X_set, X_rec, c1, if_true, if_false, reduceIte, Bool.false_eq_true, reduceCtorEq, decide_true, decide_false, Bool.and_true, Bool.and_false, Bool.true_and, Bool.false_and, Bool.or_true, Bool.or_false, Bool.true_or, Bool.false_or, not_true_eq_false, not_false_eq_true, Bool.not_true, Bool.not_false, eq_self, Nat.reduceEqDiff]; rfl) | contradiction | (exfalso; omega))) (by (first | rfl | (simp only [X_set, X_rec, c1, if_true, if_false, reduceIte, Bool.false_eq_true, reduceCtorEq, decide_true, decide_false, Bool.and_true, Bool.and_false, Bool.true_and, Bool.false_and, Bool.or_true, Bool.or_false, Bool.true_or, Bool.false_or, not_true_eq_false, not_false_eq_true, Bool.not_true, Bool.not_false, eq_self, Nat.reduceEqDiff]; done) | (simp only [X_set, X_rec, c1, if_true, if_false, reduceIte, Bool.false_eq_true, reduceCtorEq, decide_true, decide_false, Bool.and_true, Bool.and_false, Bool.true_and, Bool.false_and, Bool.or_true, Bool.or_false, Bool.true_or, Bool.false_or, not_true_eq_false, not_false_eq_true, Bool.not_true, Bool.not_false, eq_self, Nat.reduceEqDiff]; rfl) | contradiction | (exfalso; omega)))
set_option maxHeartbeats 4000000 in
set_option maxRecDepth 100000 in
theorem c_X5_undo (l : Launch) (E : ET) (b : Nat → Nat → Nat) (sz : Nat) (v : XV) : Met l yX5_undo wsX5_undo ({ frames := 5, cells := 0, slots := 0, locals := 103 }) (mPc E [.ref (b 0 0)] sz (wX E b v)) (mQi E ((X_undo v).1) (wX E b v) (wX E b ((X_undo v).2)) sz) 0 0 (va_A (wX E b v) sz) := by
  refine v_start (cc := cX5_undo) (maxL := 1) (ret := (some .int)) (by decide) rfl (Nat.le_of_ble_eq_true rfl) rfl ?_
  intro p e s m args below meth c hsz hr hX
  have hX : Xc p s m args meth c E 1 (va_A (wX E b v) sz) cX5_undo RX5 wsX5_undo := hX
  have in_X5 : ∀ w ∈ u_ws RX5 TX5 9, w ∈ wsX5_undo := by decide +kernel
  have fl_25 : Cond.fieldLink RX5 25 RX5 "history" "LSnoopFilter$History;" ∈ wsX5_undo := by decide +kernel
  have in_X2 : ∀ w ∈ u_ws RX2 TX2 3, w ∈ wsX5_undo := by decide +kernel
  have fl_124 : Cond.fieldLink RX5 124 RX2 "size" "I" ∈ wsX5_undo := by decide +kernel
  have fl_12 : Cond.fieldLink RX5 12 RX5 "now" "LSnoopFilter$Machine;" ∈ wsX5_undo := by decide +kernel
  refine v_aload_n hX dX5_undo_0 rfl ?_
  refine v_get (C := RX5) (T := TX5) (N := 9) (ci := 5) (v := .ref (b 4 0)) hX in_X5 0 rfl rfl 3 (by decide) fl_25 rfl rfl dX5_undo_1 ?_
  refine v_get (C := RX2) (T := TX2) (N := 3) (ci := 2) (v := .int (nI (v.2.2.2.1.2.2.val))) hX in_X2 _ (atR (atR (atR (atR (atL (rfl : (wH E (hA b) v.2.2.2.1)[0]? = _)))))) rfl 2 (by decide) fl_124 rfl rfl dX5_undo_4 ?_
  have hb1 := (v.2.2.2.1.2.2).isLt
  refine v_if_ne (tgt := 13) hX dX5_undo_7 (by decide) (fun c2 => ?_) (fun c2 => ?_)
  · replace c2 := (not_congr (nI_eq (a := v.2.2.2.1.2.2.val) (b := 0) (by omega) (by omega))).mp c2
    refine v_aload_n hX dX5_undo_13 rfl ?_
    refine v_get (C := RX5) (T := TX5) (N := 9) (ci := 5) (v := .ref (b 4 0)) hX in_X5 0 rfl rfl 3 (by decide) fl_25 rfl rfl dX5_undo_14 ?_
    refine v_aload_n hX dX5_undo_17 rfl ?_
    refine v_get (C := RX5) (T := TX5) (N := 9) (ci := 5) (v := .ref (b 1 0)) hX in_X5 0 rfl rfl 0 (by decide) fl_12 rfl rfl dX5_undo_18 ?_
    obtain ⟨v3, hv3⟩ : ∃ z_ : XV, z_ = X_setNow (X_setHist v (H_take (v.2.2.2.1, v.1)).1) (H_take (v.2.2.2.1, v.1)).2 := ⟨_, rfl⟩
    refine v_callVvB (rest := []) (ws' := wX E b v3) (x1 := wH E (hA b) v.2.2.2.1) (x2 := wM E (b 1) v.1) (x1' := wH E (hA b) (H_take (v.2.2.2.1, v.1)).1) (x2' := wM E (b 1) (H_take (v.2.2.2.1, v.1)).2) hX (fun sz => c_X2_takeLatest l E (b 1) (hA b) sz (v.2.2.2.1, v.1)) (cwV 1 hX.2.2.2.2.1 gX5_undo_X2_takeLatest rfl rfl rfl (by decide +kernel) ⟨Nat.le_of_ble_eq_true rfl, Nat.le_of_ble_eq_true rfl⟩) (w1X b v) (wM E (b 2) v.2.1 ++ wM E (b 3) v.2.2.1) (wP E (b 9) v.2.2.2.2.1) (by simp only [wX, List.append_assoc]) (by rw [hv3]; simp only [wX, List.append_assoc]; rfl) (wH_fst E (hA b) _ _) (wM_fst E (b 1) _ _) (ci := 2) (q0 := 0) rfl rfl rfl rfl rfl (Nat.le_of_ble_eq_true rfl) dX5_undo_21 ?_
    refine v_aload_n hX dX5_undo_24 rfl ?_
    refine v_get (C := RX5) (T := TX5) (N := 9) (ci := 5) (v := .ref (b 4 0)) hX in_X5 0 rfl rfl 3 (by decide) fl_25 rfl rfl dX5_undo_25 ?_
    refine v_get (C := RX2) (T := TX2) (N := 3) (ci := 2) (v := .int (nI (v3.2.2.2.1.2.2.val))) hX in_X2 _ (atR (atR (atR (atR (atL (rfl : (wH E (hA b) v3.2.2.2.1)[0]? = _)))))) rfl 2 (by decide) fl_124 rfl rfl dX5_undo_28 ?_
    have hb4 := (v3.2.2.2.1.2.2).isLt
    exact v_iret hX hr hsz dX5_undo_31 rfl rfl (by (subst hv3; first | rfl | (simp only [X_undo, c2, if_true, if_false, reduceIte, Bool.false_eq_true, reduceCtorEq, decide_true, decide_false, Bool.and_true, Bool.and_false, Bool.true_and, Bool.false_and, Bool.or_true, Bool.or_false, Bool.true_or, Bool.false_or, not_true_eq_false, not_false_eq_true, Bool.not_true, Bool.not_false, eq_self, Nat.reduceEqDiff]; done) | (simp only [X_undo, c2, if_true, if_false, reduceIte, Bool.false_eq_true, reduceCtorEq, decide_true, decide_false, Bool.and_true, Bool.and_false, Bool.true_and, Bool.false_and, Bool.or_true, Bool.or_false, Bool.true_or, Bool.false_or, not_true_eq_false, not_false_eq_true, Bool.not_true, Bool.not_false, eq_self, Nat.reduceEqDiff]; rfl) | contradiction | (exfalso; omega))) (by (subst hv3; first | rfl | (simp only [X_undo, c2, if_true, if_false, reduceIte, Bool.false_eq_true, reduceCtorEq, decide_true, decide_false, Bool.and_true, Bool.and_false, Bool.true_and, Bool.false_and, Bool.or_true, Bool.or_false, Bool.true_or, Bool.false_or, not_true_eq_false, not_false_eq_true, Bool.not_true, Bool.not_false, eq_self, Nat.reduceEqDiff]; done) | (simp only [X_undo, c2, if_true, if_false, reduceIte, Bool.false_eq_true, reduceCtorEq, decide_true, decide_false, Bool.and_true, Bool.and_false, Bool.true_and, Bool.false_and, Bool.or_true, Bool.or_false, Bool.true_or, Bool.false_or, not_true_eq_false, not_false_eq_true, Bool.not_true, Bool.not_false, eq_self, Nat.reduceEqDiff]; rfl) | contradiction | (exfalso; omega)))
  · replace c2 := (nI_eq (a := v.2.2.2.1.2.2.val) (b := 0) (by omega) (by omega)).mp c2
    have c2t := eq_true c2
    refine v_bipush (x := (-5 : Int32)) hX dX5_undo_10 (by decide) ?_
    exact v_iret hX hr hsz dX5_undo_12 rfl rfl (by (first | rfl | (simp only [X_undo, c2t, if_true, if_false, reduceIte, Bool.false_eq_true, reduceCtorEq, decide_true, decide_false, Bool.and_true, Bool.and_false, Bool.true_and, Bool.false_and, Bool.or_true, Bool.or_false, Bool.true_or, Bool.false_or, not_true_eq_false, not_false_eq_true, Bool.not_true, Bool.not_false, eq_self, Nat.reduceEqDiff]; done) | (simp only [X_undo, c2t, if_true, if_false, reduceIte, Bool.false_eq_true, reduceCtorEq, decide_true, decide_false, Bool.and_true, Bool.and_false, Bool.true_and, Bool.false_and, Bool.or_true, Bool.or_false, Bool.true_or, Bool.false_or, not_true_eq_false, not_false_eq_true, Bool.not_true, Bool.not_false, eq_self, Nat.reduceEqDiff]; rfl) | contradiction | (exfalso; omega))) (by (first | rfl | (simp only [X_undo, c2t, if_true, if_false, reduceIte, Bool.false_eq_true, reduceCtorEq, decide_true, decide_false, Bool.and_true, Bool.and_false, Bool.true_and, Bool.false_and, Bool.or_true, Bool.or_false, Bool.true_or, Bool.false_or, not_true_eq_false, not_false_eq_true, Bool.not_true, Bool.not_false, eq_self, Nat.reduceEqDiff]; done) | (simp only [X_undo, c2t, if_true, if_false, reduceIte, Bool.false_eq_true, reduceCtorEq, decide_true, decide_false, Bool.and_true, Bool.and_false, Bool.true_and, Bool.false_and, Bool.or_true, Bool.or_false, Bool.true_or, Bool.false_or, not_true_eq_false, not_false_eq_true, Bool.not_true, Bool.not_false, eq_self, Nat.reduceEqDiff]; rfl) | contradiction | (exfalso; omega)))
set_option maxHeartbeats 4000000 in
set_option maxRecDepth 100000 in
theorem c_X5_core (l : Launch) (E : ET) (b : Nat → Nat → Nat) (sz : Nat) (v : XV) (co : Int32) (w : Int32) : Met l yX5_core wsX5_core ({ frames := 2, cells := 0, slots := 0, locals := 45 }) (mPc E [.ref (b 0 0), .int (co), .int (w)] sz (wX E b v)) (mQi E (X_core v co w) (wX E b v) (wX E b v) sz) 0 0 (va_A (wX E b v) sz) := by
  refine v_start (cc := cX5_core) (maxL := 4) (ret := (some .int)) (by decide) rfl (Nat.le_of_ble_eq_true rfl) rfl ?_
  intro p e s m args below meth c hsz hr hX
  have hX : Xc p s m args meth c E 4 (va_A (wX E b v) sz) cX5_core RX5 wsX5_core := hX
  have in_X5 : ∀ w ∈ u_ws RX5 TX5 9, w ∈ wsX5_core := by decide +kernel
  have fl_12 : Cond.fieldLink RX5 12 RX5 "now" "LSnoopFilter$Machine;" ∈ wsX5_core := by decide +kernel
  have in_X3 : ∀ w ∈ u_ws RX3 TX3 6, w ∈ wsX5_core := by decide +kernel
  have fl_59 : Cond.fieldLink RX5 59 RX3 "cores" "[LSnoopFilter$Core;" ∈ wsX5_core := by decide +kernel
  have in_X0 : ∀ w ∈ u_ws RX0 TX0 5, w ∈ wsX5_core := by decide +kernel
  have fl_142 : Cond.fieldLink RX5 142 RX0 "filter" "LSnoopFilter$Filter;" ∈ wsX5_core := by decide +kernel
  have fl_157 : Cond.fieldLink RX5 157 RX0 "tallies" "[I" ∈ wsX5_core := by decide +kernel
  refine v_iload_n hX dX5_core_0 rfl ?_
  refine v_callSi (r := bI (S_within co (0 : Int32) (3 : Int32))) (rest := []) (ws' := wX E b v) hX (fun sz => c_X5_isCore l E sz co) (va_cwS 1 hX.2.2.2.2.1 gX5_core_X5_isCore rfl rfl rfl (by decide +kernel) ⟨Nat.le_of_ble_eq_true rfl, Nat.le_of_ble_eq_true rfl⟩) ([]) (wX E b v) (rfl) rfl (rfl) rfl rfl (Nat.le_of_ble_eq_true rfl) dX5_core_1 ?_
  refine v_if_ne (tgt := 9) hX dX5_core_4 (by decide) (fun c1 => ?_) (fun c1 => ?_)
  · replace c1 := bI_n0.mp c1
    refine v_iload_n hX dX5_core_9 rfl ?_
    refine v_iconst (x := (0 : Int32)) hX dX5_core_10 (by decide) ?_
    refine v_bipush (x := (10 : Int32)) hX dX5_core_11 (by decide) ?_
    refine v_callSi (r := bI (S_within w (0 : Int32) (10 : Int32))) (rest := []) (ws' := wX E b v) hX (fun sz => c_X5_isWithin l E sz w (0 : Int32) (10 : Int32)) (va_cwS 3 hX.2.2.2.2.1 gX5_core_X5_isWithin rfl rfl rfl (by decide +kernel) ⟨Nat.le_of_ble_eq_true rfl, Nat.le_of_ble_eq_true rfl⟩) ([]) (wX E b v) (rfl) rfl (rfl) rfl rfl (Nat.le_of_ble_eq_true rfl) dX5_core_13 ?_
    refine v_if_ne (tgt := 22) hX dX5_core_16 (by decide) (fun c2 => ?_) (fun c2 => ?_)
    · replace c2 := bI_n0.mp c2
      obtain ⟨r, hle_r, heq_r⟩ := within_nat (B := 3) rfl (by decide) c1
      subst heq_r
      have ec_r : cN (nI r) = r := cN_nI (by omega)
      obtain ⟨j, hle_j, heq_j⟩ := within_nat (B := 10) rfl (by decide) c2
      subst heq_j
      have ec_j : cN (nI j) = j := cN_nI (by omega)
      refine v_aload_n hX dX5_core_22 rfl ?_
      refine v_get (C := RX5) (T := TX5) (N := 9) (ci := 5) (v := .ref (b 1 0)) hX in_X5 0 rfl rfl 0 (by decide) fl_12 rfl rfl dX5_core_23 ?_
      refine v_get (C := RX3) (T := TX3) (N := 6) (ci := 3) (v := .ref ((b 1) 2)) hX in_X3 _ (atR (atL (rfl : (wM E (b 1) v.1)[0]? = _))) rfl 1 (by decide) fl_59 rfl rfl dX5_core_26 ?_
      refine v_iload_n hX dX5_core_29 rfl ?_
      refine v_aaldK (b := (b 1) (3 + 9 * (r))) hX _ (atR (atL (rfl : (wM E (b 1) v.1)[2]? = _))) (vp_in_nI (by omega : r < 4) (by omega)) (by simp only [nI_clamp (show r < 2 ^ 31 by omega)]) dX5_core_30 ?_
      refine v_astore_n (lv' := [.ref (b 0 0), .int (nI (r)), .int (nI (j)), .ref ((b 1) (3 + 9 * (r)))]) hX dX5_core_31 (Nat.le_of_ble_eq_true rfl) (Nat.le_of_ble_eq_true rfl) rfl rfl ?_
      refine v_iload_n hX dX5_core_32 rfl ?_
      by_cases k3 : j = 0
      · have k3t := eq_true k3
        refine v_tableIn (tgt := 68) (off := 35) hX dX5_core_33 (by rw [k3]; decide) (by rw [k3]; decide) (by rw [k3]; decide) (by decide) ?_
        refine v_aload_n hX dX5_core_68 rfl ?_
        refine v_callVi (r := K_held (v.1.2.1 r)) (rest := []) (ws' := wX E b v) hX (fun sz => c_X0_heldLines l E (kA (b 1) r) sz (v.1.2.1 r) ) (cwV 0 hX.2.2.2.2.1 gX5_core_X0_heldLines rfl rfl rfl (by decide +kernel) ⟨Nat.le_of_ble_eq_true rfl, Nat.le_of_ble_eq_true rfl⟩) (w1X b v ++ (mPre E (b 1) v.1 r)) ((mPost E (b 1) v.1 r) ++ (wM E (b 2) v.2.1 ++ (wM E (b 3) v.2.2.1 ++ (wH E (hA b) v.2.2.2.1 ++ (wP E (b 9) v.2.2.2.2.1))))) (lift0 (wM_cut E (b 1) v.1 (by omega : r < 4))) (lift0 (wM_cut E (b 1) v.1 (by omega : r < 4))).symm (wK_fst E (kA (b 1) r) _ _) (ci := 0) (q0 := 0) rfl rfl rfl rfl rfl (Nat.le_of_ble_eq_true rfl) dX5_core_69 ?_
        exact v_iret hX hr hsz dX5_core_72 rfl rfl (by (first | rfl | (simp only [X_core, c1, c2, ec_r, ec_j, k3t, if_true, if_false, reduceIte, Bool.false_eq_true, reduceCtorEq, decide_true, decide_false, Bool.and_true, Bool.and_false, Bool.true_and, Bool.false_and, Bool.or_true, Bool.or_false, Bool.true_or, Bool.false_or, not_true_eq_false, not_false_eq_true, Bool.not_true, Bool.not_false, eq_self, Nat.reduceEqDiff]; done) | (simp only [X_core, c1, c2, ec_r, ec_j, k3t, if_true, if_false, reduceIte, Bool.false_eq_true, reduceCtorEq, decide_true, decide_false, Bool.and_true, Bool.and_false, Bool.true_and, Bool.false_and, Bool.or_true, Bool.or_false, Bool.true_or, Bool.false_or, not_true_eq_false, not_false_eq_true, Bool.not_true, Bool.not_false, eq_self, Nat.reduceEqDiff]; rfl) | contradiction | (exfalso; omega))) rfl
      by_cases k4 : j = 1
      · have k4t := eq_true k4
        refine v_tableIn (tgt := 73) (off := 40) hX dX5_core_33 (by rw [k4]; decide) (by rw [k4]; decide) (by rw [k4]; decide) (by decide) ?_
        refine v_aload_n hX dX5_core_73 rfl ?_
        refine v_callVi (r := K_dirties (v.1.2.1 r)) (rest := []) (ws' := wX E b v) hX (fun sz => c_X0_dirtyLines l E (kA (b 1) r) sz (v.1.2.1 r) ) (cwV 0 hX.2.2.2.2.1 gX5_core_X0_dirtyLines rfl rfl rfl (by decide +kernel) ⟨Nat.le_of_ble_eq_true rfl, Nat.le_of_ble_eq_true rfl⟩) (w1X b v ++ (mPre E (b 1) v.1 r)) ((mPost E (b 1) v.1 r) ++ (wM E (b 2) v.2.1 ++ (wM E (b 3) v.2.2.1 ++ (wH E (hA b) v.2.2.2.1 ++ (wP E (b 9) v.2.2.2.2.1))))) (lift0 (wM_cut E (b 1) v.1 (by omega : r < 4))) (lift0 (wM_cut E (b 1) v.1 (by omega : r < 4))).symm (wK_fst E (kA (b 1) r) _ _) (ci := 0) (q0 := 0) rfl rfl rfl rfl rfl (Nat.le_of_ble_eq_true rfl) dX5_core_74 ?_
        exact v_iret hX hr hsz dX5_core_77 rfl rfl (by (first | rfl | (simp only [X_core, c1, c2, ec_r, ec_j, k3, k4t, if_true, if_false, reduceIte, Bool.false_eq_true, reduceCtorEq, decide_true, decide_false, Bool.and_true, Bool.and_false, Bool.true_and, Bool.false_and, Bool.or_true, Bool.or_false, Bool.true_or, Bool.false_or, not_true_eq_false, not_false_eq_true, Bool.not_true, Bool.not_false, eq_self, Nat.reduceEqDiff]; done) | (simp only [X_core, c1, c2, ec_r, ec_j, k3, k4t, if_true, if_false, reduceIte, Bool.false_eq_true, reduceCtorEq, decide_true, decide_false, Bool.and_true, Bool.and_false, Bool.true_and, Bool.false_and, Bool.or_true, Bool.or_false, Bool.true_or, Bool.false_or, not_true_eq_false, not_false_eq_true, Bool.not_true, Bool.not_false, eq_self, Nat.reduceEqDiff]; rfl) | contradiction | (exfalso; omega))) rfl
      by_cases k5 : j = 2
      · have k5t := eq_true k5
        refine v_tableIn (tgt := 78) (off := 45) hX dX5_core_33 (by rw [k5]; decide) (by rw [k5]; decide) (by rw [k5]; decide) (by decide) ?_
        refine v_aload_n hX dX5_core_78 rfl ?_
        refine v_get (C := RX0) (T := TX0) (N := 5) (ci := 0) (v := .ref ((kA (b 1) r) 5)) hX in_X0 _ (atR (atL (mAt E (b 1) v.1 (by omega : r < 4) 0 rfl))) rfl 4 (by decide) fl_142 rfl rfl dX5_core_79 ?_
        refine v_callVi (r := F_above ((v.1.2.1 r).2.2.2.2)) (rest := []) (ws' := wX E b v) hX (fun sz => c_X1_countersAboveZero l E (fA (kA (b 1) r)) sz ((v.1.2.1 r).2.2.2.2) ) (cwV 0 hX.2.2.2.2.1 gX5_core_X1_countersAboveZero rfl rfl rfl (by decide +kernel) ⟨Nat.le_of_ble_eq_true rfl, Nat.le_of_ble_eq_true rfl⟩) (w1X b v ++ (fPre E (b 1) v.1 r)) ((mPost E (b 1) v.1 r) ++ (wM E (b 2) v.2.1 ++ (wM E (b 3) v.2.2.1 ++ (wH E (hA b) v.2.2.2.1 ++ (wP E (b 9) v.2.2.2.2.1))))) (lift0 (wM_cutF E (b 1) v.1 (by omega : r < 4))) (lift0 (wM_cutF E (b 1) v.1 (by omega : r < 4))).symm (wF_fst E (fA (kA (b 1) r)) _ _) (ci := 1) (q0 := 0) rfl rfl rfl rfl rfl (Nat.le_of_ble_eq_true rfl) dX5_core_82 ?_
        exact v_iret hX hr hsz dX5_core_85 rfl rfl (by (first | rfl | (simp only [X_core, c1, c2, ec_r, ec_j, k3, k4, k5t, if_true, if_false, reduceIte, Bool.false_eq_true, reduceCtorEq, decide_true, decide_false, Bool.and_true, Bool.and_false, Bool.true_and, Bool.false_and, Bool.or_true, Bool.or_false, Bool.true_or, Bool.false_or, not_true_eq_false, not_false_eq_true, Bool.not_true, Bool.not_false, eq_self, Nat.reduceEqDiff]; done) | (simp only [X_core, c1, c2, ec_r, ec_j, k3, k4, k5t, if_true, if_false, reduceIte, Bool.false_eq_true, reduceCtorEq, decide_true, decide_false, Bool.and_true, Bool.and_false, Bool.true_and, Bool.false_and, Bool.or_true, Bool.or_false, Bool.true_or, Bool.false_or, not_true_eq_false, not_false_eq_true, Bool.not_true, Bool.not_false, eq_self, Nat.reduceEqDiff]; rfl) | contradiction | (exfalso; omega))) rfl
      by_cases k6 : j = 3
      · have k6t := eq_true k6
        refine v_tableIn (tgt := 86) (off := 53) hX dX5_core_33 (by rw [k6]; decide) (by rw [k6]; decide) (by rw [k6]; decide) (by decide) ?_
        refine v_aload_n hX dX5_core_86 rfl ?_
        refine v_get (C := RX0) (T := TX0) (N := 5) (ci := 0) (v := .ref ((kA (b 1) r) 5)) hX in_X0 _ (atR (atL (mAt E (b 1) v.1 (by omega : r < 4) 0 rfl))) rfl 4 (by decide) fl_142 rfl rfl dX5_core_87 ?_
        refine v_callVi (r := cntT ((v.1.2.1 r).2.2.2.2).2.1 24) (rest := []) (ws' := wX E b v) hX (fun sz => c_X1_stuckCounters l E (fA (kA (b 1) r)) sz ((v.1.2.1 r).2.2.2.2) ) (cwV 0 hX.2.2.2.2.1 gX5_core_X1_stuckCounters rfl rfl rfl (by decide +kernel) ⟨Nat.le_of_ble_eq_true rfl, Nat.le_of_ble_eq_true rfl⟩) (w1X b v ++ (fPre E (b 1) v.1 r)) ((mPost E (b 1) v.1 r) ++ (wM E (b 2) v.2.1 ++ (wM E (b 3) v.2.2.1 ++ (wH E (hA b) v.2.2.2.1 ++ (wP E (b 9) v.2.2.2.2.1))))) (lift0 (wM_cutF E (b 1) v.1 (by omega : r < 4))) (lift0 (wM_cutF E (b 1) v.1 (by omega : r < 4))).symm (wF_fst E (fA (kA (b 1) r)) _ _) (ci := 1) (q0 := 0) rfl rfl rfl rfl rfl (Nat.le_of_ble_eq_true rfl) dX5_core_90 ?_
        exact v_iret hX hr hsz dX5_core_93 rfl rfl (by (first | rfl | (simp only [X_core, c1, c2, ec_r, ec_j, k3, k4, k5, k6t, if_true, if_false, reduceIte, Bool.false_eq_true, reduceCtorEq, decide_true, decide_false, Bool.and_true, Bool.and_false, Bool.true_and, Bool.false_and, Bool.or_true, Bool.or_false, Bool.true_or, Bool.false_or, not_true_eq_false, not_false_eq_true, Bool.not_true, Bool.not_false, eq_self, Nat.reduceEqDiff]; done) | (simp only [X_core, c1, c2, ec_r, ec_j, k3, k4, k5, k6t, if_true, if_false, reduceIte, Bool.false_eq_true, reduceCtorEq, decide_true, decide_false, Bool.and_true, Bool.and_false, Bool.true_and, Bool.false_and, Bool.or_true, Bool.or_false, Bool.true_or, Bool.false_or, not_true_eq_false, not_false_eq_true, Bool.not_true, Bool.not_false, eq_self, Nat.reduceEqDiff]; rfl) | contradiction | (exfalso; omega))) rfl
      by_cases k7 : j = 4
      · have k7t := eq_true k7
        refine v_tableIn (tgt := 94) (off := 61) hX dX5_core_33 (by rw [k7]; decide) (by rw [k7]; decide) (by rw [k7]; decide) (by decide) ?_
        refine v_aload_n hX dX5_core_94 rfl ?_
        refine v_get (C := RX0) (T := TX0) (N := 5) (ci := 0) (v := .ref ((kA (b 1) r) 5)) hX in_X0 _ (atR (atL (mAt E (b 1) v.1 (by omega : r < 4) 0 rfl))) rfl 4 (by decide) fl_142 rfl rfl dX5_core_95 ?_
        refine v_callVi (r := cntT ((v.1.2.1 r).2.2.2.2).2.2 16) (rest := []) (ws' := wX E b v) hX (fun sz => c_X1_bitsThatAreOne l E (fA (kA (b 1) r)) sz ((v.1.2.1 r).2.2.2.2) ) (cwV 0 hX.2.2.2.2.1 gX5_core_X1_bitsThatAreOne rfl rfl rfl (by decide +kernel) ⟨Nat.le_of_ble_eq_true rfl, Nat.le_of_ble_eq_true rfl⟩) (w1X b v ++ (fPre E (b 1) v.1 r)) ((mPost E (b 1) v.1 r) ++ (wM E (b 2) v.2.1 ++ (wM E (b 3) v.2.2.1 ++ (wH E (hA b) v.2.2.2.1 ++ (wP E (b 9) v.2.2.2.2.1))))) (lift0 (wM_cutF E (b 1) v.1 (by omega : r < 4))) (lift0 (wM_cutF E (b 1) v.1 (by omega : r < 4))).symm (wF_fst E (fA (kA (b 1) r)) _ _) (ci := 1) (q0 := 0) rfl rfl rfl rfl rfl (Nat.le_of_ble_eq_true rfl) dX5_core_98 ?_
        exact v_iret hX hr hsz dX5_core_101 rfl rfl (by (first | rfl | (simp only [X_core, c1, c2, ec_r, ec_j, k3, k4, k5, k6, k7t, if_true, if_false, reduceIte, Bool.false_eq_true, reduceCtorEq, decide_true, decide_false, Bool.and_true, Bool.and_false, Bool.true_and, Bool.false_and, Bool.or_true, Bool.or_false, Bool.true_or, Bool.false_or, not_true_eq_false, not_false_eq_true, Bool.not_true, Bool.not_false, eq_self, Nat.reduceEqDiff]; done) | (simp only [X_core, c1, c2, ec_r, ec_j, k3, k4, k5, k6, k7t, if_true, if_false, reduceIte, Bool.false_eq_true, reduceCtorEq, decide_true, decide_false, Bool.and_true, Bool.and_false, Bool.true_and, Bool.false_and, Bool.or_true, Bool.or_false, Bool.true_or, Bool.false_or, not_true_eq_false, not_false_eq_true, Bool.not_true, Bool.not_false, eq_self, Nat.reduceEqDiff]; rfl) | contradiction | (exfalso; omega))) rfl
      refine v_tableOut (tgt := 102) hX dX5_core_33 (Or.inr (by rw [nI_toInt (by omega)]; omega)) (by decide) ?_
      refine v_aload_n hX dX5_core_102 rfl ?_
      refine v_get (C := RX0) (T := TX0) (N := 5) (ci := 0) (v := .ref ((kA (b 1) r) 4)) hX in_X0 _ (atR (atL (mAt E (b 1) v.1 (by omega : r < 4) 0 rfl))) rfl 3 (by decide) fl_157 rfl rfl dX5_core_103 ?_
      refine v_iload_n hX dX5_core_106 rfl ?_
      refine v_iconst (x := (5 : Int32)) hX dX5_core_107 (by decide) ?_
      refine v_isub (z := nI (j - 5)) hX dX5_core_108 (pk_sub (a := j) (b := 5) (by omega)) ?_
      refine v_iald (z := (v.1.2.1 r).2.2.2.1 (j - 5)) hX _ (atR (atL (mAt E (b 1) v.1 (by omega : r < 4) 4 rfl))) (vp_in_nI (by omega : j - 5 < 6) (by omega)) (by simp only [nI_clamp (show j - 5 < 2 ^ 31 by omega)]) dX5_core_109 ?_
      exact v_iret hX hr hsz dX5_core_110 rfl rfl (by (first | rfl | (simp only [X_core, c1, c2, ec_r, ec_j, k3, k4, k5, k6, k7, if_true, if_false, reduceIte, Bool.false_eq_true, reduceCtorEq, decide_true, decide_false, Bool.and_true, Bool.and_false, Bool.true_and, Bool.false_and, Bool.or_true, Bool.or_false, Bool.true_or, Bool.false_or, not_true_eq_false, not_false_eq_true, Bool.not_true, Bool.not_false, eq_self, Nat.reduceEqDiff]; done) | (simp only [X_core, c1, c2, ec_r, ec_j, k3, k4, k5, k6, k7, if_true, if_false, reduceIte, Bool.false_eq_true, reduceCtorEq, decide_true, decide_false, Bool.and_true, Bool.and_false, Bool.true_and, Bool.false_and, Bool.or_true, Bool.or_false, Bool.true_or, Bool.false_or, not_true_eq_false, not_false_eq_true, Bool.not_true, Bool.not_false, eq_self, Nat.reduceEqDiff]; rfl) | contradiction | (exfalso; omega))) rfl
    · replace c2 := bI_0.mp c2
      refine v_bipush (x := (-2 : Int32)) hX dX5_core_19 (by decide) ?_
      exact v_iret hX hr hsz dX5_core_21 rfl rfl (by (first | rfl | (simp only [X_core, c1, c2, if_true, if_false, reduceIte, Bool.false_eq_true, reduceCtorEq, decide_true, decide_false, Bool.and_true, Bool.and_false, Bool.true_and, Bool.false_and, Bool.or_true, Bool.or_false, Bool.true_or, Bool.false_or, not_true_eq_false, not_false_eq_true, Bool.not_true, Bool.not_false, eq_self, Nat.reduceEqDiff]; done) | (simp only [X_core, c1, c2, if_true, if_false, reduceIte, Bool.false_eq_true, reduceCtorEq, decide_true, decide_false, Bool.and_true, Bool.and_false, Bool.true_and, Bool.false_and, Bool.or_true, Bool.or_false, Bool.true_or, Bool.false_or, not_true_eq_false, not_false_eq_true, Bool.not_true, Bool.not_false, eq_self, Nat.reduceEqDiff]; rfl) | contradiction | (exfalso; omega))) rfl
  · replace c1 := bI_0.mp c1
    refine v_iconst (x := (-1 : Int32)) hX dX5_core_7 (by decide) ?_
    exact v_iret hX hr hsz dX5_core_8 rfl rfl (by (first | rfl | (simp only [X_core, c1, if_true, if_false, reduceIte, Bool.false_eq_true, reduceCtorEq, decide_true, decide_false, Bool.and_true, Bool.and_false, Bool.true_and, Bool.false_and, Bool.or_true, Bool.or_false, Bool.true_or, Bool.false_or, not_true_eq_false, not_false_eq_true, Bool.not_true, Bool.not_false, eq_self, Nat.reduceEqDiff]; done) | (simp only [X_core, c1, if_true, if_false, reduceIte, Bool.false_eq_true, reduceCtorEq, decide_true, decide_false, Bool.and_true, Bool.and_false, Bool.true_and, Bool.false_and, Bool.or_true, Bool.or_false, Bool.true_or, Bool.false_or, not_true_eq_false, not_false_eq_true, Bool.not_true, Bool.not_false, eq_self, Nat.reduceEqDiff]; rfl) | contradiction | (exfalso; omega))) rfl
set_option maxHeartbeats 4000000 in
set_option maxRecDepth 100000 in
theorem c_X5_held (l : Launch) (E : ET) (b : Nat → Nat → Nat) (sz : Nat) (v : XV) (co : Int32) (pl : Int32) (w : Int32) : Met l yX5_held wsX5_held ({ frames := 2, cells := 0, slots := 0, locals := 42 }) (mPc E [.ref (b 0 0), .int (co), .int (pl), .int (w)] sz (wX E b v)) (mQi E (X_held v co pl w) (wX E b v) (wX E b v) sz) 0 0 (va_A (wX E b v) sz) := by
  refine v_start (cc := cX5_held) (maxL := 5) (ret := (some .int)) (by decide) rfl (Nat.le_of_ble_eq_true rfl) rfl ?_
  intro p e s m args below meth c hsz hr hX
  have hX : Xc p s m args meth c E 5 (va_A (wX E b v) sz) cX5_held RX5 wsX5_held := hX
  have in_X5 : ∀ w ∈ u_ws RX5 TX5 9, w ∈ wsX5_held := by decide +kernel
  have fl_12 : Cond.fieldLink RX5 12 RX5 "now" "LSnoopFilter$Machine;" ∈ wsX5_held := by decide +kernel
  have in_X3 : ∀ w ∈ u_ws RX3 TX3 6, w ∈ wsX5_held := by decide +kernel
  have fl_59 : Cond.fieldLink RX5 59 RX3 "cores" "[LSnoopFilter$Core;" ∈ wsX5_held := by decide +kernel
  have in_X0 : ∀ w ∈ u_ws RX0 TX0 5, w ∈ wsX5_held := by decide +kernel
  have fl_161 : Cond.fieldLink RX5 161 RX0 "lines" "[I" ∈ wsX5_held := by decide +kernel
  have fl_164 : Cond.fieldLink RX5 164 RX0 "values" "[I" ∈ wsX5_held := by decide +kernel
  have fl_167 : Cond.fieldLink RX5 167 RX0 "dirty" "[Z" ∈ wsX5_held := by decide +kernel
  refine v_iload_n hX dX5_held_0 rfl ?_
  refine v_callSi (r := bI (S_within co (0 : Int32) (3 : Int32))) (rest := []) (ws' := wX E b v) hX (fun sz => c_X5_isCore l E sz co) (va_cwS 1 hX.2.2.2.2.1 gX5_held_X5_isCore rfl rfl rfl (by decide +kernel) ⟨Nat.le_of_ble_eq_true rfl, Nat.le_of_ble_eq_true rfl⟩) ([]) (wX E b v) (rfl) rfl (rfl) rfl rfl (Nat.le_of_ble_eq_true rfl) dX5_held_1 ?_
  refine v_if_ne (tgt := 9) hX dX5_held_4 (by decide) (fun c1 => ?_) (fun c1 => ?_)
  · replace c1 := bI_n0.mp c1
    refine v_iload_n hX dX5_held_9 rfl ?_
    refine v_iconst (x := (0 : Int32)) hX dX5_held_10 (by decide) ?_
    refine v_bipush (x := (7 : Int32)) hX dX5_held_11 (by decide) ?_
    refine v_callSi (r := bI (S_within pl (0 : Int32) (7 : Int32))) (rest := []) (ws' := wX E b v) hX (fun sz => c_X5_isWithin l E sz pl (0 : Int32) (7 : Int32)) (va_cwS 3 hX.2.2.2.2.1 gX5_held_X5_isWithin rfl rfl rfl (by decide +kernel) ⟨Nat.le_of_ble_eq_true rfl, Nat.le_of_ble_eq_true rfl⟩) ([]) (wX E b v) (rfl) rfl (rfl) rfl rfl (Nat.le_of_ble_eq_true rfl) dX5_held_13 ?_
    refine v_if_eq (tgt := 28) hX dX5_held_16 (by decide) (fun c2 => ?_) (fun c2 => ?_)
    · replace c2 := bI_0.mp c2
      refine v_bipush (x := (-2 : Int32)) hX dX5_held_28 (by decide) ?_
      exact v_iret hX hr hsz dX5_held_30 rfl rfl (by (first | rfl | (simp only [X_held, c1, c2, if_true, if_false, reduceIte, Bool.false_eq_true, reduceCtorEq, decide_true, decide_false, Bool.and_true, Bool.and_false, Bool.true_and, Bool.false_and, Bool.or_true, Bool.or_false, Bool.true_or, Bool.false_or, not_true_eq_false, not_false_eq_true, Bool.not_true, Bool.not_false, eq_self, Nat.reduceEqDiff]; done) | (simp only [X_held, c1, c2, if_true, if_false, reduceIte, Bool.false_eq_true, reduceCtorEq, decide_true, decide_false, Bool.and_true, Bool.and_false, Bool.true_and, Bool.false_and, Bool.or_true, Bool.or_false, Bool.true_or, Bool.false_or, not_true_eq_false, not_false_eq_true, Bool.not_true, Bool.not_false, eq_self, Nat.reduceEqDiff]; rfl) | contradiction | (exfalso; omega))) rfl
    · replace c2 := bI_n0.mp c2
      refine v_iload_n hX dX5_held_19 rfl ?_
      refine v_iconst (x := (0 : Int32)) hX dX5_held_20 (by decide) ?_
      refine v_iconst (x := (2 : Int32)) hX dX5_held_21 (by decide) ?_
      refine v_callSi (r := bI (S_within w (0 : Int32) (2 : Int32))) (rest := []) (ws' := wX E b v) hX (fun sz => c_X5_isWithin l E sz w (0 : Int32) (2 : Int32)) (va_cwS 3 hX.2.2.2.2.1 gX5_held_X5_isWithin rfl rfl rfl (by decide +kernel) ⟨Nat.le_of_ble_eq_true rfl, Nat.le_of_ble_eq_true rfl⟩) ([]) (wX E b v) (rfl) rfl (rfl) rfl rfl (Nat.le_of_ble_eq_true rfl) dX5_held_22 ?_
      refine v_if_ne (tgt := 31) hX dX5_held_25 (by decide) (fun c3 => ?_) (fun c3 => ?_)
      · replace c3 := bI_n0.mp c3
        obtain ⟨r, hle_r, heq_r⟩ := within_nat (B := 3) rfl (by decide) c1
        subst heq_r
        have ec_r : cN (nI r) = r := cN_nI (by omega)
        obtain ⟨k, hle_k, heq_k⟩ := within_nat (B := 7) rfl (by decide) c2
        subst heq_k
        have ec_k : cN (nI k) = k := cN_nI (by omega)
        obtain ⟨j, hle_j, heq_j⟩ := within_nat (B := 2) rfl (by decide) c3
        subst heq_j
        have ec_j : cN (nI j) = j := cN_nI (by omega)
        refine v_aload_n hX dX5_held_31 rfl ?_
        refine v_get (C := RX5) (T := TX5) (N := 9) (ci := 5) (v := .ref (b 1 0)) hX in_X5 0 rfl rfl 0 (by decide) fl_12 rfl rfl dX5_held_32 ?_
        refine v_get (C := RX3) (T := TX3) (N := 6) (ci := 3) (v := .ref ((b 1) 2)) hX in_X3 _ (atR (atL (rfl : (wM E (b 1) v.1)[0]? = _))) rfl 1 (by decide) fl_59 rfl rfl dX5_held_35 ?_
        refine v_iload_n hX dX5_held_38 rfl ?_
        refine v_aaldK (b := (b 1) (3 + 9 * (r))) hX _ (atR (atL (rfl : (wM E (b 1) v.1)[2]? = _))) (vp_in_nI (by omega : r < 4) (by omega)) (by simp only [nI_clamp (show r < 2 ^ 31 by omega)]) dX5_held_39 ?_
        refine v_astore (lv' := [.ref (b 0 0), .int (nI (r)), .int (nI (k)), .int (nI (j)), .ref ((b 1) (3 + 9 * (r)))]) hX dX5_held_40 (Nat.le_of_ble_eq_true rfl) (Nat.le_of_ble_eq_true rfl) rfl rfl ?_
        refine v_aload hX dX5_held_42 rfl ?_
        refine v_get (C := RX0) (T := TX0) (N := 5) (ci := 0) (v := .ref ((kA (b 1) r) 1)) hX in_X0 _ (atR (atL (mAt E (b 1) v.1 (by omega : r < 4) 0 rfl))) rfl 0 (by decide) fl_161 rfl rfl dX5_held_44 ?_
        refine v_iload_n hX dX5_held_47 rfl ?_
        refine v_iald (z := encL ((v.1.2.1 r).1 (k))) hX _ (atR (atL (mAt E (b 1) v.1 (by omega : r < 4) 1 rfl))) (vp_in_nI (by omega : k < 8) (by omega)) (by simp only [nI_clamp (show k < 2 ^ 31 by omega)]) dX5_held_48 ?_
        refine v_iconst (x := (-1 : Int32)) hX dX5_held_49 (by decide) ?_
        refine v_icmp_ne (tgt := 56) hX dX5_held_50 (by decide) (fun c4 => ?_) (fun c4 => ?_)
        · obtain ⟨n5, c4⟩ := encL_ex c4
          have hn5 := n5.isLt
          try rw [show encL ((v.1.2.1 r).1 (k)) = nI (n5).val from by rw [c4]; rfl]
          refine v_iload_n hX dX5_held_56 rfl ?_
          by_cases k6 : j = 0
          · have k6t := eq_true k6
            refine v_lookup (tgt := 84) (off := 27) hX dX5_held_57 (by decide) (by rw [k6]; decide) (by decide) ?_
            refine v_aload hX dX5_held_84 rfl ?_
            refine v_get (C := RX0) (T := TX0) (N := 5) (ci := 0) (v := .ref ((kA (b 1) r) 1)) hX in_X0 _ (atR (atL (mAt E (b 1) v.1 (by omega : r < 4) 0 rfl))) rfl 0 (by decide) fl_161 rfl rfl dX5_held_86 ?_
            refine v_iload_n hX dX5_held_89 rfl ?_
            refine v_iald (z := encL ((v.1.2.1 r).1 (k))) hX _ (atR (atL (mAt E (b 1) v.1 (by omega : r < 4) 1 rfl))) (vp_in_nI (by omega : k < 8) (by omega)) (by simp only [nI_clamp (show k < 2 ^ 31 by omega)]) dX5_held_90 ?_
            exact v_iret hX hr hsz dX5_held_91 rfl rfl (by (first | rfl | (simp only [X_held, c1, c2, c3, ec_r, ec_k, ec_j, c4, k6t, if_true, if_false, reduceIte, Bool.false_eq_true, reduceCtorEq, decide_true, decide_false, Bool.and_true, Bool.and_false, Bool.true_and, Bool.false_and, Bool.or_true, Bool.or_false, Bool.true_or, Bool.false_or, not_true_eq_false, not_false_eq_true, Bool.not_true, Bool.not_false, eq_self, Nat.reduceEqDiff]; done) | (simp only [X_held, c1, c2, c3, ec_r, ec_k, ec_j, c4, k6t, if_true, if_false, reduceIte, Bool.false_eq_true, reduceCtorEq, decide_true, decide_false, Bool.and_true, Bool.and_false, Bool.true_and, Bool.false_and, Bool.or_true, Bool.or_false, Bool.true_or, Bool.false_or, not_true_eq_false, not_false_eq_true, Bool.not_true, Bool.not_false, eq_self, Nat.reduceEqDiff]; rfl) | contradiction | (exfalso; omega))) rfl
          by_cases k7 : j = 1
          · have k7t := eq_true k7
            refine v_lookup (tgt := 92) (off := 35) hX dX5_held_57 (by decide) (by rw [k7]; decide) (by decide) ?_
            refine v_aload hX dX5_held_92 rfl ?_
            refine v_get (C := RX0) (T := TX0) (N := 5) (ci := 0) (v := .ref ((kA (b 1) r) 2)) hX in_X0 _ (atR (atL (mAt E (b 1) v.1 (by omega : r < 4) 0 rfl))) rfl 1 (by decide) fl_164 rfl rfl dX5_held_94 ?_
            refine v_iload_n hX dX5_held_97 rfl ?_
            refine v_iald (z := (v.1.2.1 r).2.1 (k)) hX _ (atR (atL (mAt E (b 1) v.1 (by omega : r < 4) 2 rfl))) (vp_in_nI (by omega : k < 8) (by omega)) (by simp only [nI_clamp (show k < 2 ^ 31 by omega)]) dX5_held_98 ?_
            exact v_iret hX hr hsz dX5_held_99 rfl rfl (by (first | rfl | (simp only [X_held, c1, c2, c3, ec_r, ec_k, ec_j, c4, k6, k7t, if_true, if_false, reduceIte, Bool.false_eq_true, reduceCtorEq, decide_true, decide_false, Bool.and_true, Bool.and_false, Bool.true_and, Bool.false_and, Bool.or_true, Bool.or_false, Bool.true_or, Bool.false_or, not_true_eq_false, not_false_eq_true, Bool.not_true, Bool.not_false, eq_self, Nat.reduceEqDiff]; done) | (simp only [X_held, c1, c2, c3, ec_r, ec_k, ec_j, c4, k6, k7t, if_true, if_false, reduceIte, Bool.false_eq_true, reduceCtorEq, decide_true, decide_false, Bool.and_true, Bool.and_false, Bool.true_and, Bool.false_and, Bool.or_true, Bool.or_false, Bool.true_or, Bool.false_or, not_true_eq_false, not_false_eq_true, Bool.not_true, Bool.not_false, eq_self, Nat.reduceEqDiff]; rfl) | contradiction | (exfalso; omega))) rfl
          refine v_lookup (tgt := 100) (off := 43) hX dX5_held_57 (by decide) (look_out _ (by omega) k6 k7) (by decide) ?_
          refine v_aload hX dX5_held_100 rfl ?_
          refine v_get (C := RX0) (T := TX0) (N := 5) (ci := 0) (v := .ref ((kA (b 1) r) 3)) hX in_X0 _ (atR (atL (mAt E (b 1) v.1 (by omega : r < 4) 0 rfl))) rfl 2 (by decide) fl_167 rfl rfl dX5_held_102 ?_
          refine v_iload_n hX dX5_held_105 rfl ?_
          refine v_zald (z := bI ((v.1.2.1 r).2.2.1 (k))) hX _ (atR (atL (mAt E (b 1) v.1 (by omega : r < 4) 3 rfl))) (vp_in_nI (by omega : k < 8) (by omega)) (by simp only [nI_clamp (show k < 2 ^ 31 by omega)]) dX5_held_106 ?_
          refine v_if_eq (tgt := 114) hX dX5_held_107 (by decide) (fun c8 => ?_) (fun c8 => ?_)
          · replace c8 := bI_0.mp c8
            refine v_iconst (x := (0 : Int32)) hX dX5_held_114 (by decide) ?_
            exact v_iret hX hr hsz dX5_held_115 rfl rfl (by (first | rfl | (simp only [X_held, c1, c2, c3, ec_r, ec_k, ec_j, c4, k6, k7, c8, if_true, if_false, reduceIte, Bool.false_eq_true, reduceCtorEq, decide_true, decide_false, Bool.and_true, Bool.and_false, Bool.true_and, Bool.false_and, Bool.or_true, Bool.or_false, Bool.true_or, Bool.false_or, not_true_eq_false, not_false_eq_true, Bool.not_true, Bool.not_false, eq_self, Nat.reduceEqDiff]; done) | (simp only [X_held, c1, c2, c3, ec_r, ec_k, ec_j, c4, k6, k7, c8, if_true, if_false, reduceIte, Bool.false_eq_true, reduceCtorEq, decide_true, decide_false, Bool.and_true, Bool.and_false, Bool.true_and, Bool.false_and, Bool.or_true, Bool.or_false, Bool.true_or, Bool.false_or, not_true_eq_false, not_false_eq_true, Bool.not_true, Bool.not_false, eq_self, Nat.reduceEqDiff]; rfl) | contradiction | (exfalso; omega))) rfl
          · replace c8 := bI_n0.mp c8
            refine v_iconst (x := (1 : Int32)) hX dX5_held_110 (by decide) ?_
            refine v_goto (tgt := 115) hX dX5_held_111 (by decide) ?_
            exact v_iret hX hr hsz dX5_held_115 rfl rfl (by (first | rfl | (simp only [X_held, c1, c2, c3, ec_r, ec_k, ec_j, c4, k6, k7, c8, if_true, if_false, reduceIte, Bool.false_eq_true, reduceCtorEq, decide_true, decide_false, Bool.and_true, Bool.and_false, Bool.true_and, Bool.false_and, Bool.or_true, Bool.or_false, Bool.true_or, Bool.false_or, not_true_eq_false, not_false_eq_true, Bool.not_true, Bool.not_false, eq_self, Nat.reduceEqDiff]; done) | (simp only [X_held, c1, c2, c3, ec_r, ec_k, ec_j, c4, k6, k7, c8, if_true, if_false, reduceIte, Bool.false_eq_true, reduceCtorEq, decide_true, decide_false, Bool.and_true, Bool.and_false, Bool.true_and, Bool.false_and, Bool.or_true, Bool.or_false, Bool.true_or, Bool.false_or, not_true_eq_false, not_false_eq_true, Bool.not_true, Bool.not_false, eq_self, Nat.reduceEqDiff]; rfl) | contradiction | (exfalso; omega))) rfl
        · replace c4 := encL_m1.mp c4
          refine v_bipush (x := (-5 : Int32)) hX dX5_held_53 (by decide) ?_
          exact v_iret hX hr hsz dX5_held_55 rfl rfl (by (first | rfl | (simp only [X_held, c1, c2, c3, ec_r, ec_k, ec_j, c4, if_true, if_false, reduceIte, Bool.false_eq_true, reduceCtorEq, decide_true, decide_false, Bool.and_true, Bool.and_false, Bool.true_and, Bool.false_and, Bool.or_true, Bool.or_false, Bool.true_or, Bool.false_or, not_true_eq_false, not_false_eq_true, Bool.not_true, Bool.not_false, eq_self, Nat.reduceEqDiff]; done) | (simp only [X_held, c1, c2, c3, ec_r, ec_k, ec_j, c4, if_true, if_false, reduceIte, Bool.false_eq_true, reduceCtorEq, decide_true, decide_false, Bool.and_true, Bool.and_false, Bool.true_and, Bool.false_and, Bool.or_true, Bool.or_false, Bool.true_or, Bool.false_or, not_true_eq_false, not_false_eq_true, Bool.not_true, Bool.not_false, eq_self, Nat.reduceEqDiff]; rfl) | contradiction | (exfalso; omega))) rfl
      · replace c3 := bI_0.mp c3
        refine v_bipush (x := (-2 : Int32)) hX dX5_held_28 (by decide) ?_
        exact v_iret hX hr hsz dX5_held_30 rfl rfl (by (first | rfl | (simp only [X_held, c1, c2, c3, if_true, if_false, reduceIte, Bool.false_eq_true, reduceCtorEq, decide_true, decide_false, Bool.and_true, Bool.and_false, Bool.true_and, Bool.false_and, Bool.or_true, Bool.or_false, Bool.true_or, Bool.false_or, not_true_eq_false, not_false_eq_true, Bool.not_true, Bool.not_false, eq_self, Nat.reduceEqDiff]; done) | (simp only [X_held, c1, c2, c3, if_true, if_false, reduceIte, Bool.false_eq_true, reduceCtorEq, decide_true, decide_false, Bool.and_true, Bool.and_false, Bool.true_and, Bool.false_and, Bool.or_true, Bool.or_false, Bool.true_or, Bool.false_or, not_true_eq_false, not_false_eq_true, Bool.not_true, Bool.not_false, eq_self, Nat.reduceEqDiff]; rfl) | contradiction | (exfalso; omega))) rfl
  · replace c1 := bI_0.mp c1
    refine v_iconst (x := (-1 : Int32)) hX dX5_held_7 (by decide) ?_
    exact v_iret hX hr hsz dX5_held_8 rfl rfl (by (first | rfl | (simp only [X_held, c1, if_true, if_false, reduceIte, Bool.false_eq_true, reduceCtorEq, decide_true, decide_false, Bool.and_true, Bool.and_false, Bool.true_and, Bool.false_and, Bool.or_true, Bool.or_false, Bool.true_or, Bool.false_or, not_true_eq_false, not_false_eq_true, Bool.not_true, Bool.not_false, eq_self, Nat.reduceEqDiff]; done) | (simp only [X_held, c1, if_true, if_false, reduceIte, Bool.false_eq_true, reduceCtorEq, decide_true, decide_false, Bool.and_true, Bool.and_false, Bool.true_and, Bool.false_and, Bool.or_true, Bool.or_false, Bool.true_or, Bool.false_or, not_true_eq_false, not_false_eq_true, Bool.not_true, Bool.not_false, eq_self, Nat.reduceEqDiff]; rfl) | contradiction | (exfalso; omega))) rfl
set_option maxHeartbeats 4000000 in
set_option maxRecDepth 100000 in
theorem c_X5_counter (l : Launch) (E : ET) (b : Nat → Nat → Nat) (sz : Nat) (v : XV) (co : Int32) (w : Int32) : Met l yX5_counter wsX5_counter ({ frames := 2, cells := 0, slots := 0, locals := 42 }) (mPc E [.ref (b 0 0), .int (co), .int (w)] sz (wX E b v)) (mQi E (X_counter v co w) (wX E b v) (wX E b v) sz) 0 0 (va_A (wX E b v) sz) := by
  refine v_start (cc := cX5_counter) (maxL := 3) (ret := (some .int)) (by decide) rfl (Nat.le_of_ble_eq_true rfl) rfl ?_
  intro p e s m args below meth c hsz hr hX
  have hX : Xc p s m args meth c E 3 (va_A (wX E b v) sz) cX5_counter RX5 wsX5_counter := hX
  have in_X5 : ∀ w ∈ u_ws RX5 TX5 9, w ∈ wsX5_counter := by decide +kernel
  have fl_12 : Cond.fieldLink RX5 12 RX5 "now" "LSnoopFilter$Machine;" ∈ wsX5_counter := by decide +kernel
  have in_X3 : ∀ w ∈ u_ws RX3 TX3 6, w ∈ wsX5_counter := by decide +kernel
  have fl_59 : Cond.fieldLink RX5 59 RX3 "cores" "[LSnoopFilter$Core;" ∈ wsX5_counter := by decide +kernel
  have in_X0 : ∀ w ∈ u_ws RX0 TX0 5, w ∈ wsX5_counter := by decide +kernel
  have fl_142 : Cond.fieldLink RX5 142 RX0 "filter" "LSnoopFilter$Filter;" ∈ wsX5_counter := by decide +kernel
  have in_X1 : ∀ w ∈ u_ws RX1 TX1 3, w ∈ wsX5_counter := by decide +kernel
  have fl_171 : Cond.fieldLink RX5 171 RX1 "counters" "[I" ∈ wsX5_counter := by decide +kernel
  refine v_iload_n hX dX5_counter_0 rfl ?_
  refine v_callSi (r := bI (S_within co (0 : Int32) (3 : Int32))) (rest := []) (ws' := wX E b v) hX (fun sz => c_X5_isCore l E sz co) (va_cwS 1 hX.2.2.2.2.1 gX5_counter_X5_isCore rfl rfl rfl (by decide +kernel) ⟨Nat.le_of_ble_eq_true rfl, Nat.le_of_ble_eq_true rfl⟩) ([]) (wX E b v) (rfl) rfl (rfl) rfl rfl (Nat.le_of_ble_eq_true rfl) dX5_counter_1 ?_
  refine v_if_eq (tgt := 17) hX dX5_counter_4 (by decide) (fun c1 => ?_) (fun c1 => ?_)
  · replace c1 := bI_0.mp c1
    refine v_iconst (x := (-1 : Int32)) hX dX5_counter_17 (by decide) ?_
    exact v_iret hX hr hsz dX5_counter_18 rfl rfl (by (first | rfl | (simp only [X_counter, c1, if_true, if_false, reduceIte, Bool.false_eq_true, reduceCtorEq, decide_true, decide_false, Bool.and_true, Bool.and_false, Bool.true_and, Bool.false_and, Bool.or_true, Bool.or_false, Bool.true_or, Bool.false_or, not_true_eq_false, not_false_eq_true, Bool.not_true, Bool.not_false, eq_self, Nat.reduceEqDiff]; done) | (simp only [X_counter, c1, if_true, if_false, reduceIte, Bool.false_eq_true, reduceCtorEq, decide_true, decide_false, Bool.and_true, Bool.and_false, Bool.true_and, Bool.false_and, Bool.or_true, Bool.or_false, Bool.true_or, Bool.false_or, not_true_eq_false, not_false_eq_true, Bool.not_true, Bool.not_false, eq_self, Nat.reduceEqDiff]; rfl) | contradiction | (exfalso; omega))) rfl
  · replace c1 := bI_n0.mp c1
    refine v_iload_n hX dX5_counter_7 rfl ?_
    refine v_iconst (x := (0 : Int32)) hX dX5_counter_8 (by decide) ?_
    refine v_bipush (x := (23 : Int32)) hX dX5_counter_9 (by decide) ?_
    refine v_callSi (r := bI (S_within w (0 : Int32) (23 : Int32))) (rest := []) (ws' := wX E b v) hX (fun sz => c_X5_isWithin l E sz w (0 : Int32) (23 : Int32)) (va_cwS 3 hX.2.2.2.2.1 gX5_counter_X5_isWithin rfl rfl rfl (by decide +kernel) ⟨Nat.le_of_ble_eq_true rfl, Nat.le_of_ble_eq_true rfl⟩) ([]) (wX E b v) (rfl) rfl (rfl) rfl rfl (Nat.le_of_ble_eq_true rfl) dX5_counter_11 ?_
    refine v_if_ne (tgt := 19) hX dX5_counter_14 (by decide) (fun c2 => ?_) (fun c2 => ?_)
    · replace c2 := bI_n0.mp c2
      obtain ⟨r, hle_r, heq_r⟩ := within_nat (B := 3) rfl (by decide) c1
      subst heq_r
      have ec_r : cN (nI r) = r := cN_nI (by omega)
      obtain ⟨j, hle_j, heq_j⟩ := within_nat (B := 23) rfl (by decide) c2
      subst heq_j
      have ec_j : cN (nI j) = j := cN_nI (by omega)
      refine v_aload_n hX dX5_counter_19 rfl ?_
      refine v_get (C := RX5) (T := TX5) (N := 9) (ci := 5) (v := .ref (b 1 0)) hX in_X5 0 rfl rfl 0 (by decide) fl_12 rfl rfl dX5_counter_20 ?_
      refine v_get (C := RX3) (T := TX3) (N := 6) (ci := 3) (v := .ref ((b 1) 2)) hX in_X3 _ (atR (atL (rfl : (wM E (b 1) v.1)[0]? = _))) rfl 1 (by decide) fl_59 rfl rfl dX5_counter_23 ?_
      refine v_iload_n hX dX5_counter_26 rfl ?_
      refine v_aaldK (b := (b 1) (3 + 9 * (r))) hX _ (atR (atL (rfl : (wM E (b 1) v.1)[2]? = _))) (vp_in_nI (by omega : r < 4) (by omega)) (by simp only [nI_clamp (show r < 2 ^ 31 by omega)]) dX5_counter_27 ?_
      refine v_get (C := RX0) (T := TX0) (N := 5) (ci := 0) (v := .ref ((kA (b 1) r) 5)) hX in_X0 _ (atR (atL (mAt E (b 1) v.1 (by omega : r < 4) 0 rfl))) rfl 4 (by decide) fl_142 rfl rfl dX5_counter_28 ?_
      refine v_get (C := RX1) (T := TX1) (N := 3) (ci := 1) (v := .ref ((fA (kA (b 1) r)) 1)) hX in_X1 _ (atR (atL (mAt E (b 1) v.1 (by omega : r < 4) 5 rfl))) rfl 0 (by decide) fl_171 rfl rfl dX5_counter_31 ?_
      refine v_iload_n hX dX5_counter_34 rfl ?_
      refine v_iald (z := ((v.1.2.1 r).2.2.2.2).1 (j)) hX _ (atR (atL (mAt E (b 1) v.1 (by omega : r < 4) 6 rfl))) (vp_in_nI (by omega : j < 24) (by omega)) (by simp only [nI_clamp (show j < 2 ^ 31 by omega)]) dX5_counter_35 ?_
      exact v_iret hX hr hsz dX5_counter_36 rfl rfl (by (first | rfl | (simp only [X_counter, c1, c2, ec_r, ec_j, if_true, if_false, reduceIte, Bool.false_eq_true, reduceCtorEq, decide_true, decide_false, Bool.and_true, Bool.and_false, Bool.true_and, Bool.false_and, Bool.or_true, Bool.or_false, Bool.true_or, Bool.false_or, not_true_eq_false, not_false_eq_true, Bool.not_true, Bool.not_false, eq_self, Nat.reduceEqDiff]; done) | (simp only [X_counter, c1, c2, ec_r, ec_j, if_true, if_false, reduceIte, Bool.false_eq_true, reduceCtorEq, decide_true, decide_false, Bool.and_true, Bool.and_false, Bool.true_and, Bool.false_and, Bool.or_true, Bool.or_false, Bool.true_or, Bool.false_or, not_true_eq_false, not_false_eq_true, Bool.not_true, Bool.not_false, eq_self, Nat.reduceEqDiff]; rfl) | contradiction | (exfalso; omega))) rfl
    · replace c2 := bI_0.mp c2
      refine v_iconst (x := (-1 : Int32)) hX dX5_counter_17 (by decide) ?_
      exact v_iret hX hr hsz dX5_counter_18 rfl rfl (by (first | rfl | (simp only [X_counter, c1, c2, if_true, if_false, reduceIte, Bool.false_eq_true, reduceCtorEq, decide_true, decide_false, Bool.and_true, Bool.and_false, Bool.true_and, Bool.false_and, Bool.or_true, Bool.or_false, Bool.true_or, Bool.false_or, not_true_eq_false, not_false_eq_true, Bool.not_true, Bool.not_false, eq_self, Nat.reduceEqDiff]; done) | (simp only [X_counter, c1, c2, if_true, if_false, reduceIte, Bool.false_eq_true, reduceCtorEq, decide_true, decide_false, Bool.and_true, Bool.and_false, Bool.true_and, Bool.false_and, Bool.or_true, Bool.or_false, Bool.true_or, Bool.false_or, not_true_eq_false, not_false_eq_true, Bool.not_true, Bool.not_false, eq_self, Nat.reduceEqDiff]; rfl) | contradiction | (exfalso; omega))) rfl
set_option maxHeartbeats 4000000 in
set_option maxRecDepth 100000 in
theorem c_X5_bit (l : Launch) (E : ET) (b : Nat → Nat → Nat) (sz : Nat) (v : XV) (co : Int32) (w : Int32) : Met l yX5_bit wsX5_bit ({ frames := 2, cells := 0, slots := 0, locals := 42 }) (mPc E [.ref (b 0 0), .int (co), .int (w)] sz (wX E b v)) (mQi E (X_bit v co w) (wX E b v) (wX E b v) sz) 0 0 (va_A (wX E b v) sz) := by
  refine v_start (cc := cX5_bit) (maxL := 3) (ret := (some .int)) (by decide) rfl (Nat.le_of_ble_eq_true rfl) rfl ?_
  intro p e s m args below meth c hsz hr hX
  have hX : Xc p s m args meth c E 3 (va_A (wX E b v) sz) cX5_bit RX5 wsX5_bit := hX
  have in_X5 : ∀ w ∈ u_ws RX5 TX5 9, w ∈ wsX5_bit := by decide +kernel
  have fl_12 : Cond.fieldLink RX5 12 RX5 "now" "LSnoopFilter$Machine;" ∈ wsX5_bit := by decide +kernel
  have in_X3 : ∀ w ∈ u_ws RX3 TX3 6, w ∈ wsX5_bit := by decide +kernel
  have fl_59 : Cond.fieldLink RX5 59 RX3 "cores" "[LSnoopFilter$Core;" ∈ wsX5_bit := by decide +kernel
  have in_X0 : ∀ w ∈ u_ws RX0 TX0 5, w ∈ wsX5_bit := by decide +kernel
  have fl_142 : Cond.fieldLink RX5 142 RX0 "filter" "LSnoopFilter$Filter;" ∈ wsX5_bit := by decide +kernel
  have in_X1 : ∀ w ∈ u_ws RX1 TX1 3, w ∈ wsX5_bit := by decide +kernel
  have fl_174 : Cond.fieldLink RX5 174 RX1 "bits" "[Z" ∈ wsX5_bit := by decide +kernel
  refine v_iload_n hX dX5_bit_0 rfl ?_
  refine v_callSi (r := bI (S_within co (0 : Int32) (3 : Int32))) (rest := []) (ws' := wX E b v) hX (fun sz => c_X5_isCore l E sz co) (va_cwS 1 hX.2.2.2.2.1 gX5_bit_X5_isCore rfl rfl rfl (by decide +kernel) ⟨Nat.le_of_ble_eq_true rfl, Nat.le_of_ble_eq_true rfl⟩) ([]) (wX E b v) (rfl) rfl (rfl) rfl rfl (Nat.le_of_ble_eq_true rfl) dX5_bit_1 ?_
  refine v_if_eq (tgt := 17) hX dX5_bit_4 (by decide) (fun c1 => ?_) (fun c1 => ?_)
  · replace c1 := bI_0.mp c1
    refine v_iconst (x := (-1 : Int32)) hX dX5_bit_17 (by decide) ?_
    exact v_iret hX hr hsz dX5_bit_18 rfl rfl (by (first | rfl | (simp only [X_bit, c1, if_true, if_false, reduceIte, Bool.false_eq_true, reduceCtorEq, decide_true, decide_false, Bool.and_true, Bool.and_false, Bool.true_and, Bool.false_and, Bool.or_true, Bool.or_false, Bool.true_or, Bool.false_or, not_true_eq_false, not_false_eq_true, Bool.not_true, Bool.not_false, eq_self, Nat.reduceEqDiff]; done) | (simp only [X_bit, c1, if_true, if_false, reduceIte, Bool.false_eq_true, reduceCtorEq, decide_true, decide_false, Bool.and_true, Bool.and_false, Bool.true_and, Bool.false_and, Bool.or_true, Bool.or_false, Bool.true_or, Bool.false_or, not_true_eq_false, not_false_eq_true, Bool.not_true, Bool.not_false, eq_self, Nat.reduceEqDiff]; rfl) | contradiction | (exfalso; omega))) rfl
  · replace c1 := bI_n0.mp c1
    refine v_iload_n hX dX5_bit_7 rfl ?_
    refine v_iconst (x := (0 : Int32)) hX dX5_bit_8 (by decide) ?_
    refine v_bipush (x := (15 : Int32)) hX dX5_bit_9 (by decide) ?_
    refine v_callSi (r := bI (S_within w (0 : Int32) (15 : Int32))) (rest := []) (ws' := wX E b v) hX (fun sz => c_X5_isWithin l E sz w (0 : Int32) (15 : Int32)) (va_cwS 3 hX.2.2.2.2.1 gX5_bit_X5_isWithin rfl rfl rfl (by decide +kernel) ⟨Nat.le_of_ble_eq_true rfl, Nat.le_of_ble_eq_true rfl⟩) ([]) (wX E b v) (rfl) rfl (rfl) rfl rfl (Nat.le_of_ble_eq_true rfl) dX5_bit_11 ?_
    refine v_if_ne (tgt := 19) hX dX5_bit_14 (by decide) (fun c2 => ?_) (fun c2 => ?_)
    · replace c2 := bI_n0.mp c2
      obtain ⟨r, hle_r, heq_r⟩ := within_nat (B := 3) rfl (by decide) c1
      subst heq_r
      have ec_r : cN (nI r) = r := cN_nI (by omega)
      obtain ⟨j, hle_j, heq_j⟩ := within_nat (B := 15) rfl (by decide) c2
      subst heq_j
      have ec_j : cN (nI j) = j := cN_nI (by omega)
      refine v_aload_n hX dX5_bit_19 rfl ?_
      refine v_get (C := RX5) (T := TX5) (N := 9) (ci := 5) (v := .ref (b 1 0)) hX in_X5 0 rfl rfl 0 (by decide) fl_12 rfl rfl dX5_bit_20 ?_
      refine v_get (C := RX3) (T := TX3) (N := 6) (ci := 3) (v := .ref ((b 1) 2)) hX in_X3 _ (atR (atL (rfl : (wM E (b 1) v.1)[0]? = _))) rfl 1 (by decide) fl_59 rfl rfl dX5_bit_23 ?_
      refine v_iload_n hX dX5_bit_26 rfl ?_
      refine v_aaldK (b := (b 1) (3 + 9 * (r))) hX _ (atR (atL (rfl : (wM E (b 1) v.1)[2]? = _))) (vp_in_nI (by omega : r < 4) (by omega)) (by simp only [nI_clamp (show r < 2 ^ 31 by omega)]) dX5_bit_27 ?_
      refine v_get (C := RX0) (T := TX0) (N := 5) (ci := 0) (v := .ref ((kA (b 1) r) 5)) hX in_X0 _ (atR (atL (mAt E (b 1) v.1 (by omega : r < 4) 0 rfl))) rfl 4 (by decide) fl_142 rfl rfl dX5_bit_28 ?_
      refine v_get (C := RX1) (T := TX1) (N := 3) (ci := 1) (v := .ref ((fA (kA (b 1) r)) 3)) hX in_X1 _ (atR (atL (mAt E (b 1) v.1 (by omega : r < 4) 5 rfl))) rfl 2 (by decide) fl_174 rfl rfl dX5_bit_31 ?_
      refine v_iload_n hX dX5_bit_34 rfl ?_
      refine v_zald (z := bI (((v.1.2.1 r).2.2.2.2).2.2 (j))) hX _ (atR (atL (mAt E (b 1) v.1 (by omega : r < 4) 8 rfl))) (vp_in_nI (by omega : j < 16) (by omega)) (by simp only [nI_clamp (show j < 2 ^ 31 by omega)]) dX5_bit_35 ?_
      refine v_if_eq (tgt := 43) hX dX5_bit_36 (by decide) (fun c3 => ?_) (fun c3 => ?_)
      · replace c3 := bI_0.mp c3
        refine v_iconst (x := (0 : Int32)) hX dX5_bit_43 (by decide) ?_
        exact v_iret hX hr hsz dX5_bit_44 rfl rfl (by (first | rfl | (simp only [X_bit, c1, c2, ec_r, ec_j, c3, if_true, if_false, reduceIte, Bool.false_eq_true, reduceCtorEq, decide_true, decide_false, Bool.and_true, Bool.and_false, Bool.true_and, Bool.false_and, Bool.or_true, Bool.or_false, Bool.true_or, Bool.false_or, not_true_eq_false, not_false_eq_true, Bool.not_true, Bool.not_false, eq_self, Nat.reduceEqDiff]; done) | (simp only [X_bit, c1, c2, ec_r, ec_j, c3, if_true, if_false, reduceIte, Bool.false_eq_true, reduceCtorEq, decide_true, decide_false, Bool.and_true, Bool.and_false, Bool.true_and, Bool.false_and, Bool.or_true, Bool.or_false, Bool.true_or, Bool.false_or, not_true_eq_false, not_false_eq_true, Bool.not_true, Bool.not_false, eq_self, Nat.reduceEqDiff]; rfl) | contradiction | (exfalso; omega))) rfl
      · replace c3 := bI_n0.mp c3
        refine v_iconst (x := (1 : Int32)) hX dX5_bit_39 (by decide) ?_
        refine v_goto (tgt := 44) hX dX5_bit_40 (by decide) ?_
        exact v_iret hX hr hsz dX5_bit_44 rfl rfl (by (first | rfl | (simp only [X_bit, c1, c2, ec_r, ec_j, c3, if_true, if_false, reduceIte, Bool.false_eq_true, reduceCtorEq, decide_true, decide_false, Bool.and_true, Bool.and_false, Bool.true_and, Bool.false_and, Bool.or_true, Bool.or_false, Bool.true_or, Bool.false_or, not_true_eq_false, not_false_eq_true, Bool.not_true, Bool.not_false, eq_self, Nat.reduceEqDiff]; done) | (simp only [X_bit, c1, c2, ec_r, ec_j, c3, if_true, if_false, reduceIte, Bool.false_eq_true, reduceCtorEq, decide_true, decide_false, Bool.and_true, Bool.and_false, Bool.true_and, Bool.false_and, Bool.or_true, Bool.or_false, Bool.true_or, Bool.false_or, not_true_eq_false, not_false_eq_true, Bool.not_true, Bool.not_false, eq_self, Nat.reduceEqDiff]; rfl) | contradiction | (exfalso; omega))) rfl
    · replace c2 := bI_0.mp c2
      refine v_iconst (x := (-1 : Int32)) hX dX5_bit_17 (by decide) ?_
      exact v_iret hX hr hsz dX5_bit_18 rfl rfl (by (first | rfl | (simp only [X_bit, c1, c2, if_true, if_false, reduceIte, Bool.false_eq_true, reduceCtorEq, decide_true, decide_false, Bool.and_true, Bool.and_false, Bool.true_and, Bool.false_and, Bool.or_true, Bool.or_false, Bool.true_or, Bool.false_or, not_true_eq_false, not_false_eq_true, Bool.not_true, Bool.not_false, eq_self, Nat.reduceEqDiff]; done) | (simp only [X_bit, c1, c2, if_true, if_false, reduceIte, Bool.false_eq_true, reduceCtorEq, decide_true, decide_false, Bool.and_true, Bool.and_false, Bool.true_and, Bool.false_and, Bool.or_true, Bool.or_false, Bool.true_or, Bool.false_or, not_true_eq_false, not_false_eq_true, Bool.not_true, Bool.not_false, eq_self, Nat.reduceEqDiff]; rfl) | contradiction | (exfalso; omega))) rfl
set_option maxHeartbeats 4000000 in
set_option maxRecDepth 100000 in
theorem c_X5_reason (l : Launch) (E : ET) (b : Nat → Nat → Nat) (sz : Nat) (v : XV) (co : Int32) (li : Int32) : Met l yX5_reason wsX5_reason ({ frames := 2, cells := 0, slots := 0, locals := 42 }) (mPc E [.ref (b 0 0), .int (co), .int (li)] sz (wX E b v)) (mQi E (X_reason v co li) (wX E b v) (wX E b v) sz) 0 0 (va_A (wX E b v) sz) := by
  refine v_start (cc := cX5_reason) (maxL := 4) (ret := (some .int)) (by decide) rfl (Nat.le_of_ble_eq_true rfl) rfl ?_
  intro p e s m args below meth c hsz hr hX
  have hX : Xc p s m args meth c E 4 (va_A (wX E b v) sz) cX5_reason RX5 wsX5_reason := hX
  have in_X5 : ∀ w ∈ u_ws RX5 TX5 9, w ∈ wsX5_reason := by decide +kernel
  have fl_12 : Cond.fieldLink RX5 12 RX5 "now" "LSnoopFilter$Machine;" ∈ wsX5_reason := by decide +kernel
  have in_X3 : ∀ w ∈ u_ws RX3 TX3 6, w ∈ wsX5_reason := by decide +kernel
  have fl_59 : Cond.fieldLink RX5 59 RX3 "cores" "[LSnoopFilter$Core;" ∈ wsX5_reason := by decide +kernel
  have in_X0 : ∀ w ∈ u_ws RX0 TX0 5, w ∈ wsX5_reason := by decide +kernel
  have fl_142 : Cond.fieldLink RX5 142 RX0 "filter" "LSnoopFilter$Filter;" ∈ wsX5_reason := by decide +kernel
  refine v_iload_n hX dX5_reason_0 rfl ?_
  refine v_callSi (r := bI (S_within co (0 : Int32) (3 : Int32))) (rest := []) (ws' := wX E b v) hX (fun sz => c_X5_isCore l E sz co) (va_cwS 1 hX.2.2.2.2.1 gX5_reason_X5_isCore rfl rfl rfl (by decide +kernel) ⟨Nat.le_of_ble_eq_true rfl, Nat.le_of_ble_eq_true rfl⟩) ([]) (wX E b v) (rfl) rfl (rfl) rfl rfl (Nat.le_of_ble_eq_true rfl) dX5_reason_1 ?_
  refine v_if_eq (tgt := 14) hX dX5_reason_4 (by decide) (fun c1 => ?_) (fun c1 => ?_)
  · replace c1 := bI_0.mp c1
    refine v_iconst (x := (-1 : Int32)) hX dX5_reason_14 (by decide) ?_
    exact v_iret hX hr hsz dX5_reason_15 rfl rfl (by (first | rfl | (simp only [X_reason, c1, if_true, if_false, reduceIte, Bool.false_eq_true, reduceCtorEq, decide_true, decide_false, Bool.and_true, Bool.and_false, Bool.true_and, Bool.false_and, Bool.or_true, Bool.or_false, Bool.true_or, Bool.false_or, not_true_eq_false, not_false_eq_true, Bool.not_true, Bool.not_false, eq_self, Nat.reduceEqDiff]; done) | (simp only [X_reason, c1, if_true, if_false, reduceIte, Bool.false_eq_true, reduceCtorEq, decide_true, decide_false, Bool.and_true, Bool.and_false, Bool.true_and, Bool.false_and, Bool.or_true, Bool.or_false, Bool.true_or, Bool.false_or, not_true_eq_false, not_false_eq_true, Bool.not_true, Bool.not_false, eq_self, Nat.reduceEqDiff]; rfl) | contradiction | (exfalso; omega))) rfl
  · replace c1 := bI_n0.mp c1
    refine v_iload_n hX dX5_reason_7 rfl ?_
    refine v_callSi (r := bI (S_within li (0 : Int32) (255 : Int32))) (rest := []) (ws' := wX E b v) hX (fun sz => c_X5_isLine l E sz li) (va_cwS 1 hX.2.2.2.2.1 gX5_reason_X5_isLine rfl rfl rfl (by decide +kernel) ⟨Nat.le_of_ble_eq_true rfl, Nat.le_of_ble_eq_true rfl⟩) ([]) (wX E b v) (rfl) rfl (rfl) rfl rfl (Nat.le_of_ble_eq_true rfl) dX5_reason_8 ?_
    refine v_if_ne (tgt := 16) hX dX5_reason_11 (by decide) (fun c2 => ?_) (fun c2 => ?_)
    · replace c2 := bI_n0.mp c2
      obtain ⟨r, hle_r, heq_r⟩ := within_nat (B := 3) rfl (by decide) c1
      subst heq_r
      have ec_r : cN (nI r) = r := cN_nI (by omega)
      obtain ⟨n, heq_n⟩ := within_fin c2
      subst heq_n
      have hlt_n := n.isLt
      have el_n := lF_nI n
      refine v_aload_n hX dX5_reason_16 rfl ?_
      refine v_get (C := RX5) (T := TX5) (N := 9) (ci := 5) (v := .ref (b 1 0)) hX in_X5 0 rfl rfl 0 (by decide) fl_12 rfl rfl dX5_reason_17 ?_
      refine v_get (C := RX3) (T := TX3) (N := 6) (ci := 3) (v := .ref ((b 1) 2)) hX in_X3 _ (atR (atL (rfl : (wM E (b 1) v.1)[0]? = _))) rfl 1 (by decide) fl_59 rfl rfl dX5_reason_20 ?_
      refine v_iload_n hX dX5_reason_23 rfl ?_
      refine v_aaldK (b := (b 1) (3 + 9 * (r))) hX _ (atR (atL (rfl : (wM E (b 1) v.1)[2]? = _))) (vp_in_nI (by omega : r < 4) (by omega)) (by simp only [nI_clamp (show r < 2 ^ 31 by omega)]) dX5_reason_24 ?_
      refine v_astore_n (lv' := [.ref (b 0 0), .int (nI (r)), .int (nI (n).val), .ref ((b 1) (3 + 9 * (r)))]) hX dX5_reason_25 (Nat.le_of_ble_eq_true rfl) (Nat.le_of_ble_eq_true rfl) rfl rfl ?_
      refine v_aload_n hX dX5_reason_26 rfl ?_
      refine v_iload_n hX dX5_reason_27 rfl ?_
      refine v_callVi (r := bI (K_holds (v.1.2.1 r) n)) (rest := []) (ws' := wX E b v) hX (fun sz => c_X0_holds l E (kA (b 1) r) sz (v.1.2.1 r) n) (cwV 1 hX.2.2.2.2.1 gX5_reason_X0_holds rfl rfl rfl (by decide +kernel) ⟨Nat.le_of_ble_eq_true rfl, Nat.le_of_ble_eq_true rfl⟩) (w1X b v ++ (mPre E (b 1) v.1 r)) ((mPost E (b 1) v.1 r) ++ (wM E (b 2) v.2.1 ++ (wM E (b 3) v.2.2.1 ++ (wH E (hA b) v.2.2.2.1 ++ (wP E (b 9) v.2.2.2.2.1))))) (lift0 (wM_cut E (b 1) v.1 (by omega : r < 4))) (lift0 (wM_cut E (b 1) v.1 (by omega : r < 4))).symm (wK_fst E (kA (b 1) r) _ _) (ci := 0) (q0 := 0) rfl rfl rfl rfl rfl (Nat.le_of_ble_eq_true rfl) dX5_reason_28 ?_
      refine v_if_eq (tgt := 36) hX dX5_reason_31 (by decide) (fun c3 => ?_) (fun c3 => ?_)
      · replace c3 := bI_0.mp c3
        refine v_aload_n hX dX5_reason_36 rfl ?_
        refine v_get (C := RX0) (T := TX0) (N := 5) (ci := 0) (v := .ref ((kA (b 1) r) 5)) hX in_X0 _ (atR (atL (mAt E (b 1) v.1 (by omega : r < 4) 0 rfl))) rfl 4 (by decide) fl_142 rfl rfl dX5_reason_37 ?_
        refine v_iload_n hX dX5_reason_40 rfl ?_
        refine v_callVi (r := bI (F_may ((v.1.2.1 r).2.2.2.2) ((n).val))) (rest := []) (ws' := wX E b v) hX (fun sz => c_X1_mayHave l E (fA (kA (b 1) r)) sz ((v.1.2.1 r).2.2.2.2) ((n).val) (by first | omega | exact Nat.le_of_ble_eq_true rfl | assumption | decide)) (cwV 1 hX.2.2.2.2.1 gX5_reason_X1_mayHave rfl rfl rfl (by decide +kernel) ⟨Nat.le_of_ble_eq_true rfl, Nat.le_of_ble_eq_true rfl⟩) (w1X b v ++ (fPre E (b 1) v.1 r)) ((mPost E (b 1) v.1 r) ++ (wM E (b 2) v.2.1 ++ (wM E (b 3) v.2.2.1 ++ (wH E (hA b) v.2.2.2.1 ++ (wP E (b 9) v.2.2.2.2.1))))) (lift0 (wM_cutF E (b 1) v.1 (by omega : r < 4))) (lift0 (wM_cutF E (b 1) v.1 (by omega : r < 4))).symm (wF_fst E (fA (kA (b 1) r)) _ _) (ci := 1) (q0 := 0) rfl rfl rfl rfl rfl (Nat.le_of_ble_eq_true rfl) dX5_reason_41 ?_
        refine v_if_eq (tgt := 49) hX dX5_reason_44 (by decide) (fun c4 => ?_) (fun c4 => ?_)
        · replace c4 := bI_0.mp c4
          refine v_aload_n hX dX5_reason_49 rfl ?_
          refine v_get (C := RX0) (T := TX0) (N := 5) (ci := 0) (v := .ref ((kA (b 1) r) 5)) hX in_X0 _ (atR (atL (mAt E (b 1) v.1 (by omega : r < 4) 0 rfl))) rfl 4 (by decide) fl_142 rfl rfl dX5_reason_50 ?_
          refine v_iload_n hX dX5_reason_53 rfl ?_
          refine v_callVi (r := bI (((v.1.2.1 r).2.2.2.2).2.2 (((n).val) / 16))) (rest := []) (ws' := wX E b v) hX (fun sz => c_X1_hasBitOf l E (fA (kA (b 1) r)) sz ((v.1.2.1 r).2.2.2.2) ((n).val) (by first | omega | exact Nat.le_of_ble_eq_true rfl | assumption | decide)) (cwV 1 hX.2.2.2.2.1 gX5_reason_X1_hasBitOf rfl rfl rfl (by decide +kernel) ⟨Nat.le_of_ble_eq_true rfl, Nat.le_of_ble_eq_true rfl⟩) (w1X b v ++ (fPre E (b 1) v.1 r)) ((mPost E (b 1) v.1 r) ++ (wM E (b 2) v.2.1 ++ (wM E (b 3) v.2.2.1 ++ (wH E (hA b) v.2.2.2.1 ++ (wP E (b 9) v.2.2.2.2.1))))) (lift0 (wM_cutF E (b 1) v.1 (by omega : r < 4))) (lift0 (wM_cutF E (b 1) v.1 (by omega : r < 4))).symm (wF_fst E (fA (kA (b 1) r)) _ _) (ci := 1) (q0 := 0) rfl rfl rfl rfl rfl (Nat.le_of_ble_eq_true rfl) dX5_reason_54 ?_
          refine v_if_eq (tgt := 64) hX dX5_reason_57 (by decide) (fun c5 => ?_) (fun c5 => ?_)
          · replace c5 := bI_0.mp c5
            refine v_iconst (x := (2 : Int32)) hX dX5_reason_64 (by decide) ?_
            exact v_iret hX hr hsz dX5_reason_65 rfl rfl (by (first | rfl | (simp only [X_reason, c1, c2, ec_r, el_n, c3, c4, c5, if_true, if_false, reduceIte, Bool.false_eq_true, reduceCtorEq, decide_true, decide_false, Bool.and_true, Bool.and_false, Bool.true_and, Bool.false_and, Bool.or_true, Bool.or_false, Bool.true_or, Bool.false_or, not_true_eq_false, not_false_eq_true, Bool.not_true, Bool.not_false, eq_self, Nat.reduceEqDiff]; done) | (simp only [X_reason, c1, c2, ec_r, el_n, c3, c4, c5, if_true, if_false, reduceIte, Bool.false_eq_true, reduceCtorEq, decide_true, decide_false, Bool.and_true, Bool.and_false, Bool.true_and, Bool.false_and, Bool.or_true, Bool.or_false, Bool.true_or, Bool.false_or, not_true_eq_false, not_false_eq_true, Bool.not_true, Bool.not_false, eq_self, Nat.reduceEqDiff]; rfl) | contradiction | (exfalso; omega))) rfl
          · replace c5 := bI_n0.mp c5
            refine v_iconst (x := (3 : Int32)) hX dX5_reason_60 (by decide) ?_
            refine v_goto (tgt := 65) hX dX5_reason_61 (by decide) ?_
            exact v_iret hX hr hsz dX5_reason_65 rfl rfl (by (first | rfl | (simp only [X_reason, c1, c2, ec_r, el_n, c3, c4, c5, if_true, if_false, reduceIte, Bool.false_eq_true, reduceCtorEq, decide_true, decide_false, Bool.and_true, Bool.and_false, Bool.true_and, Bool.false_and, Bool.or_true, Bool.or_false, Bool.true_or, Bool.false_or, not_true_eq_false, not_false_eq_true, Bool.not_true, Bool.not_false, eq_self, Nat.reduceEqDiff]; done) | (simp only [X_reason, c1, c2, ec_r, el_n, c3, c4, c5, if_true, if_false, reduceIte, Bool.false_eq_true, reduceCtorEq, decide_true, decide_false, Bool.and_true, Bool.and_false, Bool.true_and, Bool.false_and, Bool.or_true, Bool.or_false, Bool.true_or, Bool.false_or, not_true_eq_false, not_false_eq_true, Bool.not_true, Bool.not_false, eq_self, Nat.reduceEqDiff]; rfl) | contradiction | (exfalso; omega))) rfl
        · replace c4 := bI_n0.mp c4
          refine v_iconst (x := (1 : Int32)) hX dX5_reason_47 (by decide) ?_
          exact v_iret hX hr hsz dX5_reason_48 rfl rfl (by (first | rfl | (simp only [X_reason, c1, c2, ec_r, el_n, c3, c4, if_true, if_false, reduceIte, Bool.false_eq_true, reduceCtorEq, decide_true, decide_false, Bool.and_true, Bool.and_false, Bool.true_and, Bool.false_and, Bool.or_true, Bool.or_false, Bool.true_or, Bool.false_or, not_true_eq_false, not_false_eq_true, Bool.not_true, Bool.not_false, eq_self, Nat.reduceEqDiff]; done) | (simp only [X_reason, c1, c2, ec_r, el_n, c3, c4, if_true, if_false, reduceIte, Bool.false_eq_true, reduceCtorEq, decide_true, decide_false, Bool.and_true, Bool.and_false, Bool.true_and, Bool.false_and, Bool.or_true, Bool.or_false, Bool.true_or, Bool.false_or, not_true_eq_false, not_false_eq_true, Bool.not_true, Bool.not_false, eq_self, Nat.reduceEqDiff]; rfl) | contradiction | (exfalso; omega))) rfl
      · replace c3 := bI_n0.mp c3
        refine v_iconst (x := (0 : Int32)) hX dX5_reason_34 (by decide) ?_
        exact v_iret hX hr hsz dX5_reason_35 rfl rfl (by (first | rfl | (simp only [X_reason, c1, c2, ec_r, el_n, c3, if_true, if_false, reduceIte, Bool.false_eq_true, reduceCtorEq, decide_true, decide_false, Bool.and_true, Bool.and_false, Bool.true_and, Bool.false_and, Bool.or_true, Bool.or_false, Bool.true_or, Bool.false_or, not_true_eq_false, not_false_eq_true, Bool.not_true, Bool.not_false, eq_self, Nat.reduceEqDiff]; done) | (simp only [X_reason, c1, c2, ec_r, el_n, c3, if_true, if_false, reduceIte, Bool.false_eq_true, reduceCtorEq, decide_true, decide_false, Bool.and_true, Bool.and_false, Bool.true_and, Bool.false_and, Bool.or_true, Bool.or_false, Bool.true_or, Bool.false_or, not_true_eq_false, not_false_eq_true, Bool.not_true, Bool.not_false, eq_self, Nat.reduceEqDiff]; rfl) | contradiction | (exfalso; omega))) rfl
    · replace c2 := bI_0.mp c2
      refine v_iconst (x := (-1 : Int32)) hX dX5_reason_14 (by decide) ?_
      exact v_iret hX hr hsz dX5_reason_15 rfl rfl (by (first | rfl | (simp only [X_reason, c1, c2, if_true, if_false, reduceIte, Bool.false_eq_true, reduceCtorEq, decide_true, decide_false, Bool.and_true, Bool.and_false, Bool.true_and, Bool.false_and, Bool.or_true, Bool.or_false, Bool.true_or, Bool.false_or, not_true_eq_false, not_false_eq_true, Bool.not_true, Bool.not_false, eq_self, Nat.reduceEqDiff]; done) | (simp only [X_reason, c1, c2, if_true, if_false, reduceIte, Bool.false_eq_true, reduceCtorEq, decide_true, decide_false, Bool.and_true, Bool.and_false, Bool.true_and, Bool.false_and, Bool.or_true, Bool.or_false, Bool.true_or, Bool.false_or, not_true_eq_false, not_false_eq_true, Bool.not_true, Bool.not_false, eq_self, Nat.reduceEqDiff]; rfl) | contradiction | (exfalso; omega))) rfl
set_option maxHeartbeats 4000000 in
set_option maxRecDepth 100000 in
theorem c_X5_line (l : Launch) (E : ET) (b : Nat → Nat → Nat) (sz : Nat) (v : XV) (li : Int32) (w : Int32) : Met l yX5_line wsX5_line ({ frames := 3, cells := 0, slots := 0, locals := 65 }) (mPc E [.ref (b 0 0), .int (li), .int (w)] sz (wX E b v)) (mQi E (X_line v li w) (wX E b v) (wX E b v) sz) 0 0 (va_A (wX E b v) sz) := by
  refine v_start (cc := cX5_line) (maxL := 3) (ret := (some .int)) (by decide) rfl (Nat.le_of_ble_eq_true rfl) rfl ?_
  intro p e s m args below meth c hsz hr hX
  have hX : Xc p s m args meth c E 3 (va_A (wX E b v) sz) cX5_line RX5 wsX5_line := hX
  have in_X5 : ∀ w ∈ u_ws RX5 TX5 9, w ∈ wsX5_line := by decide +kernel
  have fl_12 : Cond.fieldLink RX5 12 RX5 "now" "LSnoopFilter$Machine;" ∈ wsX5_line := by decide +kernel
  have in_X3 : ∀ w ∈ u_ws RX3 TX3 6, w ∈ wsX5_line := by decide +kernel
  have fl_177 : Cond.fieldLink RX5 177 RX3 "memory" "[I" ∈ wsX5_line := by decide +kernel
  refine v_iload_n hX dX5_line_0 rfl ?_
  refine v_callSi (r := bI (S_within li (0 : Int32) (255 : Int32))) (rest := []) (ws' := wX E b v) hX (fun sz => c_X5_isLine l E sz li) (va_cwS 1 hX.2.2.2.2.1 gX5_line_X5_isLine rfl rfl rfl (by decide +kernel) ⟨Nat.le_of_ble_eq_true rfl, Nat.le_of_ble_eq_true rfl⟩) ([]) (wX E b v) (rfl) rfl (rfl) rfl rfl (Nat.le_of_ble_eq_true rfl) dX5_line_1 ?_
  refine v_if_ne (tgt := 9) hX dX5_line_4 (by decide) (fun c1 => ?_) (fun c1 => ?_)
  · replace c1 := bI_n0.mp c1
    obtain ⟨n, heq_n⟩ := within_fin c1
    subst heq_n
    have hlt_n := n.isLt
    have el_n := lF_nI n
    refine v_iload_n hX dX5_line_9 rfl ?_
    rcases pk_ix w (n := 6) (by decide) with h2 | h2 | ⟨j, hle_j, heq_j⟩
    · have hS_w : S_within w 0 (5 : Int32) = false := within_lo h2
      refine v_tableOut (tgt := 95) hX dX5_line_10 (Or.inl (i_lt0 h2)) (by decide) ?_
      refine v_bipush (x := (-2 : Int32)) hX dX5_line_95 (by decide) ?_
      exact v_iret hX hr hsz dX5_line_97 rfl rfl (by (first | rfl | (simp only [X_line, c1, el_n, hS_w, if_true, if_false, reduceIte, Bool.false_eq_true, reduceCtorEq, decide_true, decide_false, Bool.and_true, Bool.and_false, Bool.true_and, Bool.false_and, Bool.or_true, Bool.or_false, Bool.true_or, Bool.false_or, not_true_eq_false, not_false_eq_true, Bool.not_true, Bool.not_false, eq_self, Nat.reduceEqDiff]; done) | (simp only [X_line, c1, el_n, hS_w, if_true, if_false, reduceIte, Bool.false_eq_true, reduceCtorEq, decide_true, decide_false, Bool.and_true, Bool.and_false, Bool.true_and, Bool.false_and, Bool.or_true, Bool.or_false, Bool.true_or, Bool.false_or, not_true_eq_false, not_false_eq_true, Bool.not_true, Bool.not_false, eq_self, Nat.reduceEqDiff]; rfl) | contradiction | (exfalso; omega))) rfl
    · have hS_w : S_within w 0 (5 : Int32) = false := within_hi (B := 5) rfl (by decide) h2
      refine v_tableOut (tgt := 95) hX dX5_line_10 (Or.inr (by have := i_hi h2 (by decide); omega)) (by decide) ?_
      refine v_bipush (x := (-2 : Int32)) hX dX5_line_95 (by decide) ?_
      exact v_iret hX hr hsz dX5_line_97 rfl rfl (by (first | rfl | (simp only [X_line, c1, el_n, hS_w, if_true, if_false, reduceIte, Bool.false_eq_true, reduceCtorEq, decide_true, decide_false, Bool.and_true, Bool.and_false, Bool.true_and, Bool.false_and, Bool.or_true, Bool.or_false, Bool.true_or, Bool.false_or, not_true_eq_false, not_false_eq_true, Bool.not_true, Bool.not_false, eq_self, Nat.reduceEqDiff]; done) | (simp only [X_line, c1, el_n, hS_w, if_true, if_false, reduceIte, Bool.false_eq_true, reduceCtorEq, decide_true, decide_false, Bool.and_true, Bool.and_false, Bool.true_and, Bool.false_and, Bool.or_true, Bool.or_false, Bool.true_or, Bool.false_or, not_true_eq_false, not_false_eq_true, Bool.not_true, Bool.not_false, eq_self, Nat.reduceEqDiff]; rfl) | contradiction | (exfalso; omega))) rfl
    subst heq_j
    have ec_j : cN (nI j) = j := cN_nI (by omega)
    have hS_w : S_within (nI j) 0 (5 : Int32) = true := within_nI (B := 5) rfl (by omega) (by decide)
    by_cases k3 : j = 0
    · have k3t := eq_true k3
      refine v_tableIn (tgt := 48) (off := 38) hX dX5_line_10 (by rw [k3]; decide) (by rw [k3]; decide) (by rw [k3]; decide) (by decide) ?_
      refine v_aload_n hX dX5_line_48 rfl ?_
      refine v_get (C := RX5) (T := TX5) (N := 9) (ci := 5) (v := .ref (b 1 0)) hX in_X5 0 rfl rfl 0 (by decide) fl_12 rfl rfl dX5_line_49 ?_
      refine v_get (C := RX3) (T := TX3) (N := 6) (ci := 3) (v := .ref ((b 1) 1)) hX in_X3 _ (atR (atL (rfl : (wM E (b 1) v.1)[0]? = _))) rfl 0 (by decide) fl_177 rfl rfl dX5_line_52 ?_
      refine v_iload_n hX dX5_line_55 rfl ?_
      refine v_iald (z := v.1.1 ((n).val)) hX _ (atR (atL (rfl : (wM E (b 1) v.1)[1]? = _))) (vp_in_nI (by omega : (n).val < 256) (by omega)) (by simp only [nI_clamp (show (n).val < 2 ^ 31 by omega)]) dX5_line_56 ?_
      exact v_iret hX hr hsz dX5_line_57 rfl rfl (by (first | rfl | (simp only [X_line, c1, el_n, ec_j, hS_w, k3t, if_true, if_false, reduceIte, Bool.false_eq_true, reduceCtorEq, decide_true, decide_false, Bool.and_true, Bool.and_false, Bool.true_and, Bool.false_and, Bool.or_true, Bool.or_false, Bool.true_or, Bool.false_or, not_true_eq_false, not_false_eq_true, Bool.not_true, Bool.not_false, eq_self, Nat.reduceEqDiff]; done) | (simp only [X_line, c1, el_n, ec_j, hS_w, k3t, if_true, if_false, reduceIte, Bool.false_eq_true, reduceCtorEq, decide_true, decide_false, Bool.and_true, Bool.and_false, Bool.true_and, Bool.false_and, Bool.or_true, Bool.or_false, Bool.true_or, Bool.false_or, not_true_eq_false, not_false_eq_true, Bool.not_true, Bool.not_false, eq_self, Nat.reduceEqDiff]; rfl) | contradiction | (exfalso; omega))) rfl
    by_cases k4 : j = 1
    · have k4t := eq_true k4
      refine v_tableIn (tgt := 58) (off := 48) hX dX5_line_10 (by rw [k4]; decide) (by rw [k4]; decide) (by rw [k4]; decide) (by decide) ?_
      refine v_aload_n hX dX5_line_58 rfl ?_
      refine v_get (C := RX5) (T := TX5) (N := 9) (ci := 5) (v := .ref (b 1 0)) hX in_X5 0 rfl rfl 0 (by decide) fl_12 rfl rfl dX5_line_59 ?_
      refine v_iload_n hX dX5_line_62 rfl ?_
      refine v_callVi (r := M_vfr v.1 n) (rest := []) (ws' := wX E b v) hX (fun sz => c_X3_valueForReader l E (b 1) sz v.1 n) (cwV 1 hX.2.2.2.2.1 gX5_line_X3_valueForReader rfl rfl rfl (by decide +kernel) ⟨Nat.le_of_ble_eq_true rfl, Nat.le_of_ble_eq_true rfl⟩) (w1X b v ++ ([])) (([]) ++ (wM E (b 2) v.2.1 ++ (wM E (b 3) v.2.2.1 ++ (wH E (hA b) v.2.2.2.1 ++ (wP E (b 9) v.2.2.2.2.1))))) (lift0 ((List.append_nil _).symm)) (lift0 ((List.append_nil _).symm)).symm (wM_fst E (b 1) _ _) (ci := 3) (q0 := 0) rfl rfl rfl rfl rfl (Nat.le_of_ble_eq_true rfl) dX5_line_63 ?_
      exact v_iret hX hr hsz dX5_line_66 rfl rfl (by (first | rfl | (simp only [X_line, c1, el_n, ec_j, hS_w, k3, k4t, if_true, if_false, reduceIte, Bool.false_eq_true, reduceCtorEq, decide_true, decide_false, Bool.and_true, Bool.and_false, Bool.true_and, Bool.false_and, Bool.or_true, Bool.or_false, Bool.true_or, Bool.false_or, not_true_eq_false, not_false_eq_true, Bool.not_true, Bool.not_false, eq_self, Nat.reduceEqDiff]; done) | (simp only [X_line, c1, el_n, ec_j, hS_w, k3, k4t, if_true, if_false, reduceIte, Bool.false_eq_true, reduceCtorEq, decide_true, decide_false, Bool.and_true, Bool.and_false, Bool.true_and, Bool.false_and, Bool.or_true, Bool.or_false, Bool.true_or, Bool.false_or, not_true_eq_false, not_false_eq_true, Bool.not_true, Bool.not_false, eq_self, Nat.reduceEqDiff]; rfl) | contradiction | (exfalso; omega))) rfl
    by_cases k5 : j = 2
    · have k5t := eq_true k5
      refine v_tableIn (tgt := 67) (off := 57) hX dX5_line_10 (by rw [k5]; decide) (by rw [k5]; decide) (by rw [k5]; decide) (by decide) ?_
      refine v_aload_n hX dX5_line_67 rfl ?_
      refine v_get (C := RX5) (T := TX5) (N := 9) (ci := 5) (v := .ref (b 1 0)) hX in_X5 0 rfl rfl 0 (by decide) fl_12 rfl rfl dX5_line_68 ?_
      refine v_iload_n hX dX5_line_71 rfl ?_
      refine v_callVi (r := M_holders v.1 n) (rest := []) (ws' := wX E b v) hX (fun sz => c_X3_holdersOf l E (b 1) sz v.1 n) (cwV 1 hX.2.2.2.2.1 gX5_line_X3_holdersOf rfl rfl rfl (by decide +kernel) ⟨Nat.le_of_ble_eq_true rfl, Nat.le_of_ble_eq_true rfl⟩) (w1X b v ++ ([])) (([]) ++ (wM E (b 2) v.2.1 ++ (wM E (b 3) v.2.2.1 ++ (wH E (hA b) v.2.2.2.1 ++ (wP E (b 9) v.2.2.2.2.1))))) (lift0 ((List.append_nil _).symm)) (lift0 ((List.append_nil _).symm)).symm (wM_fst E (b 1) _ _) (ci := 3) (q0 := 0) rfl rfl rfl rfl rfl (Nat.le_of_ble_eq_true rfl) dX5_line_72 ?_
      exact v_iret hX hr hsz dX5_line_75 rfl rfl (by (first | rfl | (simp only [X_line, c1, el_n, ec_j, hS_w, k3, k4, k5t, if_true, if_false, reduceIte, Bool.false_eq_true, reduceCtorEq, decide_true, decide_false, Bool.and_true, Bool.and_false, Bool.true_and, Bool.false_and, Bool.or_true, Bool.or_false, Bool.true_or, Bool.false_or, not_true_eq_false, not_false_eq_true, Bool.not_true, Bool.not_false, eq_self, Nat.reduceEqDiff]; done) | (simp only [X_line, c1, el_n, ec_j, hS_w, k3, k4, k5t, if_true, if_false, reduceIte, Bool.false_eq_true, reduceCtorEq, decide_true, decide_false, Bool.and_true, Bool.and_false, Bool.true_and, Bool.false_and, Bool.or_true, Bool.or_false, Bool.true_or, Bool.false_or, not_true_eq_false, not_false_eq_true, Bool.not_true, Bool.not_false, eq_self, Nat.reduceEqDiff]; rfl) | contradiction | (exfalso; omega))) rfl
    by_cases k6 : j = 3
    · have k6t := eq_true k6
      refine v_tableIn (tgt := 76) (off := 66) hX dX5_line_10 (by rw [k6]; decide) (by rw [k6]; decide) (by rw [k6]; decide) (by decide) ?_
      refine v_aload_n hX dX5_line_76 rfl ?_
      refine v_get (C := RX5) (T := TX5) (N := 9) (ci := 5) (v := .ref (b 1 0)) hX in_X5 0 rfl rfl 0 (by decide) fl_12 rfl rfl dX5_line_77 ?_
      refine v_iload_n hX dX5_line_80 rfl ?_
      refine v_callVi (r := M_mays v.1 n) (rest := []) (ws' := wX E b v) hX (fun sz => c_X3_coresThatMayHave l E (b 1) sz v.1 n) (cwV 1 hX.2.2.2.2.1 gX5_line_X3_coresThatMayHave rfl rfl rfl (by decide +kernel) ⟨Nat.le_of_ble_eq_true rfl, Nat.le_of_ble_eq_true rfl⟩) (w1X b v ++ ([])) (([]) ++ (wM E (b 2) v.2.1 ++ (wM E (b 3) v.2.2.1 ++ (wH E (hA b) v.2.2.2.1 ++ (wP E (b 9) v.2.2.2.2.1))))) (lift0 ((List.append_nil _).symm)) (lift0 ((List.append_nil _).symm)).symm (wM_fst E (b 1) _ _) (ci := 3) (q0 := 0) rfl rfl rfl rfl rfl (Nat.le_of_ble_eq_true rfl) dX5_line_81 ?_
      exact v_iret hX hr hsz dX5_line_84 rfl rfl (by (first | rfl | (simp only [X_line, c1, el_n, ec_j, hS_w, k3, k4, k5, k6t, if_true, if_false, reduceIte, Bool.false_eq_true, reduceCtorEq, decide_true, decide_false, Bool.and_true, Bool.and_false, Bool.true_and, Bool.false_and, Bool.or_true, Bool.or_false, Bool.true_or, Bool.false_or, not_true_eq_false, not_false_eq_true, Bool.not_true, Bool.not_false, eq_self, Nat.reduceEqDiff]; done) | (simp only [X_line, c1, el_n, ec_j, hS_w, k3, k4, k5, k6t, if_true, if_false, reduceIte, Bool.false_eq_true, reduceCtorEq, decide_true, decide_false, Bool.and_true, Bool.and_false, Bool.true_and, Bool.false_and, Bool.or_true, Bool.or_false, Bool.true_or, Bool.false_or, not_true_eq_false, not_false_eq_true, Bool.not_true, Bool.not_false, eq_self, Nat.reduceEqDiff]; rfl) | contradiction | (exfalso; omega))) rfl
    by_cases k7 : j = 4
    · have k7t := eq_true k7
      refine v_tableIn (tgt := 85) (off := 75) hX dX5_line_10 (by rw [k7]; decide) (by rw [k7]; decide) (by rw [k7]; decide) (by decide) ?_
      refine v_iload_n hX dX5_line_85 rfl ?_
      refine v_callSi (r := nI (((n).val) % 24)) (rest := []) (ws' := wX E b v) hX (fun sz => c_X1_firstCounter l E sz ((n).val) (by first | omega | exact Nat.le_of_ble_eq_true rfl | assumption | decide)) (va_cwS 1 hX.2.2.2.2.1 gX5_line_X1_firstCounter rfl rfl rfl (by decide +kernel) ⟨Nat.le_of_ble_eq_true rfl, Nat.le_of_ble_eq_true rfl⟩) ([]) (wX E b v) (rfl) rfl (rfl) rfl rfl (Nat.le_of_ble_eq_true rfl) dX5_line_86 ?_
      exact v_iret hX hr hsz dX5_line_89 rfl rfl (by (first | rfl | (simp only [X_line, c1, el_n, ec_j, hS_w, k3, k4, k5, k6, k7t, if_true, if_false, reduceIte, Bool.false_eq_true, reduceCtorEq, decide_true, decide_false, Bool.and_true, Bool.and_false, Bool.true_and, Bool.false_and, Bool.or_true, Bool.or_false, Bool.true_or, Bool.false_or, not_true_eq_false, not_false_eq_true, Bool.not_true, Bool.not_false, eq_self, Nat.reduceEqDiff]; done) | (simp only [X_line, c1, el_n, ec_j, hS_w, k3, k4, k5, k6, k7t, if_true, if_false, reduceIte, Bool.false_eq_true, reduceCtorEq, decide_true, decide_false, Bool.and_true, Bool.and_false, Bool.true_and, Bool.false_and, Bool.or_true, Bool.or_false, Bool.true_or, Bool.false_or, not_true_eq_false, not_false_eq_true, Bool.not_true, Bool.not_false, eq_self, Nat.reduceEqDiff]; rfl) | contradiction | (exfalso; omega))) rfl
    by_cases k8 : j = 5
    · have k8t := eq_true k8
      refine v_tableIn (tgt := 90) (off := 80) hX dX5_line_10 (by rw [k8]; decide) (by rw [k8]; decide) (by rw [k8]; decide) (by decide) ?_
      refine v_iload_n hX dX5_line_90 rfl ?_
      refine v_callSi (r := nI ((7 * ((n).val) + 5) % 24)) (rest := []) (ws' := wX E b v) hX (fun sz => c_X1_secondCounter l E sz ((n).val) (by first | omega | exact Nat.le_of_ble_eq_true rfl | assumption | decide)) (va_cwS 1 hX.2.2.2.2.1 gX5_line_X1_secondCounter rfl rfl rfl (by decide +kernel) ⟨Nat.le_of_ble_eq_true rfl, Nat.le_of_ble_eq_true rfl⟩) ([]) (wX E b v) (rfl) rfl (rfl) rfl rfl (Nat.le_of_ble_eq_true rfl) dX5_line_91 ?_
      exact v_iret hX hr hsz dX5_line_94 rfl rfl (by (first | rfl | (simp only [X_line, c1, el_n, ec_j, hS_w, k3, k4, k5, k6, k7, k8t, if_true, if_false, reduceIte, Bool.false_eq_true, reduceCtorEq, decide_true, decide_false, Bool.and_true, Bool.and_false, Bool.true_and, Bool.false_and, Bool.or_true, Bool.or_false, Bool.true_or, Bool.false_or, not_true_eq_false, not_false_eq_true, Bool.not_true, Bool.not_false, eq_self, Nat.reduceEqDiff]; done) | (simp only [X_line, c1, el_n, ec_j, hS_w, k3, k4, k5, k6, k7, k8t, if_true, if_false, reduceIte, Bool.false_eq_true, reduceCtorEq, decide_true, decide_false, Bool.and_true, Bool.and_false, Bool.true_and, Bool.false_and, Bool.or_true, Bool.or_false, Bool.true_or, Bool.false_or, not_true_eq_false, not_false_eq_true, Bool.not_true, Bool.not_false, eq_self, Nat.reduceEqDiff]; rfl) | contradiction | (exfalso; omega))) rfl
    exfalso; omega
  · replace c1 := bI_0.mp c1
    refine v_iconst (x := (-1 : Int32)) hX dX5_line_7 (by decide) ?_
    exact v_iret hX hr hsz dX5_line_8 rfl rfl (by (first | rfl | (simp only [X_line, c1, if_true, if_false, reduceIte, Bool.false_eq_true, reduceCtorEq, decide_true, decide_false, Bool.and_true, Bool.and_false, Bool.true_and, Bool.false_and, Bool.or_true, Bool.or_false, Bool.true_or, Bool.false_or, not_true_eq_false, not_false_eq_true, Bool.not_true, Bool.not_false, eq_self, Nat.reduceEqDiff]; done) | (simp only [X_line, c1, if_true, if_false, reduceIte, Bool.false_eq_true, reduceCtorEq, decide_true, decide_false, Bool.and_true, Bool.and_false, Bool.true_and, Bool.false_and, Bool.or_true, Bool.or_false, Bool.true_or, Bool.false_or, not_true_eq_false, not_false_eq_true, Bool.not_true, Bool.not_false, eq_self, Nat.reduceEqDiff]; rfl) | contradiction | (exfalso; omega))) rfl
