/-! ===== programs: the value, the world, what the methods do ===== -/
abbrev PV : Type := (Nat → Fin 65536) × (Nat → Fin 65536) × (Nat → Fin 4) × (Nat → Fin 256) × (Nat → Int32) × Fin 81 × Fin 28 × Fin 81
def f4 (x : Nat) : Fin 4 := ⟨x % 4, Nat.mod_lt _ (by decide)⟩
def f256 (x : Nat) : Fin 256 := ⟨x % 256, Nat.mod_lt _ (by decide)⟩
def f81 (x : Nat) : Fin 81 := ⟨x % 81, Nat.mod_lt _ (by decide)⟩
def f28 (x : Nat) : Fin 28 := ⟨x % 28, Nat.mod_lt _ (by decide)⟩
def f16 (x : Nat) : Fin 65536 := ⟨x % 65536, Nat.mod_lt _ (by decide)⟩
def fsP (a : Nat → Nat) (v : PV) : List Value := [.ref (a 1), .ref (a 2), .ref (a 3), .ref (a 4), .ref (a 5), .int (nI v.2.2.2.2.2.1.val), .int (nI v.2.2.2.2.2.2.1.val), .int (nI v.2.2.2.2.2.2.2.val)]
def wP (E : ET) (a : Nat → Nat) (v : PV) : va_W := [(a 0, .inr (4, fsP a v)), (a 1, .inl (E.2 2, 80, .inl (fun j => nI (v.1 j).val))), (a 2, .inl (E.2 2, 27, .inl (fun j => nI (v.2.1 j).val))), (a 3, .inl (E.2 0, 27, .inl (fun j => nI (v.2.2.1 j).val))), (a 4, .inl (E.2 0, 27, .inl (fun j => nI (v.2.2.2.1 j).val))), (a 5, .inl (E.2 0, 27, .inl v.2.2.2.2.1))]
theorem wP_fst (E : ET) (a : Nat → Nat) (v w : PV) : (wP E a v).map Prod.fst = (wP E a w).map Prod.fst := rfl
def P_setText (v : PV) (k x : Nat) : PV := (va_up v.1 k (f16 x), v.2.1, v.2.2.1, v.2.2.2.1, v.2.2.2.2.1, v.2.2.2.2.2.1, v.2.2.2.2.2.2.1, v.2.2.2.2.2.2.2)
def P_setKind (v : PV) (k x : Nat) : PV := (v.1, va_up v.2.1 k (f16 x), v.2.2.1, v.2.2.2.1, v.2.2.2.2.1, v.2.2.2.2.2.1, v.2.2.2.2.2.2.1, v.2.2.2.2.2.2.2)
def P_setCore (v : PV) (k x : Nat) : PV := (v.1, v.2.1, va_up v.2.2.1 k (f4 x), v.2.2.2.1, v.2.2.2.2.1, v.2.2.2.2.2.1, v.2.2.2.2.2.2.1, v.2.2.2.2.2.2.2)
def P_setLine (v : PV) (k x : Nat) : PV := (v.1, v.2.1, v.2.2.1, va_up v.2.2.2.1 k (f256 x), v.2.2.2.2.1, v.2.2.2.2.2.1, v.2.2.2.2.2.2.1, v.2.2.2.2.2.2.2)
def P_setVal (v : PV) (k : Nat) (x : Int32) : PV := (v.1, v.2.1, v.2.2.1, v.2.2.2.1, upd v.2.2.2.2.1 k x, v.2.2.2.2.2.1, v.2.2.2.2.2.2.1, v.2.2.2.2.2.2.2)
def P_setLen (v : PV) (x : Nat) : PV := (v.1, v.2.1, v.2.2.1, v.2.2.2.1, v.2.2.2.2.1, f81 x, v.2.2.2.2.2.2.1, v.2.2.2.2.2.2.2)
def P_setCmds (v : PV) (x : Nat) : PV := (v.1, v.2.1, v.2.2.1, v.2.2.2.1, v.2.2.2.2.1, v.2.2.2.2.2.1, f28 x, v.2.2.2.2.2.2.2)
def P_setAt (v : PV) (x : Nat) : PV := (v.1, v.2.1, v.2.2.1, v.2.2.2.1, v.2.2.2.2.1, v.2.2.2.2.2.1, v.2.2.2.2.2.2.1, f81 x)
theorem fin_st {n : Nat} (s : Nat → Fin n) (k : Nat) (y : Fin n) {x : Nat} (h : y.val = x) : upd (fun j => nI (s j).val) k (nI x) = fun j => nI (va_up s k y j).val := by
  funext j
  by_cases hj : j = k <;> simp [upd, va_up, hj, h]
theorem nar_ch {x : Nat} (h : x < 65536) : vp_nar .char (nI x) = nI x := by
  unfold vp_nar
  rw [(pk_charN h).1]
theorem sP_Text (E : ET) (a : Nat → Nat) (v : PV) {k : Nat} (hk : k < 2 ^ 31) {x : Nat} (hx : x < 65536) : (wP E a v).set 1 (a 1, .inl (E.2 2, 80, .inl (upd (fun j => nI (v.1 j).val) (nI k).toNatClampNeg (vp_nar .char (nI x))))) = wP E a (P_setText v k x) := by rw [nI_clamp hk, nar_ch hx, fin_st v.1 k (f16 x) (Nat.mod_eq_of_lt hx)]; rfl
theorem sP_Kind (E : ET) (a : Nat → Nat) (v : PV) {k : Nat} (hk : k < 2 ^ 31) {x : Nat} (hx : x < 65536) : (wP E a v).set 2 (a 2, .inl (E.2 2, 27, .inl (upd (fun j => nI (v.2.1 j).val) (nI k).toNatClampNeg (vp_nar .char (nI x))))) = wP E a (P_setKind v k x) := by rw [nI_clamp hk, nar_ch hx, fin_st v.2.1 k (f16 x) (Nat.mod_eq_of_lt hx)]; rfl
theorem sP_Core (E : ET) (a : Nat → Nat) (v : PV) {k : Nat} (hk : k < 2 ^ 31) {x : Nat} (hx : x < 4) : (wP E a v).set 3 (a 3, .inl (E.2 0, 27, .inl (upd (fun j => nI (v.2.2.1 j).val) (nI k).toNatClampNeg (nI x)))) = wP E a (P_setCore v k x) := by rw [nI_clamp hk, fin_st v.2.2.1 k (f4 x) (Nat.mod_eq_of_lt hx)]; rfl
theorem sP_Line (E : ET) (a : Nat → Nat) (v : PV) {k : Nat} (hk : k < 2 ^ 31) {x : Nat} (hx : x < 256) : (wP E a v).set 4 (a 4, .inl (E.2 0, 27, .inl (upd (fun j => nI (v.2.2.2.1 j).val) (nI k).toNatClampNeg (nI x)))) = wP E a (P_setLine v k x) := by rw [nI_clamp hk, fin_st v.2.2.2.1 k (f256 x) (Nat.mod_eq_of_lt hx)]; rfl
theorem sP_val (E : ET) (a : Nat → Nat) (v : PV) {k : Nat} (hk : k < 2 ^ 31) (x : Int32) : (wP E a v).set 5 (a 5, .inl (E.2 0, 27, .inl (upd v.2.2.2.2.1 (nI k).toNatClampNeg x))) = wP E a (P_setVal v k x) := by rw [nI_clamp hk]; rfl
theorem sP_Len (E : ET) (a : Nat → Nat) (v : PV) {x : Nat} (hx : x < 81) : (wP E a v).set 0 (a 0, .inr (4, (fsP a v).set 5 (.int (nI x)))) = wP E a (P_setLen v x) := by
  have e : (f81 x).val = x := Nat.mod_eq_of_lt hx
  simp [wP, fsP, P_setLen, e]
theorem sP_Cmds (E : ET) (a : Nat → Nat) (v : PV) {x : Nat} (hx : x < 28) : (wP E a v).set 0 (a 0, .inr (4, (fsP a v).set 6 (.int (nI x)))) = wP E a (P_setCmds v x) := by
  have e : (f28 x).val = x := Nat.mod_eq_of_lt hx
  simp [wP, fsP, P_setCmds, e]
theorem sP_At (E : ET) (a : Nat → Nat) (v : PV) {x : Nat} (hx : x < 81) : (wP E a v).set 0 (a 0, .inr (4, (fsP a v).set 7 (.int (nI x)))) = wP E a (P_setAt v x) := by
  have e : (f81 x).val = x := Nat.mod_eq_of_lt hx
  simp [wP, fsP, P_setAt, e]
theorem P_at_at (v : PV) {x : Nat} (hx : x < 81) : (P_setAt v x).2.2.2.2.2.2.2.val = x := Nat.mod_eq_of_lt hx
theorem P_at_len (v : PV) (x : Nat) : (P_setAt v x).2.2.2.2.2.1 = v.2.2.2.2.2.1 := rfl
theorem P_cm_cm (v : PV) {x : Nat} (hx : x < 28) : (P_setCmds v x).2.2.2.2.2.2.1.val = x := Nat.mod_eq_of_lt hx
def wh {σ : Type} (c : σ → Bool) (f : σ → σ) : Nat → σ → σ
  | 0, x => x
  | n + 1, x => if c x = true then wh c f n (f x) else x
theorem wh_stop {σ : Type} {c : σ → Bool} (f : σ → σ) {x : σ} (h : c x = false) : ∀ n, wh c f n x = x
  | 0 => rfl
  | n + 1 => by simp [wh, h]
theorem wh_go {σ : Type} {c : σ → Bool} (f : σ → σ) {x : σ} (h : c x = true) (n : Nat) : wh c f (n + 1) x = wh c f n (f x) := by simp [wh, h]
def P_dig (v : PV) (h : Nat) : Bool := !decide (v.2.2.2.2.2.1.val ≤ v.2.2.2.2.2.2.2.val) && (!decide ((v.1 v.2.2.2.2.2.2.2.val).val < 48) && !decide (h < (v.1 v.2.2.2.2.2.2.2.val).val - 48))
theorem P_dig_spec {v : PV} {h : Nat} (e : P_dig v h = true) : v.2.2.2.2.2.2.2.val < v.2.2.2.2.2.1.val ∧ 48 ≤ (v.1 v.2.2.2.2.2.2.2.val).val ∧ (v.1 v.2.2.2.2.2.2.2.val).val - 48 ≤ h := by
  simp only [P_dig, Bool.and_eq_true, Bool.not_eq_true', decide_eq_false_iff_not] at e
  omega
theorem P_dig_out {v : PV} {h : Nat} (e : v.2.2.2.2.2.1.val ≤ v.2.2.2.2.2.2.2.val) : P_dig v h = false := by simp only [P_dig, e, decide_true, Bool.not_true, Bool.false_and]
def P_takesB (v : PV) (w : Nat) : Bool := !decide (v.2.2.2.2.2.1.val ≤ v.2.2.2.2.2.2.2.val) && decide ((v.1 v.2.2.2.2.2.2.2.val).val = w)
def P_takes (v : PV) (w : Nat) : PV := if v.2.2.2.2.2.1.val ≤ v.2.2.2.2.2.2.2.val then v else if (v.1 v.2.2.2.2.2.2.2.val).val = w then P_setAt v (v.2.2.2.2.2.2.2.val + 1) else v
def P_numC (h g : Nat) : Nat × PV → Bool := fun u => P_dig u.2 9 && ((decide (0 < u.1) || decide (u.2.2.2.2.2.2.2.2.val = g)) && !decide (h < 10 * u.1 + (u.2.1 u.2.2.2.2.2.2.2.2.val).val - 48))
def P_numS : Nat × PV → Nat × PV := fun u => (10 * u.1 + (u.2.1 u.2.2.2.2.2.2.2.2.val).val - 48, P_setAt u.2 (u.2.2.2.2.2.2.2.2.val + 1))
def P_num (v : PV) (h : Nat) : Nat × PV := wh (P_numC h v.2.2.2.2.2.2.2.val) P_numS 81 (0, v)
theorem P_num_le_gen (h g : Nat) : ∀ (n : Nat) (u : Nat × PV), u.1 ≤ h → (wh (P_numC h g) P_numS n u).1 ≤ h
  | 0, u, hu => hu
  | n + 1, u, hu => by
    simp only [wh]
    split
    · rename_i hc
      refine P_num_le_gen h g n _ ?_
      simp only [P_numC, Bool.and_eq_true, Bool.not_eq_true', decide_eq_false_iff_not] at hc
      simp only [P_numS]
      omega
    · exact hu
theorem P_num_le (v : PV) (h : Nat) : (P_num v h).1 ≤ h := P_num_le_gen h _ _ _ (Nat.zero_le _)
def P_lv (v : PV) (no : Nat) : Bool × PV :=
  if P_takesB v 46 = true then
    if P_dig (P_takes v 46) 9 = true then
      if ((P_setLine (P_num (P_takes v 46) 255).2 no (P_num (P_takes v 46) 255).1).2.1 no).val = 119 then
        if P_takesB (P_setLine (P_num (P_takes v 46) 255).2 no (P_num (P_takes v 46) 255).1) 61 = true then
          if P_dig (P_takes (P_setLine (P_num (P_takes v 46) 255).2 no (P_num (P_takes v 46) 255).1) 61) 9 = true then
            (true, P_setVal (P_num (P_takes (P_setLine (P_num (P_takes v 46) 255).2 no (P_num (P_takes v 46) 255).1) 61) 9999).2 no (nI (P_num (P_takes (P_setLine (P_num (P_takes v 46) 255).2 no (P_num (P_takes v 46) 255).1) 61) 9999).1))
          else (false, P_takes (P_setLine (P_num (P_takes v 46) 255).2 no (P_num (P_takes v 46) 255).1) 61)
        else (false, P_takes (P_setLine (P_num (P_takes v 46) 255).2 no (P_num (P_takes v 46) 255).1) 61)
      else (true, P_setLine (P_num (P_takes v 46) 255).2 no (P_num (P_takes v 46) 255).1)
    else (false, P_takes v 46)
  else (false, P_takes v 46)
def P_kind (v : PV) : Nat := if v.2.2.2.2.2.1.val ≤ v.2.2.2.2.2.2.2.val then 59 else (v.1 v.2.2.2.2.2.2.2.val).val
def P_isK (k : Nat) : Bool := decide (k = 114) || (decide (k = 119) || (decide (k = 100) || decide (k = 102)))
def P_cmd2 (v : PV) (no kd : Nat) : Bool × PV :=
  if P_dig v 3 = true then (if kd = 102 then (true, P_setCore (P_num v 3).2 no (P_num v 3).1) else P_lv (P_setCore (P_num v 3).2 no (P_num v 3).1) no) else (false, v)
def P_cmd (v : PV) (no : Nat) : Bool × PV := if P_isK (P_kind v) = true then P_cmd2 (P_setKind (P_setAt v (v.2.2.2.2.2.2.2.val + 1)) no (P_kind v)) no (P_kind v) else (false, v)
def P_ffL : Nat → PV → Int32 × PV
  | 0, w => (nI w.2.2.2.2.2.2.2.val, w)
  | fu + 1, w => if 27 ≤ w.2.2.2.2.2.2.1.val then (nI w.2.2.2.2.2.2.2.val, w)
    else if (P_cmd w w.2.2.2.2.2.2.1.val).1 = true then
      if (P_setCmds (P_cmd w w.2.2.2.2.2.2.1.val).2 ((P_cmd w w.2.2.2.2.2.2.1.val).2.2.2.2.2.2.2.1.val + 1)).2.2.2.2.2.2.2.val = (P_setCmds (P_cmd w w.2.2.2.2.2.2.1.val).2 ((P_cmd w w.2.2.2.2.2.2.1.val).2.2.2.2.2.2.2.1.val + 1)).2.2.2.2.2.1.val then (-1, P_setCmds (P_cmd w w.2.2.2.2.2.2.1.val).2 ((P_cmd w w.2.2.2.2.2.2.1.val).2.2.2.2.2.2.2.1.val + 1))
      else if P_takesB (P_setCmds (P_cmd w w.2.2.2.2.2.2.1.val).2 ((P_cmd w w.2.2.2.2.2.2.1.val).2.2.2.2.2.2.2.1.val + 1)) 59 = true then P_ffL fu (P_takes (P_setCmds (P_cmd w w.2.2.2.2.2.2.1.val).2 ((P_cmd w w.2.2.2.2.2.2.1.val).2.2.2.2.2.2.2.1.val + 1)) 59)
      else (nI (P_takes (P_setCmds (P_cmd w w.2.2.2.2.2.2.1.val).2 ((P_cmd w w.2.2.2.2.2.2.1.val).2.2.2.2.2.2.2.1.val + 1)) 59).2.2.2.2.2.2.2.val, P_takes (P_setCmds (P_cmd w w.2.2.2.2.2.2.1.val).2 ((P_cmd w w.2.2.2.2.2.2.1.val).2.2.2.2.2.2.2.1.val + 1)) 59)
    else (nI (P_cmd w w.2.2.2.2.2.2.1.val).2.2.2.2.2.2.2.2.val, (P_cmd w w.2.2.2.2.2.2.1.val).2)
def P_ff (v : PV) : Int32 × PV := P_ffL 28 (P_setCmds (P_setAt v 0) 0)
def P_run (q : PV) (v : MV) (no : Nat) : MV × Int32 := if (q.2.1 no).val = 114 then M_read v (q.2.2.1 no).val (q.2.2.2.1 no) else if (q.2.1 no).val = 119 then M_write v (q.2.2.1 no).val (q.2.2.2.1 no) (q.2.2.2.2.1 no) else if (q.2.1 no).val = 100 then M_drop v (q.2.2.1 no).val (q.2.2.2.1 no) else M_forget v (q.2.2.1 no).val
def P_app (v : PV) (x : Nat) : PV := if v.2.2.2.2.2.1.val < 80 then P_setLen (P_setText v v.2.2.2.2.2.1.val x) (v.2.2.2.2.2.1.val + 1) else v
-- what the search leaves as it was
theorem P_takes_cmds (v : PV) (w : Nat) : (P_takes v w).2.2.2.2.2.2.1 = v.2.2.2.2.2.2.1 := by
  unfold P_takes
  split
  · rfl
  · split <;> rfl
theorem P_num_cmds_gen (h g : Nat) : ∀ (n : Nat) (u : Nat × PV), (wh (P_numC h g) P_numS n u).2.2.2.2.2.2.2.1 = u.2.2.2.2.2.2.2.1
  | 0, u => rfl
  | n + 1, u => by
    simp only [wh]
    split
    · rw [P_num_cmds_gen h g n]; rfl
    · rfl
theorem P_num_cmds (v : PV) (h : Nat) : (P_num v h).2.2.2.2.2.2.2.1 = v.2.2.2.2.2.2.1 := P_num_cmds_gen h _ _ _
theorem P_lv_cmds (v : PV) (no : Nat) : (P_lv v no).2.2.2.2.2.2.2.1 = v.2.2.2.2.2.2.1 := by
  have e1 : ∀ u : PV, ∀ x, (P_setLine u no x).2.2.2.2.2.2.1 = u.2.2.2.2.2.2.1 := fun _ _ => rfl
  have e2 : ∀ u : PV, ∀ x, (P_setVal u no x).2.2.2.2.2.2.1 = u.2.2.2.2.2.2.1 := fun _ _ => rfl
  unfold P_lv
  repeat' split
  all_goals simp only [e1, e2, P_takes_cmds, P_num_cmds]
theorem P_cmd_cmds (v : PV) (no : Nat) : (P_cmd v no).2.2.2.2.2.2.2.1 = v.2.2.2.2.2.2.1 := by
  have e1 : ∀ u : PV, ∀ x, (P_setCore u no x).2.2.2.2.2.2.1 = u.2.2.2.2.2.2.1 := fun _ _ => rfl
  unfold P_cmd
  split
  · unfold P_cmd2
    split
    · split
      · rw [e1, P_num_cmds]; rfl
      · rw [P_lv_cmds, e1, P_num_cmds]; rfl
    · rfl
  · rfl
set_option maxHeartbeats 4000000 in
set_option maxRecDepth 100000 in
theorem c_X4_append (l : Launch) (E : ET) (a : Nat → Nat) (sz : Nat) (v : PV) (x : Nat) (hx : x < 65536) : Met l yX4_append wsX4_append ({ frames := 0, cells := 0, slots := 0, locals := 0 }) (mPc E [.ref (a 0), .int (nI (x))] sz (wP E a v)) (mQi E (bI (decide (v.2.2.2.2.2.1.val < 80))) (wP E a v) (wP E a (P_app v x)) sz) 0 0 (va_A (wP E a v) sz) := by
  refine v_start (cc := cX4_append) (maxL := 2) (ret := (some .boolean)) (by decide) rfl (Nat.le_of_ble_eq_true rfl) rfl ?_
  intro p e s m args below meth c hsz hr hX
  have hX : Xc p s m args meth c E 2 (va_A (wP E a v) sz) cX4_append RX4 wsX4_append := hX
  have in_X4 : ∀ w ∈ u_ws RX4 TX4 8, w ∈ wsX4_append := by decide +kernel
  have fl_28 : Cond.fieldLink RX4 28 RX4 "length" "I" ∈ wsX4_append := by decide +kernel
  have fl_9 : Cond.fieldLink RX4 9 RX4 "text" "[C" ∈ wsX4_append := by decide +kernel
  refine v_aload_n hX dX4_append_0 rfl ?_
  refine v_get (C := RX4) (T := TX4) (N := 8) (ci := 4) (v := .int (nI (v.2.2.2.2.2.1.val))) hX in_X4 0 rfl rfl 5 (by decide) fl_28 rfl rfl dX4_append_1 ?_
  have hb1 := (v.2.2.2.2.2.1).isLt
  refine v_bipush (x := (80 : Int32)) hX dX4_append_4 (by decide) ?_
  refine v_icmp_lt (tgt := 11) hX dX4_append_6 (by decide) (fun c2 => ?_) (fun c2 => ?_)
  · replace c2 := (nI_ltI (a := v.2.2.2.2.2.1.val) (b := 80) (by omega) (by omega)).mp c2
    refine v_aload_n hX dX4_append_11 rfl ?_
    refine v_get (C := RX4) (T := TX4) (N := 8) (ci := 4) (v := .ref (a 1)) hX in_X4 0 rfl rfl 0 (by decide) fl_9 rfl rfl dX4_append_12 ?_
    refine v_aload_n hX dX4_append_15 rfl ?_
    refine v_get (C := RX4) (T := TX4) (N := 8) (ci := 4) (v := .int (nI (v.2.2.2.2.2.1.val))) hX in_X4 0 rfl rfl 5 (by decide) fl_28 rfl rfl dX4_append_16 ?_
    have hb3 := (v.2.2.2.2.2.1).isLt
    refine v_iload_n hX dX4_append_19 rfl ?_
    obtain ⟨v4, hv4⟩ : ∃ z_ : PV, z_ = P_setText v (v.2.2.2.2.2.1.val) (x) := ⟨_, rfl⟩
    refine v_cast (ws' := wP E a v4) hX 1 rfl (vp_in_nI (by omega : v.2.2.2.2.2.1.val < 80) (by omega)) (by rw [hv4]; exact sP_Text E a v (k := v.2.2.2.2.2.1.val) (by omega) (x := x) (by omega : x < 65536)) dX4_append_20 ?_
    refine v_aload_n hX dX4_append_21 rfl ?_
    refine v_dup hX dX4_append_22 rfl ?_
    refine v_get (C := RX4) (T := TX4) (N := 8) (ci := 4) (v := .int (nI (v4.2.2.2.2.2.1.val))) hX in_X4 0 rfl rfl 5 (by decide) fl_28 rfl rfl dX4_append_23 ?_
    have hb5 := (v4.2.2.2.2.2.1).isLt
    refine v_iconst (x := (1 : Int32)) hX dX4_append_26 (by decide) ?_
    refine v_iadd (z := nI (v4.2.2.2.2.2.1.val + 1)) hX dX4_append_27 (nI_add v4.2.2.2.2.2.1.val 1) ?_
    have hq : v4.2.2.2.2.2.1.val = v.2.2.2.2.2.1.val := by rw [hv4]; rfl
    obtain ⟨v6, hv6⟩ : ∃ z_ : PV, z_ = P_setLen v4 (v4.2.2.2.2.2.1.val + 1) := ⟨_, rfl⟩
    refine v_put (C := RX4) (T := TX4) (N := 8) (ci := 4) (v := .int (nI (v4.2.2.2.2.2.1.val + 1))) (ty := .int) (ws' := wP E a v6) hX in_X4 tyX4 tyX4_ok nmX4 0 rfl rfl 5 (by decide) fl_28 rfl rfl (by decide +kernel) (rfl) (rfl) (Nat.le_of_ble_eq_true rfl) dX4_append_28 (by rw [hv6]; exact sP_Len E a v4 (x := v4.2.2.2.2.2.1.val + 1) (by omega)) ?_
    refine v_iconst (x := (1 : Int32)) hX dX4_append_31 (by decide) ?_
    exact v_zret hX hr hsz dX4_append_32 rfl rfl (bI_narrow (true)) (congrArg bI (by (subst hv6; subst hv4; first | rfl | (simp only [P_app, c2, if_true, if_false, reduceIte, Bool.false_eq_true, reduceCtorEq, decide_true, decide_false, Bool.and_true, Bool.and_false, Bool.true_and, Bool.false_and, Bool.or_true, Bool.or_false, Bool.true_or, Bool.false_or, not_true_eq_false, not_false_eq_true, Bool.not_true, Bool.not_false, eq_self, Nat.reduceEqDiff]; done) | (simp only [P_app, c2, if_true, if_false, reduceIte, Bool.false_eq_true, reduceCtorEq, decide_true, decide_false, Bool.and_true, Bool.and_false, Bool.true_and, Bool.false_and, Bool.or_true, Bool.or_false, Bool.true_or, Bool.false_or, not_true_eq_false, not_false_eq_true, Bool.not_true, Bool.not_false, eq_self, Nat.reduceEqDiff]; rfl) | contradiction | (exfalso; omega)) : true = decide (v.2.2.2.2.2.1.val < 80))) (by (subst hv6; subst hv4; first | rfl | (simp only [P_app, c2, if_true, if_false, reduceIte, Bool.false_eq_true, reduceCtorEq, decide_true, decide_false, Bool.and_true, Bool.and_false, Bool.true_and, Bool.false_and, Bool.or_true, Bool.or_false, Bool.true_or, Bool.false_or, not_true_eq_false, not_false_eq_true, Bool.not_true, Bool.not_false, eq_self, Nat.reduceEqDiff]; done) | (simp only [P_app, c2, if_true, if_false, reduceIte, Bool.false_eq_true, reduceCtorEq, decide_true, decide_false, Bool.and_true, Bool.and_false, Bool.true_and, Bool.false_and, Bool.or_true, Bool.or_false, Bool.true_or, Bool.false_or, not_true_eq_false, not_false_eq_true, Bool.not_true, Bool.not_false, eq_self, Nat.reduceEqDiff]; rfl) | contradiction | (exfalso; omega)))
  · replace c2 := (not_congr (nI_ltI (a := v.2.2.2.2.2.1.val) (b := 80) (by omega) (by omega))).mp c2
    refine v_iconst (x := (0 : Int32)) hX dX4_append_9 (by decide) ?_
    exact v_zret hX hr hsz dX4_append_10 rfl rfl (bI_narrow (false)) (congrArg bI (by (first | rfl | (simp only [P_app, c2, if_true, if_false, reduceIte, Bool.false_eq_true, reduceCtorEq, decide_true, decide_false, Bool.and_true, Bool.and_false, Bool.true_and, Bool.false_and, Bool.or_true, Bool.or_false, Bool.true_or, Bool.false_or, not_true_eq_false, not_false_eq_true, Bool.not_true, Bool.not_false, eq_self, Nat.reduceEqDiff]; done) | (simp only [P_app, c2, if_true, if_false, reduceIte, Bool.false_eq_true, reduceCtorEq, decide_true, decide_false, Bool.and_true, Bool.and_false, Bool.true_and, Bool.false_and, Bool.or_true, Bool.or_false, Bool.true_or, Bool.false_or, not_true_eq_false, not_false_eq_true, Bool.not_true, Bool.not_false, eq_self, Nat.reduceEqDiff]; rfl) | contradiction | (exfalso; omega)) : false = decide (v.2.2.2.2.2.1.val < 80))) (by (first | rfl | (simp only [P_app, c2, if_true, if_false, reduceIte, Bool.false_eq_true, reduceCtorEq, decide_true, decide_false, Bool.and_true, Bool.and_false, Bool.true_and, Bool.false_and, Bool.or_true, Bool.or_false, Bool.true_or, Bool.false_or, not_true_eq_false, not_false_eq_true, Bool.not_true, Bool.not_false, eq_self, Nat.reduceEqDiff]; done) | (simp only [P_app, c2, if_true, if_false, reduceIte, Bool.false_eq_true, reduceCtorEq, decide_true, decide_false, Bool.and_true, Bool.and_false, Bool.true_and, Bool.false_and, Bool.or_true, Bool.or_false, Bool.true_or, Bool.false_or, not_true_eq_false, not_false_eq_true, Bool.not_true, Bool.not_false, eq_self, Nat.reduceEqDiff]; rfl) | contradiction | (exfalso; omega)))
set_option maxHeartbeats 4000000 in
set_option maxRecDepth 100000 in
theorem c_X4_isDigitUpTo (l : Launch) (E : ET) (a : Nat → Nat) (sz : Nat) (v : PV) (h : Nat) (hh : h < 10000) : Met l yX4_isDigitUpTo wsX4_isDigitUpTo ({ frames := 0, cells := 0, slots := 0, locals := 0 }) (mPc E [.ref (a 0), .int (nI (h))] sz (wP E a v)) (mQi E (bI (P_dig v h)) (wP E a v) (wP E a v) sz) 0 0 (va_A (wP E a v) sz) := by
  refine v_start (cc := cX4_isDigitUpTo) (maxL := 2) (ret := (some .boolean)) (by decide) rfl (Nat.le_of_ble_eq_true rfl) rfl ?_
  intro p e s m args below meth c hsz hr hX
  have hX : Xc p s m args meth c E 2 (va_A (wP E a v) sz) cX4_isDigitUpTo RX4 wsX4_isDigitUpTo := hX
  have in_X4 : ∀ w ∈ u_ws RX4 TX4 8, w ∈ wsX4_isDigitUpTo := by decide +kernel
  have fl_32 : Cond.fieldLink RX4 32 RX4 "at" "I" ∈ wsX4_isDigitUpTo := by decide +kernel
  have fl_28 : Cond.fieldLink RX4 28 RX4 "length" "I" ∈ wsX4_isDigitUpTo := by decide +kernel
  have fl_9 : Cond.fieldLink RX4 9 RX4 "text" "[C" ∈ wsX4_isDigitUpTo := by decide +kernel
  refine v_aload_n hX dX4_isDigitUpTo_0 rfl ?_
  refine v_get (C := RX4) (T := TX4) (N := 8) (ci := 4) (v := .int (nI (v.2.2.2.2.2.2.2.val))) hX in_X4 0 rfl rfl 7 (by decide) fl_32 rfl rfl dX4_isDigitUpTo_1 ?_
  have hb1 := (v.2.2.2.2.2.2.2).isLt
  refine v_aload_n hX dX4_isDigitUpTo_4 rfl ?_
  refine v_get (C := RX4) (T := TX4) (N := 8) (ci := 4) (v := .int (nI (v.2.2.2.2.2.1.val))) hX in_X4 0 rfl rfl 5 (by decide) fl_28 rfl rfl dX4_isDigitUpTo_5 ?_
  have hb2 := (v.2.2.2.2.2.1).isLt
  refine v_icmp_ge (tgt := 45) hX dX4_isDigitUpTo_8 (by decide) (fun c3 => ?_) (fun c3 => ?_)
  · replace c3 := (nI_leI (a := v.2.2.2.2.2.1.val) (b := v.2.2.2.2.2.2.2.val) (by omega) (by omega)).mp c3
    refine v_iconst (x := (0 : Int32)) hX dX4_isDigitUpTo_45 (by decide) ?_
    exact v_zret hX hr hsz dX4_isDigitUpTo_46 rfl rfl (bI_narrow (false)) (congrArg bI (by (first | rfl | (simp only [P_dig, c3, if_true, if_false, reduceIte, Bool.false_eq_true, reduceCtorEq, decide_true, decide_false, Bool.and_true, Bool.and_false, Bool.true_and, Bool.false_and, Bool.or_true, Bool.or_false, Bool.true_or, Bool.false_or, not_true_eq_false, not_false_eq_true, Bool.not_true, Bool.not_false, eq_self, Nat.reduceEqDiff]; done) | (simp only [P_dig, c3, if_true, if_false, reduceIte, Bool.false_eq_true, reduceCtorEq, decide_true, decide_false, Bool.and_true, Bool.and_false, Bool.true_and, Bool.false_and, Bool.or_true, Bool.or_false, Bool.true_or, Bool.false_or, not_true_eq_false, not_false_eq_true, Bool.not_true, Bool.not_false, eq_self, Nat.reduceEqDiff]; rfl) | contradiction | (exfalso; omega)) : false = P_dig v h)) rfl
  · replace c3 := (not_congr (nI_leI (a := v.2.2.2.2.2.1.val) (b := v.2.2.2.2.2.2.2.val) (by omega) (by omega))).mp c3
    refine v_aload_n hX dX4_isDigitUpTo_11 rfl ?_
    refine v_get (C := RX4) (T := TX4) (N := 8) (ci := 4) (v := .ref (a 1)) hX in_X4 0 rfl rfl 0 (by decide) fl_9 rfl rfl dX4_isDigitUpTo_12 ?_
    refine v_aload_n hX dX4_isDigitUpTo_15 rfl ?_
    refine v_get (C := RX4) (T := TX4) (N := 8) (ci := 4) (v := .int (nI (v.2.2.2.2.2.2.2.val))) hX in_X4 0 rfl rfl 7 (by decide) fl_32 rfl rfl dX4_isDigitUpTo_16 ?_
    have hb4 := (v.2.2.2.2.2.2.2).isLt
    refine v_cald (z := nI (v.1 (v.2.2.2.2.2.2.2.val)).val) hX 1 rfl (vp_in_nI (by omega : v.2.2.2.2.2.2.2.val < 80) (by omega)) (by simp only [nI_clamp (show v.2.2.2.2.2.2.2.val < 2 ^ 31 by omega)]) dX4_isDigitUpTo_19 ?_
    have hb5 := (v.1 (v.2.2.2.2.2.2.2.val)).isLt
    refine v_bipush (x := (48 : Int32)) hX dX4_isDigitUpTo_20 (by decide) ?_
    refine v_icmp_lt (tgt := 45) hX dX4_isDigitUpTo_22 (by decide) (fun c6 => ?_) (fun c6 => ?_)
    · replace c6 := (nI_ltI (a := (v.1 (v.2.2.2.2.2.2.2.val)).val) (b := 48) (by omega) (by omega)).mp c6
      refine v_iconst (x := (0 : Int32)) hX dX4_isDigitUpTo_45 (by decide) ?_
      exact v_zret hX hr hsz dX4_isDigitUpTo_46 rfl rfl (bI_narrow (false)) (congrArg bI (by (first | rfl | (simp only [P_dig, c3, c6, if_true, if_false, reduceIte, Bool.false_eq_true, reduceCtorEq, decide_true, decide_false, Bool.and_true, Bool.and_false, Bool.true_and, Bool.false_and, Bool.or_true, Bool.or_false, Bool.true_or, Bool.false_or, not_true_eq_false, not_false_eq_true, Bool.not_true, Bool.not_false, eq_self, Nat.reduceEqDiff]; done) | (simp only [P_dig, c3, c6, if_true, if_false, reduceIte, Bool.false_eq_true, reduceCtorEq, decide_true, decide_false, Bool.and_true, Bool.and_false, Bool.true_and, Bool.false_and, Bool.or_true, Bool.or_false, Bool.true_or, Bool.false_or, not_true_eq_false, not_false_eq_true, Bool.not_true, Bool.not_false, eq_self, Nat.reduceEqDiff]; rfl) | contradiction | (exfalso; omega)) : false = P_dig v h)) rfl
    · replace c6 := (not_congr (nI_ltI (a := (v.1 (v.2.2.2.2.2.2.2.val)).val) (b := 48) (by omega) (by omega))).mp c6
      refine v_aload_n hX dX4_isDigitUpTo_25 rfl ?_
      refine v_get (C := RX4) (T := TX4) (N := 8) (ci := 4) (v := .ref (a 1)) hX in_X4 0 rfl rfl 0 (by decide) fl_9 rfl rfl dX4_isDigitUpTo_26 ?_
      refine v_aload_n hX dX4_isDigitUpTo_29 rfl ?_
      refine v_get (C := RX4) (T := TX4) (N := 8) (ci := 4) (v := .int (nI (v.2.2.2.2.2.2.2.val))) hX in_X4 0 rfl rfl 7 (by decide) fl_32 rfl rfl dX4_isDigitUpTo_30 ?_
      have hb7 := (v.2.2.2.2.2.2.2).isLt
      refine v_cald (z := nI (v.1 (v.2.2.2.2.2.2.2.val)).val) hX 1 rfl (vp_in_nI (by omega : v.2.2.2.2.2.2.2.val < 80) (by omega)) (by simp only [nI_clamp (show v.2.2.2.2.2.2.2.val < 2 ^ 31 by omega)]) dX4_isDigitUpTo_33 ?_
      have hb8 := (v.1 (v.2.2.2.2.2.2.2.val)).isLt
      refine v_bipush (x := (48 : Int32)) hX dX4_isDigitUpTo_34 (by decide) ?_
      refine v_isub (z := nI (((v.1 (v.2.2.2.2.2.2.2.val)).val) - 48)) hX dX4_isDigitUpTo_36 (pk_sub (a := (v.1 (v.2.2.2.2.2.2.2.val)).val) (b := 48) (by omega)) ?_
      refine v_iload_n hX dX4_isDigitUpTo_37 rfl ?_
      refine v_icmp_gt (tgt := 45) hX dX4_isDigitUpTo_38 (by decide) (fun c9 => ?_) (fun c9 => ?_)
      · replace c9 := (nI_ltI (a := h) (b := ((v.1 (v.2.2.2.2.2.2.2.val)).val) - 48) (by omega) (by omega)).mp c9
        refine v_iconst (x := (0 : Int32)) hX dX4_isDigitUpTo_45 (by decide) ?_
        exact v_zret hX hr hsz dX4_isDigitUpTo_46 rfl rfl (bI_narrow (false)) (congrArg bI (by (first | rfl | (simp only [P_dig, c3, c6, c9, if_true, if_false, reduceIte, Bool.false_eq_true, reduceCtorEq, decide_true, decide_false, Bool.and_true, Bool.and_false, Bool.true_and, Bool.false_and, Bool.or_true, Bool.or_false, Bool.true_or, Bool.false_or, not_true_eq_false, not_false_eq_true, Bool.not_true, Bool.not_false, eq_self, Nat.reduceEqDiff]; done) | (simp only [P_dig, c3, c6, c9, if_true, if_false, reduceIte, Bool.false_eq_true, reduceCtorEq, decide_true, decide_false, Bool.and_true, Bool.and_false, Bool.true_and, Bool.false_and, Bool.or_true, Bool.or_false, Bool.true_or, Bool.false_or, not_true_eq_false, not_false_eq_true, Bool.not_true, Bool.not_false, eq_self, Nat.reduceEqDiff]; rfl) | contradiction | (exfalso; omega)) : false = P_dig v h)) rfl
      · replace c9 := (not_congr (nI_ltI (a := h) (b := ((v.1 (v.2.2.2.2.2.2.2.val)).val) - 48) (by omega) (by omega))).mp c9
        refine v_iconst (x := (1 : Int32)) hX dX4_isDigitUpTo_41 (by decide) ?_
        refine v_goto (tgt := 46) hX dX4_isDigitUpTo_42 (by decide) ?_
        exact v_zret hX hr hsz dX4_isDigitUpTo_46 rfl rfl (bI_narrow (true)) (congrArg bI (by (first | rfl | (simp only [P_dig, c3, c6, c9, if_true, if_false, reduceIte, Bool.false_eq_true, reduceCtorEq, decide_true, decide_false, Bool.and_true, Bool.and_false, Bool.true_and, Bool.false_and, Bool.or_true, Bool.or_false, Bool.true_or, Bool.false_or, not_true_eq_false, not_false_eq_true, Bool.not_true, Bool.not_false, eq_self, Nat.reduceEqDiff]; done) | (simp only [P_dig, c3, c6, c9, if_true, if_false, reduceIte, Bool.false_eq_true, reduceCtorEq, decide_true, decide_false, Bool.and_true, Bool.and_false, Bool.true_and, Bool.false_and, Bool.or_true, Bool.or_false, Bool.true_or, Bool.false_or, not_true_eq_false, not_false_eq_true, Bool.not_true, Bool.not_false, eq_self, Nat.reduceEqDiff]; rfl) | contradiction | (exfalso; omega)) : true = P_dig v h)) rfl
set_option maxHeartbeats 4000000 in
set_option maxRecDepth 100000 in
theorem c_X4_takes (l : Launch) (E : ET) (a : Nat → Nat) (sz : Nat) (v : PV) (w : Nat) (hw : w < 65536) : Met l yX4_takes wsX4_takes ({ frames := 0, cells := 0, slots := 0, locals := 0 }) (mPc E [.ref (a 0), .int (nI (w))] sz (wP E a v)) (mQi E (bI (P_takesB v w)) (wP E a v) (wP E a (P_takes v w)) sz) 0 0 (va_A (wP E a v) sz) := by
  refine v_start (cc := cX4_takes) (maxL := 2) (ret := (some .boolean)) (by decide) rfl (Nat.le_of_ble_eq_true rfl) rfl ?_
  intro p e s m args below meth c hsz hr hX
  have hX : Xc p s m args meth c E 2 (va_A (wP E a v) sz) cX4_takes RX4 wsX4_takes := hX
  have in_X4 : ∀ w ∈ u_ws RX4 TX4 8, w ∈ wsX4_takes := by decide +kernel
  have fl_32 : Cond.fieldLink RX4 32 RX4 "at" "I" ∈ wsX4_takes := by decide +kernel
  have fl_28 : Cond.fieldLink RX4 28 RX4 "length" "I" ∈ wsX4_takes := by decide +kernel
  have fl_9 : Cond.fieldLink RX4 9 RX4 "text" "[C" ∈ wsX4_takes := by decide +kernel
  refine v_aload_n hX dX4_takes_0 rfl ?_
  refine v_get (C := RX4) (T := TX4) (N := 8) (ci := 4) (v := .int (nI (v.2.2.2.2.2.2.2.val))) hX in_X4 0 rfl rfl 7 (by decide) fl_32 rfl rfl dX4_takes_1 ?_
  have hb1 := (v.2.2.2.2.2.2.2).isLt
  refine v_aload_n hX dX4_takes_4 rfl ?_
  refine v_get (C := RX4) (T := TX4) (N := 8) (ci := 4) (v := .int (nI (v.2.2.2.2.2.1.val))) hX in_X4 0 rfl rfl 5 (by decide) fl_28 rfl rfl dX4_takes_5 ?_
  have hb2 := (v.2.2.2.2.2.1).isLt
  refine v_icmp_ge (tgt := 24) hX dX4_takes_8 (by decide) (fun c3 => ?_) (fun c3 => ?_)
  · replace c3 := (nI_leI (a := v.2.2.2.2.2.1.val) (b := v.2.2.2.2.2.2.2.val) (by omega) (by omega)).mp c3
    refine v_iconst (x := (0 : Int32)) hX dX4_takes_24 (by decide) ?_
    exact v_zret hX hr hsz dX4_takes_25 rfl rfl (bI_narrow (false)) (congrArg bI (by (first | rfl | (simp only [P_takes, P_takesB, c3, if_true, if_false, reduceIte, Bool.false_eq_true, reduceCtorEq, decide_true, decide_false, Bool.and_true, Bool.and_false, Bool.true_and, Bool.false_and, Bool.or_true, Bool.or_false, Bool.true_or, Bool.false_or, not_true_eq_false, not_false_eq_true, Bool.not_true, Bool.not_false, eq_self, Nat.reduceEqDiff]; done) | (simp only [P_takes, P_takesB, c3, if_true, if_false, reduceIte, Bool.false_eq_true, reduceCtorEq, decide_true, decide_false, Bool.and_true, Bool.and_false, Bool.true_and, Bool.false_and, Bool.or_true, Bool.or_false, Bool.true_or, Bool.false_or, not_true_eq_false, not_false_eq_true, Bool.not_true, Bool.not_false, eq_self, Nat.reduceEqDiff]; rfl) | contradiction | (exfalso; omega)) : false = P_takesB v w)) (by (first | rfl | (simp only [P_takes, P_takesB, c3, if_true, if_false, reduceIte, Bool.false_eq_true, reduceCtorEq, decide_true, decide_false, Bool.and_true, Bool.and_false, Bool.true_and, Bool.false_and, Bool.or_true, Bool.or_false, Bool.true_or, Bool.false_or, not_true_eq_false, not_false_eq_true, Bool.not_true, Bool.not_false, eq_self, Nat.reduceEqDiff]; done) | (simp only [P_takes, P_takesB, c3, if_true, if_false, reduceIte, Bool.false_eq_true, reduceCtorEq, decide_true, decide_false, Bool.and_true, Bool.and_false, Bool.true_and, Bool.false_and, Bool.or_true, Bool.or_false, Bool.true_or, Bool.false_or, not_true_eq_false, not_false_eq_true, Bool.not_true, Bool.not_false, eq_self, Nat.reduceEqDiff]; rfl) | contradiction | (exfalso; omega)))
  · replace c3 := (not_congr (nI_leI (a := v.2.2.2.2.2.1.val) (b := v.2.2.2.2.2.2.2.val) (by omega) (by omega))).mp c3
    refine v_aload_n hX dX4_takes_11 rfl ?_
    refine v_get (C := RX4) (T := TX4) (N := 8) (ci := 4) (v := .ref (a 1)) hX in_X4 0 rfl rfl 0 (by decide) fl_9 rfl rfl dX4_takes_12 ?_
    refine v_aload_n hX dX4_takes_15 rfl ?_
    refine v_get (C := RX4) (T := TX4) (N := 8) (ci := 4) (v := .int (nI (v.2.2.2.2.2.2.2.val))) hX in_X4 0 rfl rfl 7 (by decide) fl_32 rfl rfl dX4_takes_16 ?_
    have hb4 := (v.2.2.2.2.2.2.2).isLt
    refine v_cald (z := nI (v.1 (v.2.2.2.2.2.2.2.val)).val) hX 1 rfl (vp_in_nI (by omega : v.2.2.2.2.2.2.2.val < 80) (by omega)) (by simp only [nI_clamp (show v.2.2.2.2.2.2.2.val < 2 ^ 31 by omega)]) dX4_takes_19 ?_
    have hb5 := (v.1 (v.2.2.2.2.2.2.2.val)).isLt
    refine v_iload_n hX dX4_takes_20 rfl ?_
    refine v_icmp_eq (tgt := 26) hX dX4_takes_21 (by decide) (fun c6 => ?_) (fun c6 => ?_)
    · replace c6 := (nI_eq (a := (v.1 (v.2.2.2.2.2.2.2.val)).val) (b := w) (by omega) (by omega)).mp c6
      have c6t := eq_true c6
      refine v_aload_n hX dX4_takes_26 rfl ?_
      refine v_dup hX dX4_takes_27 rfl ?_
      refine v_get (C := RX4) (T := TX4) (N := 8) (ci := 4) (v := .int (nI (v.2.2.2.2.2.2.2.val))) hX in_X4 0 rfl rfl 7 (by decide) fl_32 rfl rfl dX4_takes_28 ?_
      have hb7 := (v.2.2.2.2.2.2.2).isLt
      refine v_iconst (x := (1 : Int32)) hX dX4_takes_31 (by decide) ?_
      refine v_iadd (z := nI (v.2.2.2.2.2.2.2.val + 1)) hX dX4_takes_32 (nI_add v.2.2.2.2.2.2.2.val 1) ?_
      obtain ⟨v8, hv8⟩ : ∃ z_ : PV, z_ = P_setAt v (v.2.2.2.2.2.2.2.val + 1) := ⟨_, rfl⟩
      refine v_put (C := RX4) (T := TX4) (N := 8) (ci := 4) (v := .int (nI (v.2.2.2.2.2.2.2.val + 1))) (ty := .int) (ws' := wP E a v8) hX in_X4 tyX4 tyX4_ok nmX4 0 rfl rfl 7 (by decide) fl_32 rfl rfl (by decide +kernel) (rfl) (rfl) (Nat.le_of_ble_eq_true rfl) dX4_takes_33 (by rw [hv8]; exact sP_At E a v (x := v.2.2.2.2.2.2.2.val + 1) (by omega)) ?_
      refine v_iconst (x := (1 : Int32)) hX dX4_takes_36 (by decide) ?_
      exact v_zret hX hr hsz dX4_takes_37 rfl rfl (bI_narrow (true)) (congrArg bI (by (subst hv8; first | rfl | (simp only [P_takes, P_takesB, c3, c6t, if_true, if_false, reduceIte, Bool.false_eq_true, reduceCtorEq, decide_true, decide_false, Bool.and_true, Bool.and_false, Bool.true_and, Bool.false_and, Bool.or_true, Bool.or_false, Bool.true_or, Bool.false_or, not_true_eq_false, not_false_eq_true, Bool.not_true, Bool.not_false, eq_self, Nat.reduceEqDiff]; done) | (simp only [P_takes, P_takesB, c3, c6t, if_true, if_false, reduceIte, Bool.false_eq_true, reduceCtorEq, decide_true, decide_false, Bool.and_true, Bool.and_false, Bool.true_and, Bool.false_and, Bool.or_true, Bool.or_false, Bool.true_or, Bool.false_or, not_true_eq_false, not_false_eq_true, Bool.not_true, Bool.not_false, eq_self, Nat.reduceEqDiff]; rfl) | contradiction | (exfalso; omega)) : true = P_takesB v w)) (by (subst hv8; first | rfl | (simp only [P_takes, P_takesB, c3, c6t, if_true, if_false, reduceIte, Bool.false_eq_true, reduceCtorEq, decide_true, decide_false, Bool.and_true, Bool.and_false, Bool.true_and, Bool.false_and, Bool.or_true, Bool.or_false, Bool.true_or, Bool.false_or, not_true_eq_false, not_false_eq_true, Bool.not_true, Bool.not_false, eq_self, Nat.reduceEqDiff]; done) | (simp only [P_takes, P_takesB, c3, c6t, if_true, if_false, reduceIte, Bool.false_eq_true, reduceCtorEq, decide_true, decide_false, Bool.and_true, Bool.and_false, Bool.true_and, Bool.false_and, Bool.or_true, Bool.or_false, Bool.true_or, Bool.false_or, not_true_eq_false, not_false_eq_true, Bool.not_true, Bool.not_false, eq_self, Nat.reduceEqDiff]; rfl) | contradiction | (exfalso; omega)))
    · replace c6 := (not_congr (nI_eq (a := (v.1 (v.2.2.2.2.2.2.2.val)).val) (b := w) (by omega) (by omega))).mp c6
      refine v_iconst (x := (0 : Int32)) hX dX4_takes_24 (by decide) ?_
      exact v_zret hX hr hsz dX4_takes_25 rfl rfl (bI_narrow (false)) (congrArg bI (by (first | rfl | (simp only [P_takes, P_takesB, c3, c6, if_true, if_false, reduceIte, Bool.false_eq_true, reduceCtorEq, decide_true, decide_false, Bool.and_true, Bool.and_false, Bool.true_and, Bool.false_and, Bool.or_true, Bool.or_false, Bool.true_or, Bool.false_or, not_true_eq_false, not_false_eq_true, Bool.not_true, Bool.not_false, eq_self, Nat.reduceEqDiff]; done) | (simp only [P_takes, P_takesB, c3, c6, if_true, if_false, reduceIte, Bool.false_eq_true, reduceCtorEq, decide_true, decide_false, Bool.and_true, Bool.and_false, Bool.true_and, Bool.false_and, Bool.or_true, Bool.or_false, Bool.true_or, Bool.false_or, not_true_eq_false, not_false_eq_true, Bool.not_true, Bool.not_false, eq_self, Nat.reduceEqDiff]; rfl) | contradiction | (exfalso; omega)) : false = P_takesB v w)) (by (first | rfl | (simp only [P_takes, P_takesB, c3, c6, if_true, if_false, reduceIte, Bool.false_eq_true, reduceCtorEq, decide_true, decide_false, Bool.and_true, Bool.and_false, Bool.true_and, Bool.false_and, Bool.or_true, Bool.or_false, Bool.true_or, Bool.false_or, not_true_eq_false, not_false_eq_true, Bool.not_true, Bool.not_false, eq_self, Nat.reduceEqDiff]; done) | (simp only [P_takes, P_takesB, c3, c6, if_true, if_false, reduceIte, Bool.false_eq_true, reduceCtorEq, decide_true, decide_false, Bool.and_true, Bool.and_false, Bool.true_and, Bool.false_and, Bool.or_true, Bool.or_false, Bool.true_or, Bool.false_or, not_true_eq_false, not_false_eq_true, Bool.not_true, Bool.not_false, eq_self, Nat.reduceEqDiff]; rfl) | contradiction | (exfalso; omega)))
set_option maxHeartbeats 4000000 in
set_option maxRecDepth 100000 in
theorem c_X4_takeNumber (l : Launch) (E : ET) (a : Nat → Nat) (sz : Nat) (v : PV) (h : Nat) (hh : h < 10000) : Met l yX4_takeNumber wsX4_takeNumber ({ frames := 1, cells := 0, slots := 0, locals := 21 }) (mPc E [.ref (a 0), .int (nI (h))] sz (wP E a v)) (mQi E (nI ((P_num v h).1)) (wP E a v) (wP E a ((P_num v h).2)) sz) 0 0 (va_A (wP E a v) sz) := by
  refine v_start (cc := cX4_takeNumber) (maxL := 5) (ret := (some .int)) (by decide) rfl (Nat.le_of_ble_eq_true rfl) rfl ?_
  intro p e s m args below meth c hsz hr hX
  have hX : Xc p s m args meth c E 5 (va_A (wP E a v) sz) cX4_takeNumber RX4 wsX4_takeNumber := hX
  have in_X4 : ∀ w ∈ u_ws RX4 TX4 8, w ∈ wsX4_takeNumber := by decide +kernel
  have fl_32 : Cond.fieldLink RX4 32 RX4 "at" "I" ∈ wsX4_takeNumber := by decide +kernel
  have fl_28 : Cond.fieldLink RX4 28 RX4 "length" "I" ∈ wsX4_takeNumber := by decide +kernel
  have fl_9 : Cond.fieldLink RX4 9 RX4 "text" "[C" ∈ wsX4_takeNumber := by decide +kernel
  refine v_iconst (x := (0 : Int32)) hX dX4_takeNumber_0 (by decide) ?_
  refine v_istore_n (lv' := [.ref (a 0), .int (nI (h)), .int ((0 : Int32))]) hX dX4_takeNumber_1 (Nat.le_of_ble_eq_true rfl) (Nat.le_of_ble_eq_true rfl) rfl rfl ?_
  refine v_aload_n hX dX4_takeNumber_2 rfl ?_
  refine v_get (C := RX4) (T := TX4) (N := 8) (ci := 4) (v := .int (nI (v.2.2.2.2.2.2.2.val))) hX in_X4 0 rfl rfl 7 (by decide) fl_32 rfl rfl dX4_takeNumber_3 ?_
  have hb1 := (v.2.2.2.2.2.2.2).isLt
  refine v_istore_n (lv' := [.ref (a 0), .int (nI (h)), .int ((0 : Int32)), .int (nI (v.2.2.2.2.2.2.2.val))]) hX dX4_takeNumber_6 (Nat.le_of_ble_eq_true rfl) (Nat.le_of_ble_eq_true rfl) rfl rfl ?_
  have loop_7 : ∀ (fu : Nat) (k : Nat) (w : PV), w.2.2.2.2.2.1.val - w.2.2.2.2.2.2.2.val ≤ fu → wh (P_numC h v.2.2.2.2.2.2.2.val) P_numS fu (k, w) = P_num v h → k ≤ h → V p l e ({ frames := 1, cells := 0, slots := 0, locals := 21 } : Room) s m args below meth c E 5 (va_A (wP E a v) sz) (MQ below (mQi E (nI ((P_num v h).1)) (wP E a v) (wP E a ((P_num v h).2)) sz) args s 0 0 (va_A (wP E a v) sz)) (wP E a w) [.ref (a 0), .int (nI (h)), .int (nI (k)), .int (nI (v.2.2.2.2.2.2.2.val))] 7 [] := by
    intro fu
    induction fu with
    | zero =>
      intro k w inv0 inv1 inv2
      refine v_aload_n hX dX4_takeNumber_7 rfl ?_
      refine v_get (C := RX4) (T := TX4) (N := 8) (ci := 4) (v := .int (nI (w.2.2.2.2.2.2.2.val))) hX in_X4 0 rfl rfl 7 (by decide) fl_32 rfl rfl dX4_takeNumber_8 ?_
      have hb2 := (w.2.2.2.2.2.2.2).isLt
      refine v_aload_n hX dX4_takeNumber_11 rfl ?_
      refine v_get (C := RX4) (T := TX4) (N := 8) (ci := 4) (v := .int (nI (w.2.2.2.2.2.1.val))) hX in_X4 0 rfl rfl 5 (by decide) fl_28 rfl rfl dX4_takeNumber_12 ?_
      have hb3 := (w.2.2.2.2.2.1).isLt
      refine v_icmp_ge (tgt := 83) hX dX4_takeNumber_15 (by decide) (fun c4 => ?_) (fun c4 => ?_)
      · replace c4 := (nI_leI (a := w.2.2.2.2.2.1.val) (b := w.2.2.2.2.2.2.2.val) (by omega) (by omega)).mp c4
        refine v_iload_n hX dX4_takeNumber_83 rfl ?_
        exact v_iret hX hr hsz dX4_takeNumber_84 rfl rfl (by (have hx : P_num v h = (k, w) := inv1.symm.trans (wh_stop _ (by simp only [P_numC, P_dig_out c4, Bool.and_true, Bool.and_false, Bool.true_and, Bool.false_and, Bool.or_true, Bool.true_or, Bool.or_false, decide_true, decide_false, Bool.not_true, Bool.not_false]) _); rw [hx])) (by (have hx : P_num v h = (k, w) := inv1.symm.trans (wh_stop _ (by simp only [P_numC, P_dig_out c4, Bool.and_true, Bool.and_false, Bool.true_and, Bool.false_and, Bool.or_true, Bool.true_or, Bool.or_false, decide_true, decide_false, Bool.not_true, Bool.not_false]) _); rw [hx]))
      · replace c4 := (not_congr (nI_leI (a := w.2.2.2.2.2.1.val) (b := w.2.2.2.2.2.2.2.val) (by omega) (by omega))).mp c4
        exfalso; omega
    | succ fu ih =>
      intro k w inv0 inv1 inv2
      refine v_aload_n hX dX4_takeNumber_7 rfl ?_
      refine v_get (C := RX4) (T := TX4) (N := 8) (ci := 4) (v := .int (nI (w.2.2.2.2.2.2.2.val))) hX in_X4 0 rfl rfl 7 (by decide) fl_32 rfl rfl dX4_takeNumber_8 ?_
      have hb5 := (w.2.2.2.2.2.2.2).isLt
      refine v_aload_n hX dX4_takeNumber_11 rfl ?_
      refine v_get (C := RX4) (T := TX4) (N := 8) (ci := 4) (v := .int (nI (w.2.2.2.2.2.1.val))) hX in_X4 0 rfl rfl 5 (by decide) fl_28 rfl rfl dX4_takeNumber_12 ?_
      have hb6 := (w.2.2.2.2.2.1).isLt
      refine v_icmp_ge (tgt := 83) hX dX4_takeNumber_15 (by decide) (fun c7 => ?_) (fun c7 => ?_)
      · replace c7 := (nI_leI (a := w.2.2.2.2.2.1.val) (b := w.2.2.2.2.2.2.2.val) (by omega) (by omega)).mp c7
        refine v_iload_n hX dX4_takeNumber_83 rfl ?_
        exact v_iret hX hr hsz dX4_takeNumber_84 rfl rfl (by (have hx : P_num v h = (k, w) := inv1.symm.trans (wh_stop _ (by simp only [P_numC, P_dig_out c7, Bool.and_true, Bool.and_false, Bool.true_and, Bool.false_and, Bool.or_true, Bool.true_or, Bool.or_false, decide_true, decide_false, Bool.not_true, Bool.not_false]) _); rw [hx])) (by (have hx : P_num v h = (k, w) := inv1.symm.trans (wh_stop _ (by simp only [P_numC, P_dig_out c7, Bool.and_true, Bool.and_false, Bool.true_and, Bool.false_and, Bool.or_true, Bool.true_or, Bool.or_false, decide_true, decide_false, Bool.not_true, Bool.not_false]) _); rw [hx]))
      · replace c7 := (not_congr (nI_leI (a := w.2.2.2.2.2.1.val) (b := w.2.2.2.2.2.2.2.val) (by omega) (by omega))).mp c7
        refine v_aload_n hX dX4_takeNumber_18 rfl ?_
        refine v_bipush (x := (9 : Int32)) hX dX4_takeNumber_19 (by decide) ?_
        refine v_callVi (r := bI (P_dig w 9)) (rest := []) (ws' := wP E a w) hX (fun sz => c_X4_isDigitUpTo l E a sz w 9 (by first | omega | exact Nat.le_of_ble_eq_true rfl)) (cwV 1 hX.2.2.2.2.1 gX4_takeNumber_X4_isDigitUpTo rfl rfl rfl (by decide +kernel) ⟨Nat.le_of_ble_eq_true rfl, Nat.le_of_ble_eq_true rfl⟩) ([]) ([]) ((List.append_nil _).symm) ((List.append_nil _).symm).symm (wP_fst E a _ _) (ci := 4) (q0 := 0) rfl rfl rfl rfl rfl (Nat.le_of_ble_eq_true rfl) dX4_takeNumber_21 ?_
        refine v_if_eq (tgt := 83) hX dX4_takeNumber_24 (by decide) (fun c8 => ?_) (fun c8 => ?_)
        · replace c8 := bI_0.mp c8
          refine v_iload_n hX dX4_takeNumber_83 rfl ?_
          exact v_iret hX hr hsz dX4_takeNumber_84 rfl rfl (by (have hx : P_num v h = (k, w) := inv1.symm.trans (wh_stop _ (by simp only [P_numC, c8, Bool.and_true, Bool.and_false, Bool.true_and, Bool.false_and, Bool.or_true, Bool.true_or, Bool.or_false, decide_true, decide_false, Bool.not_true, Bool.not_false]) _); rw [hx])) (by (have hx : P_num v h = (k, w) := inv1.symm.trans (wh_stop _ (by simp only [P_numC, c8, Bool.and_true, Bool.and_false, Bool.true_and, Bool.false_and, Bool.or_true, Bool.true_or, Bool.or_false, decide_true, decide_false, Bool.not_true, Bool.not_false]) _); rw [hx]))
        · replace c8 := bI_n0.mp c8
          have hdg := P_dig_spec c8
          refine v_iload_n hX dX4_takeNumber_27 rfl ?_
          refine v_if_gt (tgt := 39) hX dX4_takeNumber_28 (by decide) (fun c9 => ?_) (fun c9 => ?_)
          · replace c9 := (nI_ltI (a := 0) (b := k) (by omega) (by omega)).mp c9
            refine v_bipush (x := (10 : Int32)) hX dX4_takeNumber_39 (by decide) ?_
            refine v_iload_n hX dX4_takeNumber_41 rfl ?_
            refine v_imul (z := nI (10 * k)) hX dX4_takeNumber_42 (pk_mul 10 k) ?_
            refine v_aload_n hX dX4_takeNumber_43 rfl ?_
            refine v_get (C := RX4) (T := TX4) (N := 8) (ci := 4) (v := .ref (a 1)) hX in_X4 0 rfl rfl 0 (by decide) fl_9 rfl rfl dX4_takeNumber_44 ?_
            refine v_aload_n hX dX4_takeNumber_47 rfl ?_
            refine v_get (C := RX4) (T := TX4) (N := 8) (ci := 4) (v := .int (nI (w.2.2.2.2.2.2.2.val))) hX in_X4 0 rfl rfl 7 (by decide) fl_32 rfl rfl dX4_takeNumber_48 ?_
            have hb10 := (w.2.2.2.2.2.2.2).isLt
            refine v_cald (z := nI (w.1 (w.2.2.2.2.2.2.2.val)).val) hX 1 rfl (vp_in_nI (by omega : w.2.2.2.2.2.2.2.val < 80) (by omega)) (by simp only [nI_clamp (show w.2.2.2.2.2.2.2.val < 2 ^ 31 by omega)]) dX4_takeNumber_51 ?_
            have hb11 := (w.1 (w.2.2.2.2.2.2.2.val)).isLt
            refine v_iadd (z := nI ((10 * k) + ((w.1 (w.2.2.2.2.2.2.2.val)).val))) hX dX4_takeNumber_52 (nI_add (10 * k) ((w.1 (w.2.2.2.2.2.2.2.val)).val)) ?_
            refine v_bipush (x := (48 : Int32)) hX dX4_takeNumber_53 (by decide) ?_
            refine v_isub (z := nI (((10 * k) + ((w.1 (w.2.2.2.2.2.2.2.val)).val)) - 48)) hX dX4_takeNumber_55 (pk_sub (a := (10 * k) + ((w.1 (w.2.2.2.2.2.2.2.val)).val)) (b := 48) (by omega)) ?_
            refine v_istore (lv' := [.ref (a 0), .int (nI (h)), .int (nI (k)), .int (nI (v.2.2.2.2.2.2.2.val)), .int (nI (((10 * k) + ((w.1 (w.2.2.2.2.2.2.2.val)).val)) - 48))]) hX dX4_takeNumber_56 (Nat.le_of_ble_eq_true rfl) (Nat.le_of_ble_eq_true rfl) rfl rfl ?_
            refine v_iload hX dX4_takeNumber_58 rfl ?_
            refine v_iload_n hX dX4_takeNumber_60 rfl ?_
            refine v_icmp_le (tgt := 67) hX dX4_takeNumber_61 (by decide) (fun c12 => ?_) (fun c12 => ?_)
            · replace c12 := (nI_leI (a := ((10 * k) + ((w.1 (w.2.2.2.2.2.2.2.val)).val)) - 48) (b := h) (by omega) (by omega)).mp c12
              replace c12 := Nat.not_lt.mpr c12
              refine v_iload hX dX4_takeNumber_67 rfl ?_
              refine v_istore_n (lv' := [.ref (a 0), .int (nI (h)), .int (nI (((10 * k) + ((w.1 (w.2.2.2.2.2.2.2.val)).val)) - 48)), .int (nI (v.2.2.2.2.2.2.2.val)), .int (nI (((10 * k) + ((w.1 (w.2.2.2.2.2.2.2.val)).val)) - 48))]) hX dX4_takeNumber_69 (Nat.le_of_ble_eq_true rfl) (Nat.le_of_ble_eq_true rfl) rfl rfl ?_
              refine v_aload_n hX dX4_takeNumber_70 rfl ?_
              refine v_dup hX dX4_takeNumber_71 rfl ?_
              refine v_get (C := RX4) (T := TX4) (N := 8) (ci := 4) (v := .int (nI (w.2.2.2.2.2.2.2.val))) hX in_X4 0 rfl rfl 7 (by decide) fl_32 rfl rfl dX4_takeNumber_72 ?_
              have hb13 := (w.2.2.2.2.2.2.2).isLt
              refine v_iconst (x := (1 : Int32)) hX dX4_takeNumber_75 (by decide) ?_
              refine v_iadd (z := nI (w.2.2.2.2.2.2.2.val + 1)) hX dX4_takeNumber_76 (nI_add w.2.2.2.2.2.2.2.val 1) ?_
              obtain ⟨v14, hv14⟩ : ∃ z_ : PV, z_ = P_setAt w (w.2.2.2.2.2.2.2.val + 1) := ⟨_, rfl⟩
              refine v_put (C := RX4) (T := TX4) (N := 8) (ci := 4) (v := .int (nI (w.2.2.2.2.2.2.2.val + 1))) (ty := .int) (ws' := wP E a v14) hX in_X4 tyX4 tyX4_ok nmX4 0 rfl rfl 7 (by decide) fl_32 rfl rfl (by decide +kernel) (rfl) (rfl) (Nat.le_of_ble_eq_true rfl) dX4_takeNumber_77 (by rw [hv14]; exact sP_At E a w (x := w.2.2.2.2.2.2.2.val + 1) (by omega)) ?_
              refine v_goto (tgt := 7) hX dX4_takeNumber_80 (by decide) ?_
              exact v_fewer 4 rfl (ih (((10 * k) + ((w.1 (w.2.2.2.2.2.2.2.val)).val)) - 48) v14 (by rw [hv14, P_at_at w (by omega : w.2.2.2.2.2.2.2.val + 1 < 81), P_at_len]; omega) (by rw [hv14, ← inv1]; exact (wh_go (c := P_numC h v.2.2.2.2.2.2.2.val) P_numS (x := (k, w)) (by simp only [P_numC, c8, c9, c12, Bool.and_true, Bool.and_false, Bool.true_and, Bool.false_and, Bool.or_true, Bool.true_or, Bool.or_false, decide_true, decide_false, Bool.not_true, Bool.not_false]) fu).symm) (by omega))
            · replace c12 := (not_congr (nI_leI (a := ((10 * k) + ((w.1 (w.2.2.2.2.2.2.2.val)).val)) - 48) (b := h) (by omega) (by omega))).mp c12
              replace c12 := Nat.not_le.mp c12
              refine v_goto (tgt := 83) hX dX4_takeNumber_64 (by decide) ?_
              refine v_iload_n hX dX4_takeNumber_83 rfl ?_
              exact v_iret hX hr hsz dX4_takeNumber_84 rfl rfl (by (have hx : P_num v h = (k, w) := inv1.symm.trans (wh_stop _ (by simp only [P_numC, c8, c9, c12, Bool.and_true, Bool.and_false, Bool.true_and, Bool.false_and, Bool.or_true, Bool.true_or, Bool.or_false, decide_true, decide_false, Bool.not_true, Bool.not_false]) _); rw [hx])) (by (have hx : P_num v h = (k, w) := inv1.symm.trans (wh_stop _ (by simp only [P_numC, c8, c9, c12, Bool.and_true, Bool.and_false, Bool.true_and, Bool.false_and, Bool.or_true, Bool.true_or, Bool.or_false, decide_true, decide_false, Bool.not_true, Bool.not_false]) _); rw [hx]))
          · replace c9 := (not_congr (nI_ltI (a := 0) (b := k) (by omega) (by omega))).mp c9
            refine v_aload_n hX dX4_takeNumber_31 rfl ?_
            refine v_get (C := RX4) (T := TX4) (N := 8) (ci := 4) (v := .int (nI (w.2.2.2.2.2.2.2.val))) hX in_X4 0 rfl rfl 7 (by decide) fl_32 rfl rfl dX4_takeNumber_32 ?_
            have hb15 := (w.2.2.2.2.2.2.2).isLt
            refine v_iload_n hX dX4_takeNumber_35 rfl ?_
            refine v_icmp_ne (tgt := 83) hX dX4_takeNumber_36 (by decide) (fun c16 => ?_) (fun c16 => ?_)
            · replace c16 := (not_congr (nI_eq (a := w.2.2.2.2.2.2.2.val) (b := v.2.2.2.2.2.2.2.val) (by omega) (by omega))).mp c16
              refine v_iload_n hX dX4_takeNumber_83 rfl ?_
              exact v_iret hX hr hsz dX4_takeNumber_84 rfl rfl (by (have hx : P_num v h = (k, w) := inv1.symm.trans (wh_stop _ (by simp only [P_numC, c8, c9, c16, Bool.and_true, Bool.and_false, Bool.true_and, Bool.false_and, Bool.or_true, Bool.true_or, Bool.or_false, decide_true, decide_false, Bool.not_true, Bool.not_false]) _); rw [hx])) (by (have hx : P_num v h = (k, w) := inv1.symm.trans (wh_stop _ (by simp only [P_numC, c8, c9, c16, Bool.and_true, Bool.and_false, Bool.true_and, Bool.false_and, Bool.or_true, Bool.true_or, Bool.or_false, decide_true, decide_false, Bool.not_true, Bool.not_false]) _); rw [hx]))
            · replace c16 := (nI_eq (a := w.2.2.2.2.2.2.2.val) (b := v.2.2.2.2.2.2.2.val) (by omega) (by omega)).mp c16
              have c16t := eq_true c16
              refine v_bipush (x := (10 : Int32)) hX dX4_takeNumber_39 (by decide) ?_
              refine v_iload_n hX dX4_takeNumber_41 rfl ?_
              refine v_imul (z := nI (10 * k)) hX dX4_takeNumber_42 (pk_mul 10 k) ?_
              refine v_aload_n hX dX4_takeNumber_43 rfl ?_
              refine v_get (C := RX4) (T := TX4) (N := 8) (ci := 4) (v := .ref (a 1)) hX in_X4 0 rfl rfl 0 (by decide) fl_9 rfl rfl dX4_takeNumber_44 ?_
              refine v_aload_n hX dX4_takeNumber_47 rfl ?_
              refine v_get (C := RX4) (T := TX4) (N := 8) (ci := 4) (v := .int (nI (w.2.2.2.2.2.2.2.val))) hX in_X4 0 rfl rfl 7 (by decide) fl_32 rfl rfl dX4_takeNumber_48 ?_
              have hb17 := (w.2.2.2.2.2.2.2).isLt
              refine v_cald (z := nI (w.1 (w.2.2.2.2.2.2.2.val)).val) hX 1 rfl (vp_in_nI (by omega : w.2.2.2.2.2.2.2.val < 80) (by omega)) (by simp only [nI_clamp (show w.2.2.2.2.2.2.2.val < 2 ^ 31 by omega)]) dX4_takeNumber_51 ?_
              have hb18 := (w.1 (w.2.2.2.2.2.2.2.val)).isLt
              refine v_iadd (z := nI ((10 * k) + ((w.1 (w.2.2.2.2.2.2.2.val)).val))) hX dX4_takeNumber_52 (nI_add (10 * k) ((w.1 (w.2.2.2.2.2.2.2.val)).val)) ?_
              refine v_bipush (x := (48 : Int32)) hX dX4_takeNumber_53 (by decide) ?_
              refine v_isub (z := nI (((10 * k) + ((w.1 (w.2.2.2.2.2.2.2.val)).val)) - 48)) hX dX4_takeNumber_55 (pk_sub (a := (10 * k) + ((w.1 (w.2.2.2.2.2.2.2.val)).val)) (b := 48) (by omega)) ?_
              refine v_istore (lv' := [.ref (a 0), .int (nI (h)), .int (nI (k)), .int (nI (v.2.2.2.2.2.2.2.val)), .int (nI (((10 * k) + ((w.1 (w.2.2.2.2.2.2.2.val)).val)) - 48))]) hX dX4_takeNumber_56 (Nat.le_of_ble_eq_true rfl) (Nat.le_of_ble_eq_true rfl) rfl rfl ?_
              refine v_iload hX dX4_takeNumber_58 rfl ?_
              refine v_iload_n hX dX4_takeNumber_60 rfl ?_
              refine v_icmp_le (tgt := 67) hX dX4_takeNumber_61 (by decide) (fun c19 => ?_) (fun c19 => ?_)
              · replace c19 := (nI_leI (a := ((10 * k) + ((w.1 (w.2.2.2.2.2.2.2.val)).val)) - 48) (b := h) (by omega) (by omega)).mp c19
                replace c19 := Nat.not_lt.mpr c19
                refine v_iload hX dX4_takeNumber_67 rfl ?_
                refine v_istore_n (lv' := [.ref (a 0), .int (nI (h)), .int (nI (((10 * k) + ((w.1 (w.2.2.2.2.2.2.2.val)).val)) - 48)), .int (nI (v.2.2.2.2.2.2.2.val)), .int (nI (((10 * k) + ((w.1 (w.2.2.2.2.2.2.2.val)).val)) - 48))]) hX dX4_takeNumber_69 (Nat.le_of_ble_eq_true rfl) (Nat.le_of_ble_eq_true rfl) rfl rfl ?_
                refine v_aload_n hX dX4_takeNumber_70 rfl ?_
                refine v_dup hX dX4_takeNumber_71 rfl ?_
                refine v_get (C := RX4) (T := TX4) (N := 8) (ci := 4) (v := .int (nI (w.2.2.2.2.2.2.2.val))) hX in_X4 0 rfl rfl 7 (by decide) fl_32 rfl rfl dX4_takeNumber_72 ?_
                have hb20 := (w.2.2.2.2.2.2.2).isLt
                refine v_iconst (x := (1 : Int32)) hX dX4_takeNumber_75 (by decide) ?_
                refine v_iadd (z := nI (w.2.2.2.2.2.2.2.val + 1)) hX dX4_takeNumber_76 (nI_add w.2.2.2.2.2.2.2.val 1) ?_
                obtain ⟨v21, hv21⟩ : ∃ z_ : PV, z_ = P_setAt w (w.2.2.2.2.2.2.2.val + 1) := ⟨_, rfl⟩
                refine v_put (C := RX4) (T := TX4) (N := 8) (ci := 4) (v := .int (nI (w.2.2.2.2.2.2.2.val + 1))) (ty := .int) (ws' := wP E a v21) hX in_X4 tyX4 tyX4_ok nmX4 0 rfl rfl 7 (by decide) fl_32 rfl rfl (by decide +kernel) (rfl) (rfl) (Nat.le_of_ble_eq_true rfl) dX4_takeNumber_77 (by rw [hv21]; exact sP_At E a w (x := w.2.2.2.2.2.2.2.val + 1) (by omega)) ?_
                refine v_goto (tgt := 7) hX dX4_takeNumber_80 (by decide) ?_
                exact v_fewer 4 rfl (ih (((10 * k) + ((w.1 (w.2.2.2.2.2.2.2.val)).val)) - 48) v21 (by rw [hv21, P_at_at w (by omega : w.2.2.2.2.2.2.2.val + 1 < 81), P_at_len]; omega) (by rw [hv21, ← inv1]; exact (wh_go (c := P_numC h v.2.2.2.2.2.2.2.val) P_numS (x := (k, w)) (by simp only [P_numC, c8, c9, c16t, c19, Bool.and_true, Bool.and_false, Bool.true_and, Bool.false_and, Bool.or_true, Bool.true_or, Bool.or_false, decide_true, decide_false, Bool.not_true, Bool.not_false]) fu).symm) (by omega))
              · replace c19 := (not_congr (nI_leI (a := ((10 * k) + ((w.1 (w.2.2.2.2.2.2.2.val)).val)) - 48) (b := h) (by omega) (by omega))).mp c19
                replace c19 := Nat.not_le.mp c19
                refine v_goto (tgt := 83) hX dX4_takeNumber_64 (by decide) ?_
                refine v_iload_n hX dX4_takeNumber_83 rfl ?_
                exact v_iret hX hr hsz dX4_takeNumber_84 rfl rfl (by (have hx : P_num v h = (k, w) := inv1.symm.trans (wh_stop _ (by simp only [P_numC, c8, c9, c16t, c19, Bool.and_true, Bool.and_false, Bool.true_and, Bool.false_and, Bool.or_true, Bool.true_or, Bool.or_false, decide_true, decide_false, Bool.not_true, Bool.not_false]) _); rw [hx])) (by (have hx : P_num v h = (k, w) := inv1.symm.trans (wh_stop _ (by simp only [P_numC, c8, c9, c16t, c19, Bool.and_true, Bool.and_false, Bool.true_and, Bool.false_and, Bool.or_true, Bool.true_or, Bool.or_false, decide_true, decide_false, Bool.not_true, Bool.not_false]) _); rw [hx]))
  exact loop_7 81 0 _ (by omega) rfl (Nat.zero_le _)
set_option maxHeartbeats 4000000 in
set_option maxRecDepth 100000 in
theorem c_X4_takesLineAndValue (l : Launch) (E : ET) (a : Nat → Nat) (sz : Nat) (v : PV) (no : Nat) (hno : no < 27) : Met l yX4_takesLineAndValue wsX4_takesLineAndValue ({ frames := 2, cells := 0, slots := 0, locals := 45 }) (mPc E [.ref (a 0), .int (nI (no))] sz (wP E a v)) (mQi E (bI ((P_lv v no).1)) (wP E a v) (wP E a ((P_lv v no).2)) sz) 0 0 (va_A (wP E a v) sz) := by
  refine v_start (cc := cX4_takesLineAndValue) (maxL := 2) (ret := (some .boolean)) (by decide) rfl (Nat.le_of_ble_eq_true rfl) rfl ?_
  intro p e s m args below meth c hsz hr hX
  have hX : Xc p s m args meth c E 2 (va_A (wP E a v) sz) cX4_takesLineAndValue RX4 wsX4_takesLineAndValue := hX
  have in_X4 : ∀ w ∈ u_ws RX4 TX4 8, w ∈ wsX4_takesLineAndValue := by decide +kernel
  have fl_22 : Cond.fieldLink RX4 22 RX4 "linesOf" "[I" ∈ wsX4_takesLineAndValue := by decide +kernel
  have fl_15 : Cond.fieldLink RX4 15 RX4 "kinds" "[C" ∈ wsX4_takesLineAndValue := by decide +kernel
  have fl_25 : Cond.fieldLink RX4 25 RX4 "valuesOf" "[I" ∈ wsX4_takesLineAndValue := by decide +kernel
  refine v_aload_n hX dX4_takesLineAndValue_0 rfl ?_
  refine v_bipush (x := (46 : Int32)) hX dX4_takesLineAndValue_1 (by decide) ?_
  obtain ⟨v1, hv1⟩ : ∃ z_ : PV, z_ = P_takes v 46 := ⟨_, rfl⟩
  refine v_callVi (r := bI (P_takesB v 46)) (rest := []) (ws' := wP E a v1) hX (fun sz => c_X4_takes l E a sz v 46 (by first | omega | exact Nat.le_of_ble_eq_true rfl)) (cwV 1 hX.2.2.2.2.1 gX4_takesLineAndValue_X4_takes rfl rfl rfl (by decide +kernel) ⟨Nat.le_of_ble_eq_true rfl, Nat.le_of_ble_eq_true rfl⟩) ([]) ([]) ((List.append_nil _).symm) (by rw [hv1]; exact List.append_nil _) (wP_fst E a _ _) (ci := 4) (q0 := 0) rfl rfl rfl rfl rfl (Nat.le_of_ble_eq_true rfl) dX4_takesLineAndValue_3 ?_
  refine v_if_eq (tgt := 18) hX dX4_takesLineAndValue_6 (by decide) (fun c2 => ?_) (fun c2 => ?_)
  · replace c2 := bI_0.mp c2
    refine v_iconst (x := (0 : Int32)) hX dX4_takesLineAndValue_18 (by decide) ?_
    exact v_zret hX hr hsz dX4_takesLineAndValue_19 rfl rfl (bI_narrow (false)) (congrArg bI (by (subst hv1; first | rfl | (simp only [P_lv, c2, if_true, if_false, reduceIte, Bool.false_eq_true, reduceCtorEq, decide_true, decide_false, Bool.and_true, Bool.and_false, Bool.true_and, Bool.false_and, Bool.or_true, Bool.or_false, Bool.true_or, Bool.false_or, not_true_eq_false, not_false_eq_true, Bool.not_true, Bool.not_false, eq_self, Nat.reduceEqDiff]; done) | (simp only [P_lv, c2, if_true, if_false, reduceIte, Bool.false_eq_true, reduceCtorEq, decide_true, decide_false, Bool.and_true, Bool.and_false, Bool.true_and, Bool.false_and, Bool.or_true, Bool.or_false, Bool.true_or, Bool.false_or, not_true_eq_false, not_false_eq_true, Bool.not_true, Bool.not_false, eq_self, Nat.reduceEqDiff]; rfl) | contradiction | (exfalso; omega)) : false = (P_lv v no).1)) (by (subst hv1; first | rfl | (simp only [P_lv, c2, if_true, if_false, reduceIte, Bool.false_eq_true, reduceCtorEq, decide_true, decide_false, Bool.and_true, Bool.and_false, Bool.true_and, Bool.false_and, Bool.or_true, Bool.or_false, Bool.true_or, Bool.false_or, not_true_eq_false, not_false_eq_true, Bool.not_true, Bool.not_false, eq_self, Nat.reduceEqDiff]; done) | (simp only [P_lv, c2, if_true, if_false, reduceIte, Bool.false_eq_true, reduceCtorEq, decide_true, decide_false, Bool.and_true, Bool.and_false, Bool.true_and, Bool.false_and, Bool.or_true, Bool.or_false, Bool.true_or, Bool.false_or, not_true_eq_false, not_false_eq_true, Bool.not_true, Bool.not_false, eq_self, Nat.reduceEqDiff]; rfl) | contradiction | (exfalso; omega)))
  · replace c2 := bI_n0.mp c2
    refine v_aload_n hX dX4_takesLineAndValue_9 rfl ?_
    refine v_bipush (x := (9 : Int32)) hX dX4_takesLineAndValue_10 (by decide) ?_
    refine v_callVi (r := bI (P_dig v1 9)) (rest := []) (ws' := wP E a v1) hX (fun sz => c_X4_isDigitUpTo l E a sz v1 9 (by first | omega | exact Nat.le_of_ble_eq_true rfl)) (cwV 1 hX.2.2.2.2.1 gX4_takesLineAndValue_X4_isDigitUpTo rfl rfl rfl (by decide +kernel) ⟨Nat.le_of_ble_eq_true rfl, Nat.le_of_ble_eq_true rfl⟩) ([]) ([]) ((List.append_nil _).symm) ((List.append_nil _).symm).symm (wP_fst E a _ _) (ci := 4) (q0 := 0) rfl rfl rfl rfl rfl (Nat.le_of_ble_eq_true rfl) dX4_takesLineAndValue_12 ?_
    refine v_if_ne (tgt := 20) hX dX4_takesLineAndValue_15 (by decide) (fun c3 => ?_) (fun c3 => ?_)
    · replace c3 := bI_n0.mp c3
      refine v_aload_n hX dX4_takesLineAndValue_20 rfl ?_
      refine v_get (C := RX4) (T := TX4) (N := 8) (ci := 4) (v := .ref (a 4)) hX in_X4 0 rfl rfl 3 (by decide) fl_22 rfl rfl dX4_takesLineAndValue_21 ?_
      refine v_iload_n hX dX4_takesLineAndValue_24 rfl ?_
      refine v_aload_n hX dX4_takesLineAndValue_25 rfl ?_
      refine v_sipush (x := (255 : Int32)) hX dX4_takesLineAndValue_26 (by decide) ?_
      obtain ⟨v4, hv4⟩ : ∃ z_ : PV, z_ = (P_num v1 255).2 := ⟨_, rfl⟩
      refine v_callVi (r := nI ((P_num v1 255).1)) (rest := [.int (nI (no)), .ref (a 4)]) (ws' := wP E a v4) hX (fun sz => c_X4_takeNumber l E a sz v1 255 (by first | omega | exact Nat.le_of_ble_eq_true rfl)) (cwV 1 hX.2.2.2.2.1 gX4_takesLineAndValue_X4_takeNumber rfl rfl rfl (by decide +kernel) ⟨Nat.le_of_ble_eq_true rfl, Nat.le_of_ble_eq_true rfl⟩) ([]) ([]) ((List.append_nil _).symm) (by rw [hv4]; exact List.append_nil _) (wP_fst E a _ _) (ci := 4) (q0 := 0) rfl rfl rfl rfl rfl (Nat.le_of_ble_eq_true rfl) dX4_takesLineAndValue_29 ?_
      obtain ⟨v5, hv5⟩ : ∃ z_ : PV, z_ = P_setLine v4 (no) ((P_num v1 255).1) := ⟨_, rfl⟩
      refine v_iast (ws' := wP E a v5) hX 4 rfl (vp_in_nI (by omega : no < 27) (by omega)) (by rw [hv5]; exact sP_Line E a v4 (k := no) (by omega) (x := (P_num v1 255).1) (Nat.lt_of_le_of_lt (P_num_le _ _) (by decide))) dX4_takesLineAndValue_32 ?_
      refine v_aload_n hX dX4_takesLineAndValue_33 rfl ?_
      refine v_get (C := RX4) (T := TX4) (N := 8) (ci := 4) (v := .ref (a 2)) hX in_X4 0 rfl rfl 1 (by decide) fl_15 rfl rfl dX4_takesLineAndValue_34 ?_
      refine v_iload_n hX dX4_takesLineAndValue_37 rfl ?_
      refine v_cald (z := nI (v5.2.1 (no)).val) hX 2 rfl (vp_in_nI (by omega : no < 27) (by omega)) (by simp only [nI_clamp (show no < 2 ^ 31 by omega)]) dX4_takesLineAndValue_38 ?_
      have hb6 := (v5.2.1 (no)).isLt
      refine v_bipush (x := (119 : Int32)) hX dX4_takesLineAndValue_39 (by decide) ?_
      refine v_icmp_eq (tgt := 46) hX dX4_takesLineAndValue_41 (by decide) (fun c7 => ?_) (fun c7 => ?_)
      · replace c7 := (nI_eq (a := (v5.2.1 (no)).val) (b := 119) (by omega) (by omega)).mp c7
        have c7t := eq_true c7
        refine v_aload_n hX dX4_takesLineAndValue_46 rfl ?_
        refine v_bipush (x := (61 : Int32)) hX dX4_takesLineAndValue_47 (by decide) ?_
        obtain ⟨v8, hv8⟩ : ∃ z_ : PV, z_ = P_takes v5 61 := ⟨_, rfl⟩
        refine v_callVi (r := bI (P_takesB v5 61)) (rest := []) (ws' := wP E a v8) hX (fun sz => c_X4_takes l E a sz v5 61 (by first | omega | exact Nat.le_of_ble_eq_true rfl)) (cwV 1 hX.2.2.2.2.1 gX4_takesLineAndValue_X4_takes rfl rfl rfl (by decide +kernel) ⟨Nat.le_of_ble_eq_true rfl, Nat.le_of_ble_eq_true rfl⟩) ([]) ([]) ((List.append_nil _).symm) (by rw [hv8]; exact List.append_nil _) (wP_fst E a _ _) (ci := 4) (q0 := 0) rfl rfl rfl rfl rfl (Nat.le_of_ble_eq_true rfl) dX4_takesLineAndValue_49 ?_
        refine v_if_eq (tgt := 64) hX dX4_takesLineAndValue_52 (by decide) (fun c9 => ?_) (fun c9 => ?_)
        · replace c9 := bI_0.mp c9
          refine v_iconst (x := (0 : Int32)) hX dX4_takesLineAndValue_64 (by decide) ?_
          exact v_zret hX hr hsz dX4_takesLineAndValue_65 rfl rfl (bI_narrow (false)) (congrArg bI (by (subst hv8; subst hv5; subst hv4; subst hv1; first | rfl | (simp only [P_lv, c2, c3, c7t, c9, if_true, if_false, reduceIte, Bool.false_eq_true, reduceCtorEq, decide_true, decide_false, Bool.and_true, Bool.and_false, Bool.true_and, Bool.false_and, Bool.or_true, Bool.or_false, Bool.true_or, Bool.false_or, not_true_eq_false, not_false_eq_true, Bool.not_true, Bool.not_false, eq_self, Nat.reduceEqDiff]; done) | (simp only [P_lv, c2, c3, c7t, c9, if_true, if_false, reduceIte, Bool.false_eq_true, reduceCtorEq, decide_true, decide_false, Bool.and_true, Bool.and_false, Bool.true_and, Bool.false_and, Bool.or_true, Bool.or_false, Bool.true_or, Bool.false_or, not_true_eq_false, not_false_eq_true, Bool.not_true, Bool.not_false, eq_self, Nat.reduceEqDiff]; rfl) | contradiction | (exfalso; omega)) : false = (P_lv v no).1)) (by (subst hv8; subst hv5; subst hv4; subst hv1; first | rfl | (simp only [P_lv, c2, c3, c7t, c9, if_true, if_false, reduceIte, Bool.false_eq_true, reduceCtorEq, decide_true, decide_false, Bool.and_true, Bool.and_false, Bool.true_and, Bool.false_and, Bool.or_true, Bool.or_false, Bool.true_or, Bool.false_or, not_true_eq_false, not_false_eq_true, Bool.not_true, Bool.not_false, eq_self, Nat.reduceEqDiff]; done) | (simp only [P_lv, c2, c3, c7t, c9, if_true, if_false, reduceIte, Bool.false_eq_true, reduceCtorEq, decide_true, decide_false, Bool.and_true, Bool.and_false, Bool.true_and, Bool.false_and, Bool.or_true, Bool.or_false, Bool.true_or, Bool.false_or, not_true_eq_false, not_false_eq_true, Bool.not_true, Bool.not_false, eq_self, Nat.reduceEqDiff]; rfl) | contradiction | (exfalso; omega)))
        · replace c9 := bI_n0.mp c9
          refine v_aload_n hX dX4_takesLineAndValue_55 rfl ?_
          refine v_bipush (x := (9 : Int32)) hX dX4_takesLineAndValue_56 (by decide) ?_
          refine v_callVi (r := bI (P_dig v8 9)) (rest := []) (ws' := wP E a v8) hX (fun sz => c_X4_isDigitUpTo l E a sz v8 9 (by first | omega | exact Nat.le_of_ble_eq_true rfl)) (cwV 1 hX.2.2.2.2.1 gX4_takesLineAndValue_X4_isDigitUpTo rfl rfl rfl (by decide +kernel) ⟨Nat.le_of_ble_eq_true rfl, Nat.le_of_ble_eq_true rfl⟩) ([]) ([]) ((List.append_nil _).symm) ((List.append_nil _).symm).symm (wP_fst E a _ _) (ci := 4) (q0 := 0) rfl rfl rfl rfl rfl (Nat.le_of_ble_eq_true rfl) dX4_takesLineAndValue_58 ?_
          refine v_if_ne (tgt := 66) hX dX4_takesLineAndValue_61 (by decide) (fun c10 => ?_) (fun c10 => ?_)
          · replace c10 := bI_n0.mp c10
            refine v_aload_n hX dX4_takesLineAndValue_66 rfl ?_
            refine v_get (C := RX4) (T := TX4) (N := 8) (ci := 4) (v := .ref (a 5)) hX in_X4 0 rfl rfl 4 (by decide) fl_25 rfl rfl dX4_takesLineAndValue_67 ?_
            refine v_iload_n hX dX4_takesLineAndValue_70 rfl ?_
            refine v_aload_n hX dX4_takesLineAndValue_71 rfl ?_
            refine v_sipush (x := (9999 : Int32)) hX dX4_takesLineAndValue_72 (by decide) ?_
            obtain ⟨v11, hv11⟩ : ∃ z_ : PV, z_ = (P_num v8 9999).2 := ⟨_, rfl⟩
            refine v_callVi (r := nI ((P_num v8 9999).1)) (rest := [.int (nI (no)), .ref (a 5)]) (ws' := wP E a v11) hX (fun sz => c_X4_takeNumber l E a sz v8 9999 (by first | omega | exact Nat.le_of_ble_eq_true rfl)) (cwV 1 hX.2.2.2.2.1 gX4_takesLineAndValue_X4_takeNumber rfl rfl rfl (by decide +kernel) ⟨Nat.le_of_ble_eq_true rfl, Nat.le_of_ble_eq_true rfl⟩) ([]) ([]) ((List.append_nil _).symm) (by rw [hv11]; exact List.append_nil _) (wP_fst E a _ _) (ci := 4) (q0 := 0) rfl rfl rfl rfl rfl (Nat.le_of_ble_eq_true rfl) dX4_takesLineAndValue_75 ?_
            obtain ⟨v12, hv12⟩ : ∃ z_ : PV, z_ = P_setVal v11 (no) (nI ((P_num v8 9999).1)) := ⟨_, rfl⟩
            refine v_iast (ws' := wP E a v12) hX 5 rfl (vp_in_nI (by omega : no < 27) (by omega)) (by rw [hv12]; exact sP_val E a v11 (k := no) (by omega) _) dX4_takesLineAndValue_78 ?_
            refine v_iconst (x := (1 : Int32)) hX dX4_takesLineAndValue_79 (by decide) ?_
            exact v_zret hX hr hsz dX4_takesLineAndValue_80 rfl rfl (bI_narrow (true)) (congrArg bI (by (subst hv12; subst hv11; subst hv8; subst hv5; subst hv4; subst hv1; first | rfl | (simp only [P_lv, c2, c3, c7t, c9, c10, if_true, if_false, reduceIte, Bool.false_eq_true, reduceCtorEq, decide_true, decide_false, Bool.and_true, Bool.and_false, Bool.true_and, Bool.false_and, Bool.or_true, Bool.or_false, Bool.true_or, Bool.false_or, not_true_eq_false, not_false_eq_true, Bool.not_true, Bool.not_false, eq_self, Nat.reduceEqDiff]; done) | (simp only [P_lv, c2, c3, c7t, c9, c10, if_true, if_false, reduceIte, Bool.false_eq_true, reduceCtorEq, decide_true, decide_false, Bool.and_true, Bool.and_false, Bool.true_and, Bool.false_and, Bool.or_true, Bool.or_false, Bool.true_or, Bool.false_or, not_true_eq_false, not_false_eq_true, Bool.not_true, Bool.not_false, eq_self, Nat.reduceEqDiff]; rfl) | contradiction | (exfalso; omega)) : true = (P_lv v no).1)) (by (subst hv12; subst hv11; subst hv8; subst hv5; subst hv4; subst hv1; first | rfl | (simp only [P_lv, c2, c3, c7t, c9, c10, if_true, if_false, reduceIte, Bool.false_eq_true, reduceCtorEq, decide_true, decide_false, Bool.and_true, Bool.and_false, Bool.true_and, Bool.false_and, Bool.or_true, Bool.or_false, Bool.true_or, Bool.false_or, not_true_eq_false, not_false_eq_true, Bool.not_true, Bool.not_false, eq_self, Nat.reduceEqDiff]; done) | (simp only [P_lv, c2, c3, c7t, c9, c10, if_true, if_false, reduceIte, Bool.false_eq_true, reduceCtorEq, decide_true, decide_false, Bool.and_true, Bool.and_false, Bool.true_and, Bool.false_and, Bool.or_true, Bool.or_false, Bool.true_or, Bool.false_or, not_true_eq_false, not_false_eq_true, Bool.not_true, Bool.not_false, eq_self, Nat.reduceEqDiff]; rfl) | contradiction | (exfalso; omega)))
          · replace c10 := bI_0.mp c10
            refine v_iconst (x := (0 : Int32)) hX dX4_takesLineAndValue_64 (by decide) ?_
            exact v_zret hX hr hsz dX4_takesLineAndValue_65 rfl rfl (bI_narrow (false)) (congrArg bI (by (subst hv8; subst hv5; subst hv4; subst hv1; first | rfl | (simp only [P_lv, c2, c3, c7t, c9, c10, if_true, if_false, reduceIte, Bool.false_eq_true, reduceCtorEq, decide_true, decide_false, Bool.and_true, Bool.and_false, Bool.true_and, Bool.false_and, Bool.or_true, Bool.or_false, Bool.true_or, Bool.false_or, not_true_eq_false, not_false_eq_true, Bool.not_true, Bool.not_false, eq_self, Nat.reduceEqDiff]; done) | (simp only [P_lv, c2, c3, c7t, c9, c10, if_true, if_false, reduceIte, Bool.false_eq_true, reduceCtorEq, decide_true, decide_false, Bool.and_true, Bool.and_false, Bool.true_and, Bool.false_and, Bool.or_true, Bool.or_false, Bool.true_or, Bool.false_or, not_true_eq_false, not_false_eq_true, Bool.not_true, Bool.not_false, eq_self, Nat.reduceEqDiff]; rfl) | contradiction | (exfalso; omega)) : false = (P_lv v no).1)) (by (subst hv8; subst hv5; subst hv4; subst hv1; first | rfl | (simp only [P_lv, c2, c3, c7t, c9, c10, if_true, if_false, reduceIte, Bool.false_eq_true, reduceCtorEq, decide_true, decide_false, Bool.and_true, Bool.and_false, Bool.true_and, Bool.false_and, Bool.or_true, Bool.or_false, Bool.true_or, Bool.false_or, not_true_eq_false, not_false_eq_true, Bool.not_true, Bool.not_false, eq_self, Nat.reduceEqDiff]; done) | (simp only [P_lv, c2, c3, c7t, c9, c10, if_true, if_false, reduceIte, Bool.false_eq_true, reduceCtorEq, decide_true, decide_false, Bool.and_true, Bool.and_false, Bool.true_and, Bool.false_and, Bool.or_true, Bool.or_false, Bool.true_or, Bool.false_or, not_true_eq_false, not_false_eq_true, Bool.not_true, Bool.not_false, eq_self, Nat.reduceEqDiff]; rfl) | contradiction | (exfalso; omega)))
      · replace c7 := (not_congr (nI_eq (a := (v5.2.1 (no)).val) (b := 119) (by omega) (by omega))).mp c7
        refine v_iconst (x := (1 : Int32)) hX dX4_takesLineAndValue_44 (by decide) ?_
        exact v_zret hX hr hsz dX4_takesLineAndValue_45 rfl rfl (bI_narrow (true)) (congrArg bI (by (subst hv5; subst hv4; subst hv1; first | rfl | (simp only [P_lv, c2, c3, c7, if_true, if_false, reduceIte, Bool.false_eq_true, reduceCtorEq, decide_true, decide_false, Bool.and_true, Bool.and_false, Bool.true_and, Bool.false_and, Bool.or_true, Bool.or_false, Bool.true_or, Bool.false_or, not_true_eq_false, not_false_eq_true, Bool.not_true, Bool.not_false, eq_self, Nat.reduceEqDiff]; done) | (simp only [P_lv, c2, c3, c7, if_true, if_false, reduceIte, Bool.false_eq_true, reduceCtorEq, decide_true, decide_false, Bool.and_true, Bool.and_false, Bool.true_and, Bool.false_and, Bool.or_true, Bool.or_false, Bool.true_or, Bool.false_or, not_true_eq_false, not_false_eq_true, Bool.not_true, Bool.not_false, eq_self, Nat.reduceEqDiff]; rfl) | contradiction | (exfalso; omega)) : true = (P_lv v no).1)) (by (subst hv5; subst hv4; subst hv1; first | rfl | (simp only [P_lv, c2, c3, c7, if_true, if_false, reduceIte, Bool.false_eq_true, reduceCtorEq, decide_true, decide_false, Bool.and_true, Bool.and_false, Bool.true_and, Bool.false_and, Bool.or_true, Bool.or_false, Bool.true_or, Bool.false_or, not_true_eq_false, not_false_eq_true, Bool.not_true, Bool.not_false, eq_self, Nat.reduceEqDiff]; done) | (simp only [P_lv, c2, c3, c7, if_true, if_false, reduceIte, Bool.false_eq_true, reduceCtorEq, decide_true, decide_false, Bool.and_true, Bool.and_false, Bool.true_and, Bool.false_and, Bool.or_true, Bool.or_false, Bool.true_or, Bool.false_or, not_true_eq_false, not_false_eq_true, Bool.not_true, Bool.not_false, eq_self, Nat.reduceEqDiff]; rfl) | contradiction | (exfalso; omega)))
    · replace c3 := bI_0.mp c3
      refine v_iconst (x := (0 : Int32)) hX dX4_takesLineAndValue_18 (by decide) ?_
      exact v_zret hX hr hsz dX4_takesLineAndValue_19 rfl rfl (bI_narrow (false)) (congrArg bI (by (subst hv1; first | rfl | (simp only [P_lv, c2, c3, if_true, if_false, reduceIte, Bool.false_eq_true, reduceCtorEq, decide_true, decide_false, Bool.and_true, Bool.and_false, Bool.true_and, Bool.false_and, Bool.or_true, Bool.or_false, Bool.true_or, Bool.false_or, not_true_eq_false, not_false_eq_true, Bool.not_true, Bool.not_false, eq_self, Nat.reduceEqDiff]; done) | (simp only [P_lv, c2, c3, if_true, if_false, reduceIte, Bool.false_eq_true, reduceCtorEq, decide_true, decide_false, Bool.and_true, Bool.and_false, Bool.true_and, Bool.false_and, Bool.or_true, Bool.or_false, Bool.true_or, Bool.false_or, not_true_eq_false, not_false_eq_true, Bool.not_true, Bool.not_false, eq_self, Nat.reduceEqDiff]; rfl) | contradiction | (exfalso; omega)) : false = (P_lv v no).1)) (by (subst hv1; first | rfl | (simp only [P_lv, c2, c3, if_true, if_false, reduceIte, Bool.false_eq_true, reduceCtorEq, decide_true, decide_false, Bool.and_true, Bool.and_false, Bool.true_and, Bool.false_and, Bool.or_true, Bool.or_false, Bool.true_or, Bool.false_or, not_true_eq_false, not_false_eq_true, Bool.not_true, Bool.not_false, eq_self, Nat.reduceEqDiff]; done) | (simp only [P_lv, c2, c3, if_true, if_false, reduceIte, Bool.false_eq_true, reduceCtorEq, decide_true, decide_false, Bool.and_true, Bool.and_false, Bool.true_and, Bool.false_and, Bool.or_true, Bool.or_false, Bool.true_or, Bool.false_or, not_true_eq_false, not_false_eq_true, Bool.not_true, Bool.not_false, eq_self, Nat.reduceEqDiff]; rfl) | contradiction | (exfalso; omega)))
set_option maxHeartbeats 4000000 in
set_option maxRecDepth 100000 in
theorem c_X4_takesCommand (l : Launch) (E : ET) (a : Nat → Nat) (sz : Nat) (v : PV) (no : Nat) (hno : no < 27) : Met l yX4_takesCommand wsX4_takesCommand ({ frames := 3, cells := 0, slots := 0, locals := 66 }) (mPc E [.ref (a 0), .int (nI (no))] sz (wP E a v)) (mQi E (bI ((P_cmd v no).1)) (wP E a v) (wP E a ((P_cmd v no).2)) sz) 0 0 (va_A (wP E a v) sz) := by
  refine v_start (cc := cX4_takesCommand) (maxL := 3) (ret := (some .boolean)) (by decide) rfl (Nat.le_of_ble_eq_true rfl) rfl ?_
  intro p e s m args below meth c hsz hr hX
  have hX : Xc p s m args meth c E 3 (va_A (wP E a v) sz) cX4_takesCommand RX4 wsX4_takesCommand := hX
  have in_X4 : ∀ w ∈ u_ws RX4 TX4 8, w ∈ wsX4_takesCommand := by decide +kernel
  have fl_32 : Cond.fieldLink RX4 32 RX4 "at" "I" ∈ wsX4_takesCommand := by decide +kernel
  have fl_28 : Cond.fieldLink RX4 28 RX4 "length" "I" ∈ wsX4_takesCommand := by decide +kernel
  have fl_9 : Cond.fieldLink RX4 9 RX4 "text" "[C" ∈ wsX4_takesCommand := by decide +kernel
  have fl_15 : Cond.fieldLink RX4 15 RX4 "kinds" "[C" ∈ wsX4_takesCommand := by decide +kernel
  have fl_18 : Cond.fieldLink RX4 18 RX4 "coresOf" "[I" ∈ wsX4_takesCommand := by decide +kernel
  refine v_aload_n hX dX4_takesCommand_0 rfl ?_
  refine v_get (C := RX4) (T := TX4) (N := 8) (ci := 4) (v := .int (nI (v.2.2.2.2.2.2.2.val))) hX in_X4 0 rfl rfl 7 (by decide) fl_32 rfl rfl dX4_takesCommand_1 ?_
  have hb1 := (v.2.2.2.2.2.2.2).isLt
  refine v_aload_n hX dX4_takesCommand_4 rfl ?_
  refine v_get (C := RX4) (T := TX4) (N := 8) (ci := 4) (v := .int (nI (v.2.2.2.2.2.1.val))) hX in_X4 0 rfl rfl 5 (by decide) fl_28 rfl rfl dX4_takesCommand_5 ?_
  have hb2 := (v.2.2.2.2.2.1).isLt
  refine v_icmp_ge (tgt := 23) hX dX4_takesCommand_8 (by decide) (fun c3 => ?_) (fun c3 => ?_)
  · replace c3 := (nI_leI (a := v.2.2.2.2.2.1.val) (b := v.2.2.2.2.2.2.2.val) (by omega) (by omega)).mp c3
    refine v_bipush (x := (59 : Int32)) hX dX4_takesCommand_23 (by decide) ?_
    refine v_istore_n (lv' := [.ref (a 0), .int (nI (no)), .int ((59 : Int32))]) hX dX4_takesCommand_25 (Nat.le_of_ble_eq_true rfl) (Nat.le_of_ble_eq_true rfl) rfl rfl ?_
    refine v_iload_n hX dX4_takesCommand_26 rfl ?_
    refine v_bipush (x := (114 : Int32)) hX dX4_takesCommand_27 (by decide) ?_
    refine v_icmp_eq (tgt := 52) hX dX4_takesCommand_29 (by decide) (fun c4 => ?_) (fun c4 => ?_)
    · replace c4 := (nI_eq (a := 59) (b := 114) (by omega) (by omega)).mp c4
      have c4t := eq_true c4
      exfalso; omega
    · replace c4 := (not_congr (nI_eq (a := 59) (b := 114) (by omega) (by omega))).mp c4
      refine v_iload_n hX dX4_takesCommand_32 rfl ?_
      refine v_bipush (x := (119 : Int32)) hX dX4_takesCommand_33 (by decide) ?_
      refine v_icmp_eq (tgt := 52) hX dX4_takesCommand_35 (by decide) (fun c5 => ?_) (fun c5 => ?_)
      · replace c5 := (nI_eq (a := 59) (b := 119) (by omega) (by omega)).mp c5
        have c5t := eq_true c5
        exfalso; omega
      · replace c5 := (not_congr (nI_eq (a := 59) (b := 119) (by omega) (by omega))).mp c5
        refine v_iload_n hX dX4_takesCommand_38 rfl ?_
        refine v_bipush (x := (100 : Int32)) hX dX4_takesCommand_39 (by decide) ?_
        refine v_icmp_eq (tgt := 52) hX dX4_takesCommand_41 (by decide) (fun c6 => ?_) (fun c6 => ?_)
        · replace c6 := (nI_eq (a := 59) (b := 100) (by omega) (by omega)).mp c6
          have c6t := eq_true c6
          exfalso; omega
        · replace c6 := (not_congr (nI_eq (a := 59) (b := 100) (by omega) (by omega))).mp c6
          refine v_iload_n hX dX4_takesCommand_44 rfl ?_
          refine v_bipush (x := (102 : Int32)) hX dX4_takesCommand_45 (by decide) ?_
          refine v_icmp_eq (tgt := 52) hX dX4_takesCommand_47 (by decide) (fun c7 => ?_) (fun c7 => ?_)
          · replace c7 := (nI_eq (a := 59) (b := 102) (by omega) (by omega)).mp c7
            have c7t := eq_true c7
            exfalso; omega
          · replace c7 := (not_congr (nI_eq (a := 59) (b := 102) (by omega) (by omega))).mp c7
            refine v_iconst (x := (0 : Int32)) hX dX4_takesCommand_50 (by decide) ?_
            exact v_zret hX hr hsz dX4_takesCommand_51 rfl rfl (bI_narrow (false)) (congrArg bI (by (first | rfl | (simp only [P_cmd, P_cmd2, P_kind, P_isK, c3, c4, c5, c6, c7, if_true, if_false, reduceIte, Bool.false_eq_true, reduceCtorEq, decide_true, decide_false, Bool.and_true, Bool.and_false, Bool.true_and, Bool.false_and, Bool.or_true, Bool.or_false, Bool.true_or, Bool.false_or, not_true_eq_false, not_false_eq_true, Bool.not_true, Bool.not_false, eq_self, Nat.reduceEqDiff]; done) | (simp only [P_cmd, P_cmd2, P_kind, P_isK, c3, c4, c5, c6, c7, if_true, if_false, reduceIte, Bool.false_eq_true, reduceCtorEq, decide_true, decide_false, Bool.and_true, Bool.and_false, Bool.true_and, Bool.false_and, Bool.or_true, Bool.or_false, Bool.true_or, Bool.false_or, not_true_eq_false, not_false_eq_true, Bool.not_true, Bool.not_false, eq_self, Nat.reduceEqDiff]; rfl) | contradiction | (exfalso; omega)) : false = (P_cmd v no).1)) (by (first | rfl | (simp only [P_cmd, P_cmd2, P_kind, P_isK, c3, c4, c5, c6, c7, if_true, if_false, reduceIte, Bool.false_eq_true, reduceCtorEq, decide_true, decide_false, Bool.and_true, Bool.and_false, Bool.true_and, Bool.false_and, Bool.or_true, Bool.or_false, Bool.true_or, Bool.false_or, not_true_eq_false, not_false_eq_true, Bool.not_true, Bool.not_false, eq_self, Nat.reduceEqDiff]; done) | (simp only [P_cmd, P_cmd2, P_kind, P_isK, c3, c4, c5, c6, c7, if_true, if_false, reduceIte, Bool.false_eq_true, reduceCtorEq, decide_true, decide_false, Bool.and_true, Bool.and_false, Bool.true_and, Bool.false_and, Bool.or_true, Bool.or_false, Bool.true_or, Bool.false_or, not_true_eq_false, not_false_eq_true, Bool.not_true, Bool.not_false, eq_self, Nat.reduceEqDiff]; rfl) | contradiction | (exfalso; omega)))
  · replace c3 := (not_congr (nI_leI (a := v.2.2.2.2.2.1.val) (b := v.2.2.2.2.2.2.2.val) (by omega) (by omega))).mp c3
    refine v_aload_n hX dX4_takesCommand_11 rfl ?_
    refine v_get (C := RX4) (T := TX4) (N := 8) (ci := 4) (v := .ref (a 1)) hX in_X4 0 rfl rfl 0 (by decide) fl_9 rfl rfl dX4_takesCommand_12 ?_
    refine v_aload_n hX dX4_takesCommand_15 rfl ?_
    refine v_get (C := RX4) (T := TX4) (N := 8) (ci := 4) (v := .int (nI (v.2.2.2.2.2.2.2.val))) hX in_X4 0 rfl rfl 7 (by decide) fl_32 rfl rfl dX4_takesCommand_16 ?_
    have hb8 := (v.2.2.2.2.2.2.2).isLt
    refine v_cald (z := nI (v.1 (v.2.2.2.2.2.2.2.val)).val) hX 1 rfl (vp_in_nI (by omega : v.2.2.2.2.2.2.2.val < 80) (by omega)) (by simp only [nI_clamp (show v.2.2.2.2.2.2.2.val < 2 ^ 31 by omega)]) dX4_takesCommand_19 ?_
    have hb9 := (v.1 (v.2.2.2.2.2.2.2.val)).isLt
    refine v_goto (tgt := 25) hX dX4_takesCommand_20 (by decide) ?_
    refine v_istore_n (lv' := [.ref (a 0), .int (nI (no)), .int (nI (v.1 (v.2.2.2.2.2.2.2.val)).val)]) hX dX4_takesCommand_25 (Nat.le_of_ble_eq_true rfl) (Nat.le_of_ble_eq_true rfl) rfl rfl ?_
    refine v_iload_n hX dX4_takesCommand_26 rfl ?_
    refine v_bipush (x := (114 : Int32)) hX dX4_takesCommand_27 (by decide) ?_
    refine v_icmp_eq (tgt := 52) hX dX4_takesCommand_29 (by decide) (fun c10 => ?_) (fun c10 => ?_)
    · replace c10 := (nI_eq (a := (v.1 (v.2.2.2.2.2.2.2.val)).val) (b := 114) (by omega) (by omega)).mp c10
      have c10t := eq_true c10
      refine v_aload_n hX dX4_takesCommand_52 rfl ?_
      refine v_dup hX dX4_takesCommand_53 rfl ?_
      refine v_get (C := RX4) (T := TX4) (N := 8) (ci := 4) (v := .int (nI (v.2.2.2.2.2.2.2.val))) hX in_X4 0 rfl rfl 7 (by decide) fl_32 rfl rfl dX4_takesCommand_54 ?_
      have hb11 := (v.2.2.2.2.2.2.2).isLt
      refine v_iconst (x := (1 : Int32)) hX dX4_takesCommand_57 (by decide) ?_
      refine v_iadd (z := nI (v.2.2.2.2.2.2.2.val + 1)) hX dX4_takesCommand_58 (nI_add v.2.2.2.2.2.2.2.val 1) ?_
      obtain ⟨v12, hv12⟩ : ∃ z_ : PV, z_ = P_setAt v (v.2.2.2.2.2.2.2.val + 1) := ⟨_, rfl⟩
      refine v_put (C := RX4) (T := TX4) (N := 8) (ci := 4) (v := .int (nI (v.2.2.2.2.2.2.2.val + 1))) (ty := .int) (ws' := wP E a v12) hX in_X4 tyX4 tyX4_ok nmX4 0 rfl rfl 7 (by decide) fl_32 rfl rfl (by decide +kernel) (rfl) (rfl) (Nat.le_of_ble_eq_true rfl) dX4_takesCommand_59 (by rw [hv12]; exact sP_At E a v (x := v.2.2.2.2.2.2.2.val + 1) (by omega)) ?_
      refine v_aload_n hX dX4_takesCommand_62 rfl ?_
      refine v_get (C := RX4) (T := TX4) (N := 8) (ci := 4) (v := .ref (a 2)) hX in_X4 0 rfl rfl 1 (by decide) fl_15 rfl rfl dX4_takesCommand_63 ?_
      refine v_iload_n hX dX4_takesCommand_66 rfl ?_
      refine v_iload_n hX dX4_takesCommand_67 rfl ?_
      obtain ⟨v13, hv13⟩ : ∃ z_ : PV, z_ = P_setKind v12 (no) ((v.1 (v.2.2.2.2.2.2.2.val)).val) := ⟨_, rfl⟩
      refine v_cast (ws' := wP E a v13) hX 2 rfl (vp_in_nI (by omega : no < 27) (by omega)) (by rw [hv13]; exact sP_Kind E a v12 (k := no) (by omega) (x := (v.1 (v.2.2.2.2.2.2.2.val)).val) (by omega : (v.1 (v.2.2.2.2.2.2.2.val)).val < 65536)) dX4_takesCommand_68 ?_
      refine v_aload_n hX dX4_takesCommand_69 rfl ?_
      refine v_iconst (x := (3 : Int32)) hX dX4_takesCommand_70 (by decide) ?_
      refine v_callVi (r := bI (P_dig v13 3)) (rest := []) (ws' := wP E a v13) hX (fun sz => c_X4_isDigitUpTo l E a sz v13 3 (by first | omega | exact Nat.le_of_ble_eq_true rfl)) (cwV 1 hX.2.2.2.2.1 gX4_takesCommand_X4_isDigitUpTo rfl rfl rfl (by decide +kernel) ⟨Nat.le_of_ble_eq_true rfl, Nat.le_of_ble_eq_true rfl⟩) ([]) ([]) ((List.append_nil _).symm) ((List.append_nil _).symm).symm (wP_fst E a _ _) (ci := 4) (q0 := 0) rfl rfl rfl rfl rfl (Nat.le_of_ble_eq_true rfl) dX4_takesCommand_71 ?_
      refine v_if_ne (tgt := 79) hX dX4_takesCommand_74 (by decide) (fun c14 => ?_) (fun c14 => ?_)
      · replace c14 := bI_n0.mp c14
        refine v_aload_n hX dX4_takesCommand_79 rfl ?_
        refine v_get (C := RX4) (T := TX4) (N := 8) (ci := 4) (v := .ref (a 3)) hX in_X4 0 rfl rfl 2 (by decide) fl_18 rfl rfl dX4_takesCommand_80 ?_
        refine v_iload_n hX dX4_takesCommand_83 rfl ?_
        refine v_aload_n hX dX4_takesCommand_84 rfl ?_
        refine v_iconst (x := (3 : Int32)) hX dX4_takesCommand_85 (by decide) ?_
        obtain ⟨v15, hv15⟩ : ∃ z_ : PV, z_ = (P_num v13 3).2 := ⟨_, rfl⟩
        refine v_callVi (r := nI ((P_num v13 3).1)) (rest := [.int (nI (no)), .ref (a 3)]) (ws' := wP E a v15) hX (fun sz => c_X4_takeNumber l E a sz v13 3 (by first | omega | exact Nat.le_of_ble_eq_true rfl)) (cwV 1 hX.2.2.2.2.1 gX4_takesCommand_X4_takeNumber rfl rfl rfl (by decide +kernel) ⟨Nat.le_of_ble_eq_true rfl, Nat.le_of_ble_eq_true rfl⟩) ([]) ([]) ((List.append_nil _).symm) (by rw [hv15]; exact List.append_nil _) (wP_fst E a _ _) (ci := 4) (q0 := 0) rfl rfl rfl rfl rfl (Nat.le_of_ble_eq_true rfl) dX4_takesCommand_86 ?_
        obtain ⟨v16, hv16⟩ : ∃ z_ : PV, z_ = P_setCore v15 (no) ((P_num v13 3).1) := ⟨_, rfl⟩
        refine v_iast (ws' := wP E a v16) hX 3 rfl (vp_in_nI (by omega : no < 27) (by omega)) (by rw [hv16]; exact sP_Core E a v15 (k := no) (by omega) (x := (P_num v13 3).1) (Nat.lt_of_le_of_lt (P_num_le _ _) (by decide))) dX4_takesCommand_89 ?_
        refine v_iload_n hX dX4_takesCommand_90 rfl ?_
        refine v_bipush (x := (102 : Int32)) hX dX4_takesCommand_91 (by decide) ?_
        refine v_icmp_eq (tgt := 104) hX dX4_takesCommand_93 (by decide) (fun c17 => ?_) (fun c17 => ?_)
        · replace c17 := (nI_eq (a := (v.1 (v.2.2.2.2.2.2.2.val)).val) (b := 102) (by omega) (by omega)).mp c17
          have c17t := eq_true c17
          refine v_iconst (x := (1 : Int32)) hX dX4_takesCommand_104 (by decide) ?_
          refine v_goto (tgt := 109) hX dX4_takesCommand_105 (by decide) ?_
          exact v_zret hX hr hsz dX4_takesCommand_109 rfl rfl (bI_narrow (true)) (congrArg bI (by (subst hv16; subst hv15; subst hv13; subst hv12; first | rfl | (simp only [P_cmd, P_cmd2, P_kind, P_isK, c3, c10t, c14, c17t, if_true, if_false, reduceIte, Bool.false_eq_true, reduceCtorEq, decide_true, decide_false, Bool.and_true, Bool.and_false, Bool.true_and, Bool.false_and, Bool.or_true, Bool.or_false, Bool.true_or, Bool.false_or, not_true_eq_false, not_false_eq_true, Bool.not_true, Bool.not_false, eq_self, Nat.reduceEqDiff]; done) | (simp only [P_cmd, P_cmd2, P_kind, P_isK, c3, c10t, c14, c17t, if_true, if_false, reduceIte, Bool.false_eq_true, reduceCtorEq, decide_true, decide_false, Bool.and_true, Bool.and_false, Bool.true_and, Bool.false_and, Bool.or_true, Bool.or_false, Bool.true_or, Bool.false_or, not_true_eq_false, not_false_eq_true, Bool.not_true, Bool.not_false, eq_self, Nat.reduceEqDiff]; rfl) | contradiction | (exfalso; omega)) : true = (P_cmd v no).1)) (by (subst hv16; subst hv15; subst hv13; subst hv12; first | rfl | (simp only [P_cmd, P_cmd2, P_kind, P_isK, c3, c10t, c14, c17t, if_true, if_false, reduceIte, Bool.false_eq_true, reduceCtorEq, decide_true, decide_false, Bool.and_true, Bool.and_false, Bool.true_and, Bool.false_and, Bool.or_true, Bool.or_false, Bool.true_or, Bool.false_or, not_true_eq_false, not_false_eq_true, Bool.not_true, Bool.not_false, eq_self, Nat.reduceEqDiff]; done) | (simp only [P_cmd, P_cmd2, P_kind, P_isK, c3, c10t, c14, c17t, if_true, if_false, reduceIte, Bool.false_eq_true, reduceCtorEq, decide_true, decide_false, Bool.and_true, Bool.and_false, Bool.true_and, Bool.false_and, Bool.or_true, Bool.or_false, Bool.true_or, Bool.false_or, not_true_eq_false, not_false_eq_true, Bool.not_true, Bool.not_false, eq_self, Nat.reduceEqDiff]; rfl) | contradiction | (exfalso; omega)))
        · replace c17 := (not_congr (nI_eq (a := (v.1 (v.2.2.2.2.2.2.2.val)).val) (b := 102) (by omega) (by omega))).mp c17
          refine v_aload_n hX dX4_takesCommand_96 rfl ?_
          refine v_iload_n hX dX4_takesCommand_97 rfl ?_
          obtain ⟨v18, hv18⟩ : ∃ z_ : PV, z_ = (P_lv v16 no).2 := ⟨_, rfl⟩
          refine v_callVi (r := bI ((P_lv v16 no).1)) (rest := []) (ws' := wP E a v18) hX (fun sz => c_X4_takesLineAndValue l E a sz v16 no (by first | omega | exact Nat.le_of_ble_eq_true rfl)) (cwV 1 hX.2.2.2.2.1 gX4_takesCommand_X4_takesLineAndValue rfl rfl rfl (by decide +kernel) ⟨Nat.le_of_ble_eq_true rfl, Nat.le_of_ble_eq_true rfl⟩) ([]) ([]) ((List.append_nil _).symm) (by rw [hv18]; exact List.append_nil _) (wP_fst E a _ _) (ci := 4) (q0 := 0) rfl rfl rfl rfl rfl (Nat.le_of_ble_eq_true rfl) dX4_takesCommand_98 ?_
          refine v_if_eq (tgt := 108) hX dX4_takesCommand_101 (by decide) (fun c19 => ?_) (fun c19 => ?_)
          · replace c19 := bI_0.mp c19
            refine v_iconst (x := (0 : Int32)) hX dX4_takesCommand_108 (by decide) ?_
            exact v_zret hX hr hsz dX4_takesCommand_109 rfl rfl (bI_narrow (false)) (congrArg bI (by (subst hv18; subst hv16; subst hv15; subst hv13; subst hv12; first | rfl | (simp only [P_cmd, P_cmd2, P_kind, P_isK, c3, c10t, c14, c17, c19, if_true, if_false, reduceIte, Bool.false_eq_true, reduceCtorEq, decide_true, decide_false, Bool.and_true, Bool.and_false, Bool.true_and, Bool.false_and, Bool.or_true, Bool.or_false, Bool.true_or, Bool.false_or, not_true_eq_false, not_false_eq_true, Bool.not_true, Bool.not_false, eq_self, Nat.reduceEqDiff]; done) | (simp only [P_cmd, P_cmd2, P_kind, P_isK, c3, c10t, c14, c17, c19, if_true, if_false, reduceIte, Bool.false_eq_true, reduceCtorEq, decide_true, decide_false, Bool.and_true, Bool.and_false, Bool.true_and, Bool.false_and, Bool.or_true, Bool.or_false, Bool.true_or, Bool.false_or, not_true_eq_false, not_false_eq_true, Bool.not_true, Bool.not_false, eq_self, Nat.reduceEqDiff]; rfl) | contradiction | (exfalso; omega)) : false = (P_cmd v no).1)) (by (subst hv18; subst hv16; subst hv15; subst hv13; subst hv12; first | rfl | (simp only [P_cmd, P_cmd2, P_kind, P_isK, c3, c10t, c14, c17, c19, if_true, if_false, reduceIte, Bool.false_eq_true, reduceCtorEq, decide_true, decide_false, Bool.and_true, Bool.and_false, Bool.true_and, Bool.false_and, Bool.or_true, Bool.or_false, Bool.true_or, Bool.false_or, not_true_eq_false, not_false_eq_true, Bool.not_true, Bool.not_false, eq_self, Nat.reduceEqDiff]; done) | (simp only [P_cmd, P_cmd2, P_kind, P_isK, c3, c10t, c14, c17, c19, if_true, if_false, reduceIte, Bool.false_eq_true, reduceCtorEq, decide_true, decide_false, Bool.and_true, Bool.and_false, Bool.true_and, Bool.false_and, Bool.or_true, Bool.or_false, Bool.true_or, Bool.false_or, not_true_eq_false, not_false_eq_true, Bool.not_true, Bool.not_false, eq_self, Nat.reduceEqDiff]; rfl) | contradiction | (exfalso; omega)))
          · replace c19 := bI_n0.mp c19
            refine v_iconst (x := (1 : Int32)) hX dX4_takesCommand_104 (by decide) ?_
            refine v_goto (tgt := 109) hX dX4_takesCommand_105 (by decide) ?_
            exact v_zret hX hr hsz dX4_takesCommand_109 rfl rfl (bI_narrow (true)) (congrArg bI (by (subst hv18; subst hv16; subst hv15; subst hv13; subst hv12; first | rfl | (simp only [P_cmd, P_cmd2, P_kind, P_isK, c3, c10t, c14, c17, c19, if_true, if_false, reduceIte, Bool.false_eq_true, reduceCtorEq, decide_true, decide_false, Bool.and_true, Bool.and_false, Bool.true_and, Bool.false_and, Bool.or_true, Bool.or_false, Bool.true_or, Bool.false_or, not_true_eq_false, not_false_eq_true, Bool.not_true, Bool.not_false, eq_self, Nat.reduceEqDiff]; done) | (simp only [P_cmd, P_cmd2, P_kind, P_isK, c3, c10t, c14, c17, c19, if_true, if_false, reduceIte, Bool.false_eq_true, reduceCtorEq, decide_true, decide_false, Bool.and_true, Bool.and_false, Bool.true_and, Bool.false_and, Bool.or_true, Bool.or_false, Bool.true_or, Bool.false_or, not_true_eq_false, not_false_eq_true, Bool.not_true, Bool.not_false, eq_self, Nat.reduceEqDiff]; rfl) | contradiction | (exfalso; omega)) : true = (P_cmd v no).1)) (by (subst hv18; subst hv16; subst hv15; subst hv13; subst hv12; first | rfl | (simp only [P_cmd, P_cmd2, P_kind, P_isK, c3, c10t, c14, c17, c19, if_true, if_false, reduceIte, Bool.false_eq_true, reduceCtorEq, decide_true, decide_false, Bool.and_true, Bool.and_false, Bool.true_and, Bool.false_and, Bool.or_true, Bool.or_false, Bool.true_or, Bool.false_or, not_true_eq_false, not_false_eq_true, Bool.not_true, Bool.not_false, eq_self, Nat.reduceEqDiff]; done) | (simp only [P_cmd, P_cmd2, P_kind, P_isK, c3, c10t, c14, c17, c19, if_true, if_false, reduceIte, Bool.false_eq_true, reduceCtorEq, decide_true, decide_false, Bool.and_true, Bool.and_false, Bool.true_and, Bool.false_and, Bool.or_true, Bool.or_false, Bool.true_or, Bool.false_or, not_true_eq_false, not_false_eq_true, Bool.not_true, Bool.not_false, eq_self, Nat.reduceEqDiff]; rfl) | contradiction | (exfalso; omega)))
      · replace c14 := bI_0.mp c14
        refine v_iconst (x := (0 : Int32)) hX dX4_takesCommand_77 (by decide) ?_
        exact v_zret hX hr hsz dX4_takesCommand_78 rfl rfl (bI_narrow (false)) (congrArg bI (by (subst hv13; subst hv12; first | rfl | (simp only [P_cmd, P_cmd2, P_kind, P_isK, c3, c10t, c14, if_true, if_false, reduceIte, Bool.false_eq_true, reduceCtorEq, decide_true, decide_false, Bool.and_true, Bool.and_false, Bool.true_and, Bool.false_and, Bool.or_true, Bool.or_false, Bool.true_or, Bool.false_or, not_true_eq_false, not_false_eq_true, Bool.not_true, Bool.not_false, eq_self, Nat.reduceEqDiff]; done) | (simp only [P_cmd, P_cmd2, P_kind, P_isK, c3, c10t, c14, if_true, if_false, reduceIte, Bool.false_eq_true, reduceCtorEq, decide_true, decide_false, Bool.and_true, Bool.and_false, Bool.true_and, Bool.false_and, Bool.or_true, Bool.or_false, Bool.true_or, Bool.false_or, not_true_eq_false, not_false_eq_true, Bool.not_true, Bool.not_false, eq_self, Nat.reduceEqDiff]; rfl) | contradiction | (exfalso; omega)) : false = (P_cmd v no).1)) (by (subst hv13; subst hv12; first | rfl | (simp only [P_cmd, P_cmd2, P_kind, P_isK, c3, c10t, c14, if_true, if_false, reduceIte, Bool.false_eq_true, reduceCtorEq, decide_true, decide_false, Bool.and_true, Bool.and_false, Bool.true_and, Bool.false_and, Bool.or_true, Bool.or_false, Bool.true_or, Bool.false_or, not_true_eq_false, not_false_eq_true, Bool.not_true, Bool.not_false, eq_self, Nat.reduceEqDiff]; done) | (simp only [P_cmd, P_cmd2, P_kind, P_isK, c3, c10t, c14, if_true, if_false, reduceIte, Bool.false_eq_true, reduceCtorEq, decide_true, decide_false, Bool.and_true, Bool.and_false, Bool.true_and, Bool.false_and, Bool.or_true, Bool.or_false, Bool.true_or, Bool.false_or, not_true_eq_false, not_false_eq_true, Bool.not_true, Bool.not_false, eq_self, Nat.reduceEqDiff]; rfl) | contradiction | (exfalso; omega)))
    · replace c10 := (not_congr (nI_eq (a := (v.1 (v.2.2.2.2.2.2.2.val)).val) (b := 114) (by omega) (by omega))).mp c10
      refine v_iload_n hX dX4_takesCommand_32 rfl ?_
      refine v_bipush (x := (119 : Int32)) hX dX4_takesCommand_33 (by decide) ?_
      refine v_icmp_eq (tgt := 52) hX dX4_takesCommand_35 (by decide) (fun c20 => ?_) (fun c20 => ?_)
      · replace c20 := (nI_eq (a := (v.1 (v.2.2.2.2.2.2.2.val)).val) (b := 119) (by omega) (by omega)).mp c20
        have c20t := eq_true c20
        refine v_aload_n hX dX4_takesCommand_52 rfl ?_
        refine v_dup hX dX4_takesCommand_53 rfl ?_
        refine v_get (C := RX4) (T := TX4) (N := 8) (ci := 4) (v := .int (nI (v.2.2.2.2.2.2.2.val))) hX in_X4 0 rfl rfl 7 (by decide) fl_32 rfl rfl dX4_takesCommand_54 ?_
        have hb21 := (v.2.2.2.2.2.2.2).isLt
        refine v_iconst (x := (1 : Int32)) hX dX4_takesCommand_57 (by decide) ?_
        refine v_iadd (z := nI (v.2.2.2.2.2.2.2.val + 1)) hX dX4_takesCommand_58 (nI_add v.2.2.2.2.2.2.2.val 1) ?_
        obtain ⟨v22, hv22⟩ : ∃ z_ : PV, z_ = P_setAt v (v.2.2.2.2.2.2.2.val + 1) := ⟨_, rfl⟩
        refine v_put (C := RX4) (T := TX4) (N := 8) (ci := 4) (v := .int (nI (v.2.2.2.2.2.2.2.val + 1))) (ty := .int) (ws' := wP E a v22) hX in_X4 tyX4 tyX4_ok nmX4 0 rfl rfl 7 (by decide) fl_32 rfl rfl (by decide +kernel) (rfl) (rfl) (Nat.le_of_ble_eq_true rfl) dX4_takesCommand_59 (by rw [hv22]; exact sP_At E a v (x := v.2.2.2.2.2.2.2.val + 1) (by omega)) ?_
        refine v_aload_n hX dX4_takesCommand_62 rfl ?_
        refine v_get (C := RX4) (T := TX4) (N := 8) (ci := 4) (v := .ref (a 2)) hX in_X4 0 rfl rfl 1 (by decide) fl_15 rfl rfl dX4_takesCommand_63 ?_
        refine v_iload_n hX dX4_takesCommand_66 rfl ?_
        refine v_iload_n hX dX4_takesCommand_67 rfl ?_
        obtain ⟨v23, hv23⟩ : ∃ z_ : PV, z_ = P_setKind v22 (no) ((v.1 (v.2.2.2.2.2.2.2.val)).val) := ⟨_, rfl⟩
        refine v_cast (ws' := wP E a v23) hX 2 rfl (vp_in_nI (by omega : no < 27) (by omega)) (by rw [hv23]; exact sP_Kind E a v22 (k := no) (by omega) (x := (v.1 (v.2.2.2.2.2.2.2.val)).val) (by omega : (v.1 (v.2.2.2.2.2.2.2.val)).val < 65536)) dX4_takesCommand_68 ?_
        refine v_aload_n hX dX4_takesCommand_69 rfl ?_
        refine v_iconst (x := (3 : Int32)) hX dX4_takesCommand_70 (by decide) ?_
        refine v_callVi (r := bI (P_dig v23 3)) (rest := []) (ws' := wP E a v23) hX (fun sz => c_X4_isDigitUpTo l E a sz v23 3 (by first | omega | exact Nat.le_of_ble_eq_true rfl)) (cwV 1 hX.2.2.2.2.1 gX4_takesCommand_X4_isDigitUpTo rfl rfl rfl (by decide +kernel) ⟨Nat.le_of_ble_eq_true rfl, Nat.le_of_ble_eq_true rfl⟩) ([]) ([]) ((List.append_nil _).symm) ((List.append_nil _).symm).symm (wP_fst E a _ _) (ci := 4) (q0 := 0) rfl rfl rfl rfl rfl (Nat.le_of_ble_eq_true rfl) dX4_takesCommand_71 ?_
        refine v_if_ne (tgt := 79) hX dX4_takesCommand_74 (by decide) (fun c24 => ?_) (fun c24 => ?_)
        · replace c24 := bI_n0.mp c24
          refine v_aload_n hX dX4_takesCommand_79 rfl ?_
          refine v_get (C := RX4) (T := TX4) (N := 8) (ci := 4) (v := .ref (a 3)) hX in_X4 0 rfl rfl 2 (by decide) fl_18 rfl rfl dX4_takesCommand_80 ?_
          refine v_iload_n hX dX4_takesCommand_83 rfl ?_
          refine v_aload_n hX dX4_takesCommand_84 rfl ?_
          refine v_iconst (x := (3 : Int32)) hX dX4_takesCommand_85 (by decide) ?_
          obtain ⟨v25, hv25⟩ : ∃ z_ : PV, z_ = (P_num v23 3).2 := ⟨_, rfl⟩
          refine v_callVi (r := nI ((P_num v23 3).1)) (rest := [.int (nI (no)), .ref (a 3)]) (ws' := wP E a v25) hX (fun sz => c_X4_takeNumber l E a sz v23 3 (by first | omega | exact Nat.le_of_ble_eq_true rfl)) (cwV 1 hX.2.2.2.2.1 gX4_takesCommand_X4_takeNumber rfl rfl rfl (by decide +kernel) ⟨Nat.le_of_ble_eq_true rfl, Nat.le_of_ble_eq_true rfl⟩) ([]) ([]) ((List.append_nil _).symm) (by rw [hv25]; exact List.append_nil _) (wP_fst E a _ _) (ci := 4) (q0 := 0) rfl rfl rfl rfl rfl (Nat.le_of_ble_eq_true rfl) dX4_takesCommand_86 ?_
          obtain ⟨v26, hv26⟩ : ∃ z_ : PV, z_ = P_setCore v25 (no) ((P_num v23 3).1) := ⟨_, rfl⟩
          refine v_iast (ws' := wP E a v26) hX 3 rfl (vp_in_nI (by omega : no < 27) (by omega)) (by rw [hv26]; exact sP_Core E a v25 (k := no) (by omega) (x := (P_num v23 3).1) (Nat.lt_of_le_of_lt (P_num_le _ _) (by decide))) dX4_takesCommand_89 ?_
          refine v_iload_n hX dX4_takesCommand_90 rfl ?_
          refine v_bipush (x := (102 : Int32)) hX dX4_takesCommand_91 (by decide) ?_
          refine v_icmp_eq (tgt := 104) hX dX4_takesCommand_93 (by decide) (fun c27 => ?_) (fun c27 => ?_)
          · replace c27 := (nI_eq (a := (v.1 (v.2.2.2.2.2.2.2.val)).val) (b := 102) (by omega) (by omega)).mp c27
            have c27t := eq_true c27
            refine v_iconst (x := (1 : Int32)) hX dX4_takesCommand_104 (by decide) ?_
            refine v_goto (tgt := 109) hX dX4_takesCommand_105 (by decide) ?_
            exact v_zret hX hr hsz dX4_takesCommand_109 rfl rfl (bI_narrow (true)) (congrArg bI (by (subst hv26; subst hv25; subst hv23; subst hv22; first | rfl | (simp only [P_cmd, P_cmd2, P_kind, P_isK, c3, c10, c20t, c24, c27t, if_true, if_false, reduceIte, Bool.false_eq_true, reduceCtorEq, decide_true, decide_false, Bool.and_true, Bool.and_false, Bool.true_and, Bool.false_and, Bool.or_true, Bool.or_false, Bool.true_or, Bool.false_or, not_true_eq_false, not_false_eq_true, Bool.not_true, Bool.not_false, eq_self, Nat.reduceEqDiff]; done) | (simp only [P_cmd, P_cmd2, P_kind, P_isK, c3, c10, c20t, c24, c27t, if_true, if_false, reduceIte, Bool.false_eq_true, reduceCtorEq, decide_true, decide_false, Bool.and_true, Bool.and_false, Bool.true_and, Bool.false_and, Bool.or_true, Bool.or_false, Bool.true_or, Bool.false_or, not_true_eq_false, not_false_eq_true, Bool.not_true, Bool.not_false, eq_self, Nat.reduceEqDiff]; rfl) | contradiction | (exfalso; omega)) : true = (P_cmd v no).1)) (by (subst hv26; subst hv25; subst hv23; subst hv22; first | rfl | (simp only [P_cmd, P_cmd2, P_kind, P_isK, c3, c10, c20t, c24, c27t, if_true, if_false, reduceIte, Bool.false_eq_true, reduceCtorEq, decide_true, decide_false, Bool.and_true, Bool.and_false, Bool.true_and, Bool.false_and, Bool.or_true, Bool.or_false, Bool.true_or, Bool.false_or, not_true_eq_false, not_false_eq_true, Bool.not_true, Bool.not_false, eq_self, Nat.reduceEqDiff]; done) | (simp only [P_cmd, P_cmd2, P_kind, P_isK, c3, c10, c20t, c24, c27t, if_true, if_false, reduceIte, Bool.false_eq_true, reduceCtorEq, decide_true, decide_false, Bool.and_true, Bool.and_false, Bool.true_and, Bool.false_and, Bool.or_true, Bool.or_false, Bool.true_or, Bool.false_or, not_true_eq_false, not_false_eq_true, Bool.not_true, Bool.not_false, eq_self, Nat.reduceEqDiff]; rfl) | contradiction | (exfalso; omega)))
          · replace c27 := (not_congr (nI_eq (a := (v.1 (v.2.2.2.2.2.2.2.val)).val) (b := 102) (by omega) (by omega))).mp c27
            refine v_aload_n hX dX4_takesCommand_96 rfl ?_
            refine v_iload_n hX dX4_takesCommand_97 rfl ?_
            obtain ⟨v28, hv28⟩ : ∃ z_ : PV, z_ = (P_lv v26 no).2 := ⟨_, rfl⟩
            refine v_callVi (r := bI ((P_lv v26 no).1)) (rest := []) (ws' := wP E a v28) hX (fun sz => c_X4_takesLineAndValue l E a sz v26 no (by first | omega | exact Nat.le_of_ble_eq_true rfl)) (cwV 1 hX.2.2.2.2.1 gX4_takesCommand_X4_takesLineAndValue rfl rfl rfl (by decide +kernel) ⟨Nat.le_of_ble_eq_true rfl, Nat.le_of_ble_eq_true rfl⟩) ([]) ([]) ((List.append_nil _).symm) (by rw [hv28]; exact List.append_nil _) (wP_fst E a _ _) (ci := 4) (q0 := 0) rfl rfl rfl rfl rfl (Nat.le_of_ble_eq_true rfl) dX4_takesCommand_98 ?_
            refine v_if_eq (tgt := 108) hX dX4_takesCommand_101 (by decide) (fun c29 => ?_) (fun c29 => ?_)
            · replace c29 := bI_0.mp c29
              refine v_iconst (x := (0 : Int32)) hX dX4_takesCommand_108 (by decide) ?_
              exact v_zret hX hr hsz dX4_takesCommand_109 rfl rfl (bI_narrow (false)) (congrArg bI (by (subst hv28; subst hv26; subst hv25; subst hv23; subst hv22; first | rfl | (simp only [P_cmd, P_cmd2, P_kind, P_isK, c3, c10, c20t, c24, c27, c29, if_true, if_false, reduceIte, Bool.false_eq_true, reduceCtorEq, decide_true, decide_false, Bool.and_true, Bool.and_false, Bool.true_and, Bool.false_and, Bool.or_true, Bool.or_false, Bool.true_or, Bool.false_or, not_true_eq_false, not_false_eq_true, Bool.not_true, Bool.not_false, eq_self, Nat.reduceEqDiff]; done) | (simp only [P_cmd, P_cmd2, P_kind, P_isK, c3, c10, c20t, c24, c27, c29, if_true, if_false, reduceIte, Bool.false_eq_true, reduceCtorEq, decide_true, decide_false, Bool.and_true, Bool.and_false, Bool.true_and, Bool.false_and, Bool.or_true, Bool.or_false, Bool.true_or, Bool.false_or, not_true_eq_false, not_false_eq_true, Bool.not_true, Bool.not_false, eq_self, Nat.reduceEqDiff]; rfl) | contradiction | (exfalso; omega)) : false = (P_cmd v no).1)) (by (subst hv28; subst hv26; subst hv25; subst hv23; subst hv22; first | rfl | (simp only [P_cmd, P_cmd2, P_kind, P_isK, c3, c10, c20t, c24, c27, c29, if_true, if_false, reduceIte, Bool.false_eq_true, reduceCtorEq, decide_true, decide_false, Bool.and_true, Bool.and_false, Bool.true_and, Bool.false_and, Bool.or_true, Bool.or_false, Bool.true_or, Bool.false_or, not_true_eq_false, not_false_eq_true, Bool.not_true, Bool.not_false, eq_self, Nat.reduceEqDiff]; done) | (simp only [P_cmd, P_cmd2, P_kind, P_isK, c3, c10, c20t, c24, c27, c29, if_true, if_false, reduceIte, Bool.false_eq_true, reduceCtorEq, decide_true, decide_false, Bool.and_true, Bool.and_false, Bool.true_and, Bool.false_and, Bool.or_true, Bool.or_false, Bool.true_or, Bool.false_or, not_true_eq_false, not_false_eq_true, Bool.not_true, Bool.not_false, eq_self, Nat.reduceEqDiff]; rfl) | contradiction | (exfalso; omega)))
            · replace c29 := bI_n0.mp c29
              refine v_iconst (x := (1 : Int32)) hX dX4_takesCommand_104 (by decide) ?_
              refine v_goto (tgt := 109) hX dX4_takesCommand_105 (by decide) ?_
              exact v_zret hX hr hsz dX4_takesCommand_109 rfl rfl (bI_narrow (true)) (congrArg bI (by (subst hv28; subst hv26; subst hv25; subst hv23; subst hv22; first | rfl | (simp only [P_cmd, P_cmd2, P_kind, P_isK, c3, c10, c20t, c24, c27, c29, if_true, if_false, reduceIte, Bool.false_eq_true, reduceCtorEq, decide_true, decide_false, Bool.and_true, Bool.and_false, Bool.true_and, Bool.false_and, Bool.or_true, Bool.or_false, Bool.true_or, Bool.false_or, not_true_eq_false, not_false_eq_true, Bool.not_true, Bool.not_false, eq_self, Nat.reduceEqDiff]; done) | (simp only [P_cmd, P_cmd2, P_kind, P_isK, c3, c10, c20t, c24, c27, c29, if_true, if_false, reduceIte, Bool.false_eq_true, reduceCtorEq, decide_true, decide_false, Bool.and_true, Bool.and_false, Bool.true_and, Bool.false_and, Bool.or_true, Bool.or_false, Bool.true_or, Bool.false_or, not_true_eq_false, not_false_eq_true, Bool.not_true, Bool.not_false, eq_self, Nat.reduceEqDiff]; rfl) | contradiction | (exfalso; omega)) : true = (P_cmd v no).1)) (by (subst hv28; subst hv26; subst hv25; subst hv23; subst hv22; first | rfl | (simp only [P_cmd, P_cmd2, P_kind, P_isK, c3, c10, c20t, c24, c27, c29, if_true, if_false, reduceIte, Bool.false_eq_true, reduceCtorEq, decide_true, decide_false, Bool.and_true, Bool.and_false, Bool.true_and, Bool.false_and, Bool.or_true, Bool.or_false, Bool.true_or, Bool.false_or, not_true_eq_false, not_false_eq_true, Bool.not_true, Bool.not_false, eq_self, Nat.reduceEqDiff]; done) | (simp only [P_cmd, P_cmd2, P_kind, P_isK, c3, c10, c20t, c24, c27, c29, if_true, if_false, reduceIte, Bool.false_eq_true, reduceCtorEq, decide_true, decide_false, Bool.and_true, Bool.and_false, Bool.true_and, Bool.false_and, Bool.or_true, Bool.or_false, Bool.true_or, Bool.false_or, not_true_eq_false, not_false_eq_true, Bool.not_true, Bool.not_false, eq_self, Nat.reduceEqDiff]; rfl) | contradiction | (exfalso; omega)))
        · replace c24 := bI_0.mp c24
          refine v_iconst (x := (0 : Int32)) hX dX4_takesCommand_77 (by decide) ?_
          exact v_zret hX hr hsz dX4_takesCommand_78 rfl rfl (bI_narrow (false)) (congrArg bI (by (subst hv23; subst hv22; first | rfl | (simp only [P_cmd, P_cmd2, P_kind, P_isK, c3, c10, c20t, c24, if_true, if_false, reduceIte, Bool.false_eq_true, reduceCtorEq, decide_true, decide_false, Bool.and_true, Bool.and_false, Bool.true_and, Bool.false_and, Bool.or_true, Bool.or_false, Bool.true_or, Bool.false_or, not_true_eq_false, not_false_eq_true, Bool.not_true, Bool.not_false, eq_self, Nat.reduceEqDiff]; done) | (simp only [P_cmd, P_cmd2, P_kind, P_isK, c3, c10, c20t, c24, if_true, if_false, reduceIte, Bool.false_eq_true, reduceCtorEq, decide_true, decide_false, Bool.and_true, Bool.and_false, Bool.true_and, Bool.false_and, Bool.or_true, Bool.or_false, Bool.true_or, Bool.false_or, not_true_eq_false, not_false_eq_true, Bool.not_true, Bool.not_false, eq_self, Nat.reduceEqDiff]; rfl) | contradiction | (exfalso; omega)) : false = (P_cmd v no).1)) (by (subst hv23; subst hv22; first | rfl | (simp only [P_cmd, P_cmd2, P_kind, P_isK, c3, c10, c20t, c24, if_true, if_false, reduceIte, Bool.false_eq_true, reduceCtorEq, decide_true, decide_false, Bool.and_true, Bool.and_false, Bool.true_and, Bool.false_and, Bool.or_true, Bool.or_false, Bool.true_or, Bool.false_or, not_true_eq_false, not_false_eq_true, Bool.not_true, Bool.not_false, eq_self, Nat.reduceEqDiff]; done) | (simp only [P_cmd, P_cmd2, P_kind, P_isK, c3, c10, c20t, c24, if_true, if_false, reduceIte, Bool.false_eq_true, reduceCtorEq, decide_true, decide_false, Bool.and_true, Bool.and_false, Bool.true_and, Bool.false_and, Bool.or_true, Bool.or_false, Bool.true_or, Bool.false_or, not_true_eq_false, not_false_eq_true, Bool.not_true, Bool.not_false, eq_self, Nat.reduceEqDiff]; rfl) | contradiction | (exfalso; omega)))
      · replace c20 := (not_congr (nI_eq (a := (v.1 (v.2.2.2.2.2.2.2.val)).val) (b := 119) (by omega) (by omega))).mp c20
        refine v_iload_n hX dX4_takesCommand_38 rfl ?_
        refine v_bipush (x := (100 : Int32)) hX dX4_takesCommand_39 (by decide) ?_
        refine v_icmp_eq (tgt := 52) hX dX4_takesCommand_41 (by decide) (fun c30 => ?_) (fun c30 => ?_)
        · replace c30 := (nI_eq (a := (v.1 (v.2.2.2.2.2.2.2.val)).val) (b := 100) (by omega) (by omega)).mp c30
          have c30t := eq_true c30
          refine v_aload_n hX dX4_takesCommand_52 rfl ?_
          refine v_dup hX dX4_takesCommand_53 rfl ?_
          refine v_get (C := RX4) (T := TX4) (N := 8) (ci := 4) (v := .int (nI (v.2.2.2.2.2.2.2.val))) hX in_X4 0 rfl rfl 7 (by decide) fl_32 rfl rfl dX4_takesCommand_54 ?_
          have hb31 := (v.2.2.2.2.2.2.2).isLt
          refine v_iconst (x := (1 : Int32)) hX dX4_takesCommand_57 (by decide) ?_
          refine v_iadd (z := nI (v.2.2.2.2.2.2.2.val + 1)) hX dX4_takesCommand_58 (nI_add v.2.2.2.2.2.2.2.val 1) ?_
          obtain ⟨v32, hv32⟩ : ∃ z_ : PV, z_ = P_setAt v (v.2.2.2.2.2.2.2.val + 1) := ⟨_, rfl⟩
          refine v_put (C := RX4) (T := TX4) (N := 8) (ci := 4) (v := .int (nI (v.2.2.2.2.2.2.2.val + 1))) (ty := .int) (ws' := wP E a v32) hX in_X4 tyX4 tyX4_ok nmX4 0 rfl rfl 7 (by decide) fl_32 rfl rfl (by decide +kernel) (rfl) (rfl) (Nat.le_of_ble_eq_true rfl) dX4_takesCommand_59 (by rw [hv32]; exact sP_At E a v (x := v.2.2.2.2.2.2.2.val + 1) (by omega)) ?_
          refine v_aload_n hX dX4_takesCommand_62 rfl ?_
          refine v_get (C := RX4) (T := TX4) (N := 8) (ci := 4) (v := .ref (a 2)) hX in_X4 0 rfl rfl 1 (by decide) fl_15 rfl rfl dX4_takesCommand_63 ?_
          refine v_iload_n hX dX4_takesCommand_66 rfl ?_
          refine v_iload_n hX dX4_takesCommand_67 rfl ?_
          obtain ⟨v33, hv33⟩ : ∃ z_ : PV, z_ = P_setKind v32 (no) ((v.1 (v.2.2.2.2.2.2.2.val)).val) := ⟨_, rfl⟩
          refine v_cast (ws' := wP E a v33) hX 2 rfl (vp_in_nI (by omega : no < 27) (by omega)) (by rw [hv33]; exact sP_Kind E a v32 (k := no) (by omega) (x := (v.1 (v.2.2.2.2.2.2.2.val)).val) (by omega : (v.1 (v.2.2.2.2.2.2.2.val)).val < 65536)) dX4_takesCommand_68 ?_
          refine v_aload_n hX dX4_takesCommand_69 rfl ?_
          refine v_iconst (x := (3 : Int32)) hX dX4_takesCommand_70 (by decide) ?_
          refine v_callVi (r := bI (P_dig v33 3)) (rest := []) (ws' := wP E a v33) hX (fun sz => c_X4_isDigitUpTo l E a sz v33 3 (by first | omega | exact Nat.le_of_ble_eq_true rfl)) (cwV 1 hX.2.2.2.2.1 gX4_takesCommand_X4_isDigitUpTo rfl rfl rfl (by decide +kernel) ⟨Nat.le_of_ble_eq_true rfl, Nat.le_of_ble_eq_true rfl⟩) ([]) ([]) ((List.append_nil _).symm) ((List.append_nil _).symm).symm (wP_fst E a _ _) (ci := 4) (q0 := 0) rfl rfl rfl rfl rfl (Nat.le_of_ble_eq_true rfl) dX4_takesCommand_71 ?_
          refine v_if_ne (tgt := 79) hX dX4_takesCommand_74 (by decide) (fun c34 => ?_) (fun c34 => ?_)
          · replace c34 := bI_n0.mp c34
            refine v_aload_n hX dX4_takesCommand_79 rfl ?_
            refine v_get (C := RX4) (T := TX4) (N := 8) (ci := 4) (v := .ref (a 3)) hX in_X4 0 rfl rfl 2 (by decide) fl_18 rfl rfl dX4_takesCommand_80 ?_
            refine v_iload_n hX dX4_takesCommand_83 rfl ?_
            refine v_aload_n hX dX4_takesCommand_84 rfl ?_
            refine v_iconst (x := (3 : Int32)) hX dX4_takesCommand_85 (by decide) ?_
            obtain ⟨v35, hv35⟩ : ∃ z_ : PV, z_ = (P_num v33 3).2 := ⟨_, rfl⟩
            refine v_callVi (r := nI ((P_num v33 3).1)) (rest := [.int (nI (no)), .ref (a 3)]) (ws' := wP E a v35) hX (fun sz => c_X4_takeNumber l E a sz v33 3 (by first | omega | exact Nat.le_of_ble_eq_true rfl)) (cwV 1 hX.2.2.2.2.1 gX4_takesCommand_X4_takeNumber rfl rfl rfl (by decide +kernel) ⟨Nat.le_of_ble_eq_true rfl, Nat.le_of_ble_eq_true rfl⟩) ([]) ([]) ((List.append_nil _).symm) (by rw [hv35]; exact List.append_nil _) (wP_fst E a _ _) (ci := 4) (q0 := 0) rfl rfl rfl rfl rfl (Nat.le_of_ble_eq_true rfl) dX4_takesCommand_86 ?_
            obtain ⟨v36, hv36⟩ : ∃ z_ : PV, z_ = P_setCore v35 (no) ((P_num v33 3).1) := ⟨_, rfl⟩
            refine v_iast (ws' := wP E a v36) hX 3 rfl (vp_in_nI (by omega : no < 27) (by omega)) (by rw [hv36]; exact sP_Core E a v35 (k := no) (by omega) (x := (P_num v33 3).1) (Nat.lt_of_le_of_lt (P_num_le _ _) (by decide))) dX4_takesCommand_89 ?_
            refine v_iload_n hX dX4_takesCommand_90 rfl ?_
            refine v_bipush (x := (102 : Int32)) hX dX4_takesCommand_91 (by decide) ?_
            refine v_icmp_eq (tgt := 104) hX dX4_takesCommand_93 (by decide) (fun c37 => ?_) (fun c37 => ?_)
            · replace c37 := (nI_eq (a := (v.1 (v.2.2.2.2.2.2.2.val)).val) (b := 102) (by omega) (by omega)).mp c37
              have c37t := eq_true c37
              refine v_iconst (x := (1 : Int32)) hX dX4_takesCommand_104 (by decide) ?_
              refine v_goto (tgt := 109) hX dX4_takesCommand_105 (by decide) ?_
              exact v_zret hX hr hsz dX4_takesCommand_109 rfl rfl (bI_narrow (true)) (congrArg bI (by (subst hv36; subst hv35; subst hv33; subst hv32; first | rfl | (simp only [P_cmd, P_cmd2, P_kind, P_isK, c3, c10, c20, c30t, c34, c37t, if_true, if_false, reduceIte, Bool.false_eq_true, reduceCtorEq, decide_true, decide_false, Bool.and_true, Bool.and_false, Bool.true_and, Bool.false_and, Bool.or_true, Bool.or_false, Bool.true_or, Bool.false_or, not_true_eq_false, not_false_eq_true, Bool.not_true, Bool.not_false, eq_self, Nat.reduceEqDiff]; done) | (simp only [P_cmd, P_cmd2, P_kind, P_isK, c3, c10, c20, c30t, c34, c37t, if_true, if_false, reduceIte, Bool.false_eq_true, reduceCtorEq, decide_true, decide_false, Bool.and_true, Bool.and_false, Bool.true_and, Bool.false_and, Bool.or_true, Bool.or_false, Bool.true_or, Bool.false_or, not_true_eq_false, not_false_eq_true, Bool.not_true, Bool.not_false, eq_self, Nat.reduceEqDiff]; rfl) | contradiction | (exfalso; omega)) : true = (P_cmd v no).1)) (by (subst hv36; subst hv35; subst hv33; subst hv32; first | rfl | (simp only [P_cmd, P_cmd2, P_kind, P_isK, c3, c10, c20, c30t, c34, c37t, if_true, if_false, reduceIte, Bool.false_eq_true, reduceCtorEq, decide_true, decide_false, Bool.and_true, Bool.and_false, Bool.true_and, Bool.false_and, Bool.or_true, Bool.or_false, Bool.true_or, Bool.false_or, not_true_eq_false, not_false_eq_true, Bool.not_true, Bool.not_false, eq_self, Nat.reduceEqDiff]; done) | (simp only [P_cmd, P_cmd2, P_kind, P_isK, c3, c10, c20, c30t, c34, c37t, if_true, if_false, reduceIte, Bool.false_eq_true, reduceCtorEq, decide_true, decide_false, Bool.and_true, Bool.and_false, Bool.true_and, Bool.false_and, Bool.or_true, Bool.or_false, Bool.true_or, Bool.false_or, not_true_eq_false, not_false_eq_true, Bool.not_true, Bool.not_false, eq_self, Nat.reduceEqDiff]; rfl) | contradiction | (exfalso; omega)))
            · replace c37 := (not_congr (nI_eq (a := (v.1 (v.2.2.2.2.2.2.2.val)).val) (b := 102) (by omega) (by omega))).mp c37
              refine v_aload_n hX dX4_takesCommand_96 rfl ?_
              refine v_iload_n hX dX4_takesCommand_97 rfl ?_
              obtain ⟨v38, hv38⟩ : ∃ z_ : PV, z_ = (P_lv v36 no).2 := ⟨_, rfl⟩
              refine v_callVi (r := bI ((P_lv v36 no).1)) (rest := []) (ws' := wP E a v38) hX (fun sz => c_X4_takesLineAndValue l E a sz v36 no (by first | omega | exact Nat.le_of_ble_eq_true rfl)) (cwV 1 hX.2.2.2.2.1 gX4_takesCommand_X4_takesLineAndValue rfl rfl rfl (by decide +kernel) ⟨Nat.le_of_ble_eq_true rfl, Nat.le_of_ble_eq_true rfl⟩) ([]) ([]) ((List.append_nil _).symm) (by rw [hv38]; exact List.append_nil _) (wP_fst E a _ _) (ci := 4) (q0 := 0) rfl rfl rfl rfl rfl (Nat.le_of_ble_eq_true rfl) dX4_takesCommand_98 ?_
              refine v_if_eq (tgt := 108) hX dX4_takesCommand_101 (by decide) (fun c39 => ?_) (fun c39 => ?_)
              · replace c39 := bI_0.mp c39
                refine v_iconst (x := (0 : Int32)) hX dX4_takesCommand_108 (by decide) ?_
                exact v_zret hX hr hsz dX4_takesCommand_109 rfl rfl (bI_narrow (false)) (congrArg bI (by (subst hv38; subst hv36; subst hv35; subst hv33; subst hv32; first | rfl | (simp only [P_cmd, P_cmd2, P_kind, P_isK, c3, c10, c20, c30t, c34, c37, c39, if_true, if_false, reduceIte, Bool.false_eq_true, reduceCtorEq, decide_true, decide_false, Bool.and_true, Bool.and_false, Bool.true_and, Bool.false_and, Bool.or_true, Bool.or_false, Bool.true_or, Bool.false_or, not_true_eq_false, not_false_eq_true, Bool.not_true, Bool.not_false, eq_self, Nat.reduceEqDiff]; done) | (simp only [P_cmd, P_cmd2, P_kind, P_isK, c3, c10, c20, c30t, c34, c37, c39, if_true, if_false, reduceIte, Bool.false_eq_true, reduceCtorEq, decide_true, decide_false, Bool.and_true, Bool.and_false, Bool.true_and, Bool.false_and, Bool.or_true, Bool.or_false, Bool.true_or, Bool.false_or, not_true_eq_false, not_false_eq_true, Bool.not_true, Bool.not_false, eq_self, Nat.reduceEqDiff]; rfl) | contradiction | (exfalso; omega)) : false = (P_cmd v no).1)) (by (subst hv38; subst hv36; subst hv35; subst hv33; subst hv32; first | rfl | (simp only [P_cmd, P_cmd2, P_kind, P_isK, c3, c10, c20, c30t, c34, c37, c39, if_true, if_false, reduceIte, Bool.false_eq_true, reduceCtorEq, decide_true, decide_false, Bool.and_true, Bool.and_false, Bool.true_and, Bool.false_and, Bool.or_true, Bool.or_false, Bool.true_or, Bool.false_or, not_true_eq_false, not_false_eq_true, Bool.not_true, Bool.not_false, eq_self, Nat.reduceEqDiff]; done) | (simp only [P_cmd, P_cmd2, P_kind, P_isK, c3, c10, c20, c30t, c34, c37, c39, if_true, if_false, reduceIte, Bool.false_eq_true, reduceCtorEq, decide_true, decide_false, Bool.and_true, Bool.and_false, Bool.true_and, Bool.false_and, Bool.or_true, Bool.or_false, Bool.true_or, Bool.false_or, not_true_eq_false, not_false_eq_true, Bool.not_true, Bool.not_false, eq_self, Nat.reduceEqDiff]; rfl) | contradiction | (exfalso; omega)))
              · replace c39 := bI_n0.mp c39
                refine v_iconst (x := (1 : Int32)) hX dX4_takesCommand_104 (by decide) ?_
                refine v_goto (tgt := 109) hX dX4_takesCommand_105 (by decide) ?_
                exact v_zret hX hr hsz dX4_takesCommand_109 rfl rfl (bI_narrow (true)) (congrArg bI (by (subst hv38; subst hv36; subst hv35; subst hv33; subst hv32; first | rfl | (simp only [P_cmd, P_cmd2, P_kind, P_isK, c3, c10, c20, c30t, c34, c37, c39, if_true, if_false, reduceIte, Bool.false_eq_true, reduceCtorEq, decide_true, decide_false, Bool.and_true, Bool.and_false, Bool.true_and, Bool.false_and, Bool.or_true, Bool.or_false, Bool.true_or, Bool.false_or, not_true_eq_false, not_false_eq_true, Bool.not_true, Bool.not_false, eq_self, Nat.reduceEqDiff]; done) | (simp only [P_cmd, P_cmd2, P_kind, P_isK, c3, c10, c20, c30t, c34, c37, c39, if_true, if_false, reduceIte, Bool.false_eq_true, reduceCtorEq, decide_true, decide_false, Bool.and_true, Bool.and_false, Bool.true_and, Bool.false_and, Bool.or_true, Bool.or_false, Bool.true_or, Bool.false_or, not_true_eq_false, not_false_eq_true, Bool.not_true, Bool.not_false, eq_self, Nat.reduceEqDiff]; rfl) | contradiction | (exfalso; omega)) : true = (P_cmd v no).1)) (by (subst hv38; subst hv36; subst hv35; subst hv33; subst hv32; first | rfl | (simp only [P_cmd, P_cmd2, P_kind, P_isK, c3, c10, c20, c30t, c34, c37, c39, if_true, if_false, reduceIte, Bool.false_eq_true, reduceCtorEq, decide_true, decide_false, Bool.and_true, Bool.and_false, Bool.true_and, Bool.false_and, Bool.or_true, Bool.or_false, Bool.true_or, Bool.false_or, not_true_eq_false, not_false_eq_true, Bool.not_true, Bool.not_false, eq_self, Nat.reduceEqDiff]; done) | (simp only [P_cmd, P_cmd2, P_kind, P_isK, c3, c10, c20, c30t, c34, c37, c39, if_true, if_false, reduceIte, Bool.false_eq_true, reduceCtorEq, decide_true, decide_false, Bool.and_true, Bool.and_false, Bool.true_and, Bool.false_and, Bool.or_true, Bool.or_false, Bool.true_or, Bool.false_or, not_true_eq_false, not_false_eq_true, Bool.not_true, Bool.not_false, eq_self, Nat.reduceEqDiff]; rfl) | contradiction | (exfalso; omega)))
          · replace c34 := bI_0.mp c34
            refine v_iconst (x := (0 : Int32)) hX dX4_takesCommand_77 (by decide) ?_
            exact v_zret hX hr hsz dX4_takesCommand_78 rfl rfl (bI_narrow (false)) (congrArg bI (by (subst hv33; subst hv32; first | rfl | (simp only [P_cmd, P_cmd2, P_kind, P_isK, c3, c10, c20, c30t, c34, if_true, if_false, reduceIte, Bool.false_eq_true, reduceCtorEq, decide_true, decide_false, Bool.and_true, Bool.and_false, Bool.true_and, Bool.false_and, Bool.or_true, Bool.or_false, Bool.true_or, Bool.false_or, not_true_eq_false, not_false_eq_true, Bool.not_true, Bool.not_false, eq_self, Nat.reduceEqDiff]; done) | (simp only [P_cmd, P_cmd2, P_kind, P_isK, c3, c10, c20, c30t, c34, if_true, if_false, reduceIte, Bool.false_eq_true, reduceCtorEq, decide_true, decide_false, Bool.and_true, Bool.and_false, Bool.true_and, Bool.false_and, Bool.or_true, Bool.or_false, Bool.true_or, Bool.false_or, not_true_eq_false, not_false_eq_true, Bool.not_true, Bool.not_false, eq_self, Nat.reduceEqDiff]; rfl) | contradiction | (exfalso; omega)) : false = (P_cmd v no).1)) (by (subst hv33; subst hv32; first | rfl | (simp only [P_cmd, P_cmd2, P_kind, P_isK, c3, c10, c20, c30t, c34, if_true, if_false, reduceIte, Bool.false_eq_true, reduceCtorEq, decide_true, decide_false, Bool.and_true, Bool.and_false, Bool.true_and, Bool.false_and, Bool.or_true, Bool.or_false, Bool.true_or, Bool.false_or, not_true_eq_false, not_false_eq_true, Bool.not_true, Bool.not_false, eq_self, Nat.reduceEqDiff]; done) | (simp only [P_cmd, P_cmd2, P_kind, P_isK, c3, c10, c20, c30t, c34, if_true, if_false, reduceIte, Bool.false_eq_true, reduceCtorEq, decide_true, decide_false, Bool.and_true, Bool.and_false, Bool.true_and, Bool.false_and, Bool.or_true, Bool.or_false, Bool.true_or, Bool.false_or, not_true_eq_false, not_false_eq_true, Bool.not_true, Bool.not_false, eq_self, Nat.reduceEqDiff]; rfl) | contradiction | (exfalso; omega)))
        · replace c30 := (not_congr (nI_eq (a := (v.1 (v.2.2.2.2.2.2.2.val)).val) (b := 100) (by omega) (by omega))).mp c30
          refine v_iload_n hX dX4_takesCommand_44 rfl ?_
          refine v_bipush (x := (102 : Int32)) hX dX4_takesCommand_45 (by decide) ?_
          refine v_icmp_eq (tgt := 52) hX dX4_takesCommand_47 (by decide) (fun c40 => ?_) (fun c40 => ?_)
          · replace c40 := (nI_eq (a := (v.1 (v.2.2.2.2.2.2.2.val)).val) (b := 102) (by omega) (by omega)).mp c40
            have c40t := eq_true c40
            refine v_aload_n hX dX4_takesCommand_52 rfl ?_
            refine v_dup hX dX4_takesCommand_53 rfl ?_
            refine v_get (C := RX4) (T := TX4) (N := 8) (ci := 4) (v := .int (nI (v.2.2.2.2.2.2.2.val))) hX in_X4 0 rfl rfl 7 (by decide) fl_32 rfl rfl dX4_takesCommand_54 ?_
            have hb41 := (v.2.2.2.2.2.2.2).isLt
            refine v_iconst (x := (1 : Int32)) hX dX4_takesCommand_57 (by decide) ?_
            refine v_iadd (z := nI (v.2.2.2.2.2.2.2.val + 1)) hX dX4_takesCommand_58 (nI_add v.2.2.2.2.2.2.2.val 1) ?_
            obtain ⟨v42, hv42⟩ : ∃ z_ : PV, z_ = P_setAt v (v.2.2.2.2.2.2.2.val + 1) := ⟨_, rfl⟩
            refine v_put (C := RX4) (T := TX4) (N := 8) (ci := 4) (v := .int (nI (v.2.2.2.2.2.2.2.val + 1))) (ty := .int) (ws' := wP E a v42) hX in_X4 tyX4 tyX4_ok nmX4 0 rfl rfl 7 (by decide) fl_32 rfl rfl (by decide +kernel) (rfl) (rfl) (Nat.le_of_ble_eq_true rfl) dX4_takesCommand_59 (by rw [hv42]; exact sP_At E a v (x := v.2.2.2.2.2.2.2.val + 1) (by omega)) ?_
            refine v_aload_n hX dX4_takesCommand_62 rfl ?_
            refine v_get (C := RX4) (T := TX4) (N := 8) (ci := 4) (v := .ref (a 2)) hX in_X4 0 rfl rfl 1 (by decide) fl_15 rfl rfl dX4_takesCommand_63 ?_
            refine v_iload_n hX dX4_takesCommand_66 rfl ?_
            refine v_iload_n hX dX4_takesCommand_67 rfl ?_
            obtain ⟨v43, hv43⟩ : ∃ z_ : PV, z_ = P_setKind v42 (no) ((v.1 (v.2.2.2.2.2.2.2.val)).val) := ⟨_, rfl⟩
            refine v_cast (ws' := wP E a v43) hX 2 rfl (vp_in_nI (by omega : no < 27) (by omega)) (by rw [hv43]; exact sP_Kind E a v42 (k := no) (by omega) (x := (v.1 (v.2.2.2.2.2.2.2.val)).val) (by omega : (v.1 (v.2.2.2.2.2.2.2.val)).val < 65536)) dX4_takesCommand_68 ?_
            refine v_aload_n hX dX4_takesCommand_69 rfl ?_
            refine v_iconst (x := (3 : Int32)) hX dX4_takesCommand_70 (by decide) ?_
            refine v_callVi (r := bI (P_dig v43 3)) (rest := []) (ws' := wP E a v43) hX (fun sz => c_X4_isDigitUpTo l E a sz v43 3 (by first | omega | exact Nat.le_of_ble_eq_true rfl)) (cwV 1 hX.2.2.2.2.1 gX4_takesCommand_X4_isDigitUpTo rfl rfl rfl (by decide +kernel) ⟨Nat.le_of_ble_eq_true rfl, Nat.le_of_ble_eq_true rfl⟩) ([]) ([]) ((List.append_nil _).symm) ((List.append_nil _).symm).symm (wP_fst E a _ _) (ci := 4) (q0 := 0) rfl rfl rfl rfl rfl (Nat.le_of_ble_eq_true rfl) dX4_takesCommand_71 ?_
            refine v_if_ne (tgt := 79) hX dX4_takesCommand_74 (by decide) (fun c44 => ?_) (fun c44 => ?_)
            · replace c44 := bI_n0.mp c44
              refine v_aload_n hX dX4_takesCommand_79 rfl ?_
              refine v_get (C := RX4) (T := TX4) (N := 8) (ci := 4) (v := .ref (a 3)) hX in_X4 0 rfl rfl 2 (by decide) fl_18 rfl rfl dX4_takesCommand_80 ?_
              refine v_iload_n hX dX4_takesCommand_83 rfl ?_
              refine v_aload_n hX dX4_takesCommand_84 rfl ?_
              refine v_iconst (x := (3 : Int32)) hX dX4_takesCommand_85 (by decide) ?_
              obtain ⟨v45, hv45⟩ : ∃ z_ : PV, z_ = (P_num v43 3).2 := ⟨_, rfl⟩
              refine v_callVi (r := nI ((P_num v43 3).1)) (rest := [.int (nI (no)), .ref (a 3)]) (ws' := wP E a v45) hX (fun sz => c_X4_takeNumber l E a sz v43 3 (by first | omega | exact Nat.le_of_ble_eq_true rfl)) (cwV 1 hX.2.2.2.2.1 gX4_takesCommand_X4_takeNumber rfl rfl rfl (by decide +kernel) ⟨Nat.le_of_ble_eq_true rfl, Nat.le_of_ble_eq_true rfl⟩) ([]) ([]) ((List.append_nil _).symm) (by rw [hv45]; exact List.append_nil _) (wP_fst E a _ _) (ci := 4) (q0 := 0) rfl rfl rfl rfl rfl (Nat.le_of_ble_eq_true rfl) dX4_takesCommand_86 ?_
              obtain ⟨v46, hv46⟩ : ∃ z_ : PV, z_ = P_setCore v45 (no) ((P_num v43 3).1) := ⟨_, rfl⟩
              refine v_iast (ws' := wP E a v46) hX 3 rfl (vp_in_nI (by omega : no < 27) (by omega)) (by rw [hv46]; exact sP_Core E a v45 (k := no) (by omega) (x := (P_num v43 3).1) (Nat.lt_of_le_of_lt (P_num_le _ _) (by decide))) dX4_takesCommand_89 ?_
              refine v_iload_n hX dX4_takesCommand_90 rfl ?_
              refine v_bipush (x := (102 : Int32)) hX dX4_takesCommand_91 (by decide) ?_
              refine v_icmp_eq (tgt := 104) hX dX4_takesCommand_93 (by decide) (fun c47 => ?_) (fun c47 => ?_)
              · replace c47 := (nI_eq (a := (v.1 (v.2.2.2.2.2.2.2.val)).val) (b := 102) (by omega) (by omega)).mp c47
                have c47t := eq_true c47
                refine v_iconst (x := (1 : Int32)) hX dX4_takesCommand_104 (by decide) ?_
                refine v_goto (tgt := 109) hX dX4_takesCommand_105 (by decide) ?_
                exact v_zret hX hr hsz dX4_takesCommand_109 rfl rfl (bI_narrow (true)) (congrArg bI (by (subst hv46; subst hv45; subst hv43; subst hv42; first | rfl | (simp only [P_cmd, P_cmd2, P_kind, P_isK, c3, c10, c20, c30, c40t, c44, c47t, if_true, if_false, reduceIte, Bool.false_eq_true, reduceCtorEq, decide_true, decide_false, Bool.and_true, Bool.and_false, Bool.true_and, Bool.false_and, Bool.or_true, Bool.or_false, Bool.true_or, Bool.false_or, not_true_eq_false, not_false_eq_true, Bool.not_true, Bool.not_false, eq_self, Nat.reduceEqDiff]; done) | (simp only [P_cmd, P_cmd2, P_kind, P_isK, c3, c10, c20, c30, c40t, c44, c47t, if_true, if_false, reduceIte, Bool.false_eq_true, reduceCtorEq, decide_true, decide_false, Bool.and_true, Bool.and_false, Bool.true_and, Bool.false_and, Bool.or_true, Bool.or_false, Bool.true_or, Bool.false_or, not_true_eq_false, not_false_eq_true, Bool.not_true, Bool.not_false, eq_self, Nat.reduceEqDiff]; rfl) | contradiction | (exfalso; omega)) : true = (P_cmd v no).1)) (by (subst hv46; subst hv45; subst hv43; subst hv42; first | rfl | (simp only [P_cmd, P_cmd2, P_kind, P_isK, c3, c10, c20, c30, c40t, c44, c47t, if_true, if_false, reduceIte, Bool.false_eq_true, reduceCtorEq, decide_true, decide_false, Bool.and_true, Bool.and_false, Bool.true_and, Bool.false_and, Bool.or_true, Bool.or_false, Bool.true_or, Bool.false_or, not_true_eq_false, not_false_eq_true, Bool.not_true, Bool.not_false, eq_self, Nat.reduceEqDiff]; done) | (simp only [P_cmd, P_cmd2, P_kind, P_isK, c3, c10, c20, c30, c40t, c44, c47t, if_true, if_false, reduceIte, Bool.false_eq_true, reduceCtorEq, decide_true, decide_false, Bool.and_true, Bool.and_false, Bool.true_and, Bool.false_and, Bool.or_true, Bool.or_false, Bool.true_or, Bool.false_or, not_true_eq_false, not_false_eq_true, Bool.not_true, Bool.not_false, eq_self, Nat.reduceEqDiff]; rfl) | contradiction | (exfalso; omega)))
              · replace c47 := (not_congr (nI_eq (a := (v.1 (v.2.2.2.2.2.2.2.val)).val) (b := 102) (by omega) (by omega))).mp c47
                refine v_aload_n hX dX4_takesCommand_96 rfl ?_
                refine v_iload_n hX dX4_takesCommand_97 rfl ?_
                obtain ⟨v48, hv48⟩ : ∃ z_ : PV, z_ = (P_lv v46 no).2 := ⟨_, rfl⟩
                refine v_callVi (r := bI ((P_lv v46 no).1)) (rest := []) (ws' := wP E a v48) hX (fun sz => c_X4_takesLineAndValue l E a sz v46 no (by first | omega | exact Nat.le_of_ble_eq_true rfl)) (cwV 1 hX.2.2.2.2.1 gX4_takesCommand_X4_takesLineAndValue rfl rfl rfl (by decide +kernel) ⟨Nat.le_of_ble_eq_true rfl, Nat.le_of_ble_eq_true rfl⟩) ([]) ([]) ((List.append_nil _).symm) (by rw [hv48]; exact List.append_nil _) (wP_fst E a _ _) (ci := 4) (q0 := 0) rfl rfl rfl rfl rfl (Nat.le_of_ble_eq_true rfl) dX4_takesCommand_98 ?_
                refine v_if_eq (tgt := 108) hX dX4_takesCommand_101 (by decide) (fun c49 => ?_) (fun c49 => ?_)
                · replace c49 := bI_0.mp c49
                  refine v_iconst (x := (0 : Int32)) hX dX4_takesCommand_108 (by decide) ?_
                  exact v_zret hX hr hsz dX4_takesCommand_109 rfl rfl (bI_narrow (false)) (congrArg bI (by (subst hv48; subst hv46; subst hv45; subst hv43; subst hv42; first | rfl | (simp only [P_cmd, P_cmd2, P_kind, P_isK, c3, c10, c20, c30, c40t, c44, c47, c49, if_true, if_false, reduceIte, Bool.false_eq_true, reduceCtorEq, decide_true, decide_false, Bool.and_true, Bool.and_false, Bool.true_and, Bool.false_and, Bool.or_true, Bool.or_false, Bool.true_or, Bool.false_or, not_true_eq_false, not_false_eq_true, Bool.not_true, Bool.not_false, eq_self, Nat.reduceEqDiff]; done) | (simp only [P_cmd, P_cmd2, P_kind, P_isK, c3, c10, c20, c30, c40t, c44, c47, c49, if_true, if_false, reduceIte, Bool.false_eq_true, reduceCtorEq, decide_true, decide_false, Bool.and_true, Bool.and_false, Bool.true_and, Bool.false_and, Bool.or_true, Bool.or_false, Bool.true_or, Bool.false_or, not_true_eq_false, not_false_eq_true, Bool.not_true, Bool.not_false, eq_self, Nat.reduceEqDiff]; rfl) | contradiction | (exfalso; omega)) : false = (P_cmd v no).1)) (by (subst hv48; subst hv46; subst hv45; subst hv43; subst hv42; first | rfl | (simp only [P_cmd, P_cmd2, P_kind, P_isK, c3, c10, c20, c30, c40t, c44, c47, c49, if_true, if_false, reduceIte, Bool.false_eq_true, reduceCtorEq, decide_true, decide_false, Bool.and_true, Bool.and_false, Bool.true_and, Bool.false_and, Bool.or_true, Bool.or_false, Bool.true_or, Bool.false_or, not_true_eq_false, not_false_eq_true, Bool.not_true, Bool.not_false, eq_self, Nat.reduceEqDiff]; done) | (simp only [P_cmd, P_cmd2, P_kind, P_isK, c3, c10, c20, c30, c40t, c44, c47, c49, if_true, if_false, reduceIte, Bool.false_eq_true, reduceCtorEq, decide_true, decide_false, Bool.and_true, Bool.and_false, Bool.true_and, Bool.false_and, Bool.or_true, Bool.or_false, Bool.true_or, Bool.false_or, not_true_eq_false, not_false_eq_true, Bool.not_true, Bool.not_false, eq_self, Nat.reduceEqDiff]; rfl) | contradiction | (exfalso; omega)))
                · replace c49 := bI_n0.mp c49
                  refine v_iconst (x := (1 : Int32)) hX dX4_takesCommand_104 (by decide) ?_
                  refine v_goto (tgt := 109) hX dX4_takesCommand_105 (by decide) ?_
                  exact v_zret hX hr hsz dX4_takesCommand_109 rfl rfl (bI_narrow (true)) (congrArg bI (by (subst hv48; subst hv46; subst hv45; subst hv43; subst hv42; first | rfl | (simp only [P_cmd, P_cmd2, P_kind, P_isK, c3, c10, c20, c30, c40t, c44, c47, c49, if_true, if_false, reduceIte, Bool.false_eq_true, reduceCtorEq, decide_true, decide_false, Bool.and_true, Bool.and_false, Bool.true_and, Bool.false_and, Bool.or_true, Bool.or_false, Bool.true_or, Bool.false_or, not_true_eq_false, not_false_eq_true, Bool.not_true, Bool.not_false, eq_self, Nat.reduceEqDiff]; done) | (simp only [P_cmd, P_cmd2, P_kind, P_isK, c3, c10, c20, c30, c40t, c44, c47, c49, if_true, if_false, reduceIte, Bool.false_eq_true, reduceCtorEq, decide_true, decide_false, Bool.and_true, Bool.and_false, Bool.true_and, Bool.false_and, Bool.or_true, Bool.or_false, Bool.true_or, Bool.false_or, not_true_eq_false, not_false_eq_true, Bool.not_true, Bool.not_false, eq_self, Nat.reduceEqDiff]; rfl) | contradiction | (exfalso; omega)) : true = (P_cmd v no).1)) (by (subst hv48; subst hv46; subst hv45; subst hv43; subst hv42; first | rfl | (simp only [P_cmd, P_cmd2, P_kind, P_isK, c3, c10, c20, c30, c40t, c44, c47, c49, if_true, if_false, reduceIte, Bool.false_eq_true, reduceCtorEq, decide_true, decide_false, Bool.and_true, Bool.and_false, Bool.true_and, Bool.false_and, Bool.or_true, Bool.or_false, Bool.true_or, Bool.false_or, not_true_eq_false, not_false_eq_true, Bool.not_true, Bool.not_false, eq_self, Nat.reduceEqDiff]; done) | (simp only [P_cmd, P_cmd2, P_kind, P_isK, c3, c10, c20, c30, c40t, c44, c47, c49, if_true, if_false, reduceIte, Bool.false_eq_true, reduceCtorEq, decide_true, decide_false, Bool.and_true, Bool.and_false, Bool.true_and, Bool.false_and, Bool.or_true, Bool.or_false, Bool.true_or, Bool.false_or, not_true_eq_false, not_false_eq_true, Bool.not_true, Bool.not_false, eq_self, Nat.reduceEqDiff]; rfl) | contradiction | (exfalso; omega)))
            · replace c44 := bI_0.mp c44
              refine v_iconst (x := (0 : Int32)) hX dX4_takesCommand_77 (by decide) ?_
              exact v_zret hX hr hsz dX4_takesCommand_78 rfl rfl (bI_narrow (false)) (congrArg bI (by (subst hv43; subst hv42; first | rfl | (simp only [P_cmd, P_cmd2, P_kind, P_isK, c3, c10, c20, c30, c40t, c44, if_true, if_false, reduceIte, Bool.false_eq_true, reduceCtorEq, decide_true, decide_false, Bool.and_true, Bool.and_false, Bool.true_and, Bool.false_and, Bool.or_true, Bool.or_false, Bool.true_or, Bool.false_or, not_true_eq_false, not_false_eq_true, Bool.not_true, Bool.not_false, eq_self, Nat.reduceEqDiff]; done) | (simp only [P_cmd, P_cmd2, P_kind, P_isK, c3, c10, c20, c30, c40t, c44, if_true, if_false, reduceIte, Bool.false_eq_true, reduceCtorEq, decide_true, decide_false, Bool.and_true, Bool.and_false, Bool.true_and, Bool.false_and, Bool.or_true, Bool.or_false, Bool.true_or, Bool.false_or, not_true_eq_false, not_false_eq_true, Bool.not_true, Bool.not_false, eq_self, Nat.reduceEqDiff]; rfl) | contradiction | (exfalso; omega)) : false = (P_cmd v no).1)) (by (subst hv43; subst hv42; first | rfl | (simp only [P_cmd, P_cmd2, P_kind, P_isK, c3, c10, c20, c30, c40t, c44, if_true, if_false, reduceIte, Bool.false_eq_true, reduceCtorEq, decide_true, decide_false, Bool.and_true, Bool.and_false, Bool.true_and, Bool.false_and, Bool.or_true, Bool.or_false, Bool.true_or, Bool.false_or, not_true_eq_false, not_false_eq_true, Bool.not_true, Bool.not_false, eq_self, Nat.reduceEqDiff]; done) | (simp only [P_cmd, P_cmd2, P_kind, P_isK, c3, c10, c20, c30, c40t, c44, if_true, if_false, reduceIte, Bool.false_eq_true, reduceCtorEq, decide_true, decide_false, Bool.and_true, Bool.and_false, Bool.true_and, Bool.false_and, Bool.or_true, Bool.or_false, Bool.true_or, Bool.false_or, not_true_eq_false, not_false_eq_true, Bool.not_true, Bool.not_false, eq_self, Nat.reduceEqDiff]; rfl) | contradiction | (exfalso; omega)))
          · replace c40 := (not_congr (nI_eq (a := (v.1 (v.2.2.2.2.2.2.2.val)).val) (b := 102) (by omega) (by omega))).mp c40
            refine v_iconst (x := (0 : Int32)) hX dX4_takesCommand_50 (by decide) ?_
            exact v_zret hX hr hsz dX4_takesCommand_51 rfl rfl (bI_narrow (false)) (congrArg bI (by (first | rfl | (simp only [P_cmd, P_cmd2, P_kind, P_isK, c3, c10, c20, c30, c40, if_true, if_false, reduceIte, Bool.false_eq_true, reduceCtorEq, decide_true, decide_false, Bool.and_true, Bool.and_false, Bool.true_and, Bool.false_and, Bool.or_true, Bool.or_false, Bool.true_or, Bool.false_or, not_true_eq_false, not_false_eq_true, Bool.not_true, Bool.not_false, eq_self, Nat.reduceEqDiff]; done) | (simp only [P_cmd, P_cmd2, P_kind, P_isK, c3, c10, c20, c30, c40, if_true, if_false, reduceIte, Bool.false_eq_true, reduceCtorEq, decide_true, decide_false, Bool.and_true, Bool.and_false, Bool.true_and, Bool.false_and, Bool.or_true, Bool.or_false, Bool.true_or, Bool.false_or, not_true_eq_false, not_false_eq_true, Bool.not_true, Bool.not_false, eq_self, Nat.reduceEqDiff]; rfl) | contradiction | (exfalso; omega)) : false = (P_cmd v no).1)) (by (first | rfl | (simp only [P_cmd, P_cmd2, P_kind, P_isK, c3, c10, c20, c30, c40, if_true, if_false, reduceIte, Bool.false_eq_true, reduceCtorEq, decide_true, decide_false, Bool.and_true, Bool.and_false, Bool.true_and, Bool.false_and, Bool.or_true, Bool.or_false, Bool.true_or, Bool.false_or, not_true_eq_false, not_false_eq_true, Bool.not_true, Bool.not_false, eq_self, Nat.reduceEqDiff]; done) | (simp only [P_cmd, P_cmd2, P_kind, P_isK, c3, c10, c20, c30, c40, if_true, if_false, reduceIte, Bool.false_eq_true, reduceCtorEq, decide_true, decide_false, Bool.and_true, Bool.and_false, Bool.true_and, Bool.false_and, Bool.or_true, Bool.or_false, Bool.true_or, Bool.false_or, not_true_eq_false, not_false_eq_true, Bool.not_true, Bool.not_false, eq_self, Nat.reduceEqDiff]; rfl) | contradiction | (exfalso; omega)))
set_option maxHeartbeats 4000000 in
set_option maxRecDepth 100000 in
theorem c_X4_findFault (l : Launch) (E : ET) (a : Nat → Nat) (sz : Nat) (v : PV) : Met l yX4_findFault wsX4_findFault ({ frames := 4, cells := 0, slots := 0, locals := 88 }) (mPc E [.ref (a 0)] sz (wP E a v)) (mQi E ((P_ff v).1) (wP E a v) (wP E a ((P_ff v).2)) sz) 0 0 (va_A (wP E a v) sz) := by
  refine v_start (cc := cX4_findFault) (maxL := 1) (ret := (some .int)) (by decide) rfl (Nat.le_of_ble_eq_true rfl) rfl ?_
  intro p e s m args below meth c hsz hr hX
  have hX : Xc p s m args meth c E 1 (va_A (wP E a v) sz) cX4_findFault RX4 wsX4_findFault := hX
  have in_X4 : ∀ w ∈ u_ws RX4 TX4 8, w ∈ wsX4_findFault := by decide +kernel
  have fl_32 : Cond.fieldLink RX4 32 RX4 "at" "I" ∈ wsX4_findFault := by decide +kernel
  have fl_35 : Cond.fieldLink RX4 35 RX4 "commands" "I" ∈ wsX4_findFault := by decide +kernel
  have fl_28 : Cond.fieldLink RX4 28 RX4 "length" "I" ∈ wsX4_findFault := by decide +kernel
  refine v_aload_n hX dX4_findFault_0 rfl ?_
  refine v_iconst (x := (0 : Int32)) hX dX4_findFault_1 (by decide) ?_
  obtain ⟨v1, hv1⟩ : ∃ z_ : PV, z_ = P_setAt v (0) := ⟨_, rfl⟩
  refine v_put (C := RX4) (T := TX4) (N := 8) (ci := 4) (v := .int ((0 : Int32))) (ty := .int) (ws' := wP E a v1) hX in_X4 tyX4 tyX4_ok nmX4 0 rfl rfl 7 (by decide) fl_32 rfl rfl (by decide +kernel) (rfl) (rfl) (Nat.le_of_ble_eq_true rfl) dX4_findFault_2 (by rw [hv1]; exact sP_At E a v (x := 0) (by omega)) ?_
  refine v_aload_n hX dX4_findFault_5 rfl ?_
  refine v_iconst (x := (0 : Int32)) hX dX4_findFault_6 (by decide) ?_
  obtain ⟨v2, hv2⟩ : ∃ z_ : PV, z_ = P_setCmds v1 (0) := ⟨_, rfl⟩
  refine v_put (C := RX4) (T := TX4) (N := 8) (ci := 4) (v := .int ((0 : Int32))) (ty := .int) (ws' := wP E a v2) hX in_X4 tyX4 tyX4_ok nmX4 0 rfl rfl 6 (by decide) fl_35 rfl rfl (by decide +kernel) (rfl) (rfl) (Nat.le_of_ble_eq_true rfl) dX4_findFault_7 (by rw [hv2]; exact sP_Cmds E a v1 (x := 0) (by omega)) ?_
  have loop_10 : ∀ (fu : Nat) (w : PV), 27 - w.2.2.2.2.2.2.1.val ≤ fu → P_ffL fu w = P_ff v → V p l e ({ frames := 4, cells := 0, slots := 0, locals := 88 } : Room) s m args below meth c E 1 (va_A (wP E a v) sz) (MQ below (mQi E ((P_ff v).1) (wP E a v) (wP E a ((P_ff v).2)) sz) args s 0 0 (va_A (wP E a v) sz)) (wP E a w) [.ref (a 0)] 10 [] := by
    intro fu
    induction fu with
    | zero =>
      intro w inv0 inv1
      refine v_aload_n hX dX4_findFault_10 rfl ?_
      refine v_get (C := RX4) (T := TX4) (N := 8) (ci := 4) (v := .int (nI (w.2.2.2.2.2.2.1.val))) hX in_X4 0 rfl rfl 6 (by decide) fl_35 rfl rfl dX4_findFault_11 ?_
      have hb3 := (w.2.2.2.2.2.2.1).isLt
      refine v_bipush (x := (27 : Int32)) hX dX4_findFault_14 (by decide) ?_
      refine v_icmp_ge (tgt := 72) hX dX4_findFault_16 (by decide) (fun c4 => ?_) (fun c4 => ?_)
      · replace c4 := (nI_leI (a := 27) (b := w.2.2.2.2.2.2.1.val) (by omega) (by omega)).mp c4
        refine v_aload_n hX dX4_findFault_72 rfl ?_
        refine v_get (C := RX4) (T := TX4) (N := 8) (ci := 4) (v := .int (nI (w.2.2.2.2.2.2.2.val))) hX in_X4 0 rfl rfl 7 (by decide) fl_32 rfl rfl dX4_findFault_73 ?_
        have hb5 := (w.2.2.2.2.2.2.2).isLt
        exact v_iret hX hr hsz dX4_findFault_76 rfl rfl (by (subst hv2; subst hv1; rw [← inv1]; first | (simp only [P_ffL, c4, if_true, if_false, reduceIte, Bool.false_eq_true]; done) | (simp only [P_ffL, c4, if_true, if_false, reduceIte, Bool.false_eq_true]; rfl) | rfl)) (by (subst hv2; subst hv1; rw [← inv1]; first | (simp only [P_ffL, c4, if_true, if_false, reduceIte, Bool.false_eq_true]; done) | (simp only [P_ffL, c4, if_true, if_false, reduceIte, Bool.false_eq_true]; rfl) | rfl))
      · replace c4 := (not_congr (nI_leI (a := 27) (b := w.2.2.2.2.2.2.1.val) (by omega) (by omega))).mp c4
        exfalso; omega
    | succ fu ih =>
      intro w inv0 inv1
      refine v_aload_n hX dX4_findFault_10 rfl ?_
      refine v_get (C := RX4) (T := TX4) (N := 8) (ci := 4) (v := .int (nI (w.2.2.2.2.2.2.1.val))) hX in_X4 0 rfl rfl 6 (by decide) fl_35 rfl rfl dX4_findFault_11 ?_
      have hb6 := (w.2.2.2.2.2.2.1).isLt
      refine v_bipush (x := (27 : Int32)) hX dX4_findFault_14 (by decide) ?_
      refine v_icmp_ge (tgt := 72) hX dX4_findFault_16 (by decide) (fun c7 => ?_) (fun c7 => ?_)
      · replace c7 := (nI_leI (a := 27) (b := w.2.2.2.2.2.2.1.val) (by omega) (by omega)).mp c7
        refine v_aload_n hX dX4_findFault_72 rfl ?_
        refine v_get (C := RX4) (T := TX4) (N := 8) (ci := 4) (v := .int (nI (w.2.2.2.2.2.2.2.val))) hX in_X4 0 rfl rfl 7 (by decide) fl_32 rfl rfl dX4_findFault_73 ?_
        have hb8 := (w.2.2.2.2.2.2.2).isLt
        exact v_iret hX hr hsz dX4_findFault_76 rfl rfl (by (subst hv2; subst hv1; rw [← inv1]; first | (simp only [P_ffL, c7, if_true, if_false, reduceIte, Bool.false_eq_true]; done) | (simp only [P_ffL, c7, if_true, if_false, reduceIte, Bool.false_eq_true]; rfl) | rfl)) (by (subst hv2; subst hv1; rw [← inv1]; first | (simp only [P_ffL, c7, if_true, if_false, reduceIte, Bool.false_eq_true]; done) | (simp only [P_ffL, c7, if_true, if_false, reduceIte, Bool.false_eq_true]; rfl) | rfl))
      · replace c7 := (not_congr (nI_leI (a := 27) (b := w.2.2.2.2.2.2.1.val) (by omega) (by omega))).mp c7
        refine v_aload_n hX dX4_findFault_19 rfl ?_
        refine v_aload_n hX dX4_findFault_20 rfl ?_
        refine v_get (C := RX4) (T := TX4) (N := 8) (ci := 4) (v := .int (nI (w.2.2.2.2.2.2.1.val))) hX in_X4 0 rfl rfl 6 (by decide) fl_35 rfl rfl dX4_findFault_21 ?_
        have hb9 := (w.2.2.2.2.2.2.1).isLt
        obtain ⟨v10, hv10⟩ : ∃ z_ : PV, z_ = (P_cmd w w.2.2.2.2.2.2.1.val).2 := ⟨_, rfl⟩
        refine v_callVi (r := bI ((P_cmd w w.2.2.2.2.2.2.1.val).1)) (rest := []) (ws' := wP E a v10) hX (fun sz => c_X4_takesCommand l E a sz w w.2.2.2.2.2.2.1.val (by first | omega | exact Nat.le_of_ble_eq_true rfl)) (cwV 1 hX.2.2.2.2.1 gX4_findFault_X4_takesCommand rfl rfl rfl (by decide +kernel) ⟨Nat.le_of_ble_eq_true rfl, Nat.le_of_ble_eq_true rfl⟩) ([]) ([]) ((List.append_nil _).symm) (by rw [hv10]; exact List.append_nil _) (wP_fst E a _ _) (ci := 4) (q0 := 0) rfl rfl rfl rfl rfl (Nat.le_of_ble_eq_true rfl) dX4_findFault_24 ?_
        refine v_if_ne (tgt := 35) hX dX4_findFault_27 (by decide) (fun c11 => ?_) (fun c11 => ?_)
        · replace c11 := bI_n0.mp c11
          refine v_aload_n hX dX4_findFault_35 rfl ?_
          refine v_dup hX dX4_findFault_36 rfl ?_
          refine v_get (C := RX4) (T := TX4) (N := 8) (ci := 4) (v := .int (nI (v10.2.2.2.2.2.2.1.val))) hX in_X4 0 rfl rfl 6 (by decide) fl_35 rfl rfl dX4_findFault_37 ?_
          have hb12 := (v10.2.2.2.2.2.2.1).isLt
          refine v_iconst (x := (1 : Int32)) hX dX4_findFault_40 (by decide) ?_
          refine v_iadd (z := nI (v10.2.2.2.2.2.2.1.val + 1)) hX dX4_findFault_41 (nI_add v10.2.2.2.2.2.2.1.val 1) ?_
          have hq : v10.2.2.2.2.2.2.1.val = w.2.2.2.2.2.2.1.val := by rw [hv10, P_cmd_cmds]
          obtain ⟨v13, hv13⟩ : ∃ z_ : PV, z_ = P_setCmds v10 (v10.2.2.2.2.2.2.1.val + 1) := ⟨_, rfl⟩
          refine v_put (C := RX4) (T := TX4) (N := 8) (ci := 4) (v := .int (nI (v10.2.2.2.2.2.2.1.val + 1))) (ty := .int) (ws' := wP E a v13) hX in_X4 tyX4 tyX4_ok nmX4 0 rfl rfl 6 (by decide) fl_35 rfl rfl (by decide +kernel) (rfl) (rfl) (Nat.le_of_ble_eq_true rfl) dX4_findFault_42 (by rw [hv13]; exact sP_Cmds E a v10 (x := v10.2.2.2.2.2.2.1.val + 1) (by omega)) ?_
          refine v_aload_n hX dX4_findFault_45 rfl ?_
          refine v_get (C := RX4) (T := TX4) (N := 8) (ci := 4) (v := .int (nI (v13.2.2.2.2.2.2.2.val))) hX in_X4 0 rfl rfl 7 (by decide) fl_32 rfl rfl dX4_findFault_46 ?_
          have hb14 := (v13.2.2.2.2.2.2.2).isLt
          refine v_aload_n hX dX4_findFault_49 rfl ?_
          refine v_get (C := RX4) (T := TX4) (N := 8) (ci := 4) (v := .int (nI (v13.2.2.2.2.2.1.val))) hX in_X4 0 rfl rfl 5 (by decide) fl_28 rfl rfl dX4_findFault_50 ?_
          have hb15 := (v13.2.2.2.2.2.1).isLt
          refine v_icmp_ne (tgt := 58) hX dX4_findFault_53 (by decide) (fun c16 => ?_) (fun c16 => ?_)
          · replace c16 := (not_congr (nI_eq (a := v13.2.2.2.2.2.2.2.val) (b := v13.2.2.2.2.2.1.val) (by omega) (by omega))).mp c16
            refine v_aload_n hX dX4_findFault_58 rfl ?_
            refine v_bipush (x := (59 : Int32)) hX dX4_findFault_59 (by decide) ?_
            obtain ⟨v17, hv17⟩ : ∃ z_ : PV, z_ = P_takes v13 59 := ⟨_, rfl⟩
            refine v_callVi (r := bI (P_takesB v13 59)) (rest := []) (ws' := wP E a v17) hX (fun sz => c_X4_takes l E a sz v13 59 (by first | omega | exact Nat.le_of_ble_eq_true rfl)) (cwV 1 hX.2.2.2.2.1 gX4_findFault_X4_takes rfl rfl rfl (by decide +kernel) ⟨Nat.le_of_ble_eq_true rfl, Nat.le_of_ble_eq_true rfl⟩) ([]) ([]) ((List.append_nil _).symm) (by rw [hv17]; exact List.append_nil _) (wP_fst E a _ _) (ci := 4) (q0 := 0) rfl rfl rfl rfl rfl (Nat.le_of_ble_eq_true rfl) dX4_findFault_61 ?_
            refine v_if_ne (tgt := 10) hX dX4_findFault_64 (by decide) (fun c18 => ?_) (fun c18 => ?_)
            · replace c18 := bI_n0.mp c18
              exact ih v17 (by rw [hv17, P_takes_cmds, hv13, P_cm_cm _ (by omega)]; omega) (by (subst hv17; subst hv13; subst hv10; subst hv2; subst hv1; rw [← inv1]; first | (simp only [P_ffL, c7, c11, c16, c18, if_true, if_false, reduceIte, Bool.false_eq_true]; done) | (simp only [P_ffL, c7, c11, c16, c18, if_true, if_false, reduceIte, Bool.false_eq_true]; rfl) | rfl))
            · replace c18 := bI_0.mp c18
              refine v_aload_n hX dX4_findFault_67 rfl ?_
              refine v_get (C := RX4) (T := TX4) (N := 8) (ci := 4) (v := .int (nI (v17.2.2.2.2.2.2.2.val))) hX in_X4 0 rfl rfl 7 (by decide) fl_32 rfl rfl dX4_findFault_68 ?_
              have hb19 := (v17.2.2.2.2.2.2.2).isLt
              exact v_iret hX hr hsz dX4_findFault_71 rfl rfl (by (subst hv17; subst hv13; subst hv10; subst hv2; subst hv1; rw [← inv1]; first | (simp only [P_ffL, c7, c11, c16, c18, if_true, if_false, reduceIte, Bool.false_eq_true]; done) | (simp only [P_ffL, c7, c11, c16, c18, if_true, if_false, reduceIte, Bool.false_eq_true]; rfl) | rfl)) (by (subst hv17; subst hv13; subst hv10; subst hv2; subst hv1; rw [← inv1]; first | (simp only [P_ffL, c7, c11, c16, c18, if_true, if_false, reduceIte, Bool.false_eq_true]; done) | (simp only [P_ffL, c7, c11, c16, c18, if_true, if_false, reduceIte, Bool.false_eq_true]; rfl) | rfl))
          · replace c16 := (nI_eq (a := v13.2.2.2.2.2.2.2.val) (b := v13.2.2.2.2.2.1.val) (by omega) (by omega)).mp c16
            have c16t := eq_true c16
            refine v_iconst (x := (-1 : Int32)) hX dX4_findFault_56 (by decide) ?_
            exact v_iret hX hr hsz dX4_findFault_57 rfl rfl (by (subst hv13; subst hv10; subst hv2; subst hv1; rw [← inv1]; first | (simp only [P_ffL, c7, c11, c16t, if_true, if_false, reduceIte, Bool.false_eq_true]; done) | (simp only [P_ffL, c7, c11, c16t, if_true, if_false, reduceIte, Bool.false_eq_true]; rfl) | rfl)) (by (subst hv13; subst hv10; subst hv2; subst hv1; rw [← inv1]; first | (simp only [P_ffL, c7, c11, c16t, if_true, if_false, reduceIte, Bool.false_eq_true]; done) | (simp only [P_ffL, c7, c11, c16t, if_true, if_false, reduceIte, Bool.false_eq_true]; rfl) | rfl))
        · replace c11 := bI_0.mp c11
          refine v_aload_n hX dX4_findFault_30 rfl ?_
          refine v_get (C := RX4) (T := TX4) (N := 8) (ci := 4) (v := .int (nI (v10.2.2.2.2.2.2.2.val))) hX in_X4 0 rfl rfl 7 (by decide) fl_32 rfl rfl dX4_findFault_31 ?_
          have hb20 := (v10.2.2.2.2.2.2.2).isLt
          exact v_iret hX hr hsz dX4_findFault_34 rfl rfl (by (subst hv10; subst hv2; subst hv1; rw [← inv1]; first | (simp only [P_ffL, c7, c11, if_true, if_false, reduceIte, Bool.false_eq_true]; done) | (simp only [P_ffL, c7, c11, if_true, if_false, reduceIte, Bool.false_eq_true]; rfl) | rfl)) (by (subst hv10; subst hv2; subst hv1; rw [← inv1]; first | (simp only [P_ffL, c7, c11, if_true, if_false, reduceIte, Bool.false_eq_true]; done) | (simp only [P_ffL, c7, c11, if_true, if_false, reduceIte, Bool.false_eq_true]; rfl) | rfl))
  subst hv2
  subst hv1
  exact loop_10 28 _ (by show 27 - _ ≤ 28; omega) rfl
set_option maxHeartbeats 4000000 in
set_option maxRecDepth 100000 in
theorem c_X4_isReading (l : Launch) (E : ET) (a : Nat → Nat) (sz : Nat) (v : PV) (no : Nat) (hno : no < 27) : Met l yX4_isReading wsX4_isReading ({ frames := 0, cells := 0, slots := 0, locals := 0 }) (mPc E [.ref (a 0), .int (nI (no))] sz (wP E a v)) (mQi E (bI (decide ((v.2.1 no).val = 114))) (wP E a v) (wP E a v) sz) 0 0 (va_A (wP E a v) sz) := by
  refine v_start (cc := cX4_isReading) (maxL := 2) (ret := (some .boolean)) (by decide) rfl (Nat.le_of_ble_eq_true rfl) rfl ?_
  intro p e s m args below meth c hsz hr hX
  have hX : Xc p s m args meth c E 2 (va_A (wP E a v) sz) cX4_isReading RX4 wsX4_isReading := hX
  have in_X4 : ∀ w ∈ u_ws RX4 TX4 8, w ∈ wsX4_isReading := by decide +kernel
  have fl_15 : Cond.fieldLink RX4 15 RX4 "kinds" "[C" ∈ wsX4_isReading := by decide +kernel
  refine v_aload_n hX dX4_isReading_0 rfl ?_
  refine v_get (C := RX4) (T := TX4) (N := 8) (ci := 4) (v := .ref (a 2)) hX in_X4 0 rfl rfl 1 (by decide) fl_15 rfl rfl dX4_isReading_1 ?_
  refine v_iload_n hX dX4_isReading_4 rfl ?_
  refine v_cald (z := nI (v.2.1 (no)).val) hX 2 rfl (vp_in_nI (by omega : no < 27) (by omega)) (by simp only [nI_clamp (show no < 2 ^ 31 by omega)]) dX4_isReading_5 ?_
  have hb1 := (v.2.1 (no)).isLt
  refine v_bipush (x := (114 : Int32)) hX dX4_isReading_6 (by decide) ?_
  refine v_icmp_ne (tgt := 15) hX dX4_isReading_8 (by decide) (fun c2 => ?_) (fun c2 => ?_)
  · replace c2 := (not_congr (nI_eq (a := (v.2.1 (no)).val) (b := 114) (by omega) (by omega))).mp c2
    refine v_iconst (x := (0 : Int32)) hX dX4_isReading_15 (by decide) ?_
    exact v_zret hX hr hsz dX4_isReading_16 rfl rfl (bI_narrow (false)) (congrArg bI (by (first | rfl | (simp only [c2, if_true, if_false, reduceIte, Bool.false_eq_true, reduceCtorEq, decide_true, decide_false, Bool.and_true, Bool.and_false, Bool.true_and, Bool.false_and, Bool.or_true, Bool.or_false, Bool.true_or, Bool.false_or, not_true_eq_false, not_false_eq_true, Bool.not_true, Bool.not_false, eq_self, Nat.reduceEqDiff]; done) | (simp only [c2, if_true, if_false, reduceIte, Bool.false_eq_true, reduceCtorEq, decide_true, decide_false, Bool.and_true, Bool.and_false, Bool.true_and, Bool.false_and, Bool.or_true, Bool.or_false, Bool.true_or, Bool.false_or, not_true_eq_false, not_false_eq_true, Bool.not_true, Bool.not_false, eq_self, Nat.reduceEqDiff]; rfl) | contradiction | (exfalso; omega)) : false = decide ((v.2.1 no).val = 114))) rfl
  · replace c2 := (nI_eq (a := (v.2.1 (no)).val) (b := 114) (by omega) (by omega)).mp c2
    have c2t := eq_true c2
    refine v_iconst (x := (1 : Int32)) hX dX4_isReading_11 (by decide) ?_
    refine v_goto (tgt := 16) hX dX4_isReading_12 (by decide) ?_
    exact v_zret hX hr hsz dX4_isReading_16 rfl rfl (bI_narrow (true)) (congrArg bI (by (first | rfl | (simp only [c2t, if_true, if_false, reduceIte, Bool.false_eq_true, reduceCtorEq, decide_true, decide_false, Bool.and_true, Bool.and_false, Bool.true_and, Bool.false_and, Bool.or_true, Bool.or_false, Bool.true_or, Bool.false_or, not_true_eq_false, not_false_eq_true, Bool.not_true, Bool.not_false, eq_self, Nat.reduceEqDiff]; done) | (simp only [c2t, if_true, if_false, reduceIte, Bool.false_eq_true, reduceCtorEq, decide_true, decide_false, Bool.and_true, Bool.and_false, Bool.true_and, Bool.false_and, Bool.or_true, Bool.or_false, Bool.true_or, Bool.false_or, not_true_eq_false, not_false_eq_true, Bool.not_true, Bool.not_false, eq_self, Nat.reduceEqDiff]; rfl) | contradiction | (exfalso; omega)) : true = decide ((v.2.1 no).val = 114))) rfl
set_option maxHeartbeats 4000000 in
set_option maxRecDepth 100000 in
theorem c_X4_runCommand (l : Launch) (E : ET) (a b : Nat → Nat) (sz : Nat) (v : MV) (q : PV) (no : Nat) (hno : no < 27) : Met l yX4_runCommand wsX4_runCommand ({ frames := 5, cells := 0, slots := 0, locals := 113 }) (mPc E [.ref (b 0), .int (nI (no)), .ref (a 0)] sz (wP E b q ++ wM E a v)) (mQi E ((P_run q v no).2) (wP E b q ++ wM E a v) (wP E b q ++ wM E a ((P_run q v no).1)) sz) 0 0 (va_A (wP E b q ++ wM E a v) sz) := by
  refine v_start (cc := cX4_runCommand) (maxL := 6) (ret := (some .int)) (by decide) rfl (Nat.le_of_ble_eq_true rfl) rfl ?_
  intro p e s m args below meth c hsz hr hX
  have hX : Xc p s m args meth c E 6 (va_A (wP E b q ++ wM E a v) sz) cX4_runCommand RX4 wsX4_runCommand := hX
  have in_X4 : ∀ w ∈ u_ws RX4 TX4 8, w ∈ wsX4_runCommand := by decide +kernel
  have fl_18 : Cond.fieldLink RX4 18 RX4 "coresOf" "[I" ∈ wsX4_runCommand := by decide +kernel
  have fl_22 : Cond.fieldLink RX4 22 RX4 "linesOf" "[I" ∈ wsX4_runCommand := by decide +kernel
  have fl_15 : Cond.fieldLink RX4 15 RX4 "kinds" "[C" ∈ wsX4_runCommand := by decide +kernel
  have fl_25 : Cond.fieldLink RX4 25 RX4 "valuesOf" "[I" ∈ wsX4_runCommand := by decide +kernel
  refine v_aload_n hX dX4_runCommand_0 rfl ?_
  refine v_get (C := RX4) (T := TX4) (N := 8) (ci := 4) (v := .ref (b 3)) hX in_X4 0 rfl rfl 2 (by decide) fl_18 rfl rfl dX4_runCommand_1 ?_
  refine v_iload_n hX dX4_runCommand_4 rfl ?_
  refine v_iald (z := nI (q.2.2.1 (no)).val) hX 3 rfl (vp_in_nI (by omega : no < 27) (by omega)) (by simp only [nI_clamp (show no < 2 ^ 31 by omega)]) dX4_runCommand_5 ?_
  have hb1 := (q.2.2.1 (no)).isLt
  refine v_istore_n (lv' := [.ref (b 0), .int (nI (no)), .ref (a 0), .int (nI (q.2.2.1 (no)).val)]) hX dX4_runCommand_6 (Nat.le_of_ble_eq_true rfl) (Nat.le_of_ble_eq_true rfl) rfl rfl ?_
  refine v_aload_n hX dX4_runCommand_7 rfl ?_
  refine v_get (C := RX4) (T := TX4) (N := 8) (ci := 4) (v := .ref (b 4)) hX in_X4 0 rfl rfl 3 (by decide) fl_22 rfl rfl dX4_runCommand_8 ?_
  refine v_iload_n hX dX4_runCommand_11 rfl ?_
  refine v_iald (z := nI (q.2.2.2.1 (no)).val) hX 4 rfl (vp_in_nI (by omega : no < 27) (by omega)) (by simp only [nI_clamp (show no < 2 ^ 31 by omega)]) dX4_runCommand_12 ?_
  have hb2 := (q.2.2.2.1 (no)).isLt
  refine v_istore (lv' := [.ref (b 0), .int (nI (no)), .ref (a 0), .int (nI (q.2.2.1 (no)).val), .int (nI (q.2.2.2.1 (no)).val)]) hX dX4_runCommand_13 (Nat.le_of_ble_eq_true rfl) (Nat.le_of_ble_eq_true rfl) rfl rfl ?_
  refine v_aload_n hX dX4_runCommand_15 rfl ?_
  refine v_get (C := RX4) (T := TX4) (N := 8) (ci := 4) (v := .ref (b 2)) hX in_X4 0 rfl rfl 1 (by decide) fl_15 rfl rfl dX4_runCommand_16 ?_
  refine v_iload_n hX dX4_runCommand_19 rfl ?_
  refine v_cald (z := nI (q.2.1 (no)).val) hX 2 rfl (vp_in_nI (by omega : no < 27) (by omega)) (by simp only [nI_clamp (show no < 2 ^ 31 by omega)]) dX4_runCommand_20 ?_
  have hb3 := (q.2.1 (no)).isLt
  refine v_istore (lv' := [.ref (b 0), .int (nI (no)), .ref (a 0), .int (nI (q.2.2.1 (no)).val), .int (nI (q.2.2.2.1 (no)).val), .int (nI (q.2.1 (no)).val)]) hX dX4_runCommand_21 (Nat.le_of_ble_eq_true rfl) (Nat.le_of_ble_eq_true rfl) rfl rfl ?_
  refine v_iload hX dX4_runCommand_23 rfl ?_
  refine v_bipush (x := (114 : Int32)) hX dX4_runCommand_25 (by decide) ?_
  refine v_icmp_ne (tgt := 38) hX dX4_runCommand_27 (by decide) (fun c4 => ?_) (fun c4 => ?_)
  · replace c4 := (not_congr (nI_eq (a := (q.2.1 (no)).val) (b := 114) (by omega) (by omega))).mp c4
    refine v_iload hX dX4_runCommand_38 rfl ?_
    refine v_bipush (x := (119 : Int32)) hX dX4_runCommand_40 (by decide) ?_
    refine v_icmp_ne (tgt := 59) hX dX4_runCommand_42 (by decide) (fun c5 => ?_) (fun c5 => ?_)
    · replace c5 := (not_congr (nI_eq (a := (q.2.1 (no)).val) (b := 119) (by omega) (by omega))).mp c5
      refine v_iload hX dX4_runCommand_59 rfl ?_
      refine v_bipush (x := (100 : Int32)) hX dX4_runCommand_61 (by decide) ?_
      refine v_icmp_ne (tgt := 76) hX dX4_runCommand_63 (by decide) (fun c6 => ?_) (fun c6 => ?_)
      · replace c6 := (not_congr (nI_eq (a := (q.2.1 (no)).val) (b := 100) (by omega) (by omega))).mp c6
        refine v_aload_n hX dX4_runCommand_76 rfl ?_
        refine v_iload_n hX dX4_runCommand_77 rfl ?_
        obtain ⟨v7, hv7⟩ : ∃ z_ : MV, z_ = (M_forget v ((q.2.2.1 (no)).val)).1 := ⟨_, rfl⟩
        refine v_callVi (r := (M_forget v ((q.2.2.1 (no)).val)).2) (rest := []) (ws' := wP E b q ++ wM E a v7) hX (fun sz => c_X3_forgetOnPurpose l E a sz v ((q.2.2.1 (no)).val) (by first | omega | exact Nat.le_of_ble_eq_true rfl)) (cwV 1 hX.2.2.2.2.1 gX4_runCommand_X3_forgetOnPurpose rfl rfl rfl (by decide +kernel) ⟨Nat.le_of_ble_eq_true rfl, Nat.le_of_ble_eq_true rfl⟩) (wP E b q) ([]) ((congrArg (fun z => wP E b q ++ z) (List.append_nil (wM E a v))).symm) (by rw [hv7]; exact congrArg (fun z => wP E b q ++ z) (List.append_nil _)) (wM_fst E a _ _) (ci := 3) (q0 := 0) rfl rfl rfl rfl rfl (Nat.le_of_ble_eq_true rfl) dX4_runCommand_78 ?_
        exact v_iret hX hr hsz dX4_runCommand_81 rfl rfl (by (subst hv7; first | rfl | (simp only [P_run, c4, c5, c6, if_true, if_false, reduceIte, Bool.false_eq_true, reduceCtorEq, decide_true, decide_false, Bool.and_true, Bool.and_false, Bool.true_and, Bool.false_and, Bool.or_true, Bool.or_false, Bool.true_or, Bool.false_or, not_true_eq_false, not_false_eq_true, Bool.not_true, Bool.not_false, eq_self, Nat.reduceEqDiff]; done) | (simp only [P_run, c4, c5, c6, if_true, if_false, reduceIte, Bool.false_eq_true, reduceCtorEq, decide_true, decide_false, Bool.and_true, Bool.and_false, Bool.true_and, Bool.false_and, Bool.or_true, Bool.or_false, Bool.true_or, Bool.false_or, not_true_eq_false, not_false_eq_true, Bool.not_true, Bool.not_false, eq_self, Nat.reduceEqDiff]; rfl) | contradiction | (exfalso; omega))) (by (subst hv7; first | rfl | (simp only [P_run, c4, c5, c6, if_true, if_false, reduceIte, Bool.false_eq_true, reduceCtorEq, decide_true, decide_false, Bool.and_true, Bool.and_false, Bool.true_and, Bool.false_and, Bool.or_true, Bool.or_false, Bool.true_or, Bool.false_or, not_true_eq_false, not_false_eq_true, Bool.not_true, Bool.not_false, eq_self, Nat.reduceEqDiff]; done) | (simp only [P_run, c4, c5, c6, if_true, if_false, reduceIte, Bool.false_eq_true, reduceCtorEq, decide_true, decide_false, Bool.and_true, Bool.and_false, Bool.true_and, Bool.false_and, Bool.or_true, Bool.or_false, Bool.true_or, Bool.false_or, not_true_eq_false, not_false_eq_true, Bool.not_true, Bool.not_false, eq_self, Nat.reduceEqDiff]; rfl) | contradiction | (exfalso; omega)))
      · replace c6 := (nI_eq (a := (q.2.1 (no)).val) (b := 100) (by omega) (by omega)).mp c6
        have c6t := eq_true c6
        refine v_aload_n hX dX4_runCommand_66 rfl ?_
        refine v_iload_n hX dX4_runCommand_67 rfl ?_
        refine v_iload hX dX4_runCommand_68 rfl ?_
        obtain ⟨v8, hv8⟩ : ∃ z_ : MV, z_ = (M_drop v ((q.2.2.1 (no)).val) (q.2.2.2.1 (no))).1 := ⟨_, rfl⟩
        refine v_callVi (r := (M_drop v ((q.2.2.1 (no)).val) (q.2.2.2.1 (no))).2) (rest := []) (ws' := wP E b q ++ wM E a v8) hX (fun sz => c_X3_dropLine l E a sz v ((q.2.2.1 (no)).val) (by first | omega | exact Nat.le_of_ble_eq_true rfl) (q.2.2.2.1 (no))) (cwV 2 hX.2.2.2.2.1 gX4_runCommand_X3_dropLine rfl rfl rfl (by decide +kernel) ⟨Nat.le_of_ble_eq_true rfl, Nat.le_of_ble_eq_true rfl⟩) (wP E b q) ([]) ((congrArg (fun z => wP E b q ++ z) (List.append_nil (wM E a v))).symm) (by rw [hv8]; exact congrArg (fun z => wP E b q ++ z) (List.append_nil _)) (wM_fst E a _ _) (ci := 3) (q0 := 0) rfl rfl rfl rfl rfl (Nat.le_of_ble_eq_true rfl) dX4_runCommand_70 ?_
        refine v_goto (tgt := 81) hX dX4_runCommand_73 (by decide) ?_
        exact v_iret hX hr hsz dX4_runCommand_81 rfl rfl (by (subst hv8; first | rfl | (simp only [P_run, c4, c5, c6t, if_true, if_false, reduceIte, Bool.false_eq_true, reduceCtorEq, decide_true, decide_false, Bool.and_true, Bool.and_false, Bool.true_and, Bool.false_and, Bool.or_true, Bool.or_false, Bool.true_or, Bool.false_or, not_true_eq_false, not_false_eq_true, Bool.not_true, Bool.not_false, eq_self, Nat.reduceEqDiff]; done) | (simp only [P_run, c4, c5, c6t, if_true, if_false, reduceIte, Bool.false_eq_true, reduceCtorEq, decide_true, decide_false, Bool.and_true, Bool.and_false, Bool.true_and, Bool.false_and, Bool.or_true, Bool.or_false, Bool.true_or, Bool.false_or, not_true_eq_false, not_false_eq_true, Bool.not_true, Bool.not_false, eq_self, Nat.reduceEqDiff]; rfl) | contradiction | (exfalso; omega))) (by (subst hv8; first | rfl | (simp only [P_run, c4, c5, c6t, if_true, if_false, reduceIte, Bool.false_eq_true, reduceCtorEq, decide_true, decide_false, Bool.and_true, Bool.and_false, Bool.true_and, Bool.false_and, Bool.or_true, Bool.or_false, Bool.true_or, Bool.false_or, not_true_eq_false, not_false_eq_true, Bool.not_true, Bool.not_false, eq_self, Nat.reduceEqDiff]; done) | (simp only [P_run, c4, c5, c6t, if_true, if_false, reduceIte, Bool.false_eq_true, reduceCtorEq, decide_true, decide_false, Bool.and_true, Bool.and_false, Bool.true_and, Bool.false_and, Bool.or_true, Bool.or_false, Bool.true_or, Bool.false_or, not_true_eq_false, not_false_eq_true, Bool.not_true, Bool.not_false, eq_self, Nat.reduceEqDiff]; rfl) | contradiction | (exfalso; omega)))
    · replace c5 := (nI_eq (a := (q.2.1 (no)).val) (b := 119) (by omega) (by omega)).mp c5
      have c5t := eq_true c5
      refine v_aload_n hX dX4_runCommand_45 rfl ?_
      refine v_iload_n hX dX4_runCommand_46 rfl ?_
      refine v_iload hX dX4_runCommand_47 rfl ?_
      refine v_aload_n hX dX4_runCommand_49 rfl ?_
      refine v_get (C := RX4) (T := TX4) (N := 8) (ci := 4) (v := .ref (b 5)) hX in_X4 0 rfl rfl 4 (by decide) fl_25 rfl rfl dX4_runCommand_50 ?_
      refine v_iload_n hX dX4_runCommand_53 rfl ?_
      refine v_iald (z := q.2.2.2.2.1 (no)) hX 5 rfl (vp_in_nI (by omega : no < 27) (by omega)) (by simp only [nI_clamp (show no < 2 ^ 31 by omega)]) dX4_runCommand_54 ?_
      obtain ⟨v9, hv9⟩ : ∃ z_ : MV, z_ = (M_write v ((q.2.2.1 (no)).val) (q.2.2.2.1 (no)) (q.2.2.2.2.1 (no))).1 := ⟨_, rfl⟩
      refine v_callVi (r := (M_write v ((q.2.2.1 (no)).val) (q.2.2.2.1 (no)) (q.2.2.2.2.1 (no))).2) (rest := []) (ws' := wP E b q ++ wM E a v9) hX (fun sz => c_X3_writeLine l E a sz v ((q.2.2.1 (no)).val) (by first | omega | exact Nat.le_of_ble_eq_true rfl) (q.2.2.2.1 (no)) (q.2.2.2.2.1 (no))) (cwV 3 hX.2.2.2.2.1 gX4_runCommand_X3_writeLine rfl rfl rfl (by decide +kernel) ⟨Nat.le_of_ble_eq_true rfl, Nat.le_of_ble_eq_true rfl⟩) (wP E b q) ([]) ((congrArg (fun z => wP E b q ++ z) (List.append_nil (wM E a v))).symm) (by rw [hv9]; exact congrArg (fun z => wP E b q ++ z) (List.append_nil _)) (wM_fst E a _ _) (ci := 3) (q0 := 0) rfl rfl rfl rfl rfl (Nat.le_of_ble_eq_true rfl) dX4_runCommand_55 ?_
      exact v_iret hX hr hsz dX4_runCommand_58 rfl rfl (by (subst hv9; first | rfl | (simp only [P_run, c4, c5t, if_true, if_false, reduceIte, Bool.false_eq_true, reduceCtorEq, decide_true, decide_false, Bool.and_true, Bool.and_false, Bool.true_and, Bool.false_and, Bool.or_true, Bool.or_false, Bool.true_or, Bool.false_or, not_true_eq_false, not_false_eq_true, Bool.not_true, Bool.not_false, eq_self, Nat.reduceEqDiff]; done) | (simp only [P_run, c4, c5t, if_true, if_false, reduceIte, Bool.false_eq_true, reduceCtorEq, decide_true, decide_false, Bool.and_true, Bool.and_false, Bool.true_and, Bool.false_and, Bool.or_true, Bool.or_false, Bool.true_or, Bool.false_or, not_true_eq_false, not_false_eq_true, Bool.not_true, Bool.not_false, eq_self, Nat.reduceEqDiff]; rfl) | contradiction | (exfalso; omega))) (by (subst hv9; first | rfl | (simp only [P_run, c4, c5t, if_true, if_false, reduceIte, Bool.false_eq_true, reduceCtorEq, decide_true, decide_false, Bool.and_true, Bool.and_false, Bool.true_and, Bool.false_and, Bool.or_true, Bool.or_false, Bool.true_or, Bool.false_or, not_true_eq_false, not_false_eq_true, Bool.not_true, Bool.not_false, eq_self, Nat.reduceEqDiff]; done) | (simp only [P_run, c4, c5t, if_true, if_false, reduceIte, Bool.false_eq_true, reduceCtorEq, decide_true, decide_false, Bool.and_true, Bool.and_false, Bool.true_and, Bool.false_and, Bool.or_true, Bool.or_false, Bool.true_or, Bool.false_or, not_true_eq_false, not_false_eq_true, Bool.not_true, Bool.not_false, eq_self, Nat.reduceEqDiff]; rfl) | contradiction | (exfalso; omega)))
  · replace c4 := (nI_eq (a := (q.2.1 (no)).val) (b := 114) (by omega) (by omega)).mp c4
    have c4t := eq_true c4
    refine v_aload_n hX dX4_runCommand_30 rfl ?_
    refine v_iload_n hX dX4_runCommand_31 rfl ?_
    refine v_iload hX dX4_runCommand_32 rfl ?_
    obtain ⟨v10, hv10⟩ : ∃ z_ : MV, z_ = (M_read v ((q.2.2.1 (no)).val) (q.2.2.2.1 (no))).1 := ⟨_, rfl⟩
    refine v_callVi (r := (M_read v ((q.2.2.1 (no)).val) (q.2.2.2.1 (no))).2) (rest := []) (ws' := wP E b q ++ wM E a v10) hX (fun sz => c_X3_readLine l E a sz v ((q.2.2.1 (no)).val) (by first | omega | exact Nat.le_of_ble_eq_true rfl) (q.2.2.2.1 (no))) (cwV 2 hX.2.2.2.2.1 gX4_runCommand_X3_readLine rfl rfl rfl (by decide +kernel) ⟨Nat.le_of_ble_eq_true rfl, Nat.le_of_ble_eq_true rfl⟩) (wP E b q) ([]) ((congrArg (fun z => wP E b q ++ z) (List.append_nil (wM E a v))).symm) (by rw [hv10]; exact congrArg (fun z => wP E b q ++ z) (List.append_nil _)) (wM_fst E a _ _) (ci := 3) (q0 := 0) rfl rfl rfl rfl rfl (Nat.le_of_ble_eq_true rfl) dX4_runCommand_34 ?_
    exact v_iret hX hr hsz dX4_runCommand_37 rfl rfl (by (subst hv10; first | rfl | (simp only [P_run, c4t, if_true, if_false, reduceIte, Bool.false_eq_true, reduceCtorEq, decide_true, decide_false, Bool.and_true, Bool.and_false, Bool.true_and, Bool.false_and, Bool.or_true, Bool.or_false, Bool.true_or, Bool.false_or, not_true_eq_false, not_false_eq_true, Bool.not_true, Bool.not_false, eq_self, Nat.reduceEqDiff]; done) | (simp only [P_run, c4t, if_true, if_false, reduceIte, Bool.false_eq_true, reduceCtorEq, decide_true, decide_false, Bool.and_true, Bool.and_false, Bool.true_and, Bool.false_and, Bool.or_true, Bool.or_false, Bool.true_or, Bool.false_or, not_true_eq_false, not_false_eq_true, Bool.not_true, Bool.not_false, eq_self, Nat.reduceEqDiff]; rfl) | contradiction | (exfalso; omega))) (by (subst hv10; first | rfl | (simp only [P_run, c4t, if_true, if_false, reduceIte, Bool.false_eq_true, reduceCtorEq, decide_true, decide_false, Bool.and_true, Bool.and_false, Bool.true_and, Bool.false_and, Bool.or_true, Bool.or_false, Bool.true_or, Bool.false_or, not_true_eq_false, not_false_eq_true, Bool.not_true, Bool.not_false, eq_self, Nat.reduceEqDiff]; done) | (simp only [P_run, c4t, if_true, if_false, reduceIte, Bool.false_eq_true, reduceCtorEq, decide_true, decide_false, Bool.and_true, Bool.and_false, Bool.true_and, Bool.false_and, Bool.or_true, Bool.or_false, Bool.true_or, Bool.false_or, not_true_eq_false, not_false_eq_true, Bool.not_true, Bool.not_false, eq_self, Nat.reduceEqDiff]; rfl) | contradiction | (exfalso; omega)))
