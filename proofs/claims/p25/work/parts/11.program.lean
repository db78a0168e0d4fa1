/-! ===== programs: the value, the world, what the methods do ===== -/
abbrev PV : Type := (Nat → Fin 65536) × (Nat → Fin 65536) × (Nat → Fin 4) × (Nat → Fin 256) × (Nat → Int32) × Fin 81 × Fin 28 × Fin 81
def f4 (x : Nat) : Fin 4 := ⟨x % 4, Nat.mod_lt _ (by decide)⟩
def f256 (x : Nat) : Fin 256 := ⟨x % 256, Nat.mod_lt _ (by decide)⟩
def f81 (x : Nat) : Fin 81 := ⟨x % 81, Nat.mod_lt _ (by decide)⟩
def f28 (x : Nat) : Fin 28 := ⟨x % 28, Nat.mod_lt _ (by decide)⟩
def f16 (x : Nat) : Fin 65536 := ⟨x % 65536, Nat.mod_lt _ (by decide)⟩
def fsP (a : Nat → Nat) (v : PV) : List Value := [.ref (a 1), .ref (a 2), .ref (a 3), .ref (a 4), .ref (a 5), .int (nI v.2.2.2.2.2.1.val), .int (nI v.2.2.2.2.2.2.1.val), .int (nI v.2.2.2.2.2.2.2.val)]
def wP (E : ET) (a : Nat → Nat) (v : PV) : va_W := [(a 0, .inr (4, fsP a v)), (a 1, .inl (E.2 2, 80, .inl (fun j => nI (v.1 j).val))), (a 2, .inl (E.2 2, 27, .inl (fun j => nI (v.2.1 j).val))), (a 3, .inl (E.2 0, 27, .inl (fun j => nI (v.2.2.1 j).val))), (a 4, .inl (E.2 0, 27, .inl (fun j => nI (v.2.2.2.1 j).val))), (a 5, .inl (E.2 0, 27, .inl v.2.2.2.2.1))]
theorem wP_fst (E : ET) (a : Nat → Nat) (v w : PV) : (wP E a v).map Prod.fst = (wP E a w).map Prod.fst := rfl
def P_setText (v : PV) (k x : Nat) : PV := (va_up v.1 k (f16 x), v.2.1, v.2.2.1, v.2.2.2.1, v.2.2.2.2.1, v.2.2.2.2.2.1, v.2.2.2.2.2.2.1, v.2.2.2.2.2.2.2)
def P_setKind (v : PV) (k x : Nat) : PV := (v.1, va_up v.2.1 k (f16 x), v.2.2.1, v.2.2.2.1, v.2.2.2.2.1, v.2.2.2.2.2.1, v.2.2.2.2.2.2.1, v.2.2.2.2.2.2.2)
def P_setCore (v : PV) (k x : Nat) : PV := (v.1, v.2.1, va_up v.2.2.1 k (f4 x), v.2.2.2.1, v.2.2.2.2.1, v.2.2.2.2.2.1, v.2.2.2.2.2.2.1, v.2.2.2.2.2.2.2)
def P_setLine (v : PV) (k x : Nat) : PV := (v.1, v.2.1, v.2.2.1, va_up v.2.2.2.1 k (f256 x), v.2.2.2.2.1, v.2.2.2.2.2.1, v.2.2.2.2.2.2.1, v.2.2.2.2.2.2.2)
def P_setVal (v : PV) (k : Nat) (x : Int32) : PV := (v.1, v.2.1, v.2.2.1, v.2.2.2.1, upd v.2.2.2.2.1 k x, v.2.2.2.2.2.1, v.2.2.2.2.2.2.1, v.2.2.2.2.2.2.2)
def P_setLen (v : PV) (x : Nat) : PV := (v.1, v.2.1, v.2.2.1, v.2.2.2.1, v.2.2.2.2.1, f81 x, v.2.2.2.2.2.2.1, v.2.2.2.2.2.2.2)
def P_setCmds (v : PV) (x : Nat) : PV := (v.1, v.2.1, v.2.2.1, v.2.2.2.1, v.2.2.2.2.1, v.2.2.2.2.2.1, f28 x, v.2.2.2.2.2.2.2)
def P_setAt (v : PV) (x : Nat) : PV := (v.1, v.2.1, v.2.2.1, v.2.2.2.1, v.2.2.2.2.1, v.2.2.2.2.2.1, v.2.2.2.2.2.2.1, f81 x)
theorem fin_st {n : Nat} (s : Nat → Fin n) (k : Nat) (y : Fin n) {x : Nat} (h : y.val = x) : upd (fun j => nI (s j).val) k (nI x) = fun j => nI (va_up s k y j).val := by
  funext j
  by_cases hj : j = k <;> simp [upd, va_up, hj, h]
theorem nar_ch {x : Nat} (h : x < 65536) : vp_nar .char (nI x) = nI x := by
  unfold vp_nar
  rw [(pk_charN h).1]
theorem sP_Text (E : ET) (a : Nat → Nat) (v : PV) {k : Nat} (hk : k < 2 ^ 31) {x : Nat} (hx : x < 65536) : (wP E a v).set 1 (a 1, .inl (E.2 2, 80, .inl (upd (fun j => nI (v.1 j).val) (nI k).toNatClampNeg (vp_nar .char (nI x))))) = wP E a (P_setText v k x) := by rw [nI_clamp hk, nar_ch hx, fin_st v.1 k (f16 x) (Nat.mod_eq_of_lt hx)]; rfl
theorem sP_Kind (E : ET) (a : Nat → Nat) (v : PV) {k : Nat} (hk : k < 2 ^ 31) {x : Nat} (hx : x < 65536) : (wP E a v).set 2 (a 2, .inl (E.2 2, 27, .inl (upd (fun j => nI (v.2.1 j).val) (nI k).toNatClampNeg (vp_nar .char (nI x))))) = wP E a (P_setKind v k x) := by rw [nI_clamp hk, nar_ch hx, fin_st v.2.1 k (f16 x) (Nat.mod_eq_of_lt hx)]; rfl
theorem sP_Core (E : ET) (a : Nat → Nat) (v : PV) {k : Nat} (hk : k < 2 ^ 31) {x : Nat} (hx : x < 4) : (wP E a v).set 3 (a 3, .inl (E.2 0, 27, .inl (upd (fun j => nI (v.2.2.1 j).val) (nI k).toNatClampNeg (nI x)))) = wP E a (P_setCore v k x) := by rw [nI_clamp hk, fin_st v.2.2.1 k (f4 x) (Nat.mod_eq_of_lt hx)]; rfl
theorem sP_Line (E : ET) (a : Nat → Nat) (v : PV) {k : Nat} (hk : k < 2 ^ 31) {x : Nat} (hx : x < 256) : (wP E a v).set 4 (a 4, .inl (E.2 0, 27, .inl (upd (fun j => nI (v.2.2.2.1 j).val) (nI k).toNatClampNeg (nI x)))) = wP E a (P_setLine v k x) := by rw [nI_clamp hk, fin_st v.2.2.2.1 k (f256 x) (Nat.mod_eq_of_lt hx)]; rfl
theorem sP_val (E : ET) (a : Nat → Nat) (v : PV) {k : Nat} (hk : k < 2 ^ 31) (x : Int32) : (wP E a v).set 5 (a 5, .inl (E.2 0, 27, .inl (upd v.2.2.2.2.1 (nI k).toNatClampNeg x))) = wP E a (P_setVal v k x) := by rw [nI_clamp hk]; rfl
theorem sP_Len (E : ET) (a : Nat → Nat) (v : PV) {x : Nat} (hx : x < 81) : (wP E a v).set 0 (a 0, .inr (4, (fsP a v).set 5 (.int (nI x)))) = wP E a (P_setLen v x) := by
  have e : (f81 x).val = x := Nat.mod_eq_of_lt hx
  simp [wP, fsP, P_setLen, e]
theorem sP_Cmds (E : ET) (a : Nat → Nat) (v : PV) {x : Nat} (hx : x < 28) : (wP E a v).set 0 (a 0, .inr (4, (fsP a v).set 6 (.int (nI x)))) = wP E a (P_setCmds v x) := by
  have e : (f28 x).val = x := Nat.mod_eq_of_lt hx
  simp [wP, fsP, P_setCmds, e]
theorem sP_At (E : ET) (a : Nat → Nat) (v : PV) {x : Nat} (hx : x < 81) : (wP E a v).set 0 (a 0, .inr (4, (fsP a v).set 7 (.int (nI x)))) = wP E a (P_setAt v x) := by
  have e : (f81 x).val = x := Nat.mod_eq_of_lt hx
  simp [wP, fsP, P_setAt, e]
theorem P_at_at (v : PV) {x : Nat} (hx : x < 81) : (P_setAt v x).2.2.2.2.2.2.2.val = x := Nat.mod_eq_of_lt hx
theorem P_at_len (v : PV) (x : Nat) : (P_setAt v x).2.2.2.2.2.1 = v.2.2.2.2.2.1 := rfl
theorem P_cm_cm (v : PV) {x : Nat} (hx : x < 28) : (P_setCmds v x).2.2.2.2.2.2.1.val = x := Nat.mod_eq_of_lt hx
def wh {σ : Type} (c : σ → Bool) (f : σ → σ) : Nat → σ → σ
  | 0, x => x
  | n + 1, x => if c x = true then wh c f n (f x) else x
theorem wh_stop {σ : Type} {c : σ → Bool} (f : σ → σ) {x : σ} (h : c x = false) : ∀ n, wh c f n x = x
  | 0 => rfl
  | n + 1 => by simp [wh, h]
theorem wh_go {σ : Type} {c : σ → Bool} (f : σ → σ) {x : σ} (h : c x = true) (n : Nat) : wh c f (n + 1) x = wh c f n (f x) := by simp [wh, h]
def P_dig (v : PV) (h : Nat) : Bool := !decide (v.2.2.2.2.2.1.val ≤ v.2.2.2.2.2.2.2.val) && (!decide ((v.1 v.2.2.2.2.2.2.2.val).val < 48) && !decide (h < (v.1 v.2.2.2.2.2.2.2.val).val - 48))
theorem P_dig_spec {v : PV} {h : Nat} (e : P_dig v h = true) : v.2.2.2.2.2.2.2.val < v.2.2.2.2.2.1.val ∧ 48 ≤ (v.1 v.2.2.2.2.2.2.2.val).val ∧ (v.1 v.2.2.2.2.2.2.2.val).val - 48 ≤ h := by
  simp only [P_dig, Bool.and_eq_true, Bool.not_eq_true', decide_eq_false_iff_not] at e
  omega
theorem P_dig_out {v : PV} {h : Nat} (e : v.2.2.2.2.2.1.val ≤ v.2.2.2.2.2.2.2.val) : P_dig v h = false := by simp only [P_dig, e, decide_true, Bool.not_true, Bool.false_and]
def P_takesB (v : PV) (w : Nat) : Bool := !decide (v.2.2.2.2.2.1.val ≤ v.2.2.2.2.2.2.2.val) && decide ((v.1 v.2.2.2.2.2.2.2.val).val = w)
def P_takes (v : PV) (w : Nat) : PV := if v.2.2.2.2.2.1.val ≤ v.2.2.2.2.2.2.2.val then v else if (v.1 v.2.2.2.2.2.2.2.val).val = w then P_setAt v (v.2.2.2.2.2.2.2.val + 1) else v
def P_numC (h g : Nat) : Nat × PV → Bool := fun u => P_dig u.2 9 && ((decide (0 < u.1) || decide (u.2.2.2.2.2.2.2.2.val = g)) && !decide (h < 10 * u.1 + (u.2.1 u.2.2.2.2.2.2.2.2.val).val - 48))
def P_numS : Nat × PV → Nat × PV := fun u => (10 * u.1 + (u.2.1 u.2.2.2.2.2.2.2.2.val).val - 48, P_setAt u.2 (u.2.2.2.2.2.2.2.2.val + 1))
def P_num (v : PV) (h : Nat) : Nat × PV := wh (P_numC h v.2.2.2.2.2.2.2.val) P_numS 81 (0, v)
theorem P_num_le_gen (h g : Nat) : ∀ (n : Nat) (u : Nat × PV), u.1 ≤ h → (wh (P_numC h g) P_numS n u).1 ≤ h
  | 0, u, hu => hu
  | n + 1, u, hu => by
    simp only [wh]
    split
    · rename_i hc
      refine P_num_le_gen h g n _ ?_
      simp only [P_numC, Bool.and_eq_true, Bool.not_eq_true', decide_eq_false_iff_not] at hc
      simp only [P_numS]
      omega
    · exact hu
theorem P_num_le (v : PV) (h : Nat) : (P_num v h).1 ≤ h := P_num_le_gen h _ _ _ (Nat.zero_le _)
def P_lv (v : PV) (no : Nat) : Bool × PV :=
  if P_takesB v 46 = true then
    if P_dig (P_takes v 46) 9 = true then
      if ((P_setLine (P_num (P_takes v 46) 255).2 no (P_num (P_takes v 46) 255).1).2.1 no).val = 119 then
        if P_takesB (P_setLine (P_num (P_takes v 46) 255).2 no (P_num (P_takes v 46) 255).1) 61 = true then
          if P_dig (P_takes (P_setLine (P_num (P_takes v 46) 255).2 no (P_num (P_takes v 46) 255).1) 61) 9 = true then
            (true, P_setVal (P_num (P_takes (P_setLine (P_num (P_takes v 46) 255).2 no (P_num (P_takes v 46) 255).1) 61) 9999).2 no (nI (P_num (P_takes (P_setLine (P_num (P_takes v 46) 255).2 no (P_num (P_takes v 46) 255).1) 61) 9999).1))
          else (false, P_takes (P_setLine (P_num (P_takes v 46) 255).2 no (P_num (P_takes v 46) 255).1) 61)
        else (false, P_takes (P_setLine (P_num (P_takes v 46) 255).2 no (P_num (P_takes v 46) 255).1) 61)
      else (true, P_setLine (P_num (P_takes v 46) 255).2 no (P_num (P_takes v 46) 255).1)
    else (false, P_takes v 46)
  else (false, P_takes v 46)
def P_kind (v : PV) : Nat := if v.2.2.2.2.2.1.val ≤ v.2.2.2.2.2.2.2.val then 59 else (v.1 v.2.2.2.2.2.2.2.val).val
def P_isK (k : Nat) : Bool := decide (k = 114) || (decide (k = 119) || (decide (k = 100) || decide (k = 102)))
def P_cmd2 (v : PV) (no kd : Nat) : Bool × PV :=
  if P_dig v 3 = true then (if kd = 102 then (true, P_setCore (P_num v 3).2 no (P_num v 3).1) else P_lv (P_setCore (P_num v 3).2 no (P_num v 3).1) no) else (false, v)
def P_cmd (v : PV) (no : Nat) : Bool × PV := if P_isK (P_kind v) = true then P_cmd2 (P_setKind (P_setAt v (v.2.2.2.2.2.2.2.val + 1)) no (P_kind v)) no (P_kind v) else (false, v)
def P_ffL : Nat → PV → Int32 × PV
  | 0, w => (nI w.2.2.2.2.2.2.2.val, w)
  | fu + 1, w => if 27 ≤ w.2.2.2.2.2.2.1.val then (nI w.2.2.2.2.2.2.2.val, w)
    else if (P_cmd w w.2.2.2.2.2.2.1.val).1 = true then
      if (P_setCmds (P_cmd w w.2.2.2.2.2.2.1.val).2 ((P_cmd w w.2.2.2.2.2.2.1.val).2.2.2.2.2.2.2.1.val + 1)).2.2.2.2.2.2.2.val = (P_setCmds (P_cmd w w.2.2.2.2.2.2.1.val).2 ((P_cmd w w.2.2.2.2.2.2.1.val).2.2.2.2.2.2.2.1.val + 1)).2.2.2.2.2.1.val then (-1, P_setCmds (P_cmd w w.2.2.2.2.2.2.1.val).2 ((P_cmd w w.2.2.2.2.2.2.1.val).2.2.2.2.2.2.2.1.val + 1))
      else if P_takesB (P_setCmds (P_cmd w w.2.2.2.2.2.2.1.val).2 ((P_cmd w w.2.2.2.2.2.2.1.val).2.2.2.2.2.2.2.1.val + 1)) 59 = true then P_ffL fu (P_takes (P_setCmds (P_cmd w w.2.2.2.2.2.2.1.val).2 ((P_cmd w w.2.2.2.2.2.2.1.val).2.2.2.2.2.2.2.1.val + 1)) 59)
      else (nI (P_takes (P_setCmds (P_cmd w w.2.2.2.2.2.2.1.val).2 ((P_cmd w w.2.2.2.2.2.2.1.val).2.2.2.2.2.2.2.1.val + 1)) 59).2.2.2.2.2.2.2.val, P_takes (P_setCmds (P_cmd w w.2.2.2.2.2.2.1.val).2 ((P_cmd w w.2.2.2.2.2.2.1.val).2.2.2.2.2.2.2.1.val + 1)) 59)
    else (nI (P_cmd w w.2.2.2.2.2.2.1.val).2.2.2.2.2.2.2.2.val, (P_cmd w w.2.2.2.2.2.2.1.val).2)
def P_ff (v : PV) : Int32 × PV := P_ffL 28 (P_setCmds (P_setAt v 0) 0)
def P_run (q : PV) (v : MV) (no : Nat) : MV × Int32 := if (q.2.1 no).val = 114 then M_read v (q.2.2.1 no).val (q.2.2.2.1 no) else if (q.2.1 no).val = 119 then M_write v (q.2.2.1 no).val (q.2.2.2.1 no) (q.2.2.2.2.1 no) else if (q.2.1 no).val = 100 then M_drop v (q.2.2.1 no).val (q.2.2.2.1 no) else M_forget v (q.2.2.1 no).val
def P_app (v : PV) (x : Nat) : PV := if v.2.2.2.2.2.1.val < 80 then P_setLen (P_setText v v.2.2.2.2.2.1.val x) (v.2.2.2.2.2.1.val + 1) else v
-- what the search leaves as it was
theorem P_takes_cmds (v : PV) (w : Nat) : (P_takes v w).2.2.2.2.2.2.1 = v.2.2.2.2.2.2.1 := by
  unfold P_takes
  split
  · rfl
  · split <;> rfl
theorem P_num_cmds_gen (h g : Nat) : ∀ (n : Nat) (u : Nat × PV), (wh (P_numC h g) P_numS n u).2.2.2.2.2.2.2.1 = u.2.2.2.2.2.2.2.1
  | 0, u => rfl
  | n + 1, u => by
    simp only [wh]
    split
    · rw [P_num_cmds_gen h g n]; rfl
    · rfl
theorem P_num_cmds (v : PV) (h : Nat) : (P_num v h).2.2.2.2.2.2.2.1 = v.2.2.2.2.2.2.1 := P_num_cmds_gen h _ _ _
theorem P_lv_cmds (v : PV) (no : Nat) : (P_lv v no).2.2.2.2.2.2.2.1 = v.2.2.2.2.2.2.1 := by
  have e1 : ∀ u : PV, ∀ x, (P_setLine u no x).2.2.2.2.2.2.1 = u.2.2.2.2.2.2.1 := fun _ _ => rfl
  have e2 : ∀ u : PV, ∀ x, (P_setVal u no x).2.2.2.2.2.2.1 = u.2.2.2.2.2.2.1 := fun _ _ => rfl
  unfold P_lv
  repeat' split
  all_goals simp only [e1, e2, P_takes_cmds, P_num_cmds]
theorem P_cmd_cmds (v : PV) (no : Nat) : (P_cmd v no).2.2.2.2.2.2.2.1 = v.2.2.2.2.2.2.1 := by
  have e1 : ∀ u : PV, ∀ x, (P_setCore u no x).2.2.2.2.2.2.1 = u.2.2.2.2.2.2.1 := fun _ _ => rfl
  unfold P_cmd
  split
  · unfold P_cmd2
    split
    · split
      · rw [e1, P_num_cmds]; rfl
      · rw [P_lv_cmds, e1, P_num_cmds]; rfl
    · rfl
  · rfl
