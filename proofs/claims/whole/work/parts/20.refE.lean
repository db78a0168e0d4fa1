/-! ===== the reference: its other fields ===== -/
def R_setKnown (v : RV) (x : Nat) : RV := (v.1, v.2.1, v.2.2.1, v.2.2.2.1, f5 x, v.2.2.2.2.2.1, v.2.2.2.2.2.2.1, v.2.2.2.2.2.2.2.1, v.2.2.2.2.2.2.2.2.1, v.2.2.2.2.2.2.2.2.2.1, v.2.2.2.2.2.2.2.2.2.2.1, v.2.2.2.2.2.2.2.2.2.2.2.1, v.2.2.2.2.2.2.2.2.2.2.2.2.1, v.2.2.2.2.2.2.2.2.2.2.2.2.2.1, v.2.2.2.2.2.2.2.2.2.2.2.2.2.2.1, v.2.2.2.2.2.2.2.2.2.2.2.2.2.2.2.1, v.2.2.2.2.2.2.2.2.2.2.2.2.2.2.2.2.1, v.2.2.2.2.2.2.2.2.2.2.2.2.2.2.2.2.2)
theorem sR_Known (E : ET) (a : Nat → Nat) (v : RV) {x : Nat} (hx : x < 5) : (wR E a v).set 0 (a 0, .inr (6, (fsR a v.2.2.2.2).set 3 (.int (nI x)))) = wR E a (R_setKnown v x) := by
  have e : (f5 x).val = x := Nat.mod_eq_of_lt hx
  simp [wR, wR0, fsR, R_setKnown, e]
def R_setKept (v : RV) (x : Bool) : RV := (v.1, v.2.1, v.2.2.1, v.2.2.2.1, v.2.2.2.2.1, x, v.2.2.2.2.2.2.1, v.2.2.2.2.2.2.2.1, v.2.2.2.2.2.2.2.2.1, v.2.2.2.2.2.2.2.2.2.1, v.2.2.2.2.2.2.2.2.2.2.1, v.2.2.2.2.2.2.2.2.2.2.2.1, v.2.2.2.2.2.2.2.2.2.2.2.2.1, v.2.2.2.2.2.2.2.2.2.2.2.2.2.1, v.2.2.2.2.2.2.2.2.2.2.2.2.2.2.1, v.2.2.2.2.2.2.2.2.2.2.2.2.2.2.2.1, v.2.2.2.2.2.2.2.2.2.2.2.2.2.2.2.2.1, v.2.2.2.2.2.2.2.2.2.2.2.2.2.2.2.2.2)
theorem sR_Kept (E : ET) (a : Nat → Nat) (v : RV) (x : Bool) : (wR E a v).set 0 (a 0, .inr (6, (fsR a v.2.2.2.2).set 5 (.int (bI x)))) = wR E a (R_setKept v x) := rfl
def R_setText (v : RV) (k x : Nat) : RV := (v.1, v.2.1, v.2.2.1, v.2.2.2.1, v.2.2.2.2.1, v.2.2.2.2.2.1, va_up v.2.2.2.2.2.2.1 k (f16 x), v.2.2.2.2.2.2.2.1, v.2.2.2.2.2.2.2.2.1, v.2.2.2.2.2.2.2.2.2.1, v.2.2.2.2.2.2.2.2.2.2.1, v.2.2.2.2.2.2.2.2.2.2.2.1, v.2.2.2.2.2.2.2.2.2.2.2.2.1, v.2.2.2.2.2.2.2.2.2.2.2.2.2.1, v.2.2.2.2.2.2.2.2.2.2.2.2.2.2.1, v.2.2.2.2.2.2.2.2.2.2.2.2.2.2.2.1, v.2.2.2.2.2.2.2.2.2.2.2.2.2.2.2.2.1, v.2.2.2.2.2.2.2.2.2.2.2.2.2.2.2.2.2)
theorem sR_Text (E : ET) (a : Nat → Nat) (v : RV) {k : Nat} (hk : k < 2 ^ 31) {x : Nat} (hx : x < 65536) : (wR E a v).set 5 (a 5, .inl (E.2 0, 80, .inl (upd (fun j => nI (v.2.2.2.2.2.2.1 j).val) (nI k).toNatClampNeg (nI x)))) = wR E a (R_setText v k x) := by rw [nI_clamp hk, fin_st v.2.2.2.2.2.2.1 k (f16 x) (Nat.mod_eq_of_lt hx)]; rfl
def R_setLen (v : RV) (x : Nat) : RV := (v.1, v.2.1, v.2.2.1, v.2.2.2.1, v.2.2.2.2.1, v.2.2.2.2.2.1, v.2.2.2.2.2.2.1, f81 x, v.2.2.2.2.2.2.2.2.1, v.2.2.2.2.2.2.2.2.2.1, v.2.2.2.2.2.2.2.2.2.2.1, v.2.2.2.2.2.2.2.2.2.2.2.1, v.2.2.2.2.2.2.2.2.2.2.2.2.1, v.2.2.2.2.2.2.2.2.2.2.2.2.2.1, v.2.2.2.2.2.2.2.2.2.2.2.2.2.2.1, v.2.2.2.2.2.2.2.2.2.2.2.2.2.2.2.1, v.2.2.2.2.2.2.2.2.2.2.2.2.2.2.2.2.1, v.2.2.2.2.2.2.2.2.2.2.2.2.2.2.2.2.2)
theorem sR_Len (E : ET) (a : Nat → Nat) (v : RV) {x : Nat} (hx : x < 81) : (wR E a v).set 0 (a 0, .inr (6, (fsR a v.2.2.2.2).set 7 (.int (nI x)))) = wR E a (R_setLen v x) := by
  have e : (f81 x).val = x := Nat.mod_eq_of_lt hx
  simp [wR, wR0, fsR, R_setLen, e]
def R_setStop (v : RV) (x : Int32) : RV := (v.1, v.2.1, v.2.2.1, v.2.2.2.1, v.2.2.2.2.1, v.2.2.2.2.2.1, v.2.2.2.2.2.2.1, v.2.2.2.2.2.2.2.1, x, v.2.2.2.2.2.2.2.2.2.1, v.2.2.2.2.2.2.2.2.2.2.1, v.2.2.2.2.2.2.2.2.2.2.2.1, v.2.2.2.2.2.2.2.2.2.2.2.2.1, v.2.2.2.2.2.2.2.2.2.2.2.2.2.1, v.2.2.2.2.2.2.2.2.2.2.2.2.2.2.1, v.2.2.2.2.2.2.2.2.2.2.2.2.2.2.2.1, v.2.2.2.2.2.2.2.2.2.2.2.2.2.2.2.2.1, v.2.2.2.2.2.2.2.2.2.2.2.2.2.2.2.2.2)
theorem sR_Stop (E : ET) (a : Nat → Nat) (v : RV) (x : Int32) : (wR E a v).set 0 (a 0, .inr (6, (fsR a v.2.2.2.2).set 8 (.int x))) = wR E a (R_setStop v x) := rfl
def R_setStopE (v : RV) (x : Int32) : RV := (v.1, v.2.1, v.2.2.1, v.2.2.2.1, v.2.2.2.2.1, v.2.2.2.2.2.1, v.2.2.2.2.2.2.1, v.2.2.2.2.2.2.2.1, v.2.2.2.2.2.2.2.2.1, x, v.2.2.2.2.2.2.2.2.2.2.1, v.2.2.2.2.2.2.2.2.2.2.2.1, v.2.2.2.2.2.2.2.2.2.2.2.2.1, v.2.2.2.2.2.2.2.2.2.2.2.2.2.1, v.2.2.2.2.2.2.2.2.2.2.2.2.2.2.1, v.2.2.2.2.2.2.2.2.2.2.2.2.2.2.2.1, v.2.2.2.2.2.2.2.2.2.2.2.2.2.2.2.2.1, v.2.2.2.2.2.2.2.2.2.2.2.2.2.2.2.2.2)
theorem sR_StopE (E : ET) (a : Nat → Nat) (v : RV) (x : Int32) : (wR E a v).set 0 (a 0, .inr (6, (fsR a v.2.2.2.2).set 9 (.int x))) = wR E a (R_setStopE v x) := rfl
def R_setSpot (v : RV) (x : Nat) : RV := (v.1, v.2.1, v.2.2.1, v.2.2.2.1, v.2.2.2.2.1, v.2.2.2.2.2.1, v.2.2.2.2.2.2.1, v.2.2.2.2.2.2.2.1, v.2.2.2.2.2.2.2.2.1, v.2.2.2.2.2.2.2.2.2.1, f81 x, v.2.2.2.2.2.2.2.2.2.2.2.1, v.2.2.2.2.2.2.2.2.2.2.2.2.1, v.2.2.2.2.2.2.2.2.2.2.2.2.2.1, v.2.2.2.2.2.2.2.2.2.2.2.2.2.2.1, v.2.2.2.2.2.2.2.2.2.2.2.2.2.2.2.1, v.2.2.2.2.2.2.2.2.2.2.2.2.2.2.2.2.1, v.2.2.2.2.2.2.2.2.2.2.2.2.2.2.2.2.2)
theorem sR_Spot (E : ET) (a : Nat → Nat) (v : RV) {x : Nat} (hx : x < 81) : (wR E a v).set 0 (a 0, .inr (6, (fsR a v.2.2.2.2).set 10 (.int (nI x)))) = wR E a (R_setSpot v x) := by
  have e : (f81 x).val = x := Nat.mod_eq_of_lt hx
  simp [wR, wR0, fsR, R_setSpot, e]
def R_setWrong (v : RV) (x : Bool) : RV := (v.1, v.2.1, v.2.2.1, v.2.2.2.1, v.2.2.2.2.1, v.2.2.2.2.2.1, v.2.2.2.2.2.2.1, v.2.2.2.2.2.2.2.1, v.2.2.2.2.2.2.2.2.1, v.2.2.2.2.2.2.2.2.2.1, v.2.2.2.2.2.2.2.2.2.2.1, x, v.2.2.2.2.2.2.2.2.2.2.2.2.1, v.2.2.2.2.2.2.2.2.2.2.2.2.2.1, v.2.2.2.2.2.2.2.2.2.2.2.2.2.2.1, v.2.2.2.2.2.2.2.2.2.2.2.2.2.2.2.1, v.2.2.2.2.2.2.2.2.2.2.2.2.2.2.2.2.1, v.2.2.2.2.2.2.2.2.2.2.2.2.2.2.2.2.2)
theorem sR_Wrong (E : ET) (a : Nat → Nat) (v : RV) (x : Bool) : (wR E a v).set 0 (a 0, .inr (6, (fsR a v.2.2.2.2).set 11 (.int (bI x)))) = wR E a (R_setWrong v x) := rfl
def R_setLetter (v : RV) (x : Nat) : RV := (v.1, v.2.1, v.2.2.1, v.2.2.2.1, v.2.2.2.2.1, v.2.2.2.2.2.1, v.2.2.2.2.2.2.1, v.2.2.2.2.2.2.2.1, v.2.2.2.2.2.2.2.2.1, v.2.2.2.2.2.2.2.2.2.1, v.2.2.2.2.2.2.2.2.2.2.1, v.2.2.2.2.2.2.2.2.2.2.2.1, f16 x, v.2.2.2.2.2.2.2.2.2.2.2.2.2.1, v.2.2.2.2.2.2.2.2.2.2.2.2.2.2.1, v.2.2.2.2.2.2.2.2.2.2.2.2.2.2.2.1, v.2.2.2.2.2.2.2.2.2.2.2.2.2.2.2.2.1, v.2.2.2.2.2.2.2.2.2.2.2.2.2.2.2.2.2)
theorem sR_Letter (E : ET) (a : Nat → Nat) (v : RV) {x : Nat} (hx : x < 65536) : (wR E a v).set 0 (a 0, .inr (6, (fsR a v.2.2.2.2).set 12 (.int (nI x)))) = wR E a (R_setLetter v x) := by
  have e : (f16 x).val = x := Nat.mod_eq_of_lt hx
  simp [wR, wR0, fsR, R_setLetter, e]
def R_setDCore (v : RV) (x : Nat) : RV := (v.1, v.2.1, v.2.2.1, v.2.2.2.1, v.2.2.2.2.1, v.2.2.2.2.2.1, v.2.2.2.2.2.2.1, v.2.2.2.2.2.2.2.1, v.2.2.2.2.2.2.2.2.1, v.2.2.2.2.2.2.2.2.2.1, v.2.2.2.2.2.2.2.2.2.2.1, v.2.2.2.2.2.2.2.2.2.2.2.1, v.2.2.2.2.2.2.2.2.2.2.2.2.1, f4 x, v.2.2.2.2.2.2.2.2.2.2.2.2.2.2.1, v.2.2.2.2.2.2.2.2.2.2.2.2.2.2.2.1, v.2.2.2.2.2.2.2.2.2.2.2.2.2.2.2.2.1, v.2.2.2.2.2.2.2.2.2.2.2.2.2.2.2.2.2)
theorem sR_DCore (E : ET) (a : Nat → Nat) (v : RV) {x : Nat} (hx : x < 4) : (wR E a v).set 0 (a 0, .inr (6, (fsR a v.2.2.2.2).set 13 (.int (nI x)))) = wR E a (R_setDCore v x) := by
  have e : (f4 x).val = x := Nat.mod_eq_of_lt hx
  simp [wR, wR0, fsR, R_setDCore, e]
def R_setDLine (v : RV) (x : Nat) : RV := (v.1, v.2.1, v.2.2.1, v.2.2.2.1, v.2.2.2.2.1, v.2.2.2.2.2.1, v.2.2.2.2.2.2.1, v.2.2.2.2.2.2.2.1, v.2.2.2.2.2.2.2.2.1, v.2.2.2.2.2.2.2.2.2.1, v.2.2.2.2.2.2.2.2.2.2.1, v.2.2.2.2.2.2.2.2.2.2.2.1, v.2.2.2.2.2.2.2.2.2.2.2.2.1, v.2.2.2.2.2.2.2.2.2.2.2.2.2.1, f256 x, v.2.2.2.2.2.2.2.2.2.2.2.2.2.2.2.1, v.2.2.2.2.2.2.2.2.2.2.2.2.2.2.2.2.1, v.2.2.2.2.2.2.2.2.2.2.2.2.2.2.2.2.2)
theorem sR_DLine (E : ET) (a : Nat → Nat) (v : RV) {x : Nat} (hx : x < 256) : (wR E a v).set 0 (a 0, .inr (6, (fsR a v.2.2.2.2).set 14 (.int (nI x)))) = wR E a (R_setDLine v x) := by
  have e : (f256 x).val = x := Nat.mod_eq_of_lt hx
  simp [wR, wR0, fsR, R_setDLine, e]
def R_setDVal (v : RV) (x : Int32) : RV := (v.1, v.2.1, v.2.2.1, v.2.2.2.1, v.2.2.2.2.1, v.2.2.2.2.2.1, v.2.2.2.2.2.2.1, v.2.2.2.2.2.2.2.1, v.2.2.2.2.2.2.2.2.1, v.2.2.2.2.2.2.2.2.2.1, v.2.2.2.2.2.2.2.2.2.2.1, v.2.2.2.2.2.2.2.2.2.2.2.1, v.2.2.2.2.2.2.2.2.2.2.2.2.1, v.2.2.2.2.2.2.2.2.2.2.2.2.2.1, v.2.2.2.2.2.2.2.2.2.2.2.2.2.2.1, x, v.2.2.2.2.2.2.2.2.2.2.2.2.2.2.2.2.1, v.2.2.2.2.2.2.2.2.2.2.2.2.2.2.2.2.2)
theorem sR_DVal (E : ET) (a : Nat → Nat) (v : RV) (x : Int32) : (wR E a v).set 0 (a 0, .inr (6, (fsR a v.2.2.2.2).set 15 (.int x))) = wR E a (R_setDVal v x) := rfl
def R_setSum (v : RV) (x : Int32) : RV := (v.1, v.2.1, v.2.2.1, v.2.2.2.1, v.2.2.2.2.1, v.2.2.2.2.2.1, v.2.2.2.2.2.2.1, v.2.2.2.2.2.2.2.1, v.2.2.2.2.2.2.2.2.1, v.2.2.2.2.2.2.2.2.2.1, v.2.2.2.2.2.2.2.2.2.2.1, v.2.2.2.2.2.2.2.2.2.2.2.1, v.2.2.2.2.2.2.2.2.2.2.2.2.1, v.2.2.2.2.2.2.2.2.2.2.2.2.2.1, v.2.2.2.2.2.2.2.2.2.2.2.2.2.2.1, v.2.2.2.2.2.2.2.2.2.2.2.2.2.2.2.1, x, v.2.2.2.2.2.2.2.2.2.2.2.2.2.2.2.2.2)
theorem sR_Sum (E : ET) (a : Nat → Nat) (v : RV) (x : Int32) : (wR E a v).set 0 (a 0, .inr (6, (fsR a v.2.2.2.2).set 16 (.int x))) = wR E a (R_setSum v x) := rfl
def R_setStopN (v : RV) (x : Int32) : RV := (v.1, v.2.1, v.2.2.1, v.2.2.2.1, v.2.2.2.2.1, v.2.2.2.2.2.1, v.2.2.2.2.2.2.1, v.2.2.2.2.2.2.2.1, v.2.2.2.2.2.2.2.2.1, v.2.2.2.2.2.2.2.2.2.1, v.2.2.2.2.2.2.2.2.2.2.1, v.2.2.2.2.2.2.2.2.2.2.2.1, v.2.2.2.2.2.2.2.2.2.2.2.2.1, v.2.2.2.2.2.2.2.2.2.2.2.2.2.1, v.2.2.2.2.2.2.2.2.2.2.2.2.2.2.1, v.2.2.2.2.2.2.2.2.2.2.2.2.2.2.2.1, v.2.2.2.2.2.2.2.2.2.2.2.2.2.2.2.2.1, x)
theorem sR_StopN (E : ET) (a : Nat → Nat) (v : RV) (x : Int32) : (wR E a v).set 0 (a 0, .inr (6, (fsR a v.2.2.2.2).set 17 (.int x))) = wR E a (R_setStopN v x) := rfl
def R_next (v : RV) (lo hi : Int32) : Bool := !v.2.2.2.2.2.2.2.2.2.2.2.1 && (!decide (v.2.2.2.2.2.2.2.1.val ≤ v.2.2.2.2.2.2.2.2.2.2.1.val) && S_within (nI (v.2.2.2.2.2.2.1 v.2.2.2.2.2.2.2.2.2.2.1.val).val) lo hi)
theorem R_next_spec {v : RV} {lo hi : Int32} (h : R_next v lo hi = true) : v.2.2.2.2.2.2.2.2.2.2.2.1 = false ∧ v.2.2.2.2.2.2.2.2.2.2.1.val < v.2.2.2.2.2.2.2.1.val := by
  simp only [R_next, Bool.and_eq_true, Bool.not_eq_true', decide_eq_false_iff_not] at h
  exact ⟨h.1, by omega⟩
def R_needs (v : RV) (z : Int32) : RV := if R_next v z z = true then (if (R_setSpot v (v.2.2.2.2.2.2.2.2.2.2.1.val + 1)).2.2.2.2.2.2.2.2.2.2.2.1 = true then R_setWrong (R_setSpot v (v.2.2.2.2.2.2.2.2.2.2.1.val + 1)) true else R_setWrong (R_setSpot v (v.2.2.2.2.2.2.2.2.2.2.1.val + 1)) false) else (if (R_setSpot v (v.2.2.2.2.2.2.2.2.2.2.1.val + 0)).2.2.2.2.2.2.2.2.2.2.2.1 = true then R_setWrong (R_setSpot v (v.2.2.2.2.2.2.2.2.2.2.1.val + 0)) true else R_setWrong (R_setSpot v (v.2.2.2.2.2.2.2.2.2.2.1.val + 0)) true)
def R_held (u : RV) (c pl w : Int32) : Int32 := if S_within c 0 3 = true then if S_within pl 0 7 = true then if S_within w 0 2 = true then
    (if (u.1.2.1 (cN c)).1 (cN pl) = none then -5 else if cN w = 0 then enc5 ((u.1.2.1 (cN c)).1 (cN pl)) else if cN w = 1 then (u.1.2.1 (cN c)).2.1 (cN pl) else bI ((u.1.2.1 (cN c)).2.2.1 (cN pl)))
  else -2 else -2 else -1
def R_stopped (v : RV) (w : Int32) : Int32 := if S_within w 0 1 = true then if v.2.2.2.2.2.2.2.2.1 = -5 then -5 else (if w = 0 then v.2.2.2.2.2.2.2.2.1 else v.2.2.2.2.2.2.2.2.2.1) else -2
def R_clear (v : RV) : Int32 × RV := (nI v.2.2.2.2.2.2.2.1.val, R_setLen v 0)
def R_type (v : RV) (x : Nat) : Int32 × RV := if v.2.2.2.2.2.2.2.1.val = 80 then (-3, v) else (nI (v.2.2.2.2.2.2.2.1.val + 1), R_setLen (R_setText v v.2.2.2.2.2.2.2.1.val x) (v.2.2.2.2.2.2.2.1.val + 1))
set_option maxHeartbeats 4000000 in
set_option maxRecDepth 100000 in
theorem c_X6_held (l : Launch) (E : ET) (a : Nat → Nat) (sz : Nat) (v : RV) (co : Int32) (pl : Int32) (w : Int32) : Met l yX6_held wsX6_held ({ frames := 2, cells := 0, slots := 0, locals := 42 }) (mPc E [.ref (a 0), .int (co), .int (pl), .int (w)] sz (wR E a v)) (mQi E (R_held v co pl w) (wR E a v) (wR E a v) sz) 0 0 (va_A (wR E a v) sz) := by
  refine v_start (cc := cX6_held) (maxL := 5) (ret := (some .int)) (by decide) rfl (Nat.le_of_ble_eq_true rfl) rfl ?_
  intro p e s m args below meth c hsz hr hX
  have hX : Xc p s m args meth c E 5 (va_A (wR E a v) sz) cX6_held RX6 wsX6_held := hX
  have in_X6 : ∀ w ∈ u_ws RX6 TX6 18, w ∈ wsX6_held := by decide +kernel
  have fl_7 : Cond.fieldLink RX6 7 RX6 "s" "[I" ∈ wsX6_held := by decide +kernel
  refine v_iload_n hX dX6_held_0 rfl ?_
  refine v_callSi (r := bI (S_within co (0 : Int32) (3 : Int32))) (rest := []) (ws' := wR E a v) hX (fun sz => c_X6_isCore l E sz co) (va_cwS 1 hX.2.2.2.2.1 gX6_held_X6_isCore rfl rfl rfl (by decide +kernel) ⟨Nat.le_of_ble_eq_true rfl, Nat.le_of_ble_eq_true rfl⟩) ([]) (wR E a v) (rfl) rfl (rfl) rfl rfl (Nat.le_of_ble_eq_true rfl) dX6_held_1 ?_
  refine v_if_ne (tgt := 9) hX dX6_held_4 (by decide) (fun c1 => ?_) (fun c1 => ?_)
  · replace c1 := bI_n0.mp c1
    refine v_iload_n hX dX6_held_9 rfl ?_
    refine v_iconst (x := (0 : Int32)) hX dX6_held_10 (by decide) ?_
    refine v_bipush (x := (7 : Int32)) hX dX6_held_11 (by decide) ?_
    refine v_callSi (r := bI (S_within pl (0 : Int32) (7 : Int32))) (rest := []) (ws' := wR E a v) hX (fun sz => c_X6_in l E sz pl (0 : Int32) (7 : Int32)) (va_cwS 3 hX.2.2.2.2.1 gX6_held_X6_in rfl rfl rfl (by decide +kernel) ⟨Nat.le_of_ble_eq_true rfl, Nat.le_of_ble_eq_true rfl⟩) ([]) (wR E a v) (rfl) rfl (rfl) rfl rfl (Nat.le_of_ble_eq_true rfl) dX6_held_13 ?_
    refine v_if_eq (tgt := 28) hX dX6_held_16 (by decide) (fun c2 => ?_) (fun c2 => ?_)
    · replace c2 := bI_0.mp c2
      refine v_bipush (x := (-2 : Int32)) hX dX6_held_28 (by decide) ?_
      exact v_iret hX hr hsz dX6_held_30 rfl rfl (by (first | (simp only [R_held, c1, c2, if_true, if_false, reduceIte, Bool.false_eq_true, reduceCtorEq, decide_true, decide_false, Bool.and_true, Bool.and_false, Bool.true_and, Bool.false_and, Bool.or_true, Bool.or_false, Bool.true_or, Bool.false_or, not_true_eq_false, not_false_eq_true, Bool.not_true, Bool.not_false, eq_self, Nat.reduceEqDiff]; done) | rfl | (simp only [R_held, c1, c2, if_true, if_false, reduceIte, Bool.false_eq_true, reduceCtorEq, decide_true, decide_false, Bool.and_true, Bool.and_false, Bool.true_and, Bool.false_and, Bool.or_true, Bool.or_false, Bool.true_or, Bool.false_or, not_true_eq_false, not_false_eq_true, Bool.not_true, Bool.not_false, eq_self, Nat.reduceEqDiff]; rfl) | contradiction | (exfalso; omega))) rfl
    · replace c2 := bI_n0.mp c2
      refine v_iload_n hX dX6_held_19 rfl ?_
      refine v_iconst (x := (0 : Int32)) hX dX6_held_20 (by decide) ?_
      refine v_iconst (x := (2 : Int32)) hX dX6_held_21 (by decide) ?_
      refine v_callSi (r := bI (S_within w (0 : Int32) (2 : Int32))) (rest := []) (ws' := wR E a v) hX (fun sz => c_X6_in l E sz w (0 : Int32) (2 : Int32)) (va_cwS 3 hX.2.2.2.2.1 gX6_held_X6_in rfl rfl rfl (by decide +kernel) ⟨Nat.le_of_ble_eq_true rfl, Nat.le_of_ble_eq_true rfl⟩) ([]) (wR E a v) (rfl) rfl (rfl) rfl rfl (Nat.le_of_ble_eq_true rfl) dX6_held_22 ?_
      refine v_if_ne (tgt := 31) hX dX6_held_25 (by decide) (fun c3 => ?_) (fun c3 => ?_)
      · replace c3 := bI_n0.mp c3
        obtain ⟨r, hle_r, heq_r⟩ := within_nat (B := 3) rfl (by decide) c1
        subst heq_r
        have ec_r : cN (nI r) = r := cN_nI (by omega)
        obtain ⟨k, hle_k, heq_k⟩ := within_nat (B := 7) rfl (by decide) c2
        subst heq_k
        have ec_k : cN (nI k) = k := cN_nI (by omega)
        obtain ⟨j, hle_j, heq_j⟩ := within_nat (B := 2) rfl (by decide) c3
        subst heq_j
        have ec_j : cN (nI j) = j := cN_nI (by omega)
        refine v_bipush (x := (8 : Int32)) hX dX6_held_31 (by decide) ?_
        refine v_iload_n hX dX6_held_33 rfl ?_
        refine v_imul (z := nI (8 * r)) hX dX6_held_34 (pk_mul 8 r) ?_
        refine v_iload_n hX dX6_held_35 rfl ?_
        refine v_iadd (z := nI ((8 * r) + k)) hX dX6_held_36 (nI_add (8 * r) k) ?_
        refine v_istore (lv' := [.ref (a 0), .int (nI (r)), .int (nI (k)), .int (nI (j)), .int (nI ((8 * r) + k))]) hX dX6_held_37 (Nat.le_of_ble_eq_true rfl) (Nat.le_of_ble_eq_true rfl) rfl rfl ?_
        refine v_aload_n hX dX6_held_39 rfl ?_
        refine v_get (C := RX6) (T := TX6) (N := 18) (ci := 6) (v := .ref (a 1)) hX in_X6 0 rfl rfl 0 (by decide) fl_7 rfl rfl dX6_held_40 ?_
        refine v_sipush (x := (256 : Int32)) hX dX6_held_43 (by decide) ?_
        refine v_iload hX dX6_held_46 rfl ?_
        refine v_iadd (z := nI (256 + ((8 * r) + k))) hX dX6_held_48 (nI_add 256 ((8 * r) + k)) ?_
        refine v_iald (z := enc5 ((v.1.2.1 r).1 (k))) hX 1 rfl (vp_in_nI (by omega : 256 + ((8 * r) + k) < 544) (by omega)) (by simp only [nI_clamp (show 256 + ((8 * r) + k) < 2 ^ 31 by omega)]; exact gS_line v.1 (o := r) (q := k) (by omega) (by omega) (by omega)) dX6_held_49 ?_
        refine v_bipush (x := (-5 : Int32)) hX dX6_held_50 (by decide) ?_
        refine v_icmp_ne (tgt := 60) hX dX6_held_52 (by decide) (fun c4 => ?_) (fun c4 => ?_)
        · obtain ⟨n5, c4⟩ := enc5_ex c4
          have hn5 := n5.isLt
          try rw [show enc5 ((v.1.2.1 r).1 (k)) = nI (n5).val from by rw [c4]; rfl]
          rcases (show j = 0 ∨ j = 1 ∨ j = 2 by omega) with rfl | rfl | rfl
          · refine v_aload_n hX dX6_held_60 rfl ?_
            refine v_get (C := RX6) (T := TX6) (N := 18) (ci := 6) (v := .ref (a 1)) hX in_X6 0 rfl rfl 0 (by decide) fl_7 rfl rfl dX6_held_61 ?_
            refine v_sipush (x := (256 : Int32)) hX dX6_held_64 (by decide) ?_
            refine v_bipush (x := (32 : Int32)) hX dX6_held_67 (by decide) ?_
            refine v_iload_n hX dX6_held_69 rfl ?_
            refine v_imul (z := nI (32 * 0)) hX dX6_held_70 (pk_mul 32 0) ?_
            refine v_iadd (z := nI (256 + (32 * 0))) hX dX6_held_71 (nI_add 256 (32 * 0)) ?_
            refine v_iload hX dX6_held_72 rfl ?_
            refine v_iadd (z := nI ((256 + (32 * 0)) + ((8 * r) + k))) hX dX6_held_74 (nI_add (256 + (32 * 0)) ((8 * r) + k)) ?_
            refine v_iald (z := enc5 ((v.1.2.1 r).1 (k))) hX 1 rfl (vp_in_nI (by omega : (256 + (32 * 0)) + ((8 * r) + k) < 544) (by omega)) (by simp only [nI_clamp (show (256 + (32 * 0)) + ((8 * r) + k) < 2 ^ 31 by omega)]; exact gS_line v.1 (o := r) (q := k) (by omega) (by omega) (by omega)) dX6_held_75 ?_
            rw [show enc5 ((v.1.2.1 r).1 (k)) = nI (n5).val from by rw [c4]; rfl]
            exact v_iret hX hr hsz dX6_held_76 rfl rfl (by (first | (simp only [R_held, c1, c2, c3, ec_r, ec_k, ec_j, c4, if_true, if_false, reduceIte, Bool.false_eq_true, reduceCtorEq, decide_true, decide_false, Bool.and_true, Bool.and_false, Bool.true_and, Bool.false_and, Bool.or_true, Bool.or_false, Bool.true_or, Bool.false_or, not_true_eq_false, not_false_eq_true, Bool.not_true, Bool.not_false, eq_self, Nat.reduceEqDiff]; done) | rfl | (simp only [R_held, c1, c2, c3, ec_r, ec_k, ec_j, c4, if_true, if_false, reduceIte, Bool.false_eq_true, reduceCtorEq, decide_true, decide_false, Bool.and_true, Bool.and_false, Bool.true_and, Bool.false_and, Bool.or_true, Bool.or_false, Bool.true_or, Bool.false_or, not_true_eq_false, not_false_eq_true, Bool.not_true, Bool.not_false, eq_self, Nat.reduceEqDiff]; rfl) | contradiction | (exfalso; omega))) rfl
          · refine v_aload_n hX dX6_held_60 rfl ?_
            refine v_get (C := RX6) (T := TX6) (N := 18) (ci := 6) (v := .ref (a 1)) hX in_X6 0 rfl rfl 0 (by decide) fl_7 rfl rfl dX6_held_61 ?_
            refine v_sipush (x := (256 : Int32)) hX dX6_held_64 (by decide) ?_
            refine v_bipush (x := (32 : Int32)) hX dX6_held_67 (by decide) ?_
            refine v_iload_n hX dX6_held_69 rfl ?_
            refine v_imul (z := nI (32 * 1)) hX dX6_held_70 (pk_mul 32 1) ?_
            refine v_iadd (z := nI (256 + (32 * 1))) hX dX6_held_71 (nI_add 256 (32 * 1)) ?_
            refine v_iload hX dX6_held_72 rfl ?_
            refine v_iadd (z := nI ((256 + (32 * 1)) + ((8 * r) + k))) hX dX6_held_74 (nI_add (256 + (32 * 1)) ((8 * r) + k)) ?_
            refine v_iald (z := (v.1.2.1 r).2.1 (k)) hX 1 rfl (vp_in_nI (by omega : (256 + (32 * 1)) + ((8 * r) + k) < 544) (by omega)) (by simp only [nI_clamp (show (256 + (32 * 1)) + ((8 * r) + k) < 2 ^ 31 by omega)]; exact gS_val v.1 (o := r) (q := k) (by omega) (by omega) (by omega)) dX6_held_75 ?_
            exact v_iret hX hr hsz dX6_held_76 rfl rfl (by (first | (simp only [R_held, c1, c2, c3, ec_r, ec_k, ec_j, c4, if_true, if_false, reduceIte, Bool.false_eq_true, reduceCtorEq, decide_true, decide_false, Bool.and_true, Bool.and_false, Bool.true_and, Bool.false_and, Bool.or_true, Bool.or_false, Bool.true_or, Bool.false_or, not_true_eq_false, not_false_eq_true, Bool.not_true, Bool.not_false, eq_self, Nat.reduceEqDiff]; done) | rfl | (simp only [R_held, c1, c2, c3, ec_r, ec_k, ec_j, c4, if_true, if_false, reduceIte, Bool.false_eq_true, reduceCtorEq, decide_true, decide_false, Bool.and_true, Bool.and_false, Bool.true_and, Bool.false_and, Bool.or_true, Bool.or_false, Bool.true_or, Bool.false_or, not_true_eq_false, not_false_eq_true, Bool.not_true, Bool.not_false, eq_self, Nat.reduceEqDiff]; rfl) | contradiction | (exfalso; omega))) rfl
          · refine v_aload_n hX dX6_held_60 rfl ?_
            refine v_get (C := RX6) (T := TX6) (N := 18) (ci := 6) (v := .ref (a 1)) hX in_X6 0 rfl rfl 0 (by decide) fl_7 rfl rfl dX6_held_61 ?_
            refine v_sipush (x := (256 : Int32)) hX dX6_held_64 (by decide) ?_
            refine v_bipush (x := (32 : Int32)) hX dX6_held_67 (by decide) ?_
            refine v_iload_n hX dX6_held_69 rfl ?_
            refine v_imul (z := nI (32 * 2)) hX dX6_held_70 (pk_mul 32 2) ?_
            refine v_iadd (z := nI (256 + (32 * 2))) hX dX6_held_71 (nI_add 256 (32 * 2)) ?_
            refine v_iload hX dX6_held_72 rfl ?_
            refine v_iadd (z := nI ((256 + (32 * 2)) + ((8 * r) + k))) hX dX6_held_74 (nI_add (256 + (32 * 2)) ((8 * r) + k)) ?_
            refine v_iald (z := bI ((v.1.2.1 r).2.2.1 (k))) hX 1 rfl (vp_in_nI (by omega : (256 + (32 * 2)) + ((8 * r) + k) < 544) (by omega)) (by simp only [nI_clamp (show (256 + (32 * 2)) + ((8 * r) + k) < 2 ^ 31 by omega)]; exact gS_dirty v.1 (o := r) (q := k) (by omega) (by omega) (by omega)) dX6_held_75 ?_
            exact v_iret hX hr hsz dX6_held_76 rfl rfl (by (first | (simp only [R_held, c1, c2, c3, ec_r, ec_k, ec_j, c4, if_true, if_false, reduceIte, Bool.false_eq_true, reduceCtorEq, decide_true, decide_false, Bool.and_true, Bool.and_false, Bool.true_and, Bool.false_and, Bool.or_true, Bool.or_false, Bool.true_or, Bool.false_or, not_true_eq_false, not_false_eq_true, Bool.not_true, Bool.not_false, eq_self, Nat.reduceEqDiff]; done) | rfl | (simp only [R_held, c1, c2, c3, ec_r, ec_k, ec_j, c4, if_true, if_false, reduceIte, Bool.false_eq_true, reduceCtorEq, decide_true, decide_false, Bool.and_true, Bool.and_false, Bool.true_and, Bool.false_and, Bool.or_true, Bool.or_false, Bool.true_or, Bool.false_or, not_true_eq_false, not_false_eq_true, Bool.not_true, Bool.not_false, eq_self, Nat.reduceEqDiff]; rfl) | contradiction | (exfalso; omega))) rfl
        · replace c4 := enc5_m5.mp c4
          refine v_bipush (x := (-5 : Int32)) hX dX6_held_55 (by decide) ?_
          refine v_goto (tgt := 76) hX dX6_held_57 (by decide) ?_
          exact v_iret hX hr hsz dX6_held_76 rfl rfl (by (first | (simp only [R_held, c1, c2, c3, ec_r, ec_k, ec_j, c4, if_true, if_false, reduceIte, Bool.false_eq_true, reduceCtorEq, decide_true, decide_false, Bool.and_true, Bool.and_false, Bool.true_and, Bool.false_and, Bool.or_true, Bool.or_false, Bool.true_or, Bool.false_or, not_true_eq_false, not_false_eq_true, Bool.not_true, Bool.not_false, eq_self, Nat.reduceEqDiff]; done) | rfl | (simp only [R_held, c1, c2, c3, ec_r, ec_k, ec_j, c4, if_true, if_false, reduceIte, Bool.false_eq_true, reduceCtorEq, decide_true, decide_false, Bool.and_true, Bool.and_false, Bool.true_and, Bool.false_and, Bool.or_true, Bool.or_false, Bool.true_or, Bool.false_or, not_true_eq_false, not_false_eq_true, Bool.not_true, Bool.not_false, eq_self, Nat.reduceEqDiff]; rfl) | contradiction | (exfalso; omega))) rfl
      · replace c3 := bI_0.mp c3
        refine v_bipush (x := (-2 : Int32)) hX dX6_held_28 (by decide) ?_
        exact v_iret hX hr hsz dX6_held_30 rfl rfl (by (first | (simp only [R_held, c1, c2, c3, if_true, if_false, reduceIte, Bool.false_eq_true, reduceCtorEq, decide_true, decide_false, Bool.and_true, Bool.and_false, Bool.true_and, Bool.false_and, Bool.or_true, Bool.or_false, Bool.true_or, Bool.false_or, not_true_eq_false, not_false_eq_true, Bool.not_true, Bool.not_false, eq_self, Nat.reduceEqDiff]; done) | rfl | (simp only [R_held, c1, c2, c3, if_true, if_false, reduceIte, Bool.false_eq_true, reduceCtorEq, decide_true, decide_false, Bool.and_true, Bool.and_false, Bool.true_and, Bool.false_and, Bool.or_true, Bool.or_false, Bool.true_or, Bool.false_or, not_true_eq_false, not_false_eq_true, Bool.not_true, Bool.not_false, eq_self, Nat.reduceEqDiff]; rfl) | contradiction | (exfalso; omega))) rfl
  · replace c1 := bI_0.mp c1
    refine v_iconst (x := (-1 : Int32)) hX dX6_held_7 (by decide) ?_
    exact v_iret hX hr hsz dX6_held_8 rfl rfl (by (first | (simp only [R_held, c1, if_true, if_false, reduceIte, Bool.false_eq_true, reduceCtorEq, decide_true, decide_false, Bool.and_true, Bool.and_false, Bool.true_and, Bool.false_and, Bool.or_true, Bool.or_false, Bool.true_or, Bool.false_or, not_true_eq_false, not_false_eq_true, Bool.not_true, Bool.not_false, eq_self, Nat.reduceEqDiff]; done) | rfl | (simp only [R_held, c1, if_true, if_false, reduceIte, Bool.false_eq_true, reduceCtorEq, decide_true, decide_false, Bool.and_true, Bool.and_false, Bool.true_and, Bool.false_and, Bool.or_true, Bool.or_false, Bool.true_or, Bool.false_or, not_true_eq_false, not_false_eq_true, Bool.not_true, Bool.not_false, eq_self, Nat.reduceEqDiff]; rfl) | contradiction | (exfalso; omega))) rfl
set_option maxHeartbeats 4000000 in
set_option maxRecDepth 100000 in
theorem c_X6_stopped (l : Launch) (E : ET) (a : Nat → Nat) (sz : Nat) (v : RV) (w : Int32) : Met l yX6_stopped wsX6_stopped ({ frames := 1, cells := 0, slots := 0, locals := 22 }) (mPc E [.ref (a 0), .int (w)] sz (wR E a v)) (mQi E (R_stopped v w) (wR E a v) (wR E a v) sz) 0 0 (va_A (wR E a v) sz) := by
  refine v_start (cc := cX6_stopped) (maxL := 2) (ret := (some .int)) (by decide) rfl (Nat.le_of_ble_eq_true rfl) rfl ?_
  intro p e s m args below meth c hsz hr hX
  have hX : Xc p s m args meth c E 2 (va_A (wR E a v) sz) cX6_stopped RX6 wsX6_stopped := hX
  have in_X6 : ∀ w ∈ u_ws RX6 TX6 18, w ∈ wsX6_stopped := by decide +kernel
  have fl_25 : Cond.fieldLink RX6 25 RX6 "stop" "I" ∈ wsX6_stopped := by decide +kernel
  have fl_176 : Cond.fieldLink RX6 176 RX6 "stopError" "I" ∈ wsX6_stopped := by decide +kernel
  refine v_iload_n hX dX6_stopped_0 rfl ?_
  refine v_iconst (x := (0 : Int32)) hX dX6_stopped_1 (by decide) ?_
  refine v_iconst (x := (1 : Int32)) hX dX6_stopped_2 (by decide) ?_
  refine v_callSi (r := bI (S_within w (0 : Int32) (1 : Int32))) (rest := []) (ws' := wR E a v) hX (fun sz => c_X6_in l E sz w (0 : Int32) (1 : Int32)) (va_cwS 3 hX.2.2.2.2.1 gX6_stopped_X6_in rfl rfl rfl (by decide +kernel) ⟨Nat.le_of_ble_eq_true rfl, Nat.le_of_ble_eq_true rfl⟩) ([]) (wR E a v) (rfl) rfl (rfl) rfl rfl (Nat.le_of_ble_eq_true rfl) dX6_stopped_3 ?_
  refine v_if_ne (tgt := 12) hX dX6_stopped_6 (by decide) (fun c1 => ?_) (fun c1 => ?_)
  · replace c1 := bI_n0.mp c1
    refine v_aload_n hX dX6_stopped_12 rfl ?_
    refine v_get (C := RX6) (T := TX6) (N := 18) (ci := 6) (v := .int (v.2.2.2.2.2.2.2.2.1)) hX in_X6 0 rfl rfl 8 (by decide) fl_25 rfl rfl dX6_stopped_13 ?_
    refine v_bipush (x := (-5 : Int32)) hX dX6_stopped_16 (by decide) ?_
    refine v_icmp_ne (tgt := 26) hX dX6_stopped_18 (by decide) (fun c2 => ?_) (fun c2 => ?_)
    · refine v_iload_n hX dX6_stopped_26 rfl ?_
      refine v_if_ne (tgt := 37) hX dX6_stopped_27 (by decide) (fun c3 => ?_) (fun c3 => ?_)
      · refine v_aload_n hX dX6_stopped_37 rfl ?_
        refine v_get (C := RX6) (T := TX6) (N := 18) (ci := 6) (v := .int (v.2.2.2.2.2.2.2.2.2.1)) hX in_X6 0 rfl rfl 9 (by decide) fl_176 rfl rfl dX6_stopped_38 ?_
        exact v_iret hX hr hsz dX6_stopped_41 rfl rfl (by (first | (simp only [R_stopped, c1, c2, c3, if_true, if_false, reduceIte, Bool.false_eq_true, reduceCtorEq, decide_true, decide_false, Bool.and_true, Bool.and_false, Bool.true_and, Bool.false_and, Bool.or_true, Bool.or_false, Bool.true_or, Bool.false_or, not_true_eq_false, not_false_eq_true, Bool.not_true, Bool.not_false, eq_self, Nat.reduceEqDiff]; done) | rfl | (simp only [R_stopped, c1, c2, c3, if_true, if_false, reduceIte, Bool.false_eq_true, reduceCtorEq, decide_true, decide_false, Bool.and_true, Bool.and_false, Bool.true_and, Bool.false_and, Bool.or_true, Bool.or_false, Bool.true_or, Bool.false_or, not_true_eq_false, not_false_eq_true, Bool.not_true, Bool.not_false, eq_self, Nat.reduceEqDiff]; rfl) | contradiction | (exfalso; omega))) rfl
      · have c3t := eq_true c3
        refine v_aload_n hX dX6_stopped_30 rfl ?_
        refine v_get (C := RX6) (T := TX6) (N := 18) (ci := 6) (v := .int (v.2.2.2.2.2.2.2.2.1)) hX in_X6 0 rfl rfl 8 (by decide) fl_25 rfl rfl dX6_stopped_31 ?_
        refine v_goto (tgt := 41) hX dX6_stopped_34 (by decide) ?_
        exact v_iret hX hr hsz dX6_stopped_41 rfl rfl (by (first | (simp only [R_stopped, c1, c2, c3t, if_true, if_false, reduceIte, Bool.false_eq_true, reduceCtorEq, decide_true, decide_false, Bool.and_true, Bool.and_false, Bool.true_and, Bool.false_and, Bool.or_true, Bool.or_false, Bool.true_or, Bool.false_or, not_true_eq_false, not_false_eq_true, Bool.not_true, Bool.not_false, eq_self, Nat.reduceEqDiff]; done) | rfl | (simp only [R_stopped, c1, c2, c3t, if_true, if_false, reduceIte, Bool.false_eq_true, reduceCtorEq, decide_true, decide_false, Bool.and_true, Bool.and_false, Bool.true_and, Bool.false_and, Bool.or_true, Bool.or_false, Bool.true_or, Bool.false_or, not_true_eq_false, not_false_eq_true, Bool.not_true, Bool.not_false, eq_self, Nat.reduceEqDiff]; rfl) | contradiction | (exfalso; omega))) rfl
    · have c2t := eq_true c2
      refine v_bipush (x := (-5 : Int32)) hX dX6_stopped_21 (by decide) ?_
      refine v_goto (tgt := 41) hX dX6_stopped_23 (by decide) ?_
      exact v_iret hX hr hsz dX6_stopped_41 rfl rfl (by (first | (simp only [R_stopped, c1, c2t, if_true, if_false, reduceIte, Bool.false_eq_true, reduceCtorEq, decide_true, decide_false, Bool.and_true, Bool.and_false, Bool.true_and, Bool.false_and, Bool.or_true, Bool.or_false, Bool.true_or, Bool.false_or, not_true_eq_false, not_false_eq_true, Bool.not_true, Bool.not_false, eq_self, Nat.reduceEqDiff]; done) | rfl | (simp only [R_stopped, c1, c2t, if_true, if_false, reduceIte, Bool.false_eq_true, reduceCtorEq, decide_true, decide_false, Bool.and_true, Bool.and_false, Bool.true_and, Bool.false_and, Bool.or_true, Bool.or_false, Bool.true_or, Bool.false_or, not_true_eq_false, not_false_eq_true, Bool.not_true, Bool.not_false, eq_self, Nat.reduceEqDiff]; rfl) | contradiction | (exfalso; omega))) rfl
  · replace c1 := bI_0.mp c1
    refine v_bipush (x := (-2 : Int32)) hX dX6_stopped_9 (by decide) ?_
    exact v_iret hX hr hsz dX6_stopped_11 rfl rfl (by (first | (simp only [R_stopped, c1, if_true, if_false, reduceIte, Bool.false_eq_true, reduceCtorEq, decide_true, decide_false, Bool.and_true, Bool.and_false, Bool.true_and, Bool.false_and, Bool.or_true, Bool.or_false, Bool.true_or, Bool.false_or, not_true_eq_false, not_false_eq_true, Bool.not_true, Bool.not_false, eq_self, Nat.reduceEqDiff]; done) | rfl | (simp only [R_stopped, c1, if_true, if_false, reduceIte, Bool.false_eq_true, reduceCtorEq, decide_true, decide_false, Bool.and_true, Bool.and_false, Bool.true_and, Bool.false_and, Bool.or_true, Bool.or_false, Bool.true_or, Bool.false_or, not_true_eq_false, not_false_eq_true, Bool.not_true, Bool.not_false, eq_self, Nat.reduceEqDiff]; rfl) | contradiction | (exfalso; omega))) rfl
set_option maxHeartbeats 4000000 in
set_option maxRecDepth 100000 in
theorem c_X6_clearText (l : Launch) (E : ET) (a : Nat → Nat) (sz : Nat) (v : RV) : Met l yX6_clearText wsX6_clearText ({ frames := 0, cells := 0, slots := 0, locals := 0 }) (mPc E [.ref (a 0)] sz (wR E a v)) (mQi E ((R_clear v).1) (wR E a v) (wR E a ((R_clear v).2)) sz) 0 0 (va_A (wR E a v) sz) := by
  refine v_start (cc := cX6_clearText) (maxL := 2) (ret := (some .int)) (by decide) rfl (Nat.le_of_ble_eq_true rfl) rfl ?_
  intro p e s m args below meth c hsz hr hX
  have hX : Xc p s m args meth c E 2 (va_A (wR E a v) sz) cX6_clearText RX6 wsX6_clearText := hX
  have in_X6 : ∀ w ∈ u_ws RX6 TX6 18, w ∈ wsX6_clearText := by decide +kernel
  have fl_125 : Cond.fieldLink RX6 125 RX6 "length" "I" ∈ wsX6_clearText := by decide +kernel
  refine v_aload_n hX dX6_clearText_0 rfl ?_
  refine v_get (C := RX6) (T := TX6) (N := 18) (ci := 6) (v := .int (nI (v.2.2.2.2.2.2.2.1.val))) hX in_X6 0 rfl rfl 7 (by decide) fl_125 rfl rfl dX6_clearText_1 ?_
  have hb1 := (v.2.2.2.2.2.2.2.1).isLt
  refine v_istore_n (lv' := [.ref (a 0), .int (nI (v.2.2.2.2.2.2.2.1.val))]) hX dX6_clearText_4 (Nat.le_of_ble_eq_true rfl) (Nat.le_of_ble_eq_true rfl) rfl rfl ?_
  refine v_aload_n hX dX6_clearText_5 rfl ?_
  refine v_iconst (x := (0 : Int32)) hX dX6_clearText_6 (by decide) ?_
  obtain ⟨v2, hv2⟩ : ∃ z_ : RV, z_ = R_setLen v (0) := ⟨_, rfl⟩
  refine v_put (C := RX6) (T := TX6) (N := 18) (ci := 6) (v := .int ((0 : Int32))) (ty := .int) (ws' := wR E a v2) hX in_X6 tyX6 tyX6_ok nmX6 0 rfl rfl 7 (by decide) fl_125 rfl rfl (by decide +kernel) (rfl) (rfl) (Nat.le_of_ble_eq_true rfl) dX6_clearText_7 (by rw [hv2]; exact sR_Len E a v (x := 0) (by omega : 0 < 81)) ?_
  refine v_iload_n hX dX6_clearText_10 rfl ?_
  exact v_iret hX hr hsz dX6_clearText_11 rfl rfl (by (subst hv2; first | (simp only [R_clear, if_true, if_false, reduceIte, Bool.false_eq_true, reduceCtorEq, decide_true, decide_false, Bool.and_true, Bool.and_false, Bool.true_and, Bool.false_and, Bool.or_true, Bool.or_false, Bool.true_or, Bool.false_or, not_true_eq_false, not_false_eq_true, Bool.not_true, Bool.not_false, eq_self, Nat.reduceEqDiff]; done) | rfl | (simp only [R_clear, if_true, if_false, reduceIte, Bool.false_eq_true, reduceCtorEq, decide_true, decide_false, Bool.and_true, Bool.and_false, Bool.true_and, Bool.false_and, Bool.or_true, Bool.or_false, Bool.true_or, Bool.false_or, not_true_eq_false, not_false_eq_true, Bool.not_true, Bool.not_false, eq_self, Nat.reduceEqDiff]; rfl) | contradiction | (exfalso; omega))) (by (subst hv2; first | (simp only [R_clear, if_true, if_false, reduceIte, Bool.false_eq_true, reduceCtorEq, decide_true, decide_false, Bool.and_true, Bool.and_false, Bool.true_and, Bool.false_and, Bool.or_true, Bool.or_false, Bool.true_or, Bool.false_or, not_true_eq_false, not_false_eq_true, Bool.not_true, Bool.not_false, eq_self, Nat.reduceEqDiff]; done) | rfl | (simp only [R_clear, if_true, if_false, reduceIte, Bool.false_eq_true, reduceCtorEq, decide_true, decide_false, Bool.and_true, Bool.and_false, Bool.true_and, Bool.false_and, Bool.or_true, Bool.or_false, Bool.true_or, Bool.false_or, not_true_eq_false, not_false_eq_true, Bool.not_true, Bool.not_false, eq_self, Nat.reduceEqDiff]; rfl) | contradiction | (exfalso; omega)))
set_option maxHeartbeats 4000000 in
set_option maxRecDepth 100000 in
theorem c_X6_type (l : Launch) (E : ET) (a : Nat → Nat) (sz : Nat) (v : RV) (x : Nat) (hx : x < 65536) : Met l yX6_type wsX6_type ({ frames := 0, cells := 0, slots := 0, locals := 0 }) (mPc E [.ref (a 0), .int (nI (x))] sz (wR E a v)) (mQi E ((R_type v x).1) (wR E a v) (wR E a ((R_type v x).2)) sz) 0 0 (va_A (wR E a v) sz) := by
  refine v_start (cc := cX6_type) (maxL := 2) (ret := (some .int)) (by decide) rfl (Nat.le_of_ble_eq_true rfl) rfl ?_
  intro p e s m args below meth c hsz hr hX
  have hX : Xc p s m args meth c E 2 (va_A (wR E a v) sz) cX6_type RX6 wsX6_type := hX
  have in_X6 : ∀ w ∈ u_ws RX6 TX6 18, w ∈ wsX6_type := by decide +kernel
  have fl_125 : Cond.fieldLink RX6 125 RX6 "length" "I" ∈ wsX6_type := by decide +kernel
  have fl_22 : Cond.fieldLink RX6 22 RX6 "text" "[I" ∈ wsX6_type := by decide +kernel
  refine v_aload_n hX dX6_type_0 rfl ?_
  refine v_get (C := RX6) (T := TX6) (N := 18) (ci := 6) (v := .int (nI (v.2.2.2.2.2.2.2.1.val))) hX in_X6 0 rfl rfl 7 (by decide) fl_125 rfl rfl dX6_type_1 ?_
  have hb1 := (v.2.2.2.2.2.2.2.1).isLt
  refine v_bipush (x := (80 : Int32)) hX dX6_type_4 (by decide) ?_
  refine v_icmp_ne (tgt := 12) hX dX6_type_6 (by decide) (fun c2 => ?_) (fun c2 => ?_)
  · replace c2 := (not_congr (nI_eq (a := v.2.2.2.2.2.2.2.1.val) (b := 80) (by omega) (by omega))).mp c2
    refine v_aload_n hX dX6_type_12 rfl ?_
    refine v_get (C := RX6) (T := TX6) (N := 18) (ci := 6) (v := .ref (a 5)) hX in_X6 0 rfl rfl 6 (by decide) fl_22 rfl rfl dX6_type_13 ?_
    refine v_aload_n hX dX6_type_16 rfl ?_
    refine v_get (C := RX6) (T := TX6) (N := 18) (ci := 6) (v := .int (nI (v.2.2.2.2.2.2.2.1.val))) hX in_X6 0 rfl rfl 7 (by decide) fl_125 rfl rfl dX6_type_17 ?_
    have hb3 := (v.2.2.2.2.2.2.2.1).isLt
    refine v_iload_n hX dX6_type_20 rfl ?_
    obtain ⟨v4, hv4⟩ : ∃ z_ : RV, z_ = R_setText v (v.2.2.2.2.2.2.2.1.val) (x) := ⟨_, rfl⟩
    refine v_iast (ws' := wR E a v4) hX 5 rfl (vp_in_nI (by omega : v.2.2.2.2.2.2.2.1.val < 80) (by omega)) (by rw [hv4]; exact sR_Text E a v (k := v.2.2.2.2.2.2.2.1.val) (by omega) (x := x) (by omega : x < 65536)) dX6_type_21 ?_
    refine v_aload_n hX dX6_type_22 rfl ?_
    refine v_dup hX dX6_type_23 rfl ?_
    refine v_get (C := RX6) (T := TX6) (N := 18) (ci := 6) (v := .int (nI (v4.2.2.2.2.2.2.2.1.val))) hX in_X6 0 rfl rfl 7 (by decide) fl_125 rfl rfl dX6_type_24 ?_
    have hb5 := (v4.2.2.2.2.2.2.2.1).isLt
    refine v_iconst (x := (1 : Int32)) hX dX6_type_27 (by decide) ?_
    refine v_iadd (z := nI (v4.2.2.2.2.2.2.2.1.val + 1)) hX dX6_type_28 (nI_add v4.2.2.2.2.2.2.2.1.val 1) ?_
    have hq : v4.2.2.2.2.2.2.2.1.val = v.2.2.2.2.2.2.2.1.val := by rw [hv4]; rfl
    obtain ⟨v6, hv6⟩ : ∃ z_ : RV, z_ = R_setLen v4 (v4.2.2.2.2.2.2.2.1.val + 1) := ⟨_, rfl⟩
    refine v_put (C := RX6) (T := TX6) (N := 18) (ci := 6) (v := .int (nI (v4.2.2.2.2.2.2.2.1.val + 1))) (ty := .int) (ws' := wR E a v6) hX in_X6 tyX6 tyX6_ok nmX6 0 rfl rfl 7 (by decide) fl_125 rfl rfl (by decide +kernel) (rfl) (rfl) (Nat.le_of_ble_eq_true rfl) dX6_type_29 (by rw [hv6]; exact sR_Len E a v4 (x := v4.2.2.2.2.2.2.2.1.val + 1) (by omega : v4.2.2.2.2.2.2.2.1.val + 1 < 81)) ?_
    have hq2 : v6.2.2.2.2.2.2.2.1.val = v.2.2.2.2.2.2.2.1.val + 1 := by rw [hv6]; exact (Nat.mod_eq_of_lt (by omega)).trans (by rw [hq])
    refine v_aload_n hX dX6_type_32 rfl ?_
    refine v_get (C := RX6) (T := TX6) (N := 18) (ci := 6) (v := .int (nI (v6.2.2.2.2.2.2.2.1.val))) hX in_X6 0 rfl rfl 7 (by decide) fl_125 rfl rfl dX6_type_33 ?_
    have hb8 := (v6.2.2.2.2.2.2.2.1).isLt
    exact v_iret hX hr hsz dX6_type_36 rfl rfl (by (rw [hq2]; unfold R_type; rw [if_neg c2])) (by (subst hv6; rw [hq]; subst hv4; unfold R_type; rw [if_neg c2]))
  · replace c2 := (nI_eq (a := v.2.2.2.2.2.2.2.1.val) (b := 80) (by omega) (by omega)).mp c2
    have c2t := eq_true c2
    refine v_bipush (x := (-3 : Int32)) hX dX6_type_9 (by decide) ?_
    exact v_iret hX hr hsz dX6_type_11 rfl rfl (by (first | (simp only [R_type, c2t, if_true, if_false, reduceIte, Bool.false_eq_true, reduceCtorEq, decide_true, decide_false, Bool.and_true, Bool.and_false, Bool.true_and, Bool.false_and, Bool.or_true, Bool.or_false, Bool.true_or, Bool.false_or, not_true_eq_false, not_false_eq_true, Bool.not_true, Bool.not_false, eq_self, Nat.reduceEqDiff]; done) | rfl | (simp only [R_type, c2t, if_true, if_false, reduceIte, Bool.false_eq_true, reduceCtorEq, decide_true, decide_false, Bool.and_true, Bool.and_false, Bool.true_and, Bool.false_and, Bool.or_true, Bool.or_false, Bool.true_or, Bool.false_or, not_true_eq_false, not_false_eq_true, Bool.not_true, Bool.not_false, eq_self, Nat.reduceEqDiff]; rfl) | contradiction | (exfalso; omega))) (by (first | (simp only [R_type, c2t, if_true, if_false, reduceIte, Bool.false_eq_true, reduceCtorEq, decide_true, decide_false, Bool.and_true, Bool.and_false, Bool.true_and, Bool.false_and, Bool.or_true, Bool.or_false, Bool.true_or, Bool.false_or, not_true_eq_false, not_false_eq_true, Bool.not_true, Bool.not_false, eq_self, Nat.reduceEqDiff]; done) | rfl | (simp only [R_type, c2t, if_true, if_false, reduceIte, Bool.false_eq_true, reduceCtorEq, decide_true, decide_false, Bool.and_true, Bool.and_false, Bool.true_and, Bool.false_and, Bool.or_true, Bool.or_false, Bool.true_or, Bool.false_or, not_true_eq_false, not_false_eq_true, Bool.not_true, Bool.not_false, eq_self, Nat.reduceEqDiff]; rfl) | contradiction | (exfalso; omega)))
set_option maxHeartbeats 4000000 in
set_option maxRecDepth 100000 in
theorem c_X6_isNext (l : Launch) (E : ET) (a : Nat → Nat) (sz : Nat) (v : RV) (lo : Int32) (hi : Int32) : Met l yX6_isNext wsX6_isNext ({ frames := 1, cells := 0, slots := 0, locals := 22 }) (mPc E [.ref (a 0), .int (lo), .int (hi)] sz (wR E a v)) (mQi E (bI (R_next v lo hi)) (wR E a v) (wR E a v) sz) 0 0 (va_A (wR E a v) sz) := by
  refine v_start (cc := cX6_isNext) (maxL := 3) (ret := (some .boolean)) (by decide) rfl (Nat.le_of_ble_eq_true rfl) rfl ?_
  intro p e s m args below meth c hsz hr hX
  have hX : Xc p s m args meth c E 3 (va_A (wR E a v) sz) cX6_isNext RX6 wsX6_isNext := hX
  have in_X6 : ∀ w ∈ u_ws RX6 TX6 18, w ∈ wsX6_isNext := by decide +kernel
  have fl_128 : Cond.fieldLink RX6 128 RX6 "isWrong" "Z" ∈ wsX6_isNext := by decide +kernel
  have fl_132 : Cond.fieldLink RX6 132 RX6 "spot" "I" ∈ wsX6_isNext := by decide +kernel
  have fl_125 : Cond.fieldLink RX6 125 RX6 "length" "I" ∈ wsX6_isNext := by decide +kernel
  have fl_22 : Cond.fieldLink RX6 22 RX6 "text" "[I" ∈ wsX6_isNext := by decide +kernel
  refine v_aload_n hX dX6_isNext_0 rfl ?_
  refine v_get (C := RX6) (T := TX6) (N := 18) (ci := 6) (v := .int (bI (v.2.2.2.2.2.2.2.2.2.2.2.1))) hX in_X6 0 rfl rfl 11 (by decide) fl_128 rfl rfl dX6_isNext_1 ?_
  refine v_if_ne (tgt := 39) hX dX6_isNext_4 (by decide) (fun c1 => ?_) (fun c1 => ?_)
  · replace c1 := bI_n0.mp c1
    refine v_iconst (x := (0 : Int32)) hX dX6_isNext_39 (by decide) ?_
    exact v_zret hX hr hsz dX6_isNext_40 rfl rfl (bI_narrow (false)) (congrArg bI (by (first | (simp only [R_next, c1, if_true, if_false, reduceIte, Bool.false_eq_true, reduceCtorEq, decide_true, decide_false, Bool.and_true, Bool.and_false, Bool.true_and, Bool.false_and, Bool.or_true, Bool.or_false, Bool.true_or, Bool.false_or, not_true_eq_false, not_false_eq_true, Bool.not_true, Bool.not_false, eq_self, Nat.reduceEqDiff]; done) | rfl | (simp only [R_next, c1, if_true, if_false, reduceIte, Bool.false_eq_true, reduceCtorEq, decide_true, decide_false, Bool.and_true, Bool.and_false, Bool.true_and, Bool.false_and, Bool.or_true, Bool.or_false, Bool.true_or, Bool.false_or, not_true_eq_false, not_false_eq_true, Bool.not_true, Bool.not_false, eq_self, Nat.reduceEqDiff]; rfl) | contradiction | (exfalso; omega)) : false = R_next v lo hi)) rfl
  · replace c1 := bI_0.mp c1
    refine v_aload_n hX dX6_isNext_7 rfl ?_
    refine v_get (C := RX6) (T := TX6) (N := 18) (ci := 6) (v := .int (nI (v.2.2.2.2.2.2.2.2.2.2.1.val))) hX in_X6 0 rfl rfl 10 (by decide) fl_132 rfl rfl dX6_isNext_8 ?_
    have hb2 := (v.2.2.2.2.2.2.2.2.2.2.1).isLt
    refine v_aload_n hX dX6_isNext_11 rfl ?_
    refine v_get (C := RX6) (T := TX6) (N := 18) (ci := 6) (v := .int (nI (v.2.2.2.2.2.2.2.1.val))) hX in_X6 0 rfl rfl 7 (by decide) fl_125 rfl rfl dX6_isNext_12 ?_
    have hb3 := (v.2.2.2.2.2.2.2.1).isLt
    refine v_icmp_ge (tgt := 39) hX dX6_isNext_15 (by decide) (fun c4 => ?_) (fun c4 => ?_)
    · replace c4 := (nI_leI (a := v.2.2.2.2.2.2.2.1.val) (b := v.2.2.2.2.2.2.2.2.2.2.1.val) (by omega) (by omega)).mp c4
      refine v_iconst (x := (0 : Int32)) hX dX6_isNext_39 (by decide) ?_
      exact v_zret hX hr hsz dX6_isNext_40 rfl rfl (bI_narrow (false)) (congrArg bI (by (first | (simp only [R_next, c1, c4, if_true, if_false, reduceIte, Bool.false_eq_true, reduceCtorEq, decide_true, decide_false, Bool.and_true, Bool.and_false, Bool.true_and, Bool.false_and, Bool.or_true, Bool.or_false, Bool.true_or, Bool.false_or, not_true_eq_false, not_false_eq_true, Bool.not_true, Bool.not_false, eq_self, Nat.reduceEqDiff]; done) | rfl | (simp only [R_next, c1, c4, if_true, if_false, reduceIte, Bool.false_eq_true, reduceCtorEq, decide_true, decide_false, Bool.and_true, Bool.and_false, Bool.true_and, Bool.false_and, Bool.or_true, Bool.or_false, Bool.true_or, Bool.false_or, not_true_eq_false, not_false_eq_true, Bool.not_true, Bool.not_false, eq_self, Nat.reduceEqDiff]; rfl) | contradiction | (exfalso; omega)) : false = R_next v lo hi)) rfl
    · replace c4 := (not_congr (nI_leI (a := v.2.2.2.2.2.2.2.1.val) (b := v.2.2.2.2.2.2.2.2.2.2.1.val) (by omega) (by omega))).mp c4
      refine v_aload_n hX dX6_isNext_18 rfl ?_
      refine v_get (C := RX6) (T := TX6) (N := 18) (ci := 6) (v := .ref (a 5)) hX in_X6 0 rfl rfl 6 (by decide) fl_22 rfl rfl dX6_isNext_19 ?_
      refine v_aload_n hX dX6_isNext_22 rfl ?_
      refine v_get (C := RX6) (T := TX6) (N := 18) (ci := 6) (v := .int (nI (v.2.2.2.2.2.2.2.2.2.2.1.val))) hX in_X6 0 rfl rfl 10 (by decide) fl_132 rfl rfl dX6_isNext_23 ?_
      have hb5 := (v.2.2.2.2.2.2.2.2.2.2.1).isLt
      refine v_iald (z := nI (v.2.2.2.2.2.2.1 (v.2.2.2.2.2.2.2.2.2.2.1.val)).val) hX 5 rfl (vp_in_nI (by omega : v.2.2.2.2.2.2.2.2.2.2.1.val < 80) (by omega)) (by simp only [nI_clamp (show v.2.2.2.2.2.2.2.2.2.2.1.val < 2 ^ 31 by omega)]) dX6_isNext_26 ?_
      have hb6 := (v.2.2.2.2.2.2.1 (v.2.2.2.2.2.2.2.2.2.2.1.val)).isLt
      refine v_iload_n hX dX6_isNext_27 rfl ?_
      refine v_iload_n hX dX6_isNext_28 rfl ?_
      refine v_callSi (r := bI (S_within (nI (v.2.2.2.2.2.2.1 (v.2.2.2.2.2.2.2.2.2.2.1.val)).val) lo hi)) (rest := []) (ws' := wR E a v) hX (fun sz => c_X6_in l E sz (nI (v.2.2.2.2.2.2.1 (v.2.2.2.2.2.2.2.2.2.2.1.val)).val) lo hi) (va_cwS 3 hX.2.2.2.2.1 gX6_isNext_X6_in rfl rfl rfl (by decide +kernel) ⟨Nat.le_of_ble_eq_true rfl, Nat.le_of_ble_eq_true rfl⟩) ([]) (wR E a v) (rfl) rfl (rfl) rfl rfl (Nat.le_of_ble_eq_true rfl) dX6_isNext_29 ?_
      refine v_if_eq (tgt := 39) hX dX6_isNext_32 (by decide) (fun c7 => ?_) (fun c7 => ?_)
      · replace c7 := bI_0.mp c7
        refine v_iconst (x := (0 : Int32)) hX dX6_isNext_39 (by decide) ?_
        exact v_zret hX hr hsz dX6_isNext_40 rfl rfl (bI_narrow (false)) (congrArg bI (by (first | (simp only [R_next, c1, c4, c7, if_true, if_false, reduceIte, Bool.false_eq_true, reduceCtorEq, decide_true, decide_false, Bool.and_true, Bool.and_false, Bool.true_and, Bool.false_and, Bool.or_true, Bool.or_false, Bool.true_or, Bool.false_or, not_true_eq_false, not_false_eq_true, Bool.not_true, Bool.not_false, eq_self, Nat.reduceEqDiff]; done) | rfl | (simp only [R_next, c1, c4, c7, if_true, if_false, reduceIte, Bool.false_eq_true, reduceCtorEq, decide_true, decide_false, Bool.and_true, Bool.and_false, Bool.true_and, Bool.false_and, Bool.or_true, Bool.or_false, Bool.true_or, Bool.false_or, not_true_eq_false, not_false_eq_true, Bool.not_true, Bool.not_false, eq_self, Nat.reduceEqDiff]; rfl) | contradiction | (exfalso; omega)) : false = R_next v lo hi)) rfl
      · replace c7 := bI_n0.mp c7
        refine v_iconst (x := (1 : Int32)) hX dX6_isNext_35 (by decide) ?_
        refine v_goto (tgt := 40) hX dX6_isNext_36 (by decide) ?_
        exact v_zret hX hr hsz dX6_isNext_40 rfl rfl (bI_narrow (true)) (congrArg bI (by (first | (simp only [R_next, c1, c4, c7, if_true, if_false, reduceIte, Bool.false_eq_true, reduceCtorEq, decide_true, decide_false, Bool.and_true, Bool.and_false, Bool.true_and, Bool.false_and, Bool.or_true, Bool.or_false, Bool.true_or, Bool.false_or, not_true_eq_false, not_false_eq_true, Bool.not_true, Bool.not_false, eq_self, Nat.reduceEqDiff]; done) | rfl | (simp only [R_next, c1, c4, c7, if_true, if_false, reduceIte, Bool.false_eq_true, reduceCtorEq, decide_true, decide_false, Bool.and_true, Bool.and_false, Bool.true_and, Bool.false_and, Bool.or_true, Bool.or_false, Bool.true_or, Bool.false_or, not_true_eq_false, not_false_eq_true, Bool.not_true, Bool.not_false, eq_self, Nat.reduceEqDiff]; rfl) | contradiction | (exfalso; omega)) : true = R_next v lo hi)) rfl
set_option maxHeartbeats 4000000 in
set_option maxRecDepth 100000 in
theorem c_X6_needs (l : Launch) (E : ET) (a : Nat → Nat) (sz : Nat) (v : RV) (z : Int32) : Met l yX6_needs wsX6_needs ({ frames := 2, cells := 0, slots := 0, locals := 44 }) (mPc E [.ref (a 0), .int (z)] sz (wR E a v)) (mQv E (wR E a v) (wR E a (R_needs v z)) sz) 0 0 (va_A (wR E a v) sz) := by
  refine v_start (cc := cX6_needs) (maxL := 3) (ret := none) (by decide) rfl (Nat.le_of_ble_eq_true rfl) rfl ?_
  intro p e s m args below meth c hsz hr hX
  have hX : Xc p s m args meth c E 3 (va_A (wR E a v) sz) cX6_needs RX6 wsX6_needs := hX
  have in_X6 : ∀ w ∈ u_ws RX6 TX6 18, w ∈ wsX6_needs := by decide +kernel
  have fl_132 : Cond.fieldLink RX6 132 RX6 "spot" "I" ∈ wsX6_needs := by decide +kernel
  have fl_128 : Cond.fieldLink RX6 128 RX6 "isWrong" "Z" ∈ wsX6_needs := by decide +kernel
  refine v_aload_n hX dX6_needs_0 rfl ?_
  refine v_iload_n hX dX6_needs_1 rfl ?_
  refine v_iload_n hX dX6_needs_2 rfl ?_
  refine v_callVi (r := bI (R_next v z z)) (rest := []) (ws' := wR E a v) hX (fun sz => c_X6_isNext l E a sz v z z) (cwV 2 hX.2.2.2.2.1 gX6_needs_X6_isNext rfl rfl rfl (by decide +kernel) ⟨Nat.le_of_ble_eq_true rfl, Nat.le_of_ble_eq_true rfl⟩) ([]) ([]) ((List.append_nil _).symm) ((List.append_nil _).symm).symm (wR_fst E a _ _) (ci := 6) (q0 := 0) rfl rfl rfl rfl rfl (Nat.le_of_ble_eq_true rfl) dX6_needs_3 ?_
  refine v_istore_n (lv' := [.ref (a 0), .int (z), .int (bI (R_next v z z))]) hX dX6_needs_6 (Nat.le_of_ble_eq_true rfl) (Nat.le_of_ble_eq_true rfl) rfl rfl ?_
  refine v_aload_n hX dX6_needs_7 rfl ?_
  refine v_dup hX dX6_needs_8 rfl ?_
  refine v_get (C := RX6) (T := TX6) (N := 18) (ci := 6) (v := .int (nI (v.2.2.2.2.2.2.2.2.2.2.1.val))) hX in_X6 0 rfl rfl 10 (by decide) fl_132 rfl rfl dX6_needs_9 ?_
  have hb1 := (v.2.2.2.2.2.2.2.2.2.2.1).isLt
  refine v_iload_n hX dX6_needs_12 rfl ?_
  refine v_if_eq (tgt := 20) hX dX6_needs_13 (by decide) (fun c2 => ?_) (fun c2 => ?_)
  · replace c2 := bI_0.mp c2
    refine v_iconst (x := (0 : Int32)) hX dX6_needs_20 (by decide) ?_
    refine v_iadd (z := nI (v.2.2.2.2.2.2.2.2.2.2.1.val + 0)) hX dX6_needs_21 (nI_add v.2.2.2.2.2.2.2.2.2.2.1.val 0) ?_
    obtain ⟨v3, hv3⟩ : ∃ z_ : RV, z_ = R_setSpot v (v.2.2.2.2.2.2.2.2.2.2.1.val + 0) := ⟨_, rfl⟩
    refine v_put (C := RX6) (T := TX6) (N := 18) (ci := 6) (v := .int (nI (v.2.2.2.2.2.2.2.2.2.2.1.val + 0))) (ty := .int) (ws' := wR E a v3) hX in_X6 tyX6 tyX6_ok nmX6 0 rfl rfl 10 (by decide) fl_132 rfl rfl (by decide +kernel) (rfl) (rfl) (Nat.le_of_ble_eq_true rfl) dX6_needs_22 (by rw [hv3]; exact sR_Spot E a v (x := v.2.2.2.2.2.2.2.2.2.2.1.val + 0) (by omega : v.2.2.2.2.2.2.2.2.2.2.1.val + 0 < 81)) ?_
    refine v_aload_n hX dX6_needs_25 rfl ?_
    refine v_aload_n hX dX6_needs_26 rfl ?_
    refine v_get (C := RX6) (T := TX6) (N := 18) (ci := 6) (v := .int (bI (v3.2.2.2.2.2.2.2.2.2.2.2.1))) hX in_X6 0 rfl rfl 11 (by decide) fl_128 rfl rfl dX6_needs_27 ?_
    refine v_if_ne (tgt := 37) hX dX6_needs_30 (by decide) (fun c5 => ?_) (fun c5 => ?_)
    · replace c5 := bI_n0.mp c5
      refine v_iconst (x := (1 : Int32)) hX dX6_needs_37 (by decide) ?_
      refine v_goto (tgt := 42) hX dX6_needs_38 (by decide) ?_
      obtain ⟨v6, hv6⟩ : ∃ z_ : RV, z_ = R_setWrong v3 (true) := ⟨_, rfl⟩
      refine v_put (C := RX6) (T := TX6) (N := 18) (ci := 6) (v := .int (bI (true))) (ty := .boolean) (ws' := wR E a v6) hX in_X6 tyX6 tyX6_ok nmX6 0 rfl rfl 11 (by decide) fl_128 rfl rfl (by decide +kernel) (bI_narrow _) (bI_fits _) (Nat.le_of_ble_eq_true rfl) dX6_needs_42 (by rw [hv6]; exact sR_Wrong E a v3 (true)) ?_
      have hw7 : v6.2.2.2.2.2.2.2.2.2.2.2.1 = true := by rw [hv6]; rfl
      exact v_vret hX hr hsz dX6_needs_45 rfl rfl (by (subst hv6; subst hv3; first | (simp only [R_needs, c2, c5, if_true, if_false, reduceIte, Bool.false_eq_true, reduceCtorEq, decide_true, decide_false, Bool.and_true, Bool.and_false, Bool.true_and, Bool.false_and, Bool.or_true, Bool.or_false, Bool.true_or, Bool.false_or, not_true_eq_false, not_false_eq_true, Bool.not_true, Bool.not_false, eq_self, Nat.reduceEqDiff]; done) | rfl | (simp only [R_needs, c2, c5, if_true, if_false, reduceIte, Bool.false_eq_true, reduceCtorEq, decide_true, decide_false, Bool.and_true, Bool.and_false, Bool.true_and, Bool.false_and, Bool.or_true, Bool.or_false, Bool.true_or, Bool.false_or, not_true_eq_false, not_false_eq_true, Bool.not_true, Bool.not_false, eq_self, Nat.reduceEqDiff]; rfl) | contradiction | (exfalso; omega)))
    · replace c5 := bI_0.mp c5
      refine v_iload_n hX dX6_needs_33 rfl ?_
      refine v_if_ne (tgt := 41) hX dX6_needs_34 (by decide) (fun c8 => ?_) (fun c8 => ?_)
      · replace c8 := bI_n0.mp c8
        exact absurd (c2.symm.trans c8) (by decide)
      · replace c8 := bI_0.mp c8
        refine v_iconst (x := (1 : Int32)) hX dX6_needs_37 (by decide) ?_
        refine v_goto (tgt := 42) hX dX6_needs_38 (by decide) ?_
        obtain ⟨v9, hv9⟩ : ∃ z_ : RV, z_ = R_setWrong v3 (true) := ⟨_, rfl⟩
        refine v_put (C := RX6) (T := TX6) (N := 18) (ci := 6) (v := .int (bI (true))) (ty := .boolean) (ws' := wR E a v9) hX in_X6 tyX6 tyX6_ok nmX6 0 rfl rfl 11 (by decide) fl_128 rfl rfl (by decide +kernel) (bI_narrow _) (bI_fits _) (Nat.le_of_ble_eq_true rfl) dX6_needs_42 (by rw [hv9]; exact sR_Wrong E a v3 (true)) ?_
        have hw10 : v9.2.2.2.2.2.2.2.2.2.2.2.1 = true := by rw [hv9]; rfl
        exact v_vret hX hr hsz dX6_needs_45 rfl rfl (by (subst hv9; subst hv3; first | (simp only [R_needs, c2, c5, c8, if_true, if_false, reduceIte, Bool.false_eq_true, reduceCtorEq, decide_true, decide_false, Bool.and_true, Bool.and_false, Bool.true_and, Bool.false_and, Bool.or_true, Bool.or_false, Bool.true_or, Bool.false_or, not_true_eq_false, not_false_eq_true, Bool.not_true, Bool.not_false, eq_self, Nat.reduceEqDiff]; done) | rfl | (simp only [R_needs, c2, c5, c8, if_true, if_false, reduceIte, Bool.false_eq_true, reduceCtorEq, decide_true, decide_false, Bool.and_true, Bool.and_false, Bool.true_and, Bool.false_and, Bool.or_true, Bool.or_false, Bool.true_or, Bool.false_or, not_true_eq_false, not_false_eq_true, Bool.not_true, Bool.not_false, eq_self, Nat.reduceEqDiff]; rfl) | contradiction | (exfalso; omega)))
  · replace c2 := bI_n0.mp c2
    have hnx := R_next_spec c2
    refine v_iconst (x := (1 : Int32)) hX dX6_needs_16 (by decide) ?_
    refine v_goto (tgt := 21) hX dX6_needs_17 (by decide) ?_
    refine v_iadd (z := nI (v.2.2.2.2.2.2.2.2.2.2.1.val + 1)) hX dX6_needs_21 (nI_add v.2.2.2.2.2.2.2.2.2.2.1.val 1) ?_
    obtain ⟨v11, hv11⟩ : ∃ z_ : RV, z_ = R_setSpot v (v.2.2.2.2.2.2.2.2.2.2.1.val + 1) := ⟨_, rfl⟩
    refine v_put (C := RX6) (T := TX6) (N := 18) (ci := 6) (v := .int (nI (v.2.2.2.2.2.2.2.2.2.2.1.val + 1))) (ty := .int) (ws' := wR E a v11) hX in_X6 tyX6 tyX6_ok nmX6 0 rfl rfl 10 (by decide) fl_132 rfl rfl (by decide +kernel) (rfl) (rfl) (Nat.le_of_ble_eq_true rfl) dX6_needs_22 (by rw [hv11]; exact sR_Spot E a v (x := v.2.2.2.2.2.2.2.2.2.2.1.val + 1) (by omega : v.2.2.2.2.2.2.2.2.2.2.1.val + 1 < 81)) ?_
    refine v_aload_n hX dX6_needs_25 rfl ?_
    refine v_aload_n hX dX6_needs_26 rfl ?_
    refine v_get (C := RX6) (T := TX6) (N := 18) (ci := 6) (v := .int (bI (v11.2.2.2.2.2.2.2.2.2.2.2.1))) hX in_X6 0 rfl rfl 11 (by decide) fl_128 rfl rfl dX6_needs_27 ?_
    refine v_if_ne (tgt := 37) hX dX6_needs_30 (by decide) (fun c13 => ?_) (fun c13 => ?_)
    · replace c13 := bI_n0.mp c13
      refine v_iconst (x := (1 : Int32)) hX dX6_needs_37 (by decide) ?_
      refine v_goto (tgt := 42) hX dX6_needs_38 (by decide) ?_
      obtain ⟨v14, hv14⟩ : ∃ z_ : RV, z_ = R_setWrong v11 (true) := ⟨_, rfl⟩
      refine v_put (C := RX6) (T := TX6) (N := 18) (ci := 6) (v := .int (bI (true))) (ty := .boolean) (ws' := wR E a v14) hX in_X6 tyX6 tyX6_ok nmX6 0 rfl rfl 11 (by decide) fl_128 rfl rfl (by decide +kernel) (bI_narrow _) (bI_fits _) (Nat.le_of_ble_eq_true rfl) dX6_needs_42 (by rw [hv14]; exact sR_Wrong E a v11 (true)) ?_
      have hw15 : v14.2.2.2.2.2.2.2.2.2.2.2.1 = true := by rw [hv14]; rfl
      exact v_vret hX hr hsz dX6_needs_45 rfl rfl (by (subst hv14; subst hv11; first | (simp only [R_needs, c2, c13, if_true, if_false, reduceIte, Bool.false_eq_true, reduceCtorEq, decide_true, decide_false, Bool.and_true, Bool.and_false, Bool.true_and, Bool.false_and, Bool.or_true, Bool.or_false, Bool.true_or, Bool.false_or, not_true_eq_false, not_false_eq_true, Bool.not_true, Bool.not_false, eq_self, Nat.reduceEqDiff]; done) | rfl | (simp only [R_needs, c2, c13, if_true, if_false, reduceIte, Bool.false_eq_true, reduceCtorEq, decide_true, decide_false, Bool.and_true, Bool.and_false, Bool.true_and, Bool.false_and, Bool.or_true, Bool.or_false, Bool.true_or, Bool.false_or, not_true_eq_false, not_false_eq_true, Bool.not_true, Bool.not_false, eq_self, Nat.reduceEqDiff]; rfl) | contradiction | (exfalso; omega)))
    · replace c13 := bI_0.mp c13
      refine v_iload_n hX dX6_needs_33 rfl ?_
      refine v_if_ne (tgt := 41) hX dX6_needs_34 (by decide) (fun c16 => ?_) (fun c16 => ?_)
      · replace c16 := bI_n0.mp c16
        refine v_iconst (x := (0 : Int32)) hX dX6_needs_41 (by decide) ?_
        obtain ⟨v17, hv17⟩ : ∃ z_ : RV, z_ = R_setWrong v11 (false) := ⟨_, rfl⟩
        refine v_put (C := RX6) (T := TX6) (N := 18) (ci := 6) (v := .int (bI (false))) (ty := .boolean) (ws' := wR E a v17) hX in_X6 tyX6 tyX6_ok nmX6 0 rfl rfl 11 (by decide) fl_128 rfl rfl (by decide +kernel) (bI_narrow _) (bI_fits _) (Nat.le_of_ble_eq_true rfl) dX6_needs_42 (by rw [hv17]; exact sR_Wrong E a v11 (false)) ?_
        have hw18 : v17.2.2.2.2.2.2.2.2.2.2.2.1 = false := by rw [hv17]; rfl
        exact v_vret hX hr hsz dX6_needs_45 rfl rfl (by (subst hv17; subst hv11; first | (simp only [R_needs, c2, c13, c16, if_true, if_false, reduceIte, Bool.false_eq_true, reduceCtorEq, decide_true, decide_false, Bool.and_true, Bool.and_false, Bool.true_and, Bool.false_and, Bool.or_true, Bool.or_false, Bool.true_or, Bool.false_or, not_true_eq_false, not_false_eq_true, Bool.not_true, Bool.not_false, eq_self, Nat.reduceEqDiff]; done) | rfl | (simp only [R_needs, c2, c13, c16, if_true, if_false, reduceIte, Bool.false_eq_true, reduceCtorEq, decide_true, decide_false, Bool.and_true, Bool.and_false, Bool.true_and, Bool.false_and, Bool.or_true, Bool.or_false, Bool.true_or, Bool.false_or, not_true_eq_false, not_false_eq_true, Bool.not_true, Bool.not_false, eq_self, Nat.reduceEqDiff]; rfl) | contradiction | (exfalso; omega)))
      · replace c16 := bI_0.mp c16
        exact absurd (c2.symm.trans c16) (by decide)
