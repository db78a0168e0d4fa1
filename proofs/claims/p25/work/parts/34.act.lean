/-! ===== the law's acts ===== -/
def LW (v n : Int32) : Int32 := (v &&& 2147483647) - (v &&& 2147483647) / n * n
theorem and_max (v : Int32) : ∃ j, j < 2 ^ 31 ∧ v &&& 2147483647 = nI j := by
  refine ⟨v.toBitVec.toNat &&& 2147483647, ?_, ?_⟩
  · have := Nat.and_le_right (n := v.toBitVec.toNat) (m := 2147483647)
    omega
  · apply Int32.toBitVec_inj.mp
    show v.toBitVec &&& BitVec.ofNat 32 2147483647 = BitVec.ofNat 32 (v.toBitVec.toNat &&& 2147483647)
    rw [BitVec.ofNat_and, BitVec.ofNat_toNat]
    rfl
theorem LW_nI (v : Int32) {N : Nat} (h0 : 0 < N) (h : N < 2 ^ 31) : ∃ k, k < N ∧ LW v (nI N) = nI k := by
  obtain ⟨j, hj, e⟩ := and_max v
  refine ⟨j % N, Nat.mod_lt _ h0, ?_⟩
  unfold LW
  rw [e]
  exact rem_c j N hj h0 h
def A_is (v : Int32) : Bool := decide (¬ LW (v >>> ((22 : Int32) &&& 31)) 6 ≤ 0)
def A_x (v : Int32) : Int32 := v >>> ((5 : Int32) &&& 31)
def A_core (v : Int32) : Int32 := LW (A_x v) (if A_is v = true then 4 else 5)
def A_line (v : Int32) : Int32 := LW (A_x v >>> ((2 : Int32) &&& 31)) (if LW (v >>> ((19 : Int32) &&& 31)) 4 = 0 then (if A_is v = true then 256 else 260) else 14)
def A_val (v : Int32) : Int32 := LW (A_x v >>> ((6 : Int32) &&& 31)) (if A_is v = true then 10000 else 11000)
def A_lim (v : Int32) : Int32 := LW (A_x v) (if A_is v = true then 5 else 12)
def A_full (v : Int32) : Int32 := if A_is v = true then 5 + LW (A_x v) 20 else LW (A_x v) 30
def X_act (x : XV) (v : Int32) : Int32 × XV := if 13 ≤ LW v 32 then
    (if 25 ≤ LW v 32 then
      (if 28 ≤ LW v 32 then (if LW v 32 = 28 then X_forget x (A_core v) else if 31 ≤ LW v 32 then X_set x 1 (A_full v) else X_set x 0 (A_lim v))
      else X_drop x (A_core v) (A_line v))
    else X_write x (A_core v) (A_line v) (A_val v))
  else X_read x (A_core v) (A_line v)
/-- an act is refused and changes nothing, or is done and recorded -/
def AO (x : XV) (B : Nat) (a : Int32 × XV) : Prop := (a.1 < 0 ∧ a.2 = x) ∨ (0 ≤ a.1 ∧ JV a.2.1 (B + 1) ∧ a.2 = X_setNow (X_rec x) a.2.1)
theorem ao_read {x : XV} {B : Nat} (h : JV x.1 B) (c l : Int32) : AO x B (X_read x c l) := by
  unfold X_read
  by_cases hc : S_within c 0 3 = true
  · rw [if_pos hc]
    by_cases hl : S_within l 0 255 = true
    · rw [if_pos hl]
      have hr := (cN_lt (B := 3) rfl (by decide) hc).1
      exact Or.inr ⟨(IM_read _ h.1 (by omega)).2, JV_read _ h (by omega), rfl⟩
    · rw [if_neg hl]
      exact Or.inl ⟨by first | exact (by decide : (-1 : Int32) < 0) | exact (by decide : (-2 : Int32) < 0), rfl⟩
  · rw [if_neg hc]
    exact Or.inl ⟨by first | exact (by decide : (-1 : Int32) < 0) | exact (by decide : (-2 : Int32) < 0), rfl⟩
theorem ao_write {x : XV} {B : Nat} (h : JV x.1 B) (c l z : Int32) : AO x B (X_write x c l z) := by
  unfold X_write
  by_cases hc : S_within c 0 3 = true
  · rw [if_pos hc]
    by_cases hl : S_within l 0 255 = true
    · rw [if_pos hl]
      by_cases hz : S_within z 0 9999 = true
      · rw [if_pos hz]
        have hr := (cN_lt (B := 3) rfl (by decide) hc).1
        exact Or.inr ⟨(IM_write _ h.1 (by omega) (w_pos hz)).2, JV_write _ h (by omega) (w_pos hz), rfl⟩
      · rw [if_neg hz]
        exact Or.inl ⟨by first | exact (by decide : (-1 : Int32) < 0) | exact (by decide : (-2 : Int32) < 0), rfl⟩
    · rw [if_neg hl]
      exact Or.inl ⟨by first | exact (by decide : (-1 : Int32) < 0) | exact (by decide : (-2 : Int32) < 0), rfl⟩
  · rw [if_neg hc]
    exact Or.inl ⟨by first | exact (by decide : (-1 : Int32) < 0) | exact (by decide : (-2 : Int32) < 0), rfl⟩
theorem ao_drop {x : XV} {B : Nat} (h : JV x.1 B) (c l : Int32) : AO x B (X_drop x c l) := by
  unfold X_drop
  by_cases hc : S_within c 0 3 = true
  · rw [if_pos hc]
    by_cases hl : S_within l 0 255 = true
    · rw [if_pos hl]
      by_cases hh : K_holds (x.1.2.1 (cN c)) (lF l) = true
      · rw [if_pos hh]
        exact Or.inr ⟨(IM_drop h.1 hh).2, JV_drop h hh, rfl⟩
      · rw [if_neg hh]
        exact Or.inl ⟨by show (-4 : Int32) < 0; decide, rfl⟩
    · rw [if_neg hl]
      exact Or.inl ⟨by first | exact (by decide : (-1 : Int32) < 0) | exact (by decide : (-2 : Int32) < 0), rfl⟩
  · rw [if_neg hc]
    exact Or.inl ⟨by first | exact (by decide : (-1 : Int32) < 0) | exact (by decide : (-2 : Int32) < 0), rfl⟩
theorem ao_forget {x : XV} {B : Nat} (h : JV x.1 B) (c : Int32) : AO x B (X_forget x c) := by
  unfold X_forget
  by_cases hc : S_within c 0 3 = true
  · rw [if_pos hc]
    by_cases hh : K_nothing (x.1.2.1 (cN c)) = true
    · rw [if_pos hh]
      exact Or.inl ⟨by show (-5 : Int32) < 0; decide, rfl⟩
    · rw [if_neg hh]
      have hr := (cN_lt (B := 3) rfl (by decide) hc).1
      exact Or.inr ⟨(IM_forget h.1 hh).2, JV_forget h (by omega) hh, rfl⟩
  · rw [if_neg hc]
    exact Or.inl ⟨by first | exact (by decide : (-1 : Int32) < 0) | exact (by decide : (-2 : Int32) < 0), rfl⟩
theorem w_hi {x lo hi : Int32} (h : S_within x lo hi = true) : x ≤ hi := by
  simp only [S_within, Bool.and_eq_true, Bool.not_eq_true', decide_eq_false_iff_not] at h
  exact i_nlt.mp h.2
theorem ao_set {x : XV} {B : Nat} (h : JV x.1 B) (w z : Int32) : AO x B (X_set x w z) := by
  unfold X_set
  by_cases hw : S_within w 0 1 = true
  · rw [if_pos hw]
    by_cases hz : S_within z 1 (if w = 0 then 9 else 24) = true
    · rw [if_pos hz]
      by_cases hw0 : w = 0
      · rw [if_pos hw0] at hz ⊢
        by_cases e : x.1.2.2.1 = z
        · rw [if_pos e]
          exact Or.inl ⟨by show (-5 : Int32) < 0; decide, rfl⟩
        · rw [if_neg e, if_pos hw0]
          exact Or.inr ⟨Int32.le_of_lt h.1.2.2, JV_lim h (w_pos1 hz) (w_hi hz), rfl⟩
      · rw [if_neg hw0] at hz ⊢
        by_cases e : x.1.2.2.2.1 = z
        · rw [if_pos e]
          exact Or.inl ⟨by show (-5 : Int32) < 0; decide, rfl⟩
        · rw [if_neg e, if_neg hw0]
          exact Or.inr ⟨Int32.le_of_lt h.2.1.2.2, JV_full h (w_pos1 hz), rfl⟩
    · rw [if_neg hz]
      exact Or.inl ⟨by first | exact (by decide : (-1 : Int32) < 0) | exact (by decide : (-2 : Int32) < 0), rfl⟩
  · rw [if_neg hw]
    exact Or.inl ⟨by first | exact (by decide : (-1 : Int32) < 0) | exact (by decide : (-2 : Int32) < 0), rfl⟩
theorem ao_act {x : XV} {B : Nat} (h : JV x.1 B) (v : Int32) : AO x B (X_act x v) := by
  unfold X_act
  split
  · split
    · split
      · split
        · exact ao_forget h _
        · split
          · exact ao_set h _ _
          · exact ao_set h _ _
      · exact ao_drop h _ _
    · exact ao_write h _ _ _
  · exact ao_read h _ _
/-- an act's answer and what it leaves rest on the machine alone -/
def CG (a b : Int32 × XV) : Prop := a.1 = b.1 ∧ a.2.1 = b.2.1
theorem cg_act {x u : XV} (h : x.1 = u.1) (v : Int32) : CG (X_act x v) (X_act u v) := by
  obtain ⟨m, xr⟩ := x
  obtain ⟨m2, ur⟩ := u
  change m = m2 at h
  subst h
  unfold X_act
  split
  · split
    · split
      · split
        · unfold X_forget; (repeat' split) <;> exact ⟨rfl, rfl⟩
        · split
          · unfold X_set; (repeat' split) <;> exact ⟨rfl, rfl⟩
          · unfold X_set; (repeat' split) <;> exact ⟨rfl, rfl⟩
      · unfold X_drop; (repeat' split) <;> exact ⟨rfl, rfl⟩
    · unfold X_write; (repeat' split) <;> exact ⟨rfl, rfl⟩
  · unfold X_read; (repeat' split) <;> exact ⟨rfl, rfl⟩
theorem take_rec (h : HV) (m m2 : MV) : (H_take (H_rec h m, m2)).2 = m ∧ (H_take (H_rec h m, m2)).1.2.2.val = (if h.2.2.val = 4 then 3 else h.2.2.val) ∧ ¬ (H_rec h m).2.2.val = 0 := by
  have ho := h.2.1.isLt
  have hz := h.2.2.isLt
  by_cases h4 : h.2.2.val = 4
  · have eh : H_rec h m = H_setOld (H_set h ((h.2.1.val + h.2.2.val) % 4) m) ((h.2.1.val + 1) % 4) := by
      unfold H_rec
      rw [if_pos (by omega)]
    have es : (H_setOld (H_set h ((h.2.1.val + h.2.2.val) % 4) m) ((h.2.1.val + 1) % 4)).2.2.val = 4 := h4
    have eo : ((f4 ((h.2.1.val + 1) % 4)).val : Nat) = (h.2.1.val + 1) % 4 := by
      show ((h.2.1.val + 1) % 4) % 4 = _
      omega
    rw [eh]
    refine ⟨?_, ?_, by rw [es]; decide⟩
    · unfold H_take
      show (if (H_setOld (H_set h ((h.2.1.val + h.2.2.val) % 4) m) ((h.2.1.val + 1) % 4)).2.2.val ≤ 0 then _ else _ : HV × MV).2 = m
      rw [if_neg (by rw [es]; decide)]
      show va_up h.1 ((h.2.1.val + h.2.2.val) % 4) m (((f4 ((h.2.1.val + 1) % 4)).val + (h.2.2.val - 1)) % 4) = m
      rw [eo, show ((h.2.1.val + 1) % 4 + (h.2.2.val - 1)) % 4 = (h.2.1.val + h.2.2.val) % 4 by omega, up_at]
    · unfold H_take
      show (if (H_setOld (H_set h ((h.2.1.val + h.2.2.val) % 4) m) ((h.2.1.val + 1) % 4)).2.2.val ≤ 0 then _ else _ : HV × MV).1.2.2.val = _
      rw [if_neg (by rw [es]; decide), if_pos h4]
      show (h.2.2.val - 1) % 5 = 3
      omega
  · have eh : H_rec h m = H_setSize (H_set h ((h.2.1.val + h.2.2.val) % 4) m) (h.2.2.val + 1) := by
      unfold H_rec
      rw [if_neg (by omega)]
    have es : (H_setSize (H_set h ((h.2.1.val + h.2.2.val) % 4) m) (h.2.2.val + 1)).2.2.val = h.2.2.val + 1 := by
      show (h.2.2.val + 1) % 5 = _
      omega
    rw [eh]
    refine ⟨?_, ?_, by rw [es]; omega⟩
    · unfold H_take
      show (if (H_setSize (H_set h ((h.2.1.val + h.2.2.val) % 4) m) (h.2.2.val + 1)).2.2.val ≤ 0 then _ else _ : HV × MV).2 = m
      rw [if_neg (by rw [es]; omega)]
      show va_up h.1 ((h.2.1.val + h.2.2.val) % 4) m ((h.2.1.val + ((H_setSize (H_set h ((h.2.1.val + h.2.2.val) % 4) m) (h.2.2.val + 1)).2.2.val - 1)) % 4) = m
      rw [es, Nat.add_sub_cancel, up_at]
    · unfold H_take
      show (if (H_setSize (H_set h ((h.2.1.val + h.2.2.val) % 4) m) (h.2.2.val + 1)).2.2.val ≤ 0 then _ else _ : HV × MV).1.2.2.val = _
      rw [if_neg (by rw [es]; omega), if_neg h4]
      show ((H_setSize (H_set h ((h.2.1.val + h.2.2.val) % 4) m) (h.2.2.val + 1)).2.2.val - 1) % 5 = _
      rw [es]
      omega
/-- what is undone is as it was -/
theorem undo_rec (x : XV) (m : MV) : (X_undo (X_setNow (X_rec x) m)).1 = nI (if x.2.2.2.1.2.2.val = 4 then 3 else x.2.2.2.1.2.2.val) ∧ (X_undo (X_setNow (X_rec x) m)).2.1 = x.1 := by
  obtain ⟨a1, a2, a3⟩ := take_rec x.2.2.2.1 x.1 m
  have hs : ¬ (X_setNow (X_rec x) m).2.2.2.1.2.2.val = 0 := a3
  unfold X_undo
  rw [if_neg hs]
  exact ⟨congrArg nI a2, a1⟩
