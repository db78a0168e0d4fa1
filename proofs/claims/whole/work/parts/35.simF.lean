/-! ===== the whole object against the reference's ===== -/
def HR (h : HV) (g : Nat → MV) (kn : Fin 5) : Prop := kn = h.2.2 ∧ ∀ k, k < h.2.2.val → g k = nz (h.1 ((h.2.1.val + k) % 4)) ∧ IM (h.1 ((h.2.1.val + k) % 4))
def XR (x : XV) (r : RV) : Prop := (r.1 = nz x.1 ∧ IM x.1) ∧ HR x.2.2.2.1 r.2.2.1 r.2.2.2.2.1 ∧ (r.2.2.2.2.2.1 = x.2.2.2.2.2.1 ∧ (x.2.2.2.2.2.1 = true → r.2.2.2.1 = nz x.2.2.1 ∧ IM x.2.2.1)) ∧ (r.2.2.2.2.2.2.1 = x.2.2.2.2.1.1 ∧ r.2.2.2.2.2.2.2.1 = x.2.2.2.2.1.2.2.2.2.2.1) ∧ ((x.2.2.2.2.2.2.1 = true → r.2.2.2.2.2.2.2.2.1 = x.2.2.2.2.2.2.2.1 ∧ r.2.2.2.2.2.2.2.2.2.1 = x.2.2.2.2.2.2.2.2 ∧ x.2.2.2.2.2.2.2.1 ≠ -5) ∧ (x.2.2.2.2.2.2.1 = false → r.2.2.2.2.2.2.2.2.1 = -5))
def Sim (a : Int32 × XV) (b : Int32 × RV) : Prop := a.1 = b.1 ∧ XR a.2 b.2
theorem R_rec_rest (v : RV) : (R_rec v).1 = v.1 ∧ (R_rec v).2.2.2.1 = v.2.2.2.1 ∧ (R_rec v).2.2.2.2.2 = v.2.2.2.2.2 := by
  unfold R_rec R_rec1
  split
  · exact ⟨rfl, rfl, rfl⟩
  · exact ⟨rfl, rfl, rfl⟩
theorem HR_rec {h : HV} {v : RV} {m : MV} (hr : HR h v.2.2.1 v.2.2.2.2.1) (hs : v.1 = nz m) (hi : IM m) : HR (H_rec h m) (R_rec v).2.2.1 (R_rec v).2.2.2.2.1 := by
  obtain ⟨e1, e2⟩ := hr
  have ho := h.2.1.isLt
  have hz := h.2.2.isLt
  have ek : v.2.2.2.2.1.val = h.2.2.val := by rw [e1]
  by_cases h4 : h.2.2.val = 4
  · have er : R_rec v = R_rec2 (R_setKnown (R_setH v (R_sh v.2.2.1)) ((R_setH v (R_sh v.2.2.1)).2.2.2.2.1.val - 1)) := by
      unfold R_rec R_rec1
      rw [if_pos (ek.trans h4)]
    have eh : H_rec h m = H_setOld (H_set h ((h.2.1.val + h.2.2.val) % 4) m) ((h.2.1.val + 1) % 4) := by
      unfold H_rec
      rw [if_pos (by omega)]
    have k3 : ((f5 (v.2.2.2.2.1.val - 1)).val : Nat) = 3 := by
      show (v.2.2.2.2.1.val - 1) % 5 = 3
      omega
    rw [er, eh]
    show HR (H_setOld (H_set h ((h.2.1.val + h.2.2.val) % 4) m) ((h.2.1.val + 1) % 4)) (va_up (R_sh v.2.2.1) (f5 (v.2.2.2.2.1.val - 1)).val v.1) (f5 ((f5 (v.2.2.2.2.1.val - 1)).val + 1))
    rw [k3]
    refine ⟨Fin.ext ?_, fun k hk => ?_⟩
    · show (3 + 1) % 5 = h.2.2.val
      omega
    · change k < h.2.2.val at hk
      have eo : ((f4 ((h.2.1.val + 1) % 4)).val : Nat) = (h.2.1.val + 1) % 4 := by
        show ((h.2.1.val + 1) % 4) % 4 = _
        omega
      show va_up (R_sh v.2.2.1) 3 v.1 k = nz (va_up h.1 ((h.2.1.val + h.2.2.val) % 4) m (((f4 ((h.2.1.val + 1) % 4)).val + k) % 4)) ∧ IM (va_up h.1 ((h.2.1.val + h.2.2.val) % 4) m (((f4 ((h.2.1.val + 1) % 4)).val + k) % 4))
      rw [eo]
      by_cases hk3 : k = 3
      · subst hk3
        rw [up_at, show (((h.2.1.val + 1) % 4) + 3) % 4 = (h.2.1.val + h.2.2.val) % 4 by omega, up_at]
        exact ⟨hs, hi⟩
      · rw [up_ne _ _ hk3, up_ne _ _ (show (((h.2.1.val + 1) % 4) + k) % 4 ≠ (h.2.1.val + h.2.2.val) % 4 by omega), show (((h.2.1.val + 1) % 4) + k) % 4 = (h.2.1.val + (k + 1)) % 4 by omega]
        have e : R_sh v.2.2.1 k = v.2.2.1 (k + 1) := if_pos (by omega)
        rw [e]
        exact e2 (k + 1) (by omega)
  · have er : R_rec v = R_rec2 v := by
      unfold R_rec R_rec1
      rw [if_neg (by omega)]
    have eh : H_rec h m = H_setSize (H_set h ((h.2.1.val + h.2.2.val) % 4) m) (h.2.2.val + 1) := by
      unfold H_rec
      rw [if_neg (by omega)]
    rw [er, eh]
    show HR (H_setSize (H_set h ((h.2.1.val + h.2.2.val) % 4) m) (h.2.2.val + 1)) (va_up v.2.2.1 v.2.2.2.2.1.val v.1) (f5 (v.2.2.2.2.1.val + 1))
    rw [ek]
    have ez : ((f5 (h.2.2.val + 1)).val : Nat) = h.2.2.val + 1 := Nat.mod_eq_of_lt (by omega)
    refine ⟨rfl, fun k hk => ?_⟩
    change k < (f5 (h.2.2.val + 1)).val at hk
    rw [ez] at hk
    show va_up v.2.2.1 h.2.2.val v.1 k = nz (va_up h.1 ((h.2.1.val + h.2.2.val) % 4) m ((h.2.1.val + k) % 4)) ∧ IM (va_up h.1 ((h.2.1.val + h.2.2.val) % 4) m ((h.2.1.val + k) % 4))
    by_cases hkz : k = h.2.2.val
    · subst hkz
      rw [up_at, up_at]
      exact ⟨hs, hi⟩
    · rw [up_ne _ _ hkz, up_ne _ _ (show (h.2.1.val + k) % 4 ≠ (h.2.1.val + h.2.2.val) % 4 by omega)]
      exact e2 k (by omega)
theorem XR_rec {x : XV} {r : RV} (h : XR x r) : XR (X_rec x) (R_rec r) := by
  obtain ⟨⟨a1, a2⟩, b, ⟨c1, c2⟩, d, e⟩ := h
  obtain ⟨r1, r2, r3⟩ := R_rec_rest r
  refine ⟨⟨by rw [r1]; exact a1, a2⟩, HR_rec b a1 a2, ⟨?_, fun hk => ?_⟩, ?_, ?_⟩
  · rw [r3]; exact c1
  · rw [r2]; exact c2 hk
  · rw [r3]; exact d
  · rw [r3]; exact e
theorem XR_now {x : XV} {r : RV} {m : MV} (h : XR x r) (hi : IM m) : XR (X_setNow (X_rec x) m) (R_setS (R_rec r) (nz m)) := by
  obtain ⟨_, b, c, d, e⟩ := XR_rec h
  exact ⟨⟨rfl, hi⟩, b, c, d, e⟩
theorem cN_lt {x hi : Int32} {B : Nat} (hB : hi = nI B) (hb : B < 2 ^ 31) (h : S_within x 0 hi = true) : cN x ≤ B ∧ x = nI (cN x) := by
  obtain ⟨k, hk, rfl⟩ := within_nat hB hb h
  rw [cN_nI (by omega)]
  exact ⟨hk, rfl⟩
theorem c4_lt {x : Int32} (h : S_within x 0 3 = true) : cN x < 4 := by
  have := (cN_lt (B := 3) rfl (by decide) h).1
  omega
theorem sim_read {x : XV} {r : RV} (h : XR x r) (c l : Int32) : Sim (X_read x c l) (R_read r c l) := by
  unfold X_read R_read
  by_cases hc : S_within c 0 3 = true
  · rw [if_pos hc, if_pos hc]
    by_cases hl : S_within l 0 255 = true
    · rw [if_pos hl, if_pos hl]
      obtain ⟨e1, e2, _⟩ := nz_read (lF l) h.1.2 (c4_lt hc)
      rw [(R_rec_rest r).1, h.1.1, e1]
      exact ⟨rfl, XR_now h e2⟩
    · rw [if_neg hl, if_neg hl]
      exact ⟨rfl, h⟩
  · rw [if_neg hc, if_neg hc]
    exact ⟨rfl, h⟩
theorem w_pos {x hi : Int32} (h : S_within x 0 hi = true) : 0 ≤ x := by
  simp only [S_within, Bool.and_eq_true, Bool.not_eq_true', decide_eq_false_iff_not] at h
  exact i_nlt.mp h.1
theorem w_pos1 {x hi : Int32} (h : S_within x 1 hi = true) : 0 < x := by
  simp only [S_within, Bool.and_eq_true, Bool.not_eq_true', decide_eq_false_iff_not] at h
  exact i_ltle (by decide) (i_nlt.mp h.1)
theorem sim_write {x : XV} {r : RV} (h : XR x r) (c l z : Int32) : Sim (X_write x c l z) (R_write r c l z) := by
  unfold X_write R_write
  by_cases hc : S_within c 0 3 = true
  · rw [if_pos hc, if_pos hc]
    by_cases hl : S_within l 0 255 = true
    · rw [if_pos hl, if_pos hl]
      by_cases hz : S_within z 0 9999 = true
      · rw [if_pos hz, if_pos hz]
        obtain ⟨e1, e2, _⟩ := nz_write (lF l) h.1.2 (c4_lt hc) (w_pos hz)
        rw [(R_rec_rest r).1, h.1.1, e1]
        exact ⟨rfl, XR_now h e2⟩
      · rw [if_neg hz, if_neg hz]
        exact ⟨rfl, h⟩
    · rw [if_neg hl, if_neg hl]
      exact ⟨rfl, h⟩
  · rw [if_neg hc, if_neg hc]
    exact ⟨rfl, h⟩
theorem sim_drop {x : XV} {r : RV} (h : XR x r) (c l : Int32) : Sim (X_drop x c l) (R_drop r c l) := by
  unfold X_drop R_drop
  by_cases hc : S_within c 0 3 = true
  · rw [if_pos hc, if_pos hc]
    by_cases hl : S_within l 0 255 = true
    · rw [if_pos hl, if_pos hl, (R_rec_rest r).1, h.1.1, nz_holds]
      by_cases hh : K_holds (x.1.2.1 (cN c)) (lF l) = true
      · rw [if_pos hh, if_pos hh]
        obtain ⟨e1, e2, _⟩ := nz_drop h.1.2 hh
        rw [e1]
        exact ⟨rfl, XR_now h e2⟩
      · rw [if_neg hh, if_neg hh]
        exact ⟨rfl, h⟩
    · rw [if_neg hl, if_neg hl]
      exact ⟨rfl, h⟩
  · rw [if_neg hc, if_neg hc]
    exact ⟨rfl, h⟩
theorem sim_forget {x : XV} {r : RV} (h : XR x r) (c : Int32) : Sim (X_forget x c) (R_forget r c) := by
  unfold X_forget R_forget
  by_cases hc : S_within c 0 3 = true
  · rw [if_pos hc, if_pos hc, (R_rec_rest r).1, h.1.1, nz_empty]
    by_cases hh : K_nothing (x.1.2.1 (cN c)) = true
    · rw [if_pos hh, if_pos hh]
      exact ⟨rfl, h⟩
    · rw [if_neg hh, if_neg hh]
      obtain ⟨e1, e2, _⟩ := nz_forget h.1.2 hh
      rw [e1]
      exact ⟨rfl, XR_now h e2⟩
  · rw [if_neg hc, if_neg hc]
    exact ⟨rfl, h⟩
theorem cN_0 {w hi : Int32} {B : Nat} (hB : hi = nI B) (hb : B < 2 ^ 31) (h : S_within w 0 hi = true) : w = 0 ↔ cN w = 0 := by
  obtain ⟨h1, h2⟩ := cN_lt hB hb h
  constructor
  · intro e
    rw [e]
    rfl
  · intro e
    rw [h2, e]
    rfl
theorem IM_lim {m : MV} {x : Int32} (h : IM m) (hx : 0 < x) : IM (M_setLim m x) := ⟨h.1, h.2.1, hx⟩
theorem IM_full {m : MV} (x : Int32) (h : IM m) : IM (M_setFull m x) := h
theorem sim_set {x : XV} {r : RV} (h : XR x r) (w z : Int32) : Sim (X_set x w z) (R_set r w z) := by
  unfold X_set R_set
  by_cases hw : S_within w 0 1 = true
  · rw [if_pos hw, if_pos hw]
    by_cases hz : S_within z 1 (if w = 0 then 9 else 24) = true
    · rw [if_pos hz, if_pos hz, (R_rec_rest r).1, h.1.1]
      have h0 := cN_0 (B := 1) rfl (by decide) hw
      by_cases hw0 : w = 0
      · rw [if_pos hw0, if_pos hw0, if_pos (h0.mp hw0)]
        show Sim _ (if x.1.2.2.1 = z then _ else _)
        by_cases e : x.1.2.2.1 = z
        · rw [if_pos e, if_pos e]
          exact ⟨rfl, h⟩
        · rw [if_neg e, if_neg e]
          exact ⟨rfl, XR_now h (IM_lim h.1.2 (w_pos1 hz))⟩
      · rw [if_neg hw0, if_neg hw0, if_neg (fun q => hw0 (h0.mpr q))]
        show Sim _ (if x.1.2.2.2.1 = z then _ else _)
        by_cases e : x.1.2.2.2.1 = z
        · rw [if_pos e, if_pos e]
          exact ⟨rfl, h⟩
        · rw [if_neg e, if_neg e]
          exact ⟨rfl, XR_now h (IM_full z h.1.2)⟩
    · rw [if_neg hz, if_neg hz]
      exact ⟨rfl, h⟩
  · rw [if_neg hw, if_neg hw]
    exact ⟨rfl, h⟩
theorem sim_type {x : XV} {r : RV} (h : XR x r) (z : Nat) : Sim (X_type x z) (R_type r z) := by
  obtain ⟨a, b, c, ⟨d1, d2⟩, e⟩ := h
  have hl := x.2.2.2.2.1.2.2.2.2.2.1.isLt
  unfold X_type R_type
  rw [d2]
  by_cases hh : x.2.2.2.2.1.2.2.2.2.2.1.val = 80
  · have ea : P_app x.2.2.2.2.1 z = x.2.2.2.2.1 := by
      unfold P_app
      rw [if_neg (by omega)]
    rw [if_pos hh, if_neg (by rw [decide_eq_true_iff]; omega), ea]
    exact ⟨rfl, a, b, c, ⟨d1, d2⟩, e⟩
  · have ea : P_app x.2.2.2.2.1 z = P_setLen (P_setText x.2.2.2.2.1 x.2.2.2.2.1.2.2.2.2.2.1.val z) (x.2.2.2.2.1.2.2.2.2.2.1.val + 1) := by
      unfold P_app
      rw [if_pos (by omega)]
    rw [if_neg hh, if_pos (by rw [decide_eq_true_iff]; omega), ea]
    refine ⟨?_, a, b, c, ⟨?_, rfl⟩, e⟩
    · show nI (f81 (x.2.2.2.2.1.2.2.2.2.2.1.val + 1)).val = nI (x.2.2.2.2.1.2.2.2.2.2.1.val + 1)
      exact congrArg nI (Nat.mod_eq_of_lt (by omega))
    · show va_up r.2.2.2.2.2.2.1 x.2.2.2.2.1.2.2.2.2.2.1.val (f16 z) = va_up x.2.2.2.2.1.1 x.2.2.2.2.1.2.2.2.2.2.1.val (f16 z)
      rw [d1]
theorem sim_clear {x : XV} {r : RV} (h : XR x r) : Sim (X_clear x) (R_clear r) := by
  obtain ⟨a, b, c, ⟨d1, d2⟩, e⟩ := h
  refine ⟨?_, a, b, c, ⟨d1, rfl⟩, e⟩
  show nI x.2.2.2.2.1.2.2.2.2.2.1.val = nI r.2.2.2.2.2.2.2.1.val
  rw [d2]
theorem sim_stopped {x : XV} {r : RV} (h : XR x r) (w : Int32) : X_stopped x w = R_stopped r w := by
  obtain ⟨a, b, c, d, e1, e2⟩ := h
  unfold X_stopped R_stopped
  by_cases hw : S_within w 0 1 = true
  · rw [if_pos hw, if_pos hw]
    cases hs : x.2.2.2.2.2.2.1 with
    | true =>
      obtain ⟨s1, s2, s3⟩ := e1 hs
      rw [if_pos rfl, s1, s2, if_neg s3]
    | false =>
      rw [if_neg (by decide), e2 hs, if_pos rfl]
  · rw [if_neg hw, if_neg hw]
theorem sim_undo {x : XV} {r : RV} (h : XR x r) : Sim (X_undo x) (R_undo r) := by
  obtain ⟨a, ⟨b1, b2⟩, c, d, e⟩ := h
  have hz := x.2.2.2.1.2.2.isLt
  unfold X_undo R_undo
  rw [b1]
  by_cases h0 : x.2.2.2.1.2.2.val = 0
  · rw [if_pos h0, if_pos h0]
    exact ⟨rfl, a, ⟨b1, b2⟩, c, d, e⟩
  · rw [if_neg h0, if_neg h0]
    have et : H_take (x.2.2.2.1, x.1) = (H_setSize x.2.2.2.1 (x.2.2.2.1.2.2.val - 1), x.2.2.2.1.1 ((x.2.2.2.1.2.1.val + (x.2.2.2.1.2.2.val - 1)) % 4)) := by
      unfold H_take
      rw [if_neg (show ¬ x.2.2.2.1.2.2.val ≤ 0 by omega)]
    have eu : R_un r = R_setKnown r (x.2.2.2.1.2.2.val - 1) := by unfold R_un; rw [b1]
    have ez : ((f5 (x.2.2.2.1.2.2.val - 1)).val : Nat) = x.2.2.2.1.2.2.val - 1 := Nat.mod_eq_of_lt (by omega)
    rw [et, eu]
    obtain ⟨g1, g2⟩ := b2 (x.2.2.2.1.2.2.val - 1) (by omega)
    refine ⟨rfl, ⟨?_, g2⟩, ⟨rfl, fun k hk => ?_⟩, c, d, e⟩
    · show r.2.2.1 (f5 (x.2.2.2.1.2.2.val - 1)).val = _
      rw [ez]
      exact g1
    · change k < (f5 (x.2.2.2.1.2.2.val - 1)).val at hk
      rw [ez] at hk
      exact b2 k (by omega)
theorem nz_all (m : MV) : Q_all (nz m) = M_held m := by
  show Q_lines (nz m) 0 + Q_lines (nz m) 1 + Q_lines (nz m) 2 + Q_lines (nz m) 3 = 0 + K_held (m.2.1 0) + K_held (m.2.1 1) + K_held (m.2.1 2) + K_held (m.2.1 3)
  rw [nz_lines, nz_lines, nz_lines, nz_lines, Int32.zero_add]
theorem nz_dirtyAll (m : MV) : Q_dirty (nz m) 0 + Q_dirty (nz m) 1 + Q_dirty (nz m) 2 + Q_dirty (nz m) 3 = M_dirty m := by
  show _ = 0 + K_dirties (m.2.1 0) + K_dirties (m.2.1 1) + K_dirties (m.2.1 2) + K_dirties (m.2.1 3)
  rw [nz_dirty, nz_dirty, nz_dirty, nz_dirty, Int32.zero_add]
theorem nz_sum (m : MV) (t : Nat) : Q_sum (nz m) t = M_sum m t := rfl
theorem sim_keep {x : XV} {r : RV} (h : XR x r) : Sim (X_keep x) (Q_all r.1, R_keep r) := by
  obtain ⟨a, b, c, d, e⟩ := h
  refine ⟨?_, a, b, ⟨rfl, fun _ => a⟩, d, e⟩
  show M_held x.1 = Q_all r.1
  rw [a.1, nz_all]
theorem sim_restore {x : XV} {r : RV} (h : XR x r) : Sim (X_restore x) (R_restore r) := by
  unfold X_restore R_restore
  rw [h.2.2.1.1]
  by_cases hk : x.2.2.2.2.2.1 = true
  · obtain ⟨s1, s2⟩ := h.2.2.1.2 hk
    rw [if_pos hk, if_pos hk, (R_rec_rest r).2.1, s1, nz_all]
    exact ⟨rfl, XR_now h s2⟩
  · rw [if_neg hk, if_neg hk]
    exact ⟨rfl, h⟩
-- what only looks
theorem sim_core {x : XV} {r : RV} (h : XR x r) (c w : Int32) : X_core x c w = R_core r c w := by
  unfold X_core R_core
  rw [h.1.1, nz_lines, nz_dirty, nz_from, nz_stuckOf, nz_bits]
  rfl
theorem sim_counter {x : XV} {r : RV} (h : XR x r) (c w : Int32) : X_counter x c w = R_counter r c w := by
  unfold X_counter R_counter
  rw [h.1.1]
  rfl
theorem sim_bit {x : XV} {r : RV} (h : XR x r) (c w : Int32) : X_bit x c w = R_bit r c w := by
  unfold X_bit R_bit
  rw [h.1.1]
  rfl
theorem sim_held {x : XV} {r : RV} (h : XR x r) (c p w : Int32) : X_held x c p w = R_held r c p w := by
  unfold X_held R_held
  rw [h.1.1]
  show _ = if S_within c 0 3 = true then if S_within p 0 7 = true then if S_within w 0 2 = true then (if (x.1.2.1 (cN c)).1 (cN p) = none then -5 else if cN w = 0 then enc5 ((x.1.2.1 (cN c)).1 (cN p)) else if cN w = 1 then (nzK (x.1.2.1 (cN c))).2.1 (cN p) else bI ((x.1.2.1 (cN c)).2.2.1 (cN p))) else -2 else -2 else -1
  cases hl : (x.1.2.1 (cN c)).1 (cN p) with
  | none => rfl
  | some n =>
    rw [nzK_val hl]
    rfl
theorem sim_reason {x : XV} {r : RV} (h : XR x r) (c l : Int32) : X_reason x c l = R_reason r c l := by
  unfold X_reason R_reason
  rw [h.1.1, nz_holds, nz_may]
  by_cases hc : S_within c 0 3 = true
  · rw [if_pos hc, if_pos hc]
    by_cases hl : S_within l 0 255 = true
    · rw [if_pos hl, if_pos hl]
      by_cases hh : K_holds (x.1.2.1 (cN c)) (lF l) = true
      · rw [if_pos hh, if_pos hh, if_pos (IF_may (h.1.2.2.1 (cN c)) (holds_line hh))]
      · rw [if_neg hh, if_neg hh]
        rfl
    · rw [if_neg hl, if_neg hl]
  · rw [if_neg hc, if_neg hc]
theorem fst_ex {f : Nat → Option Int32} {y : Int32} : ∀ {n : Nat}, (∀ i, i < n → f i = none ∨ f i = some y) → (∃ i, i < n ∧ f i = some y) → fstS f n = some y
  | 0, _, ⟨i, hi, _⟩ => by omega
  | n + 1, h, ⟨i, hi, e⟩ => by
    show (match fstS f n with
      | some x => some x
      | none => f n) = some y
    by_cases hx : ∃ i, i < n ∧ f i = some y
    · rw [fst_ex (fun i hi => h i (by omega)) hx]
    · have hn : f n = some y := by
        by_cases hin : i = n
        · rw [← hin]; exact e
        · exact absurd ⟨i, by omega, e⟩ hx
      have hz : fstS f n = none := by
        have : ∀ k, k ≤ n → fstS f k = none := by
          intro k
          induction k with
          | zero => intro _; rfl
          | succ k ih =>
            intro hk
            show (match fstS f k with
              | some x => some x
              | none => f k) = none
            rw [ih (by omega)]
            rcases h k (by omega) with q | q
            · exact q
            · exact absurd ⟨k, by omega, q⟩ hx
        exact this n (Nat.le_refl _)
      rw [hz]
      exact hn
theorem fst_none {f : Nat → Option Int32} : ∀ {n : Nat}, (∀ i, i < n → f i = none) → fstS f n = none
  | 0, _ => rfl
  | n + 1, h => by
    show (match fstS f n with
      | some x => some x
      | none => f n) = none
    rw [fst_none (fun i hi => h i (by omega))]
    exact h n (by omega)
theorem it_stay {σ : Type} {f : Nat → σ → σ} {x : σ} : ∀ {n : Nat}, (∀ i, i < n → f i x = x) → it f n x = x
  | 0, _ => rfl
  | n + 1, h => by
    rw [it_s, it_stay (fun i hi => h i (by omega))]
    exact h n (by omega)
theorem it_once {σ : Type} {f : Nat → σ → σ} {x y : σ} {o : Nat} (hy : ∀ z, f o z = y) (h : ∀ i, i ≠ o → ∀ z, f i z = z) : ∀ {n : Nat}, o < n → it f n x = y
  | 0, q => by omega
  | n + 1, q => by
    rw [it_s]
    by_cases e : n = o
    · rw [e]
      exact hy _
    · rw [h n e]
      exact it_once hy h (by omega)
theorem nz_would {m : MV} (n : Fin 256) (h : IM m) : Q_would (nz m) n = M_vfr m n := by
  have step : ∀ i z, Q_wouldF (nz m) n i z = if K_holds (m.2.1 i) n = true then (if (m.2.1 i).2.2.1 (n.val % 8) = true then (m.2.1 i).2.1 (n.val % 8) else z) else z := by
    intro i z
    unfold Q_wouldF
    rw [nz_may, nz_holds]
    by_cases hh : K_holds (m.2.1 i) n = true
    · have e := holds_line hh
      rw [if_pos (IF_may (h.2.1 i) e), if_pos hh, if_pos hh]
      show (if (m.2.1 i).2.2.1 (n.val % 8) = true then (nzK (m.2.1 i)).2.1 (n.val % 8) else z) = _
      rw [nzK_val e]
    · rw [if_neg hh, if_neg hh]
      split <;> rfl
  unfold Q_would M_vfr
  by_cases hd : ∃ o, K_holds (m.2.1 o) n = true ∧ (m.2.1 o).2.2.1 (n.val % 8) = true
  · obtain ⟨o, ho, hdo⟩ := hd
    have e := holds_line ho
    have o4 := (h.1.1 o _ n e).2
    have uniq : ∀ i, K_holds (m.2.1 i) n = true → i = o := fun i hi => h.1.2.1 o _ n e hdo i (holds_line hi)
    have e1 : it (Q_wouldF (nz m) n) 4 (m.1 n.val) = (m.2.1 o).2.1 (n.val % 8) := by
      refine it_once (o := o) (fun z => ?_) (fun i hi z => ?_) o4
      · rw [step, if_pos ho, if_pos hdo]
      · rw [step, if_neg (fun q => hi (uniq i q))]
    have e2 : fstS (M_vfrF m n) 4 = some ((m.2.1 o).2.1 (n.val % 8)) := by
      refine fst_ex (fun i hi => ?_) ⟨o, o4, ?_⟩
      · unfold M_vfrF
        by_cases hh : K_holds (m.2.1 i) n = true
        · rw [if_pos hh, uniq i hh]
          exact Or.inr rfl
        · rw [if_neg hh]
          exact Or.inl rfl
      · unfold M_vfrF
        rw [if_pos ho]
    rw [e2]
    exact e1
  · have e1 : it (Q_wouldF (nz m) n) 4 (m.1 n.val) = m.1 n.val := by
      refine it_stay (fun i _ => ?_)
      rw [step]
      by_cases hh : K_holds (m.2.1 i) n = true
      · rw [if_pos hh, if_neg (fun q => hd ⟨i, hh, q⟩)]
      · rw [if_neg hh]
    have cl : ∀ i, K_holds (m.2.1 i) n = true → (m.2.1 i).2.1 (n.val % 8) = m.1 n.val := fun i hi => h.1.2.2.1 i _ n (holds_line hi) (by
      cases q : (m.2.1 i).2.2.1 (n.val % 8) with
      | false => rfl
      | true => exact absurd ⟨i, hi, q⟩ hd)
    show it (Q_wouldF (nz m) n) 4 (m.1 n.val) = _
    rw [e1]
    by_cases hx : ∃ i, i < 4 ∧ K_holds (m.2.1 i) n = true
    · obtain ⟨o, o4, ho⟩ := hx
      have e2 : fstS (M_vfrF m n) 4 = some (m.1 n.val) := by
        refine fst_ex (fun i hi => ?_) ⟨o, o4, ?_⟩
        · unfold M_vfrF
          by_cases hh : K_holds (m.2.1 i) n = true
          · rw [if_pos hh, cl i hh]
            exact Or.inr rfl
          · rw [if_neg hh]
            exact Or.inl rfl
        · unfold M_vfrF
          rw [if_pos ho, cl o ho]
      rw [e2]
    · have e2 : fstS (M_vfrF m n) 4 = none := fst_none (fun i hi => by
        unfold M_vfrF
        rw [if_neg (fun q => hx ⟨i, hi, q⟩)])
      rw [e2]
theorem nz_withT (m : MV) (n : Fin 256) : Q_with (nz m) n true = M_holders m n := by
  have e : Q_withF (nz m) n true = M_holdersF m n := by
    funext i x
    show (if K_holds (m.2.1 i) n = true then x ||| ((1 : Int32) <<< (nI i &&& 31)) else x ||| 0) = (if K_holds (m.2.1 i) n = true then x ||| ((1 : Int32) <<< (nI i &&& 31)) else x)
    rw [Int32.or_zero]
  unfold Q_with M_holders
  rw [e]
theorem nz_withF (m : MV) (n : Fin 256) : Q_with (nz m) n false = M_mays m n := by
  have e : Q_withF (nz m) n false = M_maysF m n := by
    funext i x
    show (if Q_may (nz m) i n.val = true then x ||| ((1 : Int32) <<< (nI i &&& 31)) else x ||| 0) = (if F_may (m.2.1 i).2.2.2.2 n.val = true then x ||| ((1 : Int32) <<< (nI i &&& 31)) else x)
    rw [nz_may, Int32.or_zero]
  unfold Q_with M_mays
  rw [e]
theorem sim_line {x : XV} {r : RV} (h : XR x r) (l w : Int32) : X_line x l w = R_line r l w := by
  unfold X_line R_line
  rw [h.1.1, nz_would _ h.1.2, nz_withT, nz_withF]
  by_cases hl : S_within l 0 255 = true
  · rw [if_pos hl, if_pos hl]
    by_cases hw : S_within w 0 5 = true
    · rw [if_pos hw, if_pos hw]
      have hb := (cN_lt (B := 5) rfl (by decide) hw).1
      generalize cN w = k at hb ⊢
      rcases (show k = 0 ∨ k = 1 ∨ k = 2 ∨ k = 3 ∨ k = 4 ∨ k = 5 by omega) with q | q | q | q | q | q <;> subst q <;> rfl
    · rw [if_neg hw, if_neg hw]
  · rw [if_neg hl, if_neg hl]
theorem sim_vain {x : XV} {r : RV} (h : XR x r) (c : Int32) : X_vain x c = R_vain r c := by
  unfold X_vain R_vain
  rw [h.1.1]
  have e : R_vainF (nz x.1) (cN c) = X_vainF (x.1.2.1 (cN c)) := by
    funext i z
    unfold R_vainF X_vainF
    rw [nz_may, nz_holds, Int32.add_zero]
  rw [e]
theorem sim_worst {x : XV} {r : RV} (h : XR x r) : X_worst x = R_worst r := by
  unfold X_worst R_worst
  rw [h.1.1]
  rfl
theorem sim_count {x : XV} {r : RV} (h : XR x r) (w : Int32) : X_count x w = R_count r w := by
  unfold X_count R_count
  rw [h.2.1.1, h.2.2.2.1.2, h.1.1, nz_all, nz_dirtyAll]
  by_cases hw : S_within w 0 13 = true
  · rw [if_pos hw, if_pos hw]
    have hb := (cN_lt (B := 13) rfl (by decide) hw).1
    generalize cN w = k at hb ⊢
    rcases (show k = 0 ∨ k = 1 ∨ k = 2 ∨ k = 3 ∨ k = 4 ∨ k = 5 ∨ k = 6 ∨ k = 7 ∨ k = 8 ∨ k = 9 ∨ k = 10 ∨ k = 11 ∨ k = 12 ∨ k = 13 by omega) with q | q | q | q | q | q | q | q | q | q | q | q | q | q <;> subst q <;> rfl
  · rw [if_neg hw, if_neg hw]
theorem sim_cost {x : XV} {r : RV} (h : XR x r) (c l : Int32) (b : Bool) (w : Int32) : Sim (X_cost x c l b w) (R_cost r c l b w) := by
  unfold X_cost R_cost
  by_cases hc : S_within c 0 3 = true
  · rw [if_pos hc, if_pos hc]
    by_cases hl : S_within l 0 255 = true
    · rw [if_pos hl, if_pos hl]
      by_cases hw : S_within w 0 3 = true
      · rw [if_pos hw, if_pos hw]
        have et : R_tr r c l b = nz (X_try x c l b) := by
          unfold R_tr X_try
          show (if b = true then (Q_writes r.1 (cN c) (lF l) 0).1 else (Q_reads r.1 (cN c) (lF l)).1) = _
          rw [h.1.1]
          cases b with
          | true =>
            rw [if_pos rfl, if_pos rfl, (nz_write (lF l) h.1.2 (c4_lt hc) (Int32.le_refl 0)).1]
          | false =>
            rw [if_neg (by decide), if_neg (by decide), (nz_read (lF l) h.1.2 (c4_lt hc)).1]
        have es : (R_setA r r.1).1 = nz x.1 := h.1.1
        rw [et, es]
        obtain ⟨a, rest⟩ := h
        refine ⟨?_, a, rest⟩
        have hb := (cN_lt (B := 3) rfl (by decide) hw).1
        generalize cN w = k at hb ⊢
        rcases (show k = 0 ∨ k = 1 ∨ k = 2 ∨ k = 3 by omega) with q | q | q | q <;> subst q <;> rfl
      · rw [if_neg hw, if_neg hw]
        exact ⟨rfl, h⟩
    · rw [if_neg hl, if_neg hl]
      exact ⟨rfl, h⟩
  · rw [if_neg hc, if_neg hc]
    exact ⟨rfl, h⟩
