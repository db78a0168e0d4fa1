/-! ===== programs: found free of faults, and done, alike ===== -/
def KP (r r2 : RV) : Prop := r2.2.1 = r.2.1 ∧ r2.2.2.1 = r.2.2.1 ∧ r2.2.2.2.1 = r.2.2.2.1 ∧ r2.2.2.2.2.1 = r.2.2.2.2.1 ∧ r2.2.2.2.2.2.1 = r.2.2.2.2.2.1 ∧ r2.2.2.2.2.2.2.1 = r.2.2.2.2.2.2.1 ∧ r2.2.2.2.2.2.2.2.1 = r.2.2.2.2.2.2.2.1 ∧ r2.2.2.2.2.2.2.2.2.1 = r.2.2.2.2.2.2.2.2.1 ∧ r2.2.2.2.2.2.2.2.2.2.1 = r.2.2.2.2.2.2.2.2.2.1
theorem KP_refl (r : RV) : KP r r := ⟨rfl, rfl, rfl, rfl, rfl, rfl, rfl, rfl, rfl⟩
def FRW (w z : PV) : Prop := z.1 = w.1 ∧ z.2.2.2.2.2.1 = w.2.2.2.2.2.1 ∧ w.2.2.2.2.2.2.1.val ≤ z.2.2.2.2.2.2.1.val ∧ ∀ j, j < w.2.2.2.2.2.2.1.val → z.2.1 j = w.2.1 j ∧ z.2.2.1 j = w.2.2.1 j ∧ z.2.2.2.1 j = w.2.2.2.1 j ∧ z.2.2.2.2.1 j = w.2.2.2.2.1 j
def ffN (fu : Nat) (c : Bool × PV) : Int32 × PV := if c.1 = true then (if (P_setCmds c.2 (c.2.2.2.2.2.2.2.1.val + 1)).2.2.2.2.2.2.2.val = (P_setCmds c.2 (c.2.2.2.2.2.2.2.1.val + 1)).2.2.2.2.2.1.val then (-1, P_setCmds c.2 (c.2.2.2.2.2.2.2.1.val + 1)) else if P_takesB (P_setCmds c.2 (c.2.2.2.2.2.2.2.1.val + 1)) 59 = true then P_ffL fu (P_takes (P_setCmds c.2 (c.2.2.2.2.2.2.2.1.val + 1)) 59) else (nI (P_takes (P_setCmds c.2 (c.2.2.2.2.2.2.2.1.val + 1)) 59).2.2.2.2.2.2.2.val, P_takes (P_setCmds c.2 (c.2.2.2.2.2.2.2.1.val + 1)) 59)) else (nI c.2.2.2.2.2.2.2.2.val, c.2)
theorem P_ffL_s (fu : Nat) (w : PV) (h : w.2.2.2.2.2.2.1.val < 27) : P_ffL (fu + 1) w = ffN fu (P_cmd w w.2.2.2.2.2.2.1.val) := by
  show (if 27 ≤ w.2.2.2.2.2.2.1.val then _ else _) = _
  rw [if_neg (by omega)]
  rfl
theorem nI_nlt0 {n : Nat} (h : n < 2 ^ 31) : ¬ nI n < 0 := by
  rw [show (0 : Int32) = nI 0 from rfl, nI_ltI h (by decide)]
  omega
theorem pS_f {r : RV} {i : Nat} {d : RV} (hd : R_deed r = d) : R_pS false (r, i, true) = ((R_pM d).1, i + 1, (R_pM d).2) := by
  have e : R_pD false (R_deed r) i = d := by
    unfold R_pD
    rw [if_neg (by decide), hd]
    rfl
  show ((R_pM (R_pD false (R_deed r) i)).1, i + 1, (R_pM (R_pD false (R_deed r) i)).2) = _
  rw [e]
theorem pM_w (r : RV) (a : Fin 81) (le : Fin 65536) (dc : Fin 4) (dl : Fin 256) (dv : Int32) : R_pM (RP r a true le dc dl dv) = (RP r a true le dc dl dv, false) := by
  unfold R_pM
  exact if_pos rfl
theorem pM_f {r : RV} (hs : r.2.2.2.2.2.2.2.2.2.2.2.2.2.2.2.2.2 = -5) (a : Fin 81) (le : Fin 65536) (dc : Fin 4) (dl : Fin 256) (dv : Int32) : R_pM (RP r a false le dc dl dv) = if r.2.2.2.2.2.2.2.1.val ≤ a.val then (RP r a false le dc dl dv, false) else if tkB r a 59 = true then (RP r (f81 (a.val + 1)) false le dc dl dv, true) else (RP r a true le dc dl dv, false) := by
  have en : R_needs (RP r a false le dc dl dv) 59 = if tkB r a 59 = true then RP r (f81 (a.val + 1)) false le dc dl dv else RP r a true le dc dl dv := needs_f r a le dc dl dv (c := 59) (by decide)
  unfold R_pM
  rw [if_neg (show ¬ (RP r a false le dc dl dv).2.2.2.2.2.2.2.2.2.2.2.1 = true from by intro z; exact Bool.noConfusion (show false = true from z)), if_pos (show (RP r a false le dc dl dv).2.2.2.2.2.2.2.2.2.2.2.2.2.2.2.2.2 = -5 from hs), en]
  show (if r.2.2.2.2.2.2.2.1.val ≤ a.val then _ else _) = _
  by_cases h1 : r.2.2.2.2.2.2.2.1.val ≤ a.val
  · rw [if_pos h1, if_pos h1]
  · rw [if_neg h1, if_neg h1]
    by_cases h2 : tkB r a 59 = true
    · rw [if_pos h2, if_pos h2]
      exact if_neg (by intro z; exact Bool.noConfusion (show false = true from z))
    · rw [if_neg h2, if_neg h2]
      exact if_pos rfl
theorem deed_at {w : PV} {r : RV} (no : Nat) (ht : r.2.2.2.2.2.2.1 = w.1) (hl : r.2.2.2.2.2.2.2.1 = w.2.2.2.2.2.1) (hs : r.2.2.2.2.2.2.2.2.2.2.1 = w.2.2.2.2.2.2.2) (hw : r.2.2.2.2.2.2.2.2.2.2.2.1 = false) (ha : w.2.2.2.2.2.2.2.val ≤ w.2.2.2.2.2.1.val) : DEED w r no w.2.1 w.2.2.1 w.2.2.2.1 w.2.2.2.2.1 w.2.2.2.2.2.2.2 (P_cmd w no) (R_deed r) := by
  have h := deed_sim (p := w) (r := r) no ht hl w.2.1 w.2.2.1 w.2.2.2.1 w.2.2.2.2.1 ha r.2.2.2.2.2.2.2.2.2.2.2.2.1 r.2.2.2.2.2.2.2.2.2.2.2.2.2.1 r.2.2.2.2.2.2.2.2.2.2.2.2.2.2.1 r.2.2.2.2.2.2.2.2.2.2.2.2.2.2.2.1
  have er : RP r w.2.2.2.2.2.2.2 false r.2.2.2.2.2.2.2.2.2.2.2.2.1 r.2.2.2.2.2.2.2.2.2.2.2.2.2.1 r.2.2.2.2.2.2.2.2.2.2.2.2.2.2.1 r.2.2.2.2.2.2.2.2.2.2.2.2.2.2.2.1 = r := by
    rw [← hs, ← hw]
    rfl
  rw [er] at h
  exact h
theorem f28_at {x : Nat} (h : x < 28) : (f28 x).val = x := Nat.mod_eq_of_lt h
theorem ff_sim1 : ∀ (fu : Nat) (w : PV) (r : RV) (i f2 : Nat), r.2.2.2.2.2.2.1 = w.1 → r.2.2.2.2.2.2.2.1 = w.2.2.2.2.2.1 → r.2.2.2.2.2.2.2.2.2.2.1 = w.2.2.2.2.2.2.2 → r.2.2.2.2.2.2.2.2.2.2.2.1 = false → r.2.2.2.2.2.2.2.2.2.2.2.2.2.2.2.2.2 = -5 → w.2.2.2.2.2.2.2.val ≤ w.2.2.2.2.2.1.val → 3 * w.2.2.2.2.2.2.1.val ≤ w.2.2.2.2.2.2.2.val → 27 - w.2.2.2.2.2.2.1.val < fu → 82 - w.2.2.2.2.2.2.2.val ≤ f2 →
    ∃ r2 i2, wh R_pC (R_pS false) f2 (r, i, true) = (r2, i2, false) ∧ r2.1 = r.1 ∧ KP r r2 ∧ (((P_ffL fu w).1 < 0 ∧ r2.2.2.2.2.2.2.2.2.2.2.2.1 = false ∧ w.2.2.2.2.2.2.1.val < (P_ffL fu w).2.2.2.2.2.2.2.1.val) ∨ (¬ (P_ffL fu w).1 < 0 ∧ r2.2.2.2.2.2.2.2.2.2.2.2.1 = true ∧ (P_ffL fu w).1 = nI r2.2.2.2.2.2.2.2.2.2.2.1.val)) ∧ FRW w (P_ffL fu w).2
  | 0, w, r, i, f2, _, _, _, _, _, _, _, h, _ => absurd h (Nat.not_lt_zero _)
  | fu + 1, w, r, i, 0, _, _, _, _, _, _, _, _, h => by have := w.2.2.2.2.2.2.2.isLt; omega
  | fu + 1, w, r, i, f2 + 1, ht, hl, hs, hw, hn, ha, hc, hf, hf2 => by
    have hlen := w.2.2.2.2.2.1.isLt
    have hcm : w.2.2.2.2.2.2.1.val < 27 := by omega
    obtain ⟨b, ks2, cs2, ls2, vs2, a2, le2, dc2, dl2, dv2, eX, eY, h1, h2, h3⟩ := deed_at w.2.2.2.2.2.2.1.val ht hl hs hw ha
    rw [P_ffL_s fu w hcm, eX, wh_1, if_pos (show R_pC (r, i, true) = true from rfl), pS_f eY]
    cases b with
    | false =>
      show ∃ r2 i2, wh R_pC (R_pS false) f2 ((R_pM (RP r a2 true le2 dc2 dl2 dv2)).1, i + 1, (R_pM (RP r a2 true le2 dc2 dl2 dv2)).2) = _ ∧ _
      rw [pM_w, wh_stop (c := R_pC) (R_pS false) (show R_pC (RP r a2 true le2 dc2 dl2 dv2, i + 1, false) = false from rfl)]
      have ef : ffN fu (false, PP w ks2 cs2 ls2 vs2 a2) = (nI a2.val, PP w ks2 cs2 ls2 vs2 a2) := if_neg (fun z => Bool.noConfusion (show false = true from z))
      rw [ef]
      refine ⟨_, _, rfl, rfl, KP_refl _, Or.inr ⟨nI_nlt0 (by have := a2.isLt; omega), rfl, rfl⟩, rfl, rfl, Nat.le_refl _, fun j hj => h2 j (by omega)⟩
    | true =>
      obtain ⟨h3a, _, _, _, _, _⟩ := h3 rfl
      have ew : P_setCmds (PP w ks2 cs2 ls2 vs2 a2) ((PP w ks2 cs2 ls2 vs2 a2).2.2.2.2.2.2.1.val + 1) = PP (P_setCmds w (w.2.2.2.2.2.2.1.val + 1)) ks2 cs2 ls2 vs2 a2 := rfl
      have ecm : (P_setCmds w (w.2.2.2.2.2.2.1.val + 1)).2.2.2.2.2.2.1.val = w.2.2.2.2.2.2.1.val + 1 := f28_at (by omega)
      have fr1 : FRW w (PP (P_setCmds w (w.2.2.2.2.2.2.1.val + 1)) ks2 cs2 ls2 vs2 a2) := ⟨rfl, rfl, by show _ ≤ (P_setCmds w (w.2.2.2.2.2.2.1.val + 1)).2.2.2.2.2.2.1.val; omega, fun j hj => h2 j (by omega)⟩
      show ∃ r2 i2, wh R_pC (R_pS false) f2 ((R_pM (RP r a2 false le2 dc2 dl2 dv2)).1, i + 1, (R_pM (RP r a2 false le2 dc2 dl2 dv2)).2) = _ ∧ _
      rw [pM_f hn]
      unfold ffN
      rw [if_pos (show ((true, PP w ks2 cs2 ls2 vs2 a2) : Bool × PV).1 = true from rfl), ew]
      obtain ⟨tk1, tk2⟩ := takes_PP (p := P_setCmds w (w.2.2.2.2.2.2.1.val + 1)) (r := r) ht hl ks2 cs2 ls2 vs2 a2 59
      rw [tk1, tk2]
      by_cases hend : a2 = w.2.2.2.2.2.1
      · rw [if_pos (show r.2.2.2.2.2.2.2.1.val ≤ a2.val by rw [hl, hend]; exact Nat.le_refl _), if_pos (show (PP (P_setCmds w (w.2.2.2.2.2.2.1.val + 1)) ks2 cs2 ls2 vs2 a2).2.2.2.2.2.2.2.val = (PP (P_setCmds w (w.2.2.2.2.2.2.1.val + 1)) ks2 cs2 ls2 vs2 a2).2.2.2.2.2.1.val from congrArg Fin.val hend)]
        rw [wh_stop (c := R_pC) (R_pS false) (show R_pC (RP r a2 false le2 dc2 dl2 dv2, i + 1, false) = false from rfl)]
        exact ⟨_, _, rfl, rfl, KP_refl _, Or.inl ⟨(show (-1 : Int32) < 0 by decide), rfl, by show _ < (P_setCmds w (w.2.2.2.2.2.2.1.val + 1)).2.2.2.2.2.2.1.val; omega⟩, fr1⟩
      · have hne : a2.val ≠ w.2.2.2.2.2.1.val := fun z => hend (Fin.ext z)
        rw [if_neg (show ¬ r.2.2.2.2.2.2.2.1.val ≤ a2.val by rw [hl]; omega), if_neg (show ¬ (PP (P_setCmds w (w.2.2.2.2.2.2.1.val + 1)) ks2 cs2 ls2 vs2 a2).2.2.2.2.2.2.2.val = (PP (P_setCmds w (w.2.2.2.2.2.2.1.val + 1)) ks2 cs2 ls2 vs2 a2).2.2.2.2.2.1.val from hne)]
        by_cases ht59 : tkB r a2 59 = true
        · rw [if_pos ht59, if_pos ht59, if_pos ht59]
          have e81 := (tk_at ht59).2
          obtain ⟨r2, i2, g1, g2, g3, g4, g5⟩ := ff_sim1 fu (PP (P_setCmds w (w.2.2.2.2.2.2.1.val + 1)) ks2 cs2 ls2 vs2 (f81 (a2.val + 1))) (RP r (f81 (a2.val + 1)) false le2 dc2 dl2 dv2) (i + 1) f2 ht hl rfl rfl hn (by show (f81 (a2.val + 1)).val ≤ w.2.2.2.2.2.1.val; omega) (by show 3 * (P_setCmds w (w.2.2.2.2.2.2.1.val + 1)).2.2.2.2.2.2.1.val ≤ (f81 (a2.val + 1)).val; omega) (by show 27 - (P_setCmds w (w.2.2.2.2.2.2.1.val + 1)).2.2.2.2.2.2.1.val < fu; omega) (by show 82 - (f81 (a2.val + 1)).val ≤ f2; omega)
          obtain ⟨q1, q2, q3, q4⟩ := g5
          change (P_setCmds w (w.2.2.2.2.2.2.1.val + 1)).2.2.2.2.2.2.1.val ≤ _ at q3
          refine ⟨r2, i2, g1, g2, g3, ?_, q1, q2, by omega, fun j hj => ?_⟩
          · rcases g4 with ⟨z1, z2, z3⟩ | z
            · change (P_setCmds w (w.2.2.2.2.2.2.1.val + 1)).2.2.2.2.2.2.1.val < _ at z3
              exact Or.inl ⟨z1, z2, by omega⟩
            · exact Or.inr z
          · obtain ⟨v1, v2, v3, v4⟩ := q4 j (by show j < (P_setCmds w (w.2.2.2.2.2.2.1.val + 1)).2.2.2.2.2.2.1.val; omega)
            obtain ⟨u1, u2, u3, u4⟩ := h2 j (by omega)
            exact ⟨v1.trans u1, v2.trans u2, v3.trans u3, v4.trans u4⟩
        · rw [if_neg ht59, if_neg ht59, if_neg ht59]
          rw [wh_stop (c := R_pC) (R_pS false) (show R_pC (RP r a2 true le2 dc2 dl2 dv2, i + 1, false) = false from rfl)]
          exact ⟨_, _, rfl, rfl, KP_refl _, Or.inr ⟨nI_nlt0 (by have := a2.isLt; show a2.val < 2 ^ 31; omega), rfl, rfl⟩, fr1⟩
-- a command that is done
def DOS (d : RV) (z : PV) (i : Nat) (t : MV) : Prop := ((R_done d).1 = true ∧ (R_done d).2 = R_setSum (R_setS d (nz (P_run z t i).1)) (if decide ((z.2.1 i).val = 114) = true then d.2.2.2.2.2.2.2.2.2.2.2.2.2.2.2.2.1 + (P_run z t i).2 else d.2.2.2.2.2.2.2.2.2.2.2.2.2.2.2.2.1) ∧ IM (P_run z t i).1 ∧ (0 ≤ (P_run z t i).2 ∨ (P_run z t i).2 = -5)) ∨ ((R_done d).1 = false ∧ (R_done d).2 = d ∧ (P_run z t i).2 = -4)
theorem R_done_RP (r : RV) (a : Fin 81) (le : Fin 65536) (dc : Fin 4) (dl : Fin 256) (dv : Int32) : R_done (RP r a false le dc dl dv) = if le.val = 100 then (if Q_holds r.1 dc.val dl = true then (true, R_do (RP r a false le dc dl dv)) else (false, RP r a false le dc dl dv)) else (true, R_do (RP r a false le dc dl dv)) := rfl
theorem R_do_RP (r : RV) (a : Fin 81) (le : Fin 65536) (dc : Fin 4) (dl : Fin 256) (dv : Int32) : R_do (RP r a false le dc dl dv) = if le.val = 114 then R_setSum (R_setS (RP r a false le dc dl dv) (Q_reads r.1 dc.val dl).1) (r.2.2.2.2.2.2.2.2.2.2.2.2.2.2.2.2.1 + (Q_reads r.1 dc.val dl).2) else if le.val = 119 then R_setS (RP r a false le dc dl dv) (Q_writes r.1 dc.val dl dv).1 else if le.val = 100 then R_setS (RP r a false le dc dl dv) (Q_drops r.1 dc.val dl).1 else if Q_empty r.1 dc.val = true then RP r a false le dc dl dv else R_setS (RP r a false le dc dl dv) (Q_fg r.1 dc.val none).1 := rfl
theorem do_sim {r : RV} {z : PV} {i : Nat} {t : MV} (a : Fin 81) {le : Fin 65536} {dc : Fin 4} {dl : Fin 256} {dv : Int32} (hr : r.1 = nz t) (ht : IM t) (hk : ISK le.val) (k1 : z.2.1 i = le) (k2 : z.2.2.1 i = dc) (k3 : le.val ≠ 102 → z.2.2.2.1 i = dl) (k4 : le.val = 119 → z.2.2.2.2.1 i = dv ∧ 0 ≤ dv) : DOS (RP r a false le dc dl dv) z i t := by
  have h4 := dc.isLt
  unfold DOS P_run
  rw [R_done_RP, R_do_RP, k1, k2]
  rcases hk with h | h | h | h
  · obtain ⟨n1, n2, n3⟩ := nz_read dl ht h4
    have c100 : ¬ le.val = 100 := by omega
    rw [k3 (by omega)]
    refine Or.inl ⟨?_, ?_, ?_, ?_⟩
    · simp only [if_neg c100]
    · simp only [if_neg c100, if_pos h, if_pos (decide_eq_true h), hr, n1]
      rfl
    · simp only [if_pos h]
      exact n2
    · simp only [if_pos h]
      exact Or.inl n3
  · obtain ⟨k4a, k4b⟩ := k4 h
    obtain ⟨n1, n2, n3⟩ := nz_write dl ht h4 k4b
    have c100 : ¬ le.val = 100 := by omega
    have c114 : ¬ le.val = 114 := by omega
    have d114 : ¬ decide (le.val = 114) = true := by simpa using c114
    rw [k3 (by omega), k4a]
    refine Or.inl ⟨?_, ?_, ?_, ?_⟩
    · simp only [if_neg c100]
    · simp only [if_neg c100, if_neg c114, if_pos h, if_neg d114, hr, n1]
      rfl
    · simp only [if_neg c114, if_pos h]
      exact n2
    · simp only [if_neg c114, if_pos h]
      exact Or.inl n3
  · have c114 : ¬ le.val = 114 := by omega
    have c119 : ¬ le.val = 119 := by omega
    have d114 : ¬ decide (le.val = 114) = true := by simpa using c114
    rw [k3 (by omega)]
    by_cases hh : K_holds (t.2.1 dc.val) dl = true
    · obtain ⟨n1, n2, n3⟩ := nz_drop ht hh
      have hq : Q_holds (nz t) dc.val dl = true := hh
      refine Or.inl ⟨?_, ?_, ?_, ?_⟩
      · simp only [if_pos h, hr, if_pos hq]
      · simp only [if_pos h, hr, if_pos hq, if_neg c114, if_neg c119, if_neg d114, n1]
        rfl
      · simp only [if_neg c114, if_neg c119, if_pos h]
        exact n2
      · simp only [if_neg c114, if_neg c119, if_pos h]
        exact Or.inl n3
    · have hq : ¬ Q_holds (nz t) dc.val dl = true := hh
      refine Or.inr ⟨?_, ?_, ?_⟩
      · simp only [if_pos h, hr, if_neg hq]
      · simp only [if_pos h, hr, if_neg hq]
      · simp only [if_neg c114, if_neg c119, if_pos h]
        unfold M_drop
        rw [if_neg hh]
  · have c114 : ¬ le.val = 114 := by omega
    have c119 : ¬ le.val = 119 := by omega
    have c100 : ¬ le.val = 100 := by omega
    have d114 : ¬ decide (le.val = 114) = true := by simpa using c114
    refine Or.inl ⟨?_, ?_, ?_, ?_⟩
    · simp only [if_neg c100]
    · simp only [if_neg c100, if_neg c114, if_neg c119, if_neg d114, hr, nz_empty]
      by_cases hn : K_nothing (t.2.1 dc.val) = true
      · simp only [if_pos hn]
        unfold M_forget
        simp only [if_pos hn, ← hr]
        rfl
      · simp only [if_neg hn, (nz_forget ht hn).1]
        rfl
    · simp only [if_neg c114, if_neg c119, if_neg c100]
      by_cases hn : K_nothing (t.2.1 dc.val) = true
      · unfold M_forget
        rw [if_pos hn]
        exact ht
      · exact (nz_forget ht hn).2.1
    · simp only [if_neg c114, if_neg c119, if_neg c100]
      by_cases hn : K_nothing (t.2.1 dc.val) = true
      · unfold M_forget
        rw [if_pos hn]
        exact Or.inr rfl
      · exact Or.inl (nz_forget ht hn).2.2
