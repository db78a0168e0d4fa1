/-! ===== a program is run alike; performing ===== -/
theorem nI_n5 {n : Nat} (h : n < 2 ^ 31) : ¬ nI n = -5 := nI_m5 h
def RunOK (z : PV) (i : Nat) (t : MV) (sm : Int32) (r2 : RV) : Prop := match X_runL z (z.2.2.2.2.2.2.1.val - i) i t sm with
  | (none, t2, s2) => r2.2.2.2.2.2.2.2.2.2.2.2.2.2.2.2.2.2 = -5 ∧ r2.1 = nz t2 ∧ IM t2 ∧ r2.2.2.2.2.2.2.2.2.2.2.2.2.2.2.2.2.1 = s2
  | (some x, _, _) => x.1 < 27 ∧ r2.2.2.2.2.2.2.2.2.2.2.2.2.2.2.2.2.2 = nI x.1 ∧ x.2 = -4
theorem X_runL_s (z : PV) (fu i : Nat) (t : MV) (sm : Int32) : X_runL z (fu + 1) i t sm = if 0 ≤ (P_run z t i).2 then X_runL z fu (i + 1) (P_run z t i).1 (if decide ((z.2.1 i).val = 114) = true then sm + (P_run z t i).2 else sm)
    else if (P_run z t i).2 = -5 then X_runL z fu (i + 1) (P_run z t i).1 (if decide ((z.2.1 i).val = 114) = true then sm + (P_run z t i).2 else sm)
    else (some (i, (P_run z t i).2), (P_run z t i).1, sm) := rfl
theorem RunOK_go {z : PV} {i : Nat} {t : MV} {sm : Int32} {r2 : RV} (hi : i < z.2.2.2.2.2.2.1.val) (h : 0 ≤ (P_run z t i).2 ∨ (P_run z t i).2 = -5) (k : RunOK z (i + 1) (P_run z t i).1 (if decide ((z.2.1 i).val = 114) = true then sm + (P_run z t i).2 else sm) r2) : RunOK z i t sm r2 := by
  unfold RunOK at k ⊢
  have e : z.2.2.2.2.2.2.1.val - i = (z.2.2.2.2.2.2.1.val - (i + 1)) + 1 := by omega
  rw [e, X_runL_s]
  rcases h with h | h
  · rw [if_pos h]
    exact k
  · by_cases h0 : 0 ≤ (P_run z t i).2
    · rw [if_pos h0]
      exact k
    · rw [if_neg h0, if_pos h]
      exact k
theorem RunOK_stop {z : PV} {i : Nat} {t : MV} {sm : Int32} {r2 : RV} (hi : i < z.2.2.2.2.2.2.1.val) (h27 : i < 27) (h : (P_run z t i).2 = -4) (k : r2.2.2.2.2.2.2.2.2.2.2.2.2.2.2.2.2.2 = nI i) : RunOK z i t sm r2 := by
  unfold RunOK
  have e : z.2.2.2.2.2.2.1.val - i = (z.2.2.2.2.2.2.1.val - (i + 1)) + 1 := by omega
  rw [e, X_runL_s, h, if_neg (by decide), if_neg (by decide)]
  exact ⟨h27, k, rfl⟩
theorem RunOK_end {z : PV} {i : Nat} {t : MV} {r2 : RV} (hi : z.2.2.2.2.2.2.1.val = i) (h1 : r2.2.2.2.2.2.2.2.2.2.2.2.2.2.2.2.2.2 = -5) (h2 : r2.1 = nz t) (h3 : IM t) : RunOK z i t r2.2.2.2.2.2.2.2.2.2.2.2.2.2.2.2.2.1 r2 := by
  unfold RunOK
  rw [hi, Nat.sub_self]
  exact ⟨h1, h2, h3, rfl⟩
theorem pD_stop {d : RV} {i : Nat} (h1 : (R_done d).1 = false) (h2 : (R_done d).2 = d) : R_pD true d i = R_setStopN d (nI i) := by
  unfold R_pD
  rw [if_pos rfl, h1, h2]
  exact if_neg (by decide)
theorem pD_go {d d2 : RV} {i : Nat} (h1 : (R_done d).1 = true) (h2 : (R_done d).2 = d2) : R_pD true d i = d2 := by
  unfold R_pD
  rw [if_pos rfl, h1, h2]
  exact if_pos rfl
theorem pM_stop (r : RV) (a : Fin 81) (le : Fin 65536) (dc : Fin 4) (dl : Fin 256) (dv : Int32) {i : Nat} (hi : i < 27) : R_pM (R_setStopN (RP r a false le dc dl dv) (nI i)) = (R_setStopN (RP r a false le dc dl dv) (nI i), false) := by
  unfold R_pM
  rw [if_neg (show ¬ (R_setStopN (RP r a false le dc dl dv) (nI i)).2.2.2.2.2.2.2.2.2.2.2.1 = true from by intro z; exact Bool.noConfusion (show false = true from z))]
  exact if_neg (show ¬ nI i = -5 from nI_n5 (by omega))
theorem run_sim2 : ∀ (fu : Nat) (w : PV) (r : RV) (t : MV) (i f2 : Nat), r.2.2.2.2.2.2.1 = w.1 → r.2.2.2.2.2.2.2.1 = w.2.2.2.2.2.1 → r.2.2.2.2.2.2.2.2.2.2.1 = w.2.2.2.2.2.2.2 → r.2.2.2.2.2.2.2.2.2.2.2.1 = false → r.2.2.2.2.2.2.2.2.2.2.2.2.2.2.2.2.2 = -5 → w.2.2.2.2.2.2.2.val ≤ w.2.2.2.2.2.1.val → 3 * w.2.2.2.2.2.2.1.val ≤ w.2.2.2.2.2.2.2.val → 27 - w.2.2.2.2.2.2.1.val < fu → 82 - w.2.2.2.2.2.2.2.val ≤ f2 → i = w.2.2.2.2.2.2.1.val → r.1 = nz t → IM t → (P_ffL fu w).1 < 0 →
    ∃ r2 i2, wh R_pC (R_pS true) f2 (r, i, true) = (r2, i2, false) ∧ KP r r2 ∧ RunOK (P_ffL fu w).2 i t r.2.2.2.2.2.2.2.2.2.2.2.2.2.2.2.2.1 r2
  | 0, w, r, t, i, f2, _, _, _, _, _, _, _, h, _, _, _, _, _ => absurd h (Nat.not_lt_zero _)
  | fu + 1, w, r, t, i, 0, _, _, _, _, _, _, _, _, h, _, _, _, _ => by have := w.2.2.2.2.2.2.2.isLt; omega
  | fu + 1, w, r, t, i, f2 + 1, ht, hl, hs, hw, hn, ha, hc, hf, hf2, hi, hr, hm, hneg => by
    have hlen := w.2.2.2.2.2.1.isLt
    have hcm : w.2.2.2.2.2.2.1.val < 27 := by omega
    have fr := (ff_sim1 (fu + 1) w r i (f2 + 1) ht hl hs hw hn ha hc hf hf2)
    obtain ⟨_, _, _, _, _, fr4, _⟩ := fr
    have hlt : w.2.2.2.2.2.2.1.val < (P_ffL (fu + 1) w).2.2.2.2.2.2.2.1.val := by
      rcases fr4 with ⟨_, _, z⟩ | ⟨z, _⟩
      · exact z
      · exact absurd hneg z
    rw [← hi] at hlt
    obtain ⟨b, ks2, cs2, ls2, vs2, a2, le2, dc2, dl2, dv2, eX, eY, h1, h2, h3⟩ := deed_at w.2.2.2.2.2.2.1.val ht hl hs hw ha
    have eF : P_ffL (fu + 1) w = ffN fu (b, PP w ks2 cs2 ls2 vs2 a2) := by rw [P_ffL_s fu w hcm, eX]
    have ew : P_setCmds (PP w ks2 cs2 ls2 vs2 a2) ((PP w ks2 cs2 ls2 vs2 a2).2.2.2.2.2.2.1.val + 1) = PP (P_setCmds w (w.2.2.2.2.2.2.1.val + 1)) ks2 cs2 ls2 vs2 a2 := rfl
    have ecm : (P_setCmds w (w.2.2.2.2.2.2.1.val + 1)).2.2.2.2.2.2.1.val = w.2.2.2.2.2.2.1.val + 1 := f28_at (by omega)
    cases b with
    | false =>
      have ef : ffN fu (false, PP w ks2 cs2 ls2 vs2 a2) = (nI a2.val, PP w ks2 cs2 ls2 vs2 a2) := if_neg (fun z => Bool.noConfusion (show false = true from z))
      rw [eF, ef] at hneg
      exact absurd hneg (nI_nlt0 (by have := a2.isLt; omega))
    | true =>
      obtain ⟨h3a, h3b, h3c, h3d, h3e, h3f⟩ := h3 rfl
      obtain ⟨tk1, tk2⟩ := takes_PP (p := P_setCmds w (w.2.2.2.2.2.2.1.val + 1)) (r := r) ht hl ks2 cs2 ls2 vs2 a2 59
      -- the program as it is at the end holds this command
      have eG : P_ffL (fu + 1) w = if a2.val = w.2.2.2.2.2.1.val then (-1, PP (P_setCmds w (w.2.2.2.2.2.2.1.val + 1)) ks2 cs2 ls2 vs2 a2) else if tkB r a2 59 = true then P_ffL fu (PP (P_setCmds w (w.2.2.2.2.2.2.1.val + 1)) ks2 cs2 ls2 vs2 (f81 (a2.val + 1))) else (nI a2.val, PP (P_setCmds w (w.2.2.2.2.2.2.1.val + 1)) ks2 cs2 ls2 vs2 a2) := by
        rw [eF]
        unfold ffN
        rw [if_pos (show ((true, PP w ks2 cs2 ls2 vs2 a2) : Bool × PV).1 = true from rfl), ew, tk1, tk2]
        show (if a2.val = w.2.2.2.2.2.1.val then _ else _) = _
        by_cases h59 : tkB r a2 59 = true
        · rw [if_pos h59, if_pos h59, if_pos h59]
        · rw [if_neg h59, if_neg h59, if_neg h59]
          rfl
      have hold : ((P_ffL (fu + 1) w).2.2.1 i = ks2 i ∧ (P_ffL (fu + 1) w).2.2.2.1 i = cs2 i ∧ (P_ffL (fu + 1) w).2.2.2.2.1 i = ls2 i ∧ (P_ffL (fu + 1) w).2.2.2.2.2.1 i = vs2 i) := by
        by_cases hend : a2.val = w.2.2.2.2.2.1.val
        · rw [eG, if_pos hend]
          exact ⟨rfl, rfl, rfl, rfl⟩
        · by_cases h59 : tkB r a2 59 = true
          · have e81 := (tk_at h59).2
            rw [eG, if_neg hend, if_pos h59]
            obtain ⟨_, _, _, _, _, _, g5⟩ := ff_sim1 fu (PP (P_setCmds w (w.2.2.2.2.2.2.1.val + 1)) ks2 cs2 ls2 vs2 (f81 (a2.val + 1))) (RP r (f81 (a2.val + 1)) false le2 dc2 dl2 dv2) (i + 1) f2 ht hl rfl rfl hn (by show (f81 (a2.val + 1)).val ≤ w.2.2.2.2.2.1.val; omega) (by show 3 * (P_setCmds w (w.2.2.2.2.2.2.1.val + 1)).2.2.2.2.2.2.1.val ≤ (f81 (a2.val + 1)).val; omega) (by show 27 - (P_setCmds w (w.2.2.2.2.2.2.1.val + 1)).2.2.2.2.2.2.1.val < fu; omega) (by show 82 - (f81 (a2.val + 1)).val ≤ f2; omega)
            exact g5.2.2.2 i (by show i < (P_setCmds w (w.2.2.2.2.2.2.1.val + 1)).2.2.2.2.2.2.1.val; omega)
          · rw [eG, if_neg hend, if_neg h59]
            exact ⟨rfl, rfl, rfl, rfl⟩
      obtain ⟨ho1, ho2, ho3, ho4⟩ := hold
      rw [← hi] at h3b h3c h3e h3f
      have dos := do_sim (z := (P_ffL (fu + 1) w).2) (i := i) a2 hr hm h3d (ho1.trans h3b.symm) (ho2.trans h3c.symm) (fun z => ho3.trans (h3e z).symm) (fun z => ⟨ho4.trans (h3f z).1.symm, (h3f z).2⟩)
      rw [wh_1, if_pos (show R_pC (r, i, true) = true from rfl)]
      have eS : R_pS true (r, i, true) = ((R_pM (R_pD true (RP r a2 false le2 dc2 dl2 dv2) i)).1, i + 1, (R_pM (R_pD true (RP r a2 false le2 dc2 dl2 dv2) i)).2) := by
        show ((R_pM (R_pD true (R_deed r) i)).1, i + 1, (R_pM (R_pD true (R_deed r) i)).2) = _
        rw [eY]
        rfl
      rw [eS]
      rcases dos with ⟨d1, d2, d3, d4⟩ | ⟨d1, d2, d3⟩
      · rw [pD_go d1 d2]
        -- the reference behind the command
        have eR : R_setSum (R_setS (RP r a2 false le2 dc2 dl2 dv2) (nz (P_run (P_ffL (fu + 1) w).2 t i).1)) (if decide (((P_ffL (fu + 1) w).2.2.1 i).val = 114) = true then (RP r a2 false le2 dc2 dl2 dv2).2.2.2.2.2.2.2.2.2.2.2.2.2.2.2.2.1 + (P_run (P_ffL (fu + 1) w).2 t i).2 else (RP r a2 false le2 dc2 dl2 dv2).2.2.2.2.2.2.2.2.2.2.2.2.2.2.2.2.1) = RP (R_setSum (R_setS r (nz (P_run (P_ffL (fu + 1) w).2 t i).1)) (if decide (((P_ffL (fu + 1) w).2.2.1 i).val = 114) = true then r.2.2.2.2.2.2.2.2.2.2.2.2.2.2.2.2.1 + (P_run (P_ffL (fu + 1) w).2 t i).2 else r.2.2.2.2.2.2.2.2.2.2.2.2.2.2.2.2.1)) a2 false le2 dc2 dl2 dv2 := rfl
        rw [eR]
        have goal : ∀ (r2 : RV), RunOK (P_ffL (fu + 1) w).2 (i + 1) (P_run (P_ffL (fu + 1) w).2 t i).1 (if decide (((P_ffL (fu + 1) w).2.2.1 i).val = 114) = true then r.2.2.2.2.2.2.2.2.2.2.2.2.2.2.2.2.1 + (P_run (P_ffL (fu + 1) w).2 t i).2 else r.2.2.2.2.2.2.2.2.2.2.2.2.2.2.2.2.1) r2 → RunOK (P_ffL (fu + 1) w).2 i t r.2.2.2.2.2.2.2.2.2.2.2.2.2.2.2.2.1 r2 := fun r2 k => RunOK_go hlt d4 k
        generalize hT : (P_run (P_ffL (fu + 1) w).2 t i).1 = t2 at goal d3 ⊢
        generalize hS : (if decide (((P_ffL (fu + 1) w).2.2.1 i).val = 114) = true then r.2.2.2.2.2.2.2.2.2.2.2.2.2.2.2.2.1 + (P_run (P_ffL (fu + 1) w).2 t i).2 else r.2.2.2.2.2.2.2.2.2.2.2.2.2.2.2.2.1) = s2 at goal ⊢
        have kR : KP r (R_setSum (R_setS r (nz t2)) s2) := KP_refl r
        rw [pM_f (r := R_setSum (R_setS r (nz t2)) s2) hn]
        show ∃ r3 i2, wh R_pC (R_pS true) f2 ((if r.2.2.2.2.2.2.2.1.val ≤ a2.val then _ else if tkB r a2 59 = true then _ else _ : RV × Bool).1, i + 1, (if r.2.2.2.2.2.2.2.1.val ≤ a2.val then _ else if tkB r a2 59 = true then _ else _ : RV × Bool).2) = _ ∧ _
        by_cases hend : a2.val = w.2.2.2.2.2.1.val
        · rw [if_pos (show r.2.2.2.2.2.2.2.1.val ≤ a2.val by rw [hl, hend]; exact Nat.le_refl _), wh_stop (c := R_pC) (R_pS true) (show R_pC (RP (R_setSum (R_setS r (nz t2)) s2) a2 false le2 dc2 dl2 dv2, i + 1, false) = false from rfl)]
          refine ⟨_, _, rfl, kR, goal _ ?_⟩
          rw [eG, if_pos hend]
          exact RunOK_end (r2 := RP (R_setSum (R_setS r (nz t2)) s2) a2 false le2 dc2 dl2 dv2) (by rw [hi]; exact ecm) hn rfl d3
        · rw [if_neg (show ¬ r.2.2.2.2.2.2.2.1.val ≤ a2.val by rw [hl]; omega)]
          by_cases h59 : tkB r a2 59 = true
          · have e81 := (tk_at h59).2
            have eL : P_ffL (fu + 1) w = P_ffL fu (PP (P_setCmds w (w.2.2.2.2.2.2.1.val + 1)) ks2 cs2 ls2 vs2 (f81 (a2.val + 1))) := by rw [eG, if_neg hend, if_pos h59]
            rw [if_pos h59]
            obtain ⟨r3, i3, g1, g2, g3⟩ := run_sim2 fu (PP (P_setCmds w (w.2.2.2.2.2.2.1.val + 1)) ks2 cs2 ls2 vs2 (f81 (a2.val + 1))) (RP (R_setSum (R_setS r (nz t2)) s2) (f81 (a2.val + 1)) false le2 dc2 dl2 dv2) t2 (i + 1) f2 ht hl rfl rfl hn (by show (f81 (a2.val + 1)).val ≤ w.2.2.2.2.2.1.val; omega) (by show 3 * (P_setCmds w (w.2.2.2.2.2.2.1.val + 1)).2.2.2.2.2.2.1.val ≤ (f81 (a2.val + 1)).val; omega) (by show 27 - (P_setCmds w (w.2.2.2.2.2.2.1.val + 1)).2.2.2.2.2.2.1.val < fu; omega) (by show 82 - (f81 (a2.val + 1)).val ≤ f2; omega) (by rw [hi]; exact ecm.symm) rfl d3 (by rw [← eL]; exact hneg)
            exact ⟨r3, i3, g1, g2, goal r3 (by rw [eL]; exact g3)⟩
          · rw [eG, if_neg hend, if_neg h59] at hneg
            exact absurd hneg (nI_nlt0 (by have := a2.isLt; show a2.val < 2 ^ 31; omega))
      · rw [pD_stop d1 d2, pM_stop r a2 le2 dc2 dl2 dv2 (by omega), wh_stop (c := R_pC) (R_pS true) (show R_pC (R_setStopN (RP r a2 false le2 dc2 dl2 dv2) (nI i), i + 1, false) = false from rfl)]
        exact ⟨_, _, rfl, KP_refl r, RunOK_stop hlt (by omega) d3 rfl⟩
theorem R_rec_aside (v : RV) : (R_rec v).2.1 = v.2.1 := by
  unfold R_rec R_rec1
  split <;> rfl
theorem sim_perform {x : XV} {r : RV} (h : XR x r) : Sim (X_perform x) (R_perform r) := by
  obtain ⟨⟨a1, a2⟩, b, c, ⟨d1, d2⟩, e⟩ := h
  have w0at : (P_setCmds (P_setAt x.2.2.2.2.1 0) 0).2.2.2.2.2.2.2.val = 0 := rfl
  have w0cm : (P_setCmds (P_setAt x.2.2.2.2.1 0) 0).2.2.2.2.2.2.1.val = 0 := rfl
  obtain ⟨u, i2, g1, g2, g3, g4, g5⟩ := ff_sim1 28 (P_setCmds (P_setAt x.2.2.2.2.1 0) 0) (R_prog0 r) 0 82 d1 d2 rfl rfl rfl (by rw [w0at]; exact Nat.zero_le _) (by rw [w0at, w0cm]; exact Nat.le_refl _) (by rw [w0cm]; decide) (by rw [w0at]; exact Nat.le_refl _)
  have ep : P_ffL 28 (P_setCmds (P_setAt x.2.2.2.2.1 0) 0) = P_ff x.2.2.2.2.1 := rfl
  rw [ep] at g4 g5
  have er : (R_prog r false).1 = u := by
    unfold R_prog
    rw [g1]
  obtain ⟨k1, k2, k3, k4, k5, k6, k7, k8, k9⟩ := g3
  have us : u.1 = nz x.1 := g2.trans a1
  unfold X_perform R_perform R_try
  rw [er]
  rcases g4 with ⟨f1, f2, f3⟩ | ⟨f1, f2, f3⟩
  · rw [if_pos f1]
    have ea : R_progA u = -5 := by
      unfold R_progA
      rw [f2]
      exact if_neg (by decide)
    rw [if_pos ea]
    obtain ⟨w, j2, m1, m2, m3⟩ := run_sim2 28 (P_setCmds (P_setAt x.2.2.2.2.1 0) 0) (R_prog0 (R_setA u u.1)) x.1 0 82 (k6.trans d1) (k7.trans d2) rfl rfl rfl (by rw [w0at]; exact Nat.zero_le _) (by rw [w0at, w0cm]; exact Nat.le_refl _) (by rw [w0cm]; decide) (by rw [w0at]; exact Nat.le_refl _) rfl us a2 f1
    rw [ep] at m3
    have ew : (R_prog (R_setA u u.1) true).1 = w := by
      unfold R_prog
      rw [m1]
    rw [ew]
    obtain ⟨q1, q2, q3, q4, q5, q6, q7, q8, q9⟩ := m2
    have eruns : X_runs (P_ff x.2.2.2.2.1).2 x.1 = X_runL (P_ff x.2.2.2.2.1).2 ((P_ff x.2.2.2.2.1).2.2.2.2.2.2.2.1.val - 0) 0 x.1 0 := rfl
    unfold RunOK at m3
    rw [eruns]
    change (match X_runL (P_ff x.2.2.2.2.1).2 ((P_ff x.2.2.2.2.1).2.2.2.2.2.2.2.1.val - 0) 0 x.1 0 with
      | (none, t2, s2) => w.2.2.2.2.2.2.2.2.2.2.2.2.2.2.2.2.2 = -5 ∧ w.1 = nz t2 ∧ IM t2 ∧ w.2.2.2.2.2.2.2.2.2.2.2.2.2.2.2.2.1 = s2
      | (some x, _, _) => x.1 < 27 ∧ w.2.2.2.2.2.2.2.2.2.2.2.2.2.2.2.2.2 = nI x.1 ∧ x.2 = -4) at m3
    have mid : ∀ t, XR (X_setTrial (X_ff x) t) (R_sw w) := by
      intro t
      refine ⟨⟨?_, a2⟩, ?_, ⟨?_, fun hk => ⟨?_, (c.2 hk).2⟩⟩, ⟨?_, ?_⟩, ?_⟩
      · exact q1.trans us
      · show HR x.2.2.2.1 w.2.2.1 w.2.2.2.2.1
        have e1 : w.2.2.1 = r.2.2.1 := q2.trans k2
        have e2 : w.2.2.2.2.1 = r.2.2.2.2.1 := q4.trans k4
        rw [e1, e2]
        exact b
      · exact (q5.trans k5).trans c.1
      · exact (q3.trans k3).trans (c.2 hk).1
      · exact ((q6.trans k6).trans d1).trans g5.1.symm
      · exact ((q7.trans k7).trans d2).trans g5.2.1.symm
      · have e1 : w.2.2.2.2.2.2.2.2.1 = r.2.2.2.2.2.2.2.2.1 := q8.trans k8
        have e2 : w.2.2.2.2.2.2.2.2.2.1 = r.2.2.2.2.2.2.2.2.2.1 := q9.trans k9
        show (x.2.2.2.2.2.2.1 = true → w.2.2.2.2.2.2.2.2.1 = _ ∧ w.2.2.2.2.2.2.2.2.2.1 = _ ∧ _) ∧ (x.2.2.2.2.2.2.1 = false → w.2.2.2.2.2.2.2.2.1 = -5)
        rw [e1, e2]
        exact e
    rcases hX : X_runL (P_ff x.2.2.2.2.1).2 ((P_ff x.2.2.2.2.1).2.2.2.2.2.2.2.1.val - 0) 0 x.1 0 with ⟨o, t2, s2⟩
    rw [hX] at m3
    cases o with
    | none =>
      obtain ⟨n1, n2, n3, n4⟩ := m3
      rw [if_pos n1]
      refine ⟨n4.symm, ?_⟩
      have hm := XR_rec (mid t2)
      obtain ⟨_, hb, hc, hd, he⟩ := hm
      have ea2 : (R_rec (R_sw w)).2.1 = nz t2 := (R_rec_aside (R_sw w)).trans n2
      exact ⟨⟨ea2, n3⟩, hb, hc, hd, he⟩
    | some y =>
      obtain ⟨n1, n2, n3⟩ := m3
      have n5 : ¬ w.2.2.2.2.2.2.2.2.2.2.2.2.2.2.2.2.2 = -5 := by rw [n2]; exact nI_n5 (by omega)
      rw [if_neg n5]
      refine ⟨rfl, ?_⟩
      obtain ⟨ha, hb, hc, hd, he⟩ := mid t2
      exact ⟨ha, hb, hc, hd, fun _ => ⟨n2, n3.symm, nI_n5 (by omega)⟩, fun z => Bool.noConfusion (show true = false from z)⟩
  · rw [if_neg f1]
    have ea : R_progA u = nI u.2.2.2.2.2.2.2.2.2.2.1.val := by
      unfold R_progA
      rw [f2]
      exact if_pos rfl
    have hb := u.2.2.2.2.2.2.2.2.2.2.1.isLt
    rw [if_neg (by rw [ea]; exact nI_n5 (by omega)), ea, f3]
    refine ⟨rfl, ⟨us, a2⟩, ?_, ⟨k5.trans c.1, fun hk => ⟨k3.trans (c.2 hk).1, (c.2 hk).2⟩⟩, ⟨(k6.trans d1).trans g5.1.symm, (k7.trans d2).trans g5.2.1.symm⟩, ?_⟩
    · show HR x.2.2.2.1 u.2.2.1 u.2.2.2.2.1
      rw [show u.2.2.1 = r.2.2.1 from k2, show u.2.2.2.2.1 = r.2.2.2.2.1 from k4]
      exact b
    · show (x.2.2.2.2.2.2.1 = true → u.2.2.2.2.2.2.2.2.1 = _ ∧ u.2.2.2.2.2.2.2.2.2.1 = _ ∧ _) ∧ (x.2.2.2.2.2.2.1 = false → u.2.2.2.2.2.2.2.2.1 = -5)
      rw [show u.2.2.2.2.2.2.2.2.1 = r.2.2.2.2.2.2.2.2.1 from k8, show u.2.2.2.2.2.2.2.2.2.1 = r.2.2.2.2.2.2.2.2.2.1 from k9]
      exact e
