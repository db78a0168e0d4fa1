/-! ===== the two parsers ===== -/
def RP (r : RV) (sp : Fin 81) (wr : Bool) (le : Fin 65536) (dc : Fin 4) (dl : Fin 256) (dv : Int32) : RV := (r.1, r.2.1, r.2.2.1, r.2.2.2.1, r.2.2.2.2.1, r.2.2.2.2.2.1, r.2.2.2.2.2.2.1, r.2.2.2.2.2.2.2.1, r.2.2.2.2.2.2.2.2.1, r.2.2.2.2.2.2.2.2.2.1, sp, wr, le, dc, dl, dv, r.2.2.2.2.2.2.2.2.2.2.2.2.2.2.2.2.1, r.2.2.2.2.2.2.2.2.2.2.2.2.2.2.2.2.2)
def PP (p : PV) (ks : Nat → Fin 65536) (cs : Nat → Fin 4) (ls : Nat → Fin 256) (vs : Nat → Int32) (a : Fin 81) : PV := (p.1, ks, cs, ls, vs, p.2.2.2.2.2.1, p.2.2.2.2.2.2.1, a)
theorem f81_id (s : Fin 81) : f81 s.val = s := Fin.ext (Nat.mod_eq_of_lt s.isLt)
theorem f81_at {x : Nat} (h : x < 81) : (f81 x).val = x := Nat.mod_eq_of_lt h
theorem sw_dig {d h : Nat} (hd : d < 65536) (hh : h < 10000) : S_within (nI d) 48 (nI (48 + h)) = (!decide (d < 48) && !decide (h < d - 48)) := by
  have a : (nI d < 48) ↔ d < 48 := nI_ltI (a := d) (b := 48) (by omega) (by decide)
  have b : (nI (48 + h) < nI d) ↔ h < d - 48 := (nI_ltI (by omega) (by omega)).trans (by omega)
  unfold S_within
  rw [decide_eq_decide.mpr a, decide_eq_decide.mpr b]
theorem sw_one {d c : Nat} (hd : d < 65536) (hc : c < 65536) : S_within (nI d) (nI c) (nI c) = decide (d = c) := by
  have a : (nI d < nI c) ↔ d < c := nI_ltI (by omega) (by omega)
  have b : (nI c < nI d) ↔ c < d := nI_ltI (by omega) (by omega)
  have a2 : decide (nI d < nI c) = decide (d < c) := decide_eq_decide.mpr a
  have b2 : decide (nI c < nI d) = decide (c < d) := decide_eq_decide.mpr b
  unfold S_within
  rw [a2, b2, Bool.eq_iff_iff]
  simp
  omega
def tkB (r : RV) (a : Fin 81) (c : Nat) : Bool := !decide (r.2.2.2.2.2.2.2.1.val ≤ a.val) && decide ((r.2.2.2.2.2.2.1 a.val).val = c)
theorem nx_one (r : RV) (a : Fin 81) (le : Fin 65536) (dc : Fin 4) (dl : Fin 256) (dv : Int32) {c : Nat} (hc : c < 65536) : R_next (RP r a false le dc dl dv) (nI c) (nI c) = tkB r a c := by
  show (!false && (!decide (r.2.2.2.2.2.2.2.1.val ≤ a.val) && S_within (nI (r.2.2.2.2.2.2.1 a.val).val) (nI c) (nI c))) = _
  rw [sw_one (r.2.2.2.2.2.2.1 a.val).isLt hc]
  rfl
theorem needs_w (r : RV) (sp : Fin 81) (le : Fin 65536) (dc : Fin 4) (dl : Fin 256) (dv z : Int32) : R_needs (RP r sp true le dc dl dv) z = RP r sp true le dc dl dv := by
  have h : R_next (RP r sp true le dc dl dv) z z = false := rfl
  unfold R_needs
  rw [h, if_neg (by decide)]
  show (if true = true then RP r (f81 (sp.val + 0)) true le dc dl dv else RP r (f81 (sp.val + 0)) true le dc dl dv) = _
  rw [if_pos rfl]
  show RP r (f81 sp.val) true le dc dl dv = _
  rw [f81_id]
theorem needs_f (r : RV) (sp : Fin 81) (le : Fin 65536) (dc : Fin 4) (dl : Fin 256) (dv : Int32) {c : Nat} (hc : c < 65536) : R_needs (RP r sp false le dc dl dv) (nI c) = if tkB r sp c = true then RP r (f81 (sp.val + 1)) false le dc dl dv else RP r sp true le dc dl dv := by
  unfold R_needs
  rw [nx_one r sp le dc dl dv hc]
  by_cases h : tkB r sp c = true
  · rw [if_pos h, if_pos h]
    show (if false = true then _ else RP r (f81 (sp.val + 1)) false le dc dl dv) = _
    rw [if_neg (by decide)]
  · rw [if_neg h, if_neg h]
    show (if false = true then _ else RP r (f81 (sp.val + 0)) true le dc dl dv) = _
    rw [if_neg (by decide)]
    show RP r (f81 sp.val) true le dc dl dv = _
    rw [f81_id]
theorem num_w (r : RV) (sp : Fin 81) (le : Fin 65536) (dc : Fin 4) (dl : Fin 256) (dv : Int32) (h : Nat) : R_num (RP r sp true le dc dl dv) h = (0, RP r sp true le dc dl dv) := by
  have hw : R_numW (RP r sp true le dc dl dv) h = true := by unfold R_numW; exact if_pos rfl
  have h0 : R_num0 (RP r sp true le dc dl dv) h = (0, RP r sp true le dc dl dv) := by
    unfold R_num0
    rw [hw]
    show (if true = true then (0, RP r (f81 (sp.val + 0)) true le dc dl dv) else _) = _
    rw [if_pos rfl]
    show (0, RP r (f81 sp.val) true le dc dl dv) = _
    rw [f81_id]
  unfold R_num
  rw [h0]
  exact wh_stop _ rfl _
def dgB (r : RV) (a : Fin 81) (h : Nat) : Bool := !decide (r.2.2.2.2.2.2.2.1.val ≤ a.val) && (!decide ((r.2.2.2.2.2.2.1 a.val).val < 48) && !decide (h < (r.2.2.2.2.2.2.1 a.val).val - 48))
theorem nx_dig (r : RV) (a : Fin 81) (le : Fin 65536) (dc : Fin 4) (dl : Fin 256) (dv : Int32) {h : Nat} (hh : h < 10000) : R_next (RP r a false le dc dl dv) 48 (nI (48 + h)) = dgB r a h := by
  show (!false && (!decide (r.2.2.2.2.2.2.2.1.val ≤ a.val) && S_within (nI (r.2.2.2.2.2.2.1 a.val).val) 48 (nI (48 + h)))) = _
  rw [sw_dig (r.2.2.2.2.2.2.1 a.val).isLt hh]
  rfl
def h9 (h : Nat) : Nat := if 9 ≤ h then 9 else h
theorem numW_f (r : RV) (a : Fin 81) (le : Fin 65536) (dc : Fin 4) (dl : Fin 256) (dv : Int32) {h : Nat} (hh : h < 10000) : R_numW (RP r a false le dc dl dv) h = !(dgB r a (h9 h)) := by
  have e9 : R_next (RP r a false le dc dl dv) 48 57 = dgB r a 9 := nx_dig r a le dc dl dv (h := 9) (by decide)
  unfold R_numW h9
  rw [if_neg (show ¬ (RP r a false le dc dl dv).2.2.2.2.2.2.2.2.2.2.2.1 = true from by intro q; exact Bool.noConfusion (show false = true from q)), e9, nx_dig r a le dc dl dv hh]
  by_cases h9' : 9 ≤ h
  · rw [if_pos h9', if_pos h9']
    cases dgB r a 9 <;> rfl
  · rw [if_neg h9', if_neg h9']
    cases dgB r a h <;> rfl
theorem num_f0 (r : RV) (sp : Fin 81) (le : Fin 65536) (dc : Fin 4) (dl : Fin 256) (dv : Int32) {h : Nat} (hh : h < 10000) (hd : dgB r sp (h9 h) = false) : R_num (RP r sp false le dc dl dv) h = (0, RP r sp true le dc dl dv) := by
  have hw : R_numW (RP r sp false le dc dl dv) h = true := by rw [numW_f r sp le dc dl dv hh, hd]; rfl
  have h0 : R_num0 (RP r sp false le dc dl dv) h = (0, RP r sp true le dc dl dv) := by
    unfold R_num0
    rw [hw]
    show (if true = true then (0, RP r (f81 (sp.val + 0)) true le dc dl dv) else _) = _
    rw [if_pos rfl]
    show (0, RP r (f81 sp.val) true le dc dl dv) = _
    rw [f81_id]
  unfold R_num
  rw [h0]
  exact wh_stop _ rfl _
theorem wh_1 {σ : Type} (c : σ → Bool) (f : σ → σ) (n : Nat) (x : σ) : wh c f (n + 1) x = if c x = true then wh c f n (f x) else x := rfl
theorem num_loop {p : PV} {r : RV} (ht : r.2.2.2.2.2.2.1 = p.1) (hl : r.2.2.2.2.2.2.2.1 = p.2.2.2.2.2.1) (ks : Nat → Fin 65536) (cs : Nat → Fin 4) (ls : Nat → Fin 256) (vs : Nat → Int32) (le : Fin 65536) (dc : Fin 4) (dl : Fin 256) (dv : Int32) (h g : Nat) : ∀ (f1 f2 k : Nat) (a : Fin 81), g < a.val → a.val ≤ p.2.2.2.2.2.1.val → k ≤ h → 81 - a.val ≤ f1 → 81 - a.val ≤ f2 → ∃ k2 a2, wh (P_numC h g) P_numS f1 (k, PP p ks cs ls vs a) = (k2, PP p ks cs ls vs a2) ∧ wh (R_numC h) R_numS f2 (k, RP r a false le dc dl dv) = (k2, RP r a2 false le dc dl dv) ∧ a.val ≤ a2.val ∧ a2.val ≤ p.2.2.2.2.2.1.val ∧ k2 ≤ h
  | 0, _, k, a, _, _, _, h1, _ => by have := a.isLt; omega
  | f1 + 1, 0, k, a, _, _, _, _, h2 => by have := a.isLt; omega
  | f1 + 1, f2 + 1, k, a, hg, ha, hk, h1, h2 => by
    have hlen := p.2.2.2.2.2.1.isLt
    have eR : R_numC h (k, RP r a false le dc dl dv) = (!decide (k ≤ 0) && (dgB r a 9 && !decide (h < 10 * k + (r.2.2.2.2.2.2.1 a.val).val - 48))) := by
      show (!decide (k ≤ 0) && (R_next (RP r a false le dc dl dv) 48 57 && !decide (h < 10 * k + (r.2.2.2.2.2.2.1 a.val).val - 48))) = _
      rw [show R_next (RP r a false le dc dl dv) 48 57 = dgB r a 9 from nx_dig r a le dc dl dv (h := 9) (by decide)]
    have eP : P_numC h g (k, PP p ks cs ls vs a) = (dgB r a 9 && ((decide (0 < k) || decide (a.val = g)) && !decide (h < 10 * k + (r.2.2.2.2.2.2.1 a.val).val - 48))) := by
      unfold dgB
      rw [ht, hl]
      rfl
    have eC : P_numC h g (k, PP p ks cs ls vs a) = R_numC h (k, RP r a false le dc dl dv) := by
      rw [eR, eP, decide_eq_false (show ¬ a.val = g by omega), Bool.or_false, show decide (0 < k) = !decide (k ≤ 0) by by_cases z : k ≤ 0 <;> simp [z] <;> omega]
      cases dgB r a 9 <;> cases (!decide (k ≤ 0)) <;> rfl
    rw [wh_1, wh_1, eC]
    by_cases hc : R_numC h (k, RP r a false le dc dl dv) = true
    · rw [if_pos hc, if_pos hc]
      rw [eR] at hc
      simp only [Bool.and_eq_true, Bool.not_eq_true', decide_eq_false_iff_not] at hc
      have hd := hc.2.1
      unfold dgB at hd
      simp only [Bool.and_eq_true, Bool.not_eq_true', decide_eq_false_iff_not] at hd
      have hlt : a.val < p.2.2.2.2.2.1.val := by rw [← hl]; omega
      have e81 : (f81 (a.val + 1)).val = a.val + 1 := f81_at (by omega)
      obtain ⟨k2, a2, q1, q2, q3, q4, q5⟩ := num_loop ht hl ks cs ls vs le dc dl dv h g f1 f2 (10 * k + (r.2.2.2.2.2.2.1 a.val).val - 48) (f81 (a.val + 1)) (by omega) (by omega) (by omega) (by omega) (by omega)
      refine ⟨k2, a2, ?_, q2, by omega, q4, q5⟩
      rw [← q1]
      show wh (P_numC h g) P_numS f1 (10 * k + (p.1 a.val).val - 48, PP p ks cs ls vs (f81 (a.val + 1))) = _
      rw [ht]
    · rw [if_neg hc, if_neg hc]
      exact ⟨k, a, rfl, rfl, Nat.le_refl _, ha, hk⟩
theorem num_f1 {p : PV} {r : RV} (ht : r.2.2.2.2.2.2.1 = p.1) (hl : r.2.2.2.2.2.2.2.1 = p.2.2.2.2.2.1) {a : Fin 81} {h : Nat} (hh : h < 10000) (hd : dgB r a (h9 h) = true) (ks : Nat → Fin 65536) (cs : Nat → Fin 4) (ls : Nat → Fin 256) (vs : Nat → Int32) (le : Fin 65536) (dc : Fin 4) (dl : Fin 256) (dv : Int32) : ∃ k2 a2, P_num (PP p ks cs ls vs a) h = (k2, PP p ks cs ls vs a2) ∧ R_num (RP r a false le dc dl dv) h = (k2, RP r a2 false le dc dl dv) ∧ a.val < a2.val ∧ a2.val ≤ p.2.2.2.2.2.1.val ∧ k2 ≤ h := by
  have hlen := p.2.2.2.2.2.1.isLt
  have hd' := hd
  unfold dgB at hd'
  simp only [Bool.and_eq_true, Bool.not_eq_true', decide_eq_false_iff_not] at hd'
  have hlt : a.val < p.2.2.2.2.2.1.val := by rw [← hl]; omega
  have e81 : (f81 (a.val + 1)).val = a.val + 1 := f81_at (by omega)
  have hh9 : h9 h ≤ h ∧ h9 h ≤ 9 := by unfold h9; split <;> omega
  have hdk : (r.2.2.2.2.2.2.1 a.val).val - 48 ≤ h9 h := by omega
  obtain ⟨k2, a2, q1, q2, q3, q4, q5⟩ := num_loop ht hl ks cs ls vs le dc dl dv h a.val 80 81 ((r.2.2.2.2.2.2.1 a.val).val - 48) (f81 (a.val + 1)) (by omega) (by omega) (by omega) (by omega) (by omega)
  refine ⟨k2, a2, ?_, ?_, by omega, q4, q5⟩
  · have hc : P_numC h a.val (0, PP p ks cs ls vs a) = true := by
      have z : P_numC h a.val (0, PP p ks cs ls vs a) = (dgB r a 9 && ((decide (0 < 0) || decide (a.val = a.val)) && !decide (h < 10 * 0 + (r.2.2.2.2.2.2.1 a.val).val - 48))) := by
        unfold dgB
        rw [ht, hl]
        rfl
      have z9 : dgB r a 9 = true := by
        unfold dgB
        simp only [Bool.and_eq_true, Bool.not_eq_true', decide_eq_false_iff_not]
        exact ⟨hd'.1, hd'.2.1, by omega⟩
      rw [z, z9]
      simp only [Bool.true_and, Bool.and_eq_true, Bool.not_eq_true', decide_eq_false_iff_not, Bool.or_eq_true, decide_eq_true_iff]
      exact ⟨Or.inr trivial, by omega⟩
    have e : P_num (PP p ks cs ls vs a) h = wh (P_numC h a.val) P_numS 80 (P_numS (0, PP p ks cs ls vs a)) := by
      show wh (P_numC h a.val) P_numS (80 + 1) (0, PP p ks cs ls vs a) = _
      rw [wh_1, if_pos hc]
    rw [e, ← q1]
    show wh (P_numC h a.val) P_numS 80 (10 * 0 + (p.1 a.val).val - 48, PP p ks cs ls vs (f81 (a.val + 1))) = _
    rw [ht, Nat.mul_zero, Nat.zero_add]
  · have hw : R_numW (RP r a false le dc dl dv) h = false := by rw [numW_f r a le dc dl dv hh, hd]; rfl
    have h0 : R_num0 (RP r a false le dc dl dv) h = ((r.2.2.2.2.2.2.1 a.val).val - 48, RP r (f81 (a.val + 1)) false le dc dl dv) := by
      unfold R_num0
      rw [hw]
      exact if_neg (by intro q; exact Bool.noConfusion (show false = true from q))
    unfold R_num
    rw [h0]
    exact q2
theorem takes_PP {p : PV} {r : RV} (ht : r.2.2.2.2.2.2.1 = p.1) (hl : r.2.2.2.2.2.2.2.1 = p.2.2.2.2.2.1) (ks : Nat → Fin 65536) (cs : Nat → Fin 4) (ls : Nat → Fin 256) (vs : Nat → Int32) (a : Fin 81) (c : Nat) : P_takesB (PP p ks cs ls vs a) c = tkB r a c ∧ P_takes (PP p ks cs ls vs a) c = if tkB r a c = true then PP p ks cs ls vs (f81 (a.val + 1)) else PP p ks cs ls vs a := by
  have e1 : P_takesB (PP p ks cs ls vs a) c = tkB r a c := by
    unfold tkB
    rw [ht, hl]
    rfl
  refine ⟨e1, ?_⟩
  rw [← e1]
  unfold P_takes P_takesB
  show (if p.2.2.2.2.2.1.val ≤ a.val then PP p ks cs ls vs a else if (p.1 a.val).val = c then PP p ks cs ls vs (f81 (a.val + 1)) else PP p ks cs ls vs a) = if (!decide (p.2.2.2.2.2.1.val ≤ a.val) && decide ((p.1 a.val).val = c)) = true then _ else _
  by_cases z1 : p.2.2.2.2.2.1.val ≤ a.val
  · rw [if_pos z1, if_neg (by simp [z1])]
  · by_cases z2 : (p.1 a.val).val = c
    · rw [if_neg z1, if_pos z2, if_pos (by simp [z2]; omega)]
    · rw [if_neg z1, if_neg z2, if_neg (by simp [z2])]
theorem dig_PP {p : PV} {r : RV} (ht : r.2.2.2.2.2.2.1 = p.1) (hl : r.2.2.2.2.2.2.2.1 = p.2.2.2.2.2.1) (ks : Nat → Fin 65536) (cs : Nat → Fin 4) (ls : Nat → Fin 256) (vs : Nat → Int32) (a : Fin 81) (h : Nat) : P_dig (PP p ks cs ls vs a) h = dgB r a h := by
  unfold dgB
  rw [ht, hl]
  rfl
theorem tk_at {r : RV} {a : Fin 81} {c : Nat} (h : tkB r a c = true) : a.val < r.2.2.2.2.2.2.2.1.val ∧ (f81 (a.val + 1)).val = a.val + 1 := by
  unfold tkB at h
  simp only [Bool.and_eq_true, Bool.not_eq_true', decide_eq_false_iff_not] at h
  have := r.2.2.2.2.2.2.2.1.isLt
  exact ⟨by omega, f81_at (by omega)⟩
