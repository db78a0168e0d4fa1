/-! ===== one command, read by both ===== -/
theorem d3_w (r : RV) (a : Fin 81) (le : Fin 65536) (dc : Fin 4) (dl : Fin 256) (dv : Int32) : R_d3 (RP r a true le dc dl dv) = RP r a true le (f4 0) dl dv := by
  have e : R_d3s (RP r a true le dc dl dv) = RP r a true le dc dl dv := by
    unfold R_d3s
    show (if true = true then RP r (f81 (a.val + 0)) true le dc dl dv else _) = _
    rw [if_pos rfl]
    show RP r (f81 a.val) true le dc dl dv = _
    rw [f81_id]
  unfold R_d3
  rw [e, num_w]
  rfl
theorem d45_w (r : RV) (a : Fin 81) (le : Fin 65536) (dc : Fin 4) (dl : Fin 256) (dv : Int32) : ∃ dl2 dv2, R_d5 (R_d4 (RP r a true le dc dl dv)) = RP r a true le dc dl2 dv2 := by
  have e4 : ∃ dl2, R_d4 (RP r a true le dc dl dv) = RP r a true le dc dl2 dv := by
    unfold R_d4
    show ∃ dl2, (if le.val = 102 then _ else _) = _
    by_cases h : le.val = 102
    · rw [if_pos h]
      exact ⟨dl, rfl⟩
    · rw [if_neg h, needs_w, num_w]
      exact ⟨f256 0, rfl⟩
  obtain ⟨dl2, e4⟩ := e4
  rw [e4]
  unfold R_d5
  show ∃ dl3 dv2, (if le.val = 119 then _ else _) = _
  by_cases h : le.val = 119
  · rw [if_pos h, needs_w, num_w]
    exact ⟨dl2, nI 0, rfl⟩
  · rw [if_neg h]
    exact ⟨dl2, dv, rfl⟩
theorem d5_w (r : RV) (a : Fin 81) (le : Fin 65536) (dc : Fin 4) (dl : Fin 256) (dv : Int32) : ∃ dv2, R_d5 (RP r a true le dc dl dv) = RP r a true le dc dl dv2 := by
  unfold R_d5
  show ∃ dv2, (if le.val = 119 then _ else _) = _
  by_cases h : le.val = 119
  · rw [if_pos h, needs_w, num_w]
    exact ⟨nI 0, rfl⟩
  · rw [if_neg h]
    exact ⟨dv, rfl⟩
def LVS (p : PV) (r : RV) (no : Nat) (ks : Nat → Fin 65536) (cs : Nat → Fin 4) (ls : Nat → Fin 256) (vs : Nat → Int32) (a : Fin 81) (le : Fin 65536) (dc : Fin 4) (X : Bool × PV) (Y : RV) : Prop := ∃ b ls2 vs2 a2 dl2 dv2, X = (b, PP p ks cs ls2 vs2 a2) ∧ Y = RP r a2 (!b) le dc dl2 dv2 ∧ a.val ≤ a2.val ∧ a2.val ≤ p.2.2.2.2.2.1.val ∧ (∀ j, j ≠ no → ls2 j = ls j ∧ vs2 j = vs j) ∧ (b = true → dl2 = ls2 no ∧ (le.val = 119 → dv2 = vs2 no ∧ 0 ≤ dv2))
theorem lv_sim {p : PV} {r : RV} (no : Nat) (ht : r.2.2.2.2.2.2.1 = p.1) (hl : r.2.2.2.2.2.2.2.1 = p.2.2.2.2.2.1) (ks : Nat → Fin 65536) (cs : Nat → Fin 4) (ls : Nat → Fin 256) (vs : Nat → Int32) {a : Fin 81} (ha : a.val ≤ p.2.2.2.2.2.1.val) {le : Fin 65536} (hk : ks no = le) (hne : ¬ le.val = 102) (dc : Fin 4) (dl : Fin 256) (dv : Int32) : LVS p r no ks cs ls vs a le dc (P_lv (PP p ks cs ls vs a) no) (R_d5 (R_d4 (RP r a false le dc dl dv))) := by
  have en : R_needs (RP r a false le dc dl dv) 46 = if tkB r a 46 = true then RP r (f81 (a.val + 1)) false le dc dl dv else RP r a true le dc dl dv := needs_f r a le dc dl dv (c := 46) (by decide)
  have h9a : h9 255 = 9 := rfl
  have h9b : h9 9999 = 9 := rfl
  unfold P_lv
  rw [(takes_PP ht hl ks cs ls vs a 46).1]
  by_cases t46 : tkB r a 46 = true
  · rw [if_pos t46] at en ⊢
    have q46 := tk_at t46
    rw [hl] at q46
    have eT : P_takes (PP p ks cs ls vs a) 46 = PP p ks cs ls vs (f81 (a.val + 1)) := (takes_PP ht hl ks cs ls vs a 46).2.trans (if_pos t46)
    rw [eT, dig_PP ht hl]
    generalize ha3 : f81 (a.val + 1) = a3 at q46 en ⊢
    by_cases hd : dgB r a3 9 = true
    · rw [if_pos hd]
      obtain ⟨k2, a4, n1, n2, n3, n4, n5⟩ := num_f1 ht hl (h := 255) (by decide) (by rw [h9a]; exact hd) ks cs ls vs le dc dl dv
      have e4 : R_d4 (RP r a false le dc dl dv) = RP r a4 false le dc (f256 k2) dv := by
        unfold R_d4
        rw [if_neg (show ¬ (RP r a false le dc dl dv).2.2.2.2.2.2.2.2.2.2.2.2.1.val = 102 from hne), en, n2]
        rfl
      rw [e4, n1]
      have eL : P_setLine (k2, PP p ks cs ls vs a4).2 no (k2, PP p ks cs ls vs a4).1 = PP p ks cs (va_up ls no (f256 k2)) vs a4 := rfl
      rw [eL]
      have ek : ((PP p ks cs (va_up ls no (f256 k2)) vs a4).2.1 no).val = le.val := congrArg Fin.val hk
      rw [ek]
      have en2 : R_needs (RP r a4 false le dc (f256 k2) dv) 61 = if tkB r a4 61 = true then RP r (f81 (a4.val + 1)) false le dc (f256 k2) dv else RP r a4 true le dc (f256 k2) dv := needs_f r a4 le dc (f256 k2) dv (c := 61) (by decide)
      by_cases h119 : le.val = 119
      · rw [if_pos h119, (takes_PP ht hl ks cs (va_up ls no (f256 k2)) vs a4 61).1]
        by_cases t61 : tkB r a4 61 = true
        · rw [if_pos t61] at en2 ⊢
          have q61 := tk_at t61
          rw [hl] at q61
          have eT2 : P_takes (PP p ks cs (va_up ls no (f256 k2)) vs a4) 61 = PP p ks cs (va_up ls no (f256 k2)) vs (f81 (a4.val + 1)) := (takes_PP ht hl ks cs (va_up ls no (f256 k2)) vs a4 61).2.trans (if_pos t61)
          rw [eT2, dig_PP ht hl]
          generalize ha5 : f81 (a4.val + 1) = a5 at q61 en2 ⊢
          by_cases hd2 : dgB r a5 9 = true
          · rw [if_pos hd2]
            obtain ⟨k3, a6, m1, m2, m3, m4, m5⟩ := num_f1 ht hl (h := 9999) (by decide) (by rw [h9b]; exact hd2) ks cs (va_up ls no (f256 k2)) vs le dc (f256 k2) dv
            have e5 : R_d5 (RP r a4 false le dc (f256 k2) dv) = RP r a6 false le dc (f256 k2) (nI k3) := by
              unfold R_d5
              rw [if_pos (show (RP r a4 false le dc (f256 k2) dv).2.2.2.2.2.2.2.2.2.2.2.2.1.val = 119 from h119), en2, m2]
              rfl
            rw [e5, m1]
            refine ⟨true, va_up ls no (f256 k2), upd vs no (nI k3), a6, f256 k2, nI k3, rfl, rfl, by omega, m4, fun j hj => ⟨up_ne _ _ hj, u_ne hj⟩, fun _ => ⟨(up_at _ _ _).symm, fun _ => ⟨u_eq.symm, ?_⟩⟩⟩
            rw [show (0 : Int32) = nI 0 from rfl, nI_leI (by decide) (by omega)]
            omega
          · rw [if_neg hd2]
            have e5 : R_d5 (RP r a4 false le dc (f256 k2) dv) = RP r a5 true le dc (f256 k2) (nI 0) := by
              unfold R_d5
              rw [if_pos (show (RP r a4 false le dc (f256 k2) dv).2.2.2.2.2.2.2.2.2.2.2.2.1.val = 119 from h119), en2, num_f0 r a5 le dc (f256 k2) dv (h := 9999) (by decide) (by rw [h9b]; simpa using hd2)]
              rfl
            rw [e5]
            exact ⟨false, va_up ls no (f256 k2), vs, a5, f256 k2, nI 0, rfl, rfl, by omega, by omega, fun j hj => ⟨up_ne _ _ hj, rfl⟩, fun z => nomatch z⟩
        · rw [if_neg t61] at en2 ⊢
          have eT2 : P_takes (PP p ks cs (va_up ls no (f256 k2)) vs a4) 61 = PP p ks cs (va_up ls no (f256 k2)) vs a4 := (takes_PP ht hl ks cs (va_up ls no (f256 k2)) vs a4 61).2.trans (if_neg t61)
          rw [eT2]
          have e5 : R_d5 (RP r a4 false le dc (f256 k2) dv) = RP r a4 true le dc (f256 k2) (nI 0) := by
            unfold R_d5
            rw [if_pos (show (RP r a4 false le dc (f256 k2) dv).2.2.2.2.2.2.2.2.2.2.2.2.1.val = 119 from h119), en2, num_w]
            rfl
          rw [e5]
          exact ⟨false, va_up ls no (f256 k2), vs, a4, f256 k2, nI 0, rfl, rfl, by omega, n4, fun j hj => ⟨up_ne _ _ hj, rfl⟩, fun z => nomatch z⟩
      · rw [if_neg h119]
        have e5 : R_d5 (RP r a4 false le dc (f256 k2) dv) = RP r a4 false le dc (f256 k2) dv := by
          unfold R_d5
          exact if_neg (show ¬ (RP r a4 false le dc (f256 k2) dv).2.2.2.2.2.2.2.2.2.2.2.2.1.val = 119 from h119)
        rw [e5]
        exact ⟨true, va_up ls no (f256 k2), vs, a4, f256 k2, dv, rfl, rfl, by omega, n4, fun j hj => ⟨up_ne _ _ hj, rfl⟩, fun _ => ⟨(up_at _ _ _).symm, fun z => absurd z h119⟩⟩
    · rw [if_neg hd]
      have e4 : R_d4 (RP r a false le dc dl dv) = RP r a3 true le dc (f256 0) dv := by
        unfold R_d4
        rw [if_neg (show ¬ (RP r a false le dc dl dv).2.2.2.2.2.2.2.2.2.2.2.2.1.val = 102 from hne), en, num_f0 r a3 le dc dl dv (h := 255) (by decide) (by rw [h9a]; simpa using hd)]
        rfl
      rw [e4]
      obtain ⟨dv2, e5⟩ := d5_w r a3 le dc (f256 0) dv
      rw [e5]
      exact ⟨false, ls, vs, a3, f256 0, dv2, rfl, rfl, by omega, by omega, fun j hj => ⟨rfl, rfl⟩, fun z => nomatch z⟩
  · rw [if_neg t46] at en ⊢
    have eT : P_takes (PP p ks cs ls vs a) 46 = PP p ks cs ls vs a := (takes_PP ht hl ks cs ls vs a 46).2.trans (if_neg t46)
    rw [eT]
    have e4 : R_d4 (RP r a false le dc dl dv) = RP r a true le dc (f256 0) dv := by
      unfold R_d4
      rw [if_neg (show ¬ (RP r a false le dc dl dv).2.2.2.2.2.2.2.2.2.2.2.2.1.val = 102 from hne), en, num_w]
      rfl
    rw [e4]
    obtain ⟨dv2, e5⟩ := d5_w r a le dc (f256 0) dv
    rw [e5]
    exact ⟨false, ls, vs, a, f256 0, dv2, rfl, rfl, Nat.le_refl _, ha, fun j hj => ⟨rfl, rfl⟩, fun z => nomatch z⟩
def kd (r : RV) (a : Fin 81) : Nat := if r.2.2.2.2.2.2.2.1.val ≤ a.val then 59 else (r.2.2.2.2.2.2.1 a.val).val
theorem dL_eq (r : RV) (a : Fin 81) (le : Fin 65536) (dc : Fin 4) (dl : Fin 256) (dv : Int32) : R_dL (RP r a false le dc dl dv) = RP r a false (f16 (if P_isK (kd r a) = true then kd r a else 0)) dc dl dv := by
  have n1 : R_next (RP r a false le dc dl dv) 114 114 = tkB r a 114 := nx_one r a le dc dl dv (c := 114) (by decide)
  have n2 : R_next (RP r a false le dc dl dv) 119 119 = tkB r a 119 := nx_one r a le dc dl dv (c := 119) (by decide)
  have n3 : R_next (RP r a false le dc dl dv) 100 100 = tkB r a 100 := nx_one r a le dc dl dv (c := 100) (by decide)
  have n4 : R_next (RP r a false le dc dl dv) 102 102 = tkB r a 102 := nx_one r a le dc dl dv (c := 102) (by decide)
  unfold R_dL
  rw [n1, n2, n3, n4]
  show (if tkB r a 114 = true then RP r a false (f16 (r.2.2.2.2.2.2.1 a.val).val) dc dl dv else if tkB r a 119 = true then RP r a false (f16 (r.2.2.2.2.2.2.1 a.val).val) dc dl dv else if tkB r a 100 = true then RP r a false (f16 (r.2.2.2.2.2.2.1 a.val).val) dc dl dv else if tkB r a 102 = true then RP r a false (f16 (r.2.2.2.2.2.2.1 a.val).val) dc dl dv else RP r a false (f16 0) dc dl dv) = _
  by_cases z : r.2.2.2.2.2.2.2.1.val ≤ a.val
  · have t : ∀ c, tkB r a c = false := fun c => by unfold tkB; rw [decide_eq_true z]; rfl
    have e : kd r a = 59 := if_pos z
    rw [t, t, t, t, e, if_neg (by decide), if_neg (by decide)]
    rfl
  · have t : ∀ c, tkB r a c = decide ((r.2.2.2.2.2.2.1 a.val).val = c) := fun c => by unfold tkB; rw [decide_eq_false z]; rfl
    have e : kd r a = (r.2.2.2.2.2.2.1 a.val).val := if_neg z
    rw [t, t, t, t, e]
    generalize (r.2.2.2.2.2.2.1 a.val).val = d
    unfold P_isK
    by_cases h1 : d = 114
    · rw [if_pos (by rw [h1]; rfl), if_pos (by rw [h1]; rfl)]
    · rw [if_neg (by simp [h1])]
      by_cases h2 : d = 119
      · rw [if_pos (by rw [h2]; rfl), if_pos (by rw [h2]; rfl)]
      · rw [if_neg (by simp [h2])]
        by_cases h3 : d = 100
        · rw [if_pos (by rw [h3]; rfl), if_pos (by rw [h3]; rfl)]
        · rw [if_neg (by simp [h3])]
          by_cases h4 : d = 102
          · rw [if_pos (by rw [h4]; rfl), if_pos (by rw [h4]; rfl)]
          · rw [if_neg (by simp [h4]), if_neg (by simp [h1, h2, h3, h4])]
theorem d2_eq (r : RV) (a : Fin 81) (le : Fin 65536) (dc : Fin 4) (dl : Fin 256) (dv : Int32) : R_d2 (RP r a false le dc dl dv) = RP r a (decide (le.val = 0)) le dc dl dv := by
  unfold R_d2
  show (if false = true then _ else if le.val = 0 then RP r a true le dc dl dv else RP r a false le dc dl dv) = _
  rw [if_neg (by decide)]
  by_cases h : le.val = 0
  · rw [if_pos h, decide_eq_true h]
  · rw [if_neg h, decide_eq_false h]
def ISK (d : Nat) : Prop := d = 114 ∨ d = 119 ∨ d = 100 ∨ d = 102
def DEED (p : PV) (r : RV) (no : Nat) (ks : Nat → Fin 65536) (cs : Nat → Fin 4) (ls : Nat → Fin 256) (vs : Nat → Int32) (a : Fin 81) (X : Bool × PV) (Y : RV) : Prop := ∃ b ks2 cs2 ls2 vs2 a2 le2 dc2 dl2 dv2, X = (b, PP p ks2 cs2 ls2 vs2 a2) ∧ Y = RP r a2 (!b) le2 dc2 dl2 dv2 ∧ a2.val ≤ p.2.2.2.2.2.1.val ∧ (∀ j, j ≠ no → ks2 j = ks j ∧ cs2 j = cs j ∧ ls2 j = ls j ∧ vs2 j = vs j) ∧ (b = true → a.val + 2 ≤ a2.val ∧ le2 = ks2 no ∧ dc2 = cs2 no ∧ ISK le2.val ∧ (le2.val ≠ 102 → dl2 = ls2 no) ∧ (le2.val = 119 → dv2 = vs2 no ∧ 0 ≤ dv2))
theorem deed_sim {p : PV} {r : RV} (no : Nat) (ht : r.2.2.2.2.2.2.1 = p.1) (hl : r.2.2.2.2.2.2.2.1 = p.2.2.2.2.2.1) (ks : Nat → Fin 65536) (cs : Nat → Fin 4) (ls : Nat → Fin 256) (vs : Nat → Int32) {a : Fin 81} (ha : a.val ≤ p.2.2.2.2.2.1.val) (le : Fin 65536) (dc : Fin 4) (dl : Fin 256) (dv : Int32) : DEED p r no ks cs ls vs a (P_cmd (PP p ks cs ls vs a) no) (R_deed (RP r a false le dc dl dv)) := by
  have hk : P_kind (PP p ks cs ls vs a) = kd r a := by
    unfold kd
    rw [ht, hl]
    rfl
  have h93 : h9 3 = 3 := rfl
  unfold P_cmd R_deed
  rw [hk, dL_eq, d2_eq]
  by_cases hK : P_isK (kd r a) = true
  · rw [if_pos hK, if_pos hK]
    have hisk : ISK (kd r a) := by
      unfold P_isK at hK
      simp only [Bool.or_eq_true, decide_eq_true_iff] at hK
      exact hK
    have hal : a.val < p.2.2.2.2.2.1.val := by
      rw [← hl]
      by_cases z : r.2.2.2.2.2.2.2.1.val ≤ a.val
      · rw [show kd r a = 59 from if_pos z] at hK
        exact absurd hK (by decide)
      · omega
    have hlen := p.2.2.2.2.2.1.isLt
    have ha1 : (f81 (a.val + 1)).val = a.val + 1 := f81_at (by omega)
    have hkb : kd r a < 65536 := by unfold ISK at hisk; omega
    have hle : (f16 (kd r a)).val = kd r a := Nat.mod_eq_of_lt hkb
    have h0 : decide ((f16 (kd r a)).val = 0) = false := decide_eq_false (by rw [hle]; unfold ISK at hisk; omega)
    rw [h0]
    have e3s : R_d3s (RP r a false (f16 (kd r a)) dc dl dv) = RP r (f81 (a.val + 1)) false (f16 (kd r a)) dc dl dv := by
      unfold R_d3s
      exact if_neg (by intro q; exact Bool.noConfusion (show false = true from q))
    have eP : P_setKind (P_setAt (PP p ks cs ls vs a) ((PP p ks cs ls vs a).2.2.2.2.2.2.2.val + 1)) no (kd r a) = PP p (va_up ks no (f16 (kd r a))) cs ls vs (f81 (a.val + 1)) := rfl
    rw [eP]
    unfold P_cmd2
    rw [dig_PP ht hl]
    generalize f81 (a.val + 1) = a1 at ha1 e3s ⊢
    by_cases hd : dgB r a1 3 = true
    · rw [if_pos hd]
      obtain ⟨k2, a2, n1, n2, n3, n4, n5⟩ := num_f1 ht hl (h := 3) (by decide) (by rw [h93]; exact hd) (va_up ks no (f16 (kd r a))) cs ls vs (f16 (kd r a)) dc dl dv
      have e3 : R_d3 (RP r a false (f16 (kd r a)) dc dl dv) = RP r a2 false (f16 (kd r a)) (f4 k2) dl dv := by
        unfold R_d3
        rw [e3s, n2]
        rfl
      rw [e3, n1]
      have eC : P_setCore (k2, PP p (va_up ks no (f16 (kd r a))) cs ls vs a2).2 no (k2, PP p (va_up ks no (f16 (kd r a))) cs ls vs a2).1 = PP p (va_up ks no (f16 (kd r a))) (va_up cs no (f4 k2)) ls vs a2 := rfl
      rw [eC]
      by_cases h102 : kd r a = 102
      · rw [if_pos h102]
        have e4 : R_d4 (RP r a2 false (f16 (kd r a)) (f4 k2) dl dv) = RP r a2 false (f16 (kd r a)) (f4 k2) dl dv := by
          unfold R_d4
          exact if_pos (show (f16 (kd r a)).val = 102 by rw [hle]; exact h102)
        have e5 : R_d5 (RP r a2 false (f16 (kd r a)) (f4 k2) dl dv) = RP r a2 false (f16 (kd r a)) (f4 k2) dl dv := by
          unfold R_d5
          exact if_neg (show ¬ (f16 (kd r a)).val = 119 by rw [hle]; omega)
        rw [e4, e5]
        exact ⟨true, _, _, _, _, a2, _, _, _, _, rfl, rfl, n4, fun j hj => ⟨up_ne _ _ hj, up_ne _ _ hj, rfl, rfl⟩, fun _ => ⟨by omega, (up_at _ _ _).symm, (up_at _ _ _).symm, by rw [hle]; exact hisk, fun z => absurd (hle.trans h102) z, fun z => absurd (hle.symm.trans z) (by omega)⟩⟩
      · rw [if_neg h102]
        obtain ⟨b, ls2, vs2, a5, dl2, dv2, s1, s2, s3, s4, s5, s6⟩ := lv_sim (p := p) (r := r) no ht hl (va_up ks no (f16 (kd r a))) (va_up cs no (f4 k2)) ls vs n4 (le := f16 (kd r a)) (up_at _ _ _) (by rw [hle]; exact h102) (f4 k2) dl dv
        rw [s1, s2]
        exact ⟨b, _, _, ls2, vs2, a5, _, _, dl2, dv2, rfl, rfl, s4, fun j hj => ⟨up_ne _ _ hj, up_ne _ _ hj, (s5 j hj).1, (s5 j hj).2⟩, fun hb => ⟨by omega, (up_at _ _ _).symm, (up_at _ _ _).symm, by rw [hle]; exact hisk, fun _ => (s6 hb).1, (s6 hb).2⟩⟩
    · rw [if_neg hd]
      have e3 : R_d3 (RP r a false (f16 (kd r a)) dc dl dv) = RP r a1 true (f16 (kd r a)) (f4 0) dl dv := by
        unfold R_d3
        rw [e3s, num_f0 r a1 (f16 (kd r a)) dc dl dv (h := 3) (by decide) (by rw [h93]; simpa using hd)]
        rfl
      rw [e3]
      obtain ⟨dl2, dv2, e5⟩ := d45_w r a1 (f16 (kd r a)) (f4 0) dl dv
      rw [e5]
      exact ⟨false, _, cs, ls, vs, a1, _, _, dl2, dv2, rfl, rfl, by omega, fun j hj => ⟨up_ne _ _ hj, rfl, rfl, rfl⟩, fun z => nomatch z⟩
  · rw [if_neg hK, if_neg hK, show decide ((f16 0).val = 0) = true from rfl, d3_w]
    obtain ⟨dl2, dv2, e5⟩ := d45_w r a (f16 0) (f4 0) dl dv
    rw [e5]
    exact ⟨false, ks, cs, ls, vs, a, _, _, dl2, dv2, rfl, rfl, ha, fun j hj => ⟨rfl, rfl, rfl, rfl⟩, fun z => nomatch z⟩
