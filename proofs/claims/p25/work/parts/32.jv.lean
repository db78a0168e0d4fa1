/-! ===== tallies as numbers; what always holds, for the property ===== -/
def sum4 (f : Nat → Nat) : Nat := f 0 + f 1 + f 2 + f 3
theorem sum4_eq {f g : Nat → Nat} (h : ∀ o, o < 4 → f o = g o) : sum4 f = sum4 g := by
  unfold sum4
  rw [h 0 (by decide), h 1 (by decide), h 2 (by decide), h 3 (by decide)]
theorem sum4_one {f g : Nat → Nat} {r : Nat} (hr : r < 4) (h : ∀ o, o < 4 → g o = f o + if o = r then 1 else 0) : sum4 g = sum4 f + 1 := by
  unfold sum4
  rw [h 0 (by decide), h 1 (by decide), h 2 (by decide), h 3 (by decide)]
  rcases (show r = 0 ∨ r = 1 ∨ r = 2 ∨ r = 3 by omega) with q | q | q | q <;> subst q <;> simp <;> omega
theorem sum4_but {f g : Nat → Nat} {r : Nat} (hr : r < 4) (h : ∀ o, o < 4 → g o = f o + if o = r then 0 else 1) : sum4 g = sum4 f + 3 := by
  unfold sum4
  rw [h 0 (by decide), h 1 (by decide), h 2 (by decide), h 3 (by decide)]
  rcases (show r = 0 ∨ r = 1 ∨ r = 2 ∨ r = 3 by omega) with q | q | q | q <;> subst q <;> simp <;> omega
def up1 (t : Nat → Nat) (a : Nat) : Nat → Nat := fun j => if j = a then t a + 1 else t j
def rt (t : Nat → Nat) (may hold : Bool) : Nat → Nat := fun j => if j = 2 then t 2 + (if may = true then 1 else 0) else if j = 3 then t 3 + (if may = true ∧ hold = false then 1 else 0) else if j = 4 then t 4 + (if may = true then 0 else 1) else t j
theorem upd_up1 {f : Nat → Int32} {t : Nat → Nat} (h : ∀ j, f j = nI (t j)) (a : Nat) : ∀ j, upd f a (f a + 1) j = nI (up1 t a j) := by
  intro j
  unfold upd up1
  by_cases e : j = a
  · rw [if_pos e, if_pos e, h a]; exact nI_inc _
  · rw [if_neg e, if_neg e, h j]
theorem reach_rt {k : KV} {n : Fin 256} {t : Nat → Nat} (h : ∀ j, k.2.2.2.1 j = nI (t j)) : ∀ j, (K_reach k n).2.2.2.1 j = nI (rt t (K_may k n) (K_holds k n) j) := by
  have g : ∀ t2 : Nat → Nat, (∀ j, t2 j = rt t (K_may k n) (K_holds k n) j) → ∀ {f : Nat → Int32}, (∀ j, f j = nI (t2 j)) → ∀ j, f j = nI (rt t (K_may k n) (K_holds k n) j) := by
    intro t2 e f hf j
    rw [hf j, e j]
  rw [reach_t]
  by_cases h1 : K_may k n = true
  · rw [if_pos h1]
    by_cases h2 : K_holds k n = true
    · rw [if_pos h2]
      refine g (up1 t 2) (fun j => ?_) (upd_up1 h 2)
      unfold up1 rt
      rw [h1, h2]
      by_cases a : j = 2
      · simp [a]
      · by_cases b : j = 3
        · simp [b]
        · by_cases c : j = 4 <;> simp [a, b, c]
    · rw [if_neg h2]
      refine g (up1 (up1 t 2) 3) (fun j => ?_) (upd_up1 (upd_up1 h 2) 3)
      rw [Bool.not_eq_true] at h2
      unfold up1 rt
      rw [h1, h2]
      by_cases a : j = 2
      · simp [a]
      · by_cases b : j = 3
        · simp [b]
        · by_cases c : j = 4 <;> simp [a, b, c]
  · rw [if_neg h1]
    refine g (up1 t 4) (fun j => ?_) (upd_up1 h 4)
    rw [Bool.not_eq_true] at h1
    unfold up1 rt
    rw [h1]
    by_cases a : j = 2
    · simp [a]
    · by_cases b : j = 3
      · simp [b]
      · by_cases c : j = 4 <;> simp [a, b, c]
theorem rt_24 (t : Nat → Nat) (a b : Bool) : rt t a b 2 + rt t a b 4 = t 2 + t 4 + 1 := by
  show t 2 + (if a = true then 1 else 0) + (t 4 + (if a = true then 0 else 1)) = _
  cases a <;> simp <;> omega
theorem rt_1 (t : Nat → Nat) (a b : Bool) : rt t a b 1 = t 1 := rfl
theorem rt_le {t : Nat → Nat} {B : Nat} (a b : Bool) (h : ∀ j, t j ≤ B) : ∀ j, rt t a b j ≤ B + 1 := by
  intro j
  have h2 := h 2
  have h3 := h 3
  have h4 := h 4
  have hj := h j
  unfold rt
  by_cases a2 : j = 2
  · rw [if_pos a2]; cases a <;> simp <;> omega
  · rw [if_neg a2]
    by_cases a3 : j = 3
    · rw [if_pos a3]; cases a <;> cases b <;> simp <;> omega
    · rw [if_neg a3]
      by_cases a4 : j = 4
      · rw [if_pos a4]; cases a <;> simp <;> omega
      · rw [if_neg a4]; omega
theorem rt_32 {t : Nat → Nat} (a b : Bool) (h : t 3 ≤ t 2) : rt t a b 3 ≤ rt t a b 2 := by
  show t 3 + (if a = true ∧ b = false then 1 else 0) ≤ t 2 + (if a = true then 1 else 0)
  cases a <;> cases b <;> simp <;> omega
theorem up1_le {t : Nat → Nat} {B : Nat} (a : Nat) (h : ∀ j, t j ≤ B) : ∀ j, up1 t a j ≤ B + 1 := by
  intro j
  have ha := h a
  have hj := h j
  unfold up1
  split <;> omega
theorem up1_ne (t : Nat → Nat) {a j : Nat} (h : j ≠ a) : up1 t a j = t j := if_neg h
theorem up15_le {t : Nat → Nat} {B : Nat} (h : ∀ j, t j ≤ B) : ∀ j, up1 (up1 t 1) 5 j ≤ B + 1 := by
  intro j
  have h1 := h 1
  have h5 := h 5
  have hj := h j
  unfold up1
  by_cases a : j = 5
  · subst a; simp; omega
  · rw [if_neg a]; split <;> omega
def TN (t : Nat → Nat → Nat) (W w B : Nat) : Prop := (∀ o, o < 4 → ∀ j, t o j ≤ B) ∧ (∀ o, o < 4 → t o 3 ≤ t o 2) ∧ W ≤ B ∧ w ≤ W ∧ sum4 (fun o => t o 2 + t o 4) = 3 * (sum4 (fun o => t o 1) + w)
def TI (m : MV) (B : Nat) : Prop := ∃ (t : Nat → Nat → Nat) (W w : Nat), (∀ o, o < 4 → ∀ j, tl m o j = nI (t o j)) ∧ m.2.2.2.2.2 = nI W ∧ TN t W w B
theorem sg_w {m m2 : MV} (h : sg m2 = sg m) : m2.2.2.2.2.2 = m.2.2.2.2.2 := by
  have e := congrArg (fun z : Int32 × Int32 × Int32 => z.2.2) h
  exact e
theorem TI_same {m m2 : MV} {B : Nat} (h : TI m B) (ht : ∀ o, o < 4 → tl m2 o = tl m o) (hw : m2.2.2.2.2.2 = m.2.2.2.2.2) : TI m2 (B + 1) := by
  obtain ⟨t, W, w, h1, h2, h3, h4, h5, h6, h7⟩ := h
  exact ⟨t, W, w, fun o ho j => by rw [ht o ho]; exact h1 o ho j, by rw [hw]; exact h2, fun o ho j => Nat.le_succ_of_le (h3 o ho j), h4, Nat.le_succ_of_le h5, h6, h7⟩
/-- one core's tally goes up, not one of those that are added up -/
theorem TI_up {m m2 : MV} {B r a : Nat} (h : TI m B) (hr : r < 4) (ha : a = 0 ∨ a = 5) (ht : ∀ o, o < 4 → o ≠ r → tl m2 o = tl m o) (ht1 : tl m2 r = upd (tl m r) a (tl m r a + 1)) (hw : m2.2.2.2.2.2 = m.2.2.2.2.2) : TI m2 (B + 1) := by
  obtain ⟨t, W, w, h1, h2, h3, h4, h5, h6, h7⟩ := h
  have n1 : 1 ≠ a := by omega
  have n2 : 2 ≠ a := by omega
  have n3 : 3 ≠ a := by omega
  have n4 : 4 ≠ a := by omega
  have e1 : sum4 (fun o => (if o = r then up1 (t r) a else t o) 2 + (if o = r then up1 (t r) a else t o) 4) = sum4 (fun o => t o 2 + t o 4) := by
    refine sum4_eq (fun o _ => ?_)
    by_cases e : o = r
    · subst e; simp only [if_true, up1_ne _ n2, up1_ne _ n4]
    · simp only [if_neg e]
  have e2 : sum4 (fun o => (if o = r then up1 (t r) a else t o) 1) = sum4 (fun o => t o 1) := by
    refine sum4_eq (fun o _ => ?_)
    by_cases e : o = r
    · subst e; simp only [if_true, up1_ne _ n1]
    · simp only [if_neg e]
  refine ⟨fun o => if o = r then up1 (t r) a else t o, W, w, fun o ho j => ?_, by rw [hw]; exact h2, fun o ho j => ?_, fun o ho => ?_, Nat.le_succ_of_le h5, h6, ?_⟩
  · show tl m2 o j = nI ((if o = r then up1 (t r) a else t o) j)
    by_cases e : o = r
    · subst e
      rw [if_pos rfl, ht1]
      exact upd_up1 (h1 o ho) a j
    · rw [if_neg e, ht o ho e]
      exact h1 o ho j
  · show (if o = r then up1 (t r) a else t o) j ≤ B + 1
    by_cases e : o = r
    · subst e
      rw [if_pos rfl]
      exact up1_le a (h3 o ho) j
    · rw [if_neg e]
      exact Nat.le_succ_of_le (h3 o ho j)
  · show (if o = r then up1 (t r) a else t o) 3 ≤ (if o = r then up1 (t r) a else t o) 2
    by_cases e : o = r
    · subst e
      rw [if_pos rfl, up1_ne _ n3, up1_ne _ n2]
      exact h4 o ho
    · rw [if_neg e]
      exact h4 o ho
  · show sum4 (fun o => (if o = r then up1 (t r) a else t o) 2 + (if o = r then up1 (t r) a else t o) 4) = 3 * (sum4 (fun o => (if o = r then up1 (t r) a else t o) 1) + w)
    rw [e1, e2]
    exact h7
/-- the others are reached, the core's own tallies as tr -/
theorem TI_reach {m m2 : MV} {B r W2 w2 d : Nat} {n : Fin 256} {t : Nat → Nat → Nat} {W w : Nat} {tr : Nat → Nat} (hr : r < 4) (h1 : ∀ o, o < 4 → ∀ j, tl m o j = nI (t o j)) (hN : TN t W w B) (ht : ∀ o, o < 4 → o ≠ r → tl m2 o = (K_reach (m.2.1 o) n).2.2.2.1) (ht1 : ∀ j, tl m2 r j = nI (tr j)) (b1 : ∀ j, tr j ≤ B + 1) (b2 : tr 2 = t r 2 ∧ tr 3 = t r 3 ∧ tr 4 = t r 4 ∧ tr 1 = t r 1 + d) (hw : m2.2.2.2.2.2 = nI W2) (hW : W2 ≤ B + 1) (hw2 : w2 ≤ W2) (hd : d + w2 = w + 1) : TI m2 (B + 1) := by
  obtain ⟨h3, h4, h5, h6, h7⟩ := hN
  have e1 : sum4 (fun o => (if o = r then tr else rt (t o) (K_may (m.2.1 o) n) (K_holds (m.2.1 o) n)) 2 + (if o = r then tr else rt (t o) (K_may (m.2.1 o) n) (K_holds (m.2.1 o) n)) 4) = sum4 (fun o => t o 2 + t o 4) + 3 := by
    refine sum4_but hr (fun o _ => ?_)
    by_cases e : o = r
    · subst e; simp only [if_true]; omega
    · simp only [if_neg e]
      rw [rt_24]
  have e2 : sum4 (fun o => (if o = r then tr else rt (t o) (K_may (m.2.1 o) n) (K_holds (m.2.1 o) n)) 1) = sum4 (fun o => t o 1) + d := by
    have z : ∀ o, (if o = r then tr else rt (t o) (K_may (m.2.1 o) n) (K_holds (m.2.1 o) n)) 1 = t o 1 + if o = r then d else 0 := by
      intro o
      by_cases e : o = r
      · subst e; simp only [if_true]; omega
      · simp only [if_neg e, rt_1]; omega
    simp only [z]
    unfold sum4
    rcases (show r = 0 ∨ r = 1 ∨ r = 2 ∨ r = 3 by omega) with q | q | q | q <;> subst q <;> simp <;> omega
  refine ⟨fun o => if o = r then tr else rt (t o) (K_may (m.2.1 o) n) (K_holds (m.2.1 o) n), W2, w2, fun o ho j => ?_, hw, fun o ho j => ?_, fun o ho => ?_, hW, hw2, ?_⟩
  · show tl m2 o j = nI ((if o = r then tr else rt (t o) (K_may (m.2.1 o) n) (K_holds (m.2.1 o) n)) j)
    by_cases e : o = r
    · subst e
      rw [if_pos rfl]
      exact ht1 j
    · rw [if_neg e, ht o ho e]
      exact reach_rt (h1 o ho) j
  · show (if o = r then tr else rt (t o) (K_may (m.2.1 o) n) (K_holds (m.2.1 o) n)) j ≤ B + 1
    by_cases e : o = r
    · rw [if_pos e]
      exact b1 j
    · rw [if_neg e]
      exact rt_le _ _ (h3 o ho) j
  · show (if o = r then tr else rt (t o) (K_may (m.2.1 o) n) (K_holds (m.2.1 o) n)) 3 ≤ (if o = r then tr else rt (t o) (K_may (m.2.1 o) n) (K_holds (m.2.1 o) n)) 2
    by_cases e : o = r
    · subst e
      rw [if_pos rfl, b2.1, b2.2.1]
      exact h4 o ho
    · rw [if_neg e]
      exact rt_32 _ _ (h4 o ho)
  · show sum4 (fun o => (if o = r then tr else rt (t o) (K_may (m.2.1 o) n) (K_holds (m.2.1 o) n)) 2 + (if o = r then tr else rt (t o) (K_may (m.2.1 o) n) (K_holds (m.2.1 o) n)) 4) = 3 * (sum4 (fun o => (if o = r then tr else rt (t o) (K_may (m.2.1 o) n) (K_holds (m.2.1 o) n)) 1) + w2)
    rw [e1, e2, h7]
    omega
theorem TI_read {m : MV} {B r : Nat} (n : Fin 256) (h : TI m B) (hr : r < 4) : TI (M_read m r n).1 (B + 1) := by
  by_cases hh : K_holds (m.2.1 r) n = true
  · rw [read_hit hh]
    exact TI_up (a := 0) h hr (Or.inl rfl) (fun o _ hor => tl_tn m 0 hor) (tl_t1 m r 0) rfl
  · obtain ⟨a1, a2, a3⟩ := read_tl hh
    obtain ⟨t, W, w, h1, h2, hN⟩ := h
    have ew : (M_read m r n).1.2.2.2.2.2 = nI W := (congrArg (fun z : Int32 × Int32 × Int32 => z.2.2) a3).trans h2
    rcases a2 with a2 | a2
    · refine TI_reach (n := n) (tr := up1 (t r) 1) (d := 1) (w2 := w) (W2 := W) hr h1 hN a1 (fun j => ?_) (up1_le 1 (hN.1 r hr)) ⟨rfl, rfl, rfl, rfl⟩ ew (Nat.le_succ_of_le hN.2.2.1) hN.2.2.2.1 (by omega)
      rw [a2]
      exact upd_up1 (h1 r hr) 1 j
    · refine TI_reach (n := n) (tr := up1 (up1 (t r) 1) 5) (d := 1) (w2 := w) (W2 := W) hr h1 hN a1 (fun j => ?_) (up15_le (hN.1 r hr)) ⟨rfl, rfl, rfl, rfl⟩ ew (Nat.le_succ_of_le hN.2.2.1) hN.2.2.2.1 (by omega)
      rw [a2]
      exact upd_up1 (upd_up1 (h1 r hr) 1) 5 j
theorem TI_write {m : MV} {B r : Nat} (n : Fin 256) (x : Int32) (h : TI m B) (hr : r < 4) : TI (M_write m r n x).1 (B + 1) := by
  obtain ⟨t, W, w, h1, h2, hN⟩ := h
  by_cases hh : K_hd (m.2.1 r) n = true
  · obtain ⟨a1, a3⟩ := write_hd x hh
    have ew : (M_write m r n x).1.2.2.2.2.2 = nI (W + 1) := by
      have e := congrArg (fun z : Int32 × Int32 × Int32 => z.2.2) a3
      change (M_write m r n x).1.2.2.2.2.2 = m.2.2.2.2.2 + 1 at e
      rw [e, h2]
      exact nI_inc W
    obtain ⟨h3, h4, h5, h6, h7⟩ := hN
    exact ⟨t, W + 1, w, fun o ho j => by rw [a1]; exact h1 o ho j, ew, fun o ho j => Nat.le_succ_of_le (h3 o ho j), h4, by omega, by omega, h7⟩
  · obtain ⟨a1, a2, a3⟩ := write_tl x hh
    have ew : (M_write m r n x).1.2.2.2.2.2 = nI (W + 1) := by
      have e := congrArg (fun z : Int32 × Int32 × Int32 => z.2.2) a3
      change (M_write m r n x).1.2.2.2.2.2 = m.2.2.2.2.2 + 1 at e
      rw [e, h2]
      exact nI_inc W
    have hW := hN.2.2.1
    have hw := hN.2.2.2.1
    rcases a2 with a2 | ⟨-, a2⟩
    · refine TI_reach (n := n) (tr := t r) (d := 0) (w2 := w + 1) (W2 := W + 1) hr h1 hN a1 (fun j => ?_) (fun j => Nat.le_succ_of_le (hN.1 r hr j)) ⟨rfl, rfl, rfl, rfl⟩ ew (by omega) (by omega) (by omega)
      rw [a2]
      exact h1 r hr j
    · refine TI_reach (n := n) (tr := up1 (t r) 5) (d := 0) (w2 := w + 1) (W2 := W + 1) hr h1 hN a1 (fun j => ?_) (up1_le 5 (hN.1 r hr)) ⟨rfl, rfl, rfl, rfl⟩ ew (by omega) (by omega) (by omega)
      rw [a2]
      exact upd_up1 (h1 r hr) 5 j
theorem TI_drop {m : MV} {B r : Nat} {n : Fin 256} (h : TI m B) (hh : K_holds (m.2.1 r) n = true) : TI (M_drop m r n).1 (B + 1) := by
  unfold M_drop
  rw [if_pos hh]
  exact TI_same h (fun o _ => tl_vac m r _ o) (sg_w (sg_vac m r (n.val % 8)))
theorem TI_forget {m : MV} {B r : Nat} (h : TI m B) (hr : r < 4) (hh : ¬ K_nothing (m.2.1 r) = true) : TI (M_forget m r).1 (B + 1) := by
  unfold M_forget
  rw [if_neg hh]
  exact TI_up (a := 5) h hr (Or.inr rfl) (fun o _ hor => tl_fan m none hor) (tl_fa1 m r none) (sg_w (sg_fa m r none))
-- empty places aren't dirty; counters end at 9
def C9 (f : FV) : Prop := ∀ c, f.1 c ≤ 9
def PK (k : KV) : Prop := (∀ p, k.1 p = none → k.2.2.1 p = false) ∧ C9 k.2.2.2.2
def PM (m : MV) : Prop := (∀ o, PK (m.2.1 o)) ∧ m.2.2.1 ≤ 9 ∧ 0 < m.2.2.2.1
theorem i_le9 {x lim : Int32} (h : x < lim) (hl : lim ≤ 9) : x + 1 ≤ 9 := by
  have h1 := Int32.lt_iff_toInt_lt.mp h
  have h2 := Int32.le_iff_toInt_le.mp hl
  have h3 := Int32.le_toInt x
  have h4 := Int32.toInt_lt x
  rw [show (9 : Int32).toInt = 9 from by decide] at h2
  rw [Int32.le_iff_toInt_le, Int32.toInt_add, show (1 : Int32).toInt = 1 from by decide, show (9 : Int32).toInt = 9 from by decide, Int.bmod_eq_of_le (by omega) (by omega)]
  omega
theorem i_dec9 {x : Int32} (h0 : ¬ x ≤ 0) (h : x ≤ 9) : x - 1 ≤ 9 := by
  have h1 := Int32.lt_iff_toInt_lt.mp (i_nle.mp h0)
  have h2 := Int32.le_iff_toInt_le.mp h
  rw [show (9 : Int32).toInt = 9 from by decide] at h2
  rw [show (0 : Int32).toInt = 0 from by decide] at h1
  rw [Int32.le_iff_toInt_le, Int32.toInt_sub, show (1 : Int32).toInt = 1 from by decide, show (9 : Int32).toInt = 9 from by decide, Int.bmod_eq_of_le (by omega) (by omega)]
  omega
theorem C9_raise {f : FV} {lim : Int32} (k : Nat) (h : C9 f) (hl : lim ≤ 9) : C9 (F_raise f k lim) := by
  unfold F_raise
  split
  · exact h
  · split
    · rename_i hlt
      intro c
      show upd f.1 k (f.1 k + 1) c ≤ 9
      unfold upd
      split
      · exact i_le9 hlt hl
      · exact h c
    · exact h
theorem C9_lower {f : FV} (k : Nat) (h : C9 f) : C9 (F_lower f k) := by
  unfold F_lower
  split
  · exact h
  · split
    · exact h
    · rename_i h0
      intro c
      show upd f.1 k (f.1 k - 1) c ≤ 9
      unfold upd
      split
      · exact i_dec9 h0 (h k)
      · exact h c
theorem C9_add {f : FV} {lim : Int32} (n : Nat) (h : C9 f) (hl : lim ≤ 9) : C9 (F_add f n lim) := C9_raise _ (C9_raise _ (f := F_setB f (n / 16) true) h hl) hl
theorem C9_remove {f : FV} (n : Nat) (h : C9 f) : C9 (F_remove f n) := C9_lower _ (C9_lower _ h)
theorem C9_wipe {f : FV} (h : C9 f) : C9 (F_wipe f) := by
  unfold F_wipe
  rw [it_w1, it_w2]
  intro c
  show (if c < 24 then (0 : Int32) else f.1 c) ≤ 9
  split
  · decide
  · exact h c
theorem PK_D {k : KV} (p : Nat) (h : PK k) : PK (K_setD k p false) := by
  refine ⟨fun p2 e => ?_, h.2⟩
  show va_up k.2.2.1 p false p2 = false
  unfold va_up
  split
  · rfl
  · exact h.1 p2 e
theorem PK_emp {k : KV} (p : Nat) (h : PK k) : PK (K_empty k p) := by
  refine ⟨fun p2 e => ?_, h.2⟩
  show va_up k.2.2.1 p false p2 = false
  change va_up k.1 p none p2 = none at e
  unfold va_up at e ⊢
  split
  · rfl
  · rename_i hp
    rw [if_neg hp] at e
    exact h.1 p2 e
theorem PK_F {k : KV} {f : FV} (h : PK k) (hf : C9 f) : PK (K_setF k f) := ⟨h.1, hf⟩
theorem PK_tick {k : KV} (t : Nat) (h : PK k) : PK (K_tick k t) := h
theorem PK_reach {k : KV} (n : Fin 256) (h : PK k) : PK (K_reach k n) := by
  have e := K_reach_same k n
  unfold PK
  rw [e.1, e.2.2.1, e.2.2.2]
  exact h
theorem PK_fill {k : KV} (n : Fin 256) (x : Int32) (b : Bool) (h : PK k) : PK (K_fill k n x b) := by
  refine ⟨fun p2 e => ?_, h.2⟩
  show va_up k.2.2.1 (n.val % 8) b p2 = false
  change va_up k.1 (n.val % 8) (some n) p2 = none at e
  unfold va_up at e ⊢
  split
  · rename_i hp
    rw [if_pos hp] at e
    cases e
  · rename_i hp
    rw [if_neg hp] at e
    exact h.1 p2 e
theorem PK_release {k : KV} (n : Fin 256) (h : PK k) : PK (K_release k n) := PK_emp _ (PK_F h (C9_remove _ h.2))
theorem PM_K {m : MV} {o : Nat} {k : KV} (h : PM m) (hk : PK k) : PM (M_setK m o k) := by
  refine ⟨fun o2 => ?_, h.2⟩
  by_cases ho : o2 = o
  · subst ho; rw [MsK1]; exact hk
  · rw [MsKn m k ho]; exact h.1 o2
theorem PM_wb {m : MV} (o p : Nat) (h : PM m) : PM (M_wb m o p) := by
  unfold M_wb
  split
  · exact h
  · split
    · exact PM_K (m := M_setMem m _ _) h (PK_D p (h.1 o))
    · exact h
theorem PM_rel {m : MV} (o : Nat) (n : Fin 256) (h : PM m) : PM (M_rel m o n) := PM_K h (PK_release n (h.1 o))
theorem PM_vac {m : MV} (o p : Nat) (h : PM m) : PM (M_vac m o p) := by
  unfold M_vac
  split
  · exact h
  · exact PM_rel o _ (PM_wb o p h)
theorem PM_emp {m : MV} (o p : Nat) (h : PM m) : PM (M_emp m o p) := PM_K h (PK_emp p (h.1 o))
theorem PM_tick {m : MV} (o t : Nat) (h : PM m) : PM (M_tick m o t) := PM_K h (h.1 o)
theorem PM_wipe {m : MV} (o : Nat) (h : PM m) : PM (M_wipe m o) := PM_K h (PK_F (h.1 o) (C9_wipe (h.1 o).2))
theorem PM_faL {m : MV} (o : Nat) (kept : Option (Fin 256)) (h : PM m) : ∀ k, PM (it (M_faF o kept) k (m, 0)).1
  | 0 => h
  | k + 1 => by
    have i := PM_faL o kept h k
    rw [it_s]
    generalize it (M_faF o kept) k (m, 0) = u at i
    unfold M_faF
    split
    · exact i
    · split
      · exact i
      · exact PM_emp o k (PM_wb o k i)
theorem PM_fa {m : MV} (o : Nat) (kept : Option (Fin 256)) (h : PM m) : PM (M_fa m o kept).1 := PM_tick o 5 (PM_wipe o (PM_faL o kept h 8))
theorem PM_add {m : MV} (o : Nat) (n : Fin 256) (h : PM m) : PM (M_add m o n) := PM_K h (PK_F (h.1 o) (C9_add _ (h.1 o).2 h.2.1))
theorem PM_fill {m : MV} (o : Nat) (n : Fin 256) (x : Int32) (b : Bool) (h : PM m) : PM (M_fill m o n x b) := PM_K h (PK_fill n x b (h.1 o))
theorem PM_begin {m : MV} (o : Nat) (n : Fin 256) (x : Int32) (b : Bool) (h : PM m) : PM (M_begin m o n x b) := by
  have a := PM_add o n (PM_fill o n x b h)
  unfold M_begin
  split
  · exact a
  · exact PM_add o n (PM_fa o (some n) a)
theorem PM_reach {m : MV} (o : Nat) (n : Fin 256) (h : PM m) : PM (M_reach m o n) := PM_K h (PK_reach n (h.1 o))
theorem PM_readL {m : MV} (r : Nat) (n : Fin 256) (h : PM m) : ∀ k, PM (it (M_readF r n) k m)
  | 0 => h
  | k + 1 => by
    have i := PM_readL r n h k
    rw [it_s]
    generalize it (M_readF r n) k m = u at i
    unfold M_readF
    split
    · exact i
    · split
      · split
        · exact PM_wb _ _ (PM_reach k n i)
        · exact PM_reach k n i
      · exact PM_reach k n i
theorem PM_takeL {m : MV} (r : Nat) (n : Fin 256) (h : PM m) : ∀ k, PM (it (M_takeF r n) k (m, 0)).1
  | 0 => h
  | k + 1 => by
    have i := PM_takeL r n h k
    rw [it_s]
    generalize it (M_takeF r n) k (m, 0) = u at i
    unfold M_takeF
    split
    · exact i
    · split
      · split
        · exact PM_rel _ _ (PM_reach k n i)
        · exact PM_reach k n i
      · exact PM_reach k n i
theorem PM_read {m : MV} (r : Nat) (n : Fin 256) (h : PM m) : PM (M_read m r n).1 := by
  unfold M_read
  split
  · exact PM_tick r 0 h
  · exact PM_begin r n _ false (PM_vac r _ (PM_readL r n (PM_tick r 1 h) 4))
theorem PM_own {m : MV} (r : Nat) (n : Fin 256) (h : PM m) : PM (M_own m r n).1 := by
  have w : PM (M_setWr m (m.2.2.2.2.2 + 1)) := h
  unfold M_own
  split
  · exact w
  · exact PM_takeL r n w 4
theorem PM_write {m : MV} (r : Nat) (n : Fin 256) (x : Int32) (h : PM m) : PM (M_write m r n x).1 := by
  have w := PM_own r n h
  unfold M_write
  split
  · exact PM_fill r n x true w
  · exact PM_begin r n x true (PM_vac r _ w)
theorem PM_drop {m : MV} (r : Nat) (n : Fin 256) (h : PM m) : PM (M_drop m r n).1 := by
  unfold M_drop
  split
  · exact PM_vac r _ h
  · exact h
theorem PM_forget {m : MV} (r : Nat) (h : PM m) : PM (M_forget m r).1 := by
  unfold M_forget
  split
  · exact h
  · exact PM_fa r none h
/-- what always holds of a machine after B acts -/
def JV (m : MV) (B : Nat) : Prop := IM m ∧ PM m ∧ TI m B
theorem JV_read {m : MV} {B r : Nat} (n : Fin 256) (h : JV m B) (hr : r < 4) : JV (M_read m r n).1 (B + 1) := ⟨(IM_read n h.1 hr).1, PM_read r n h.2.1, TI_read n h.2.2 hr⟩
theorem JV_write {m : MV} {B r : Nat} (n : Fin 256) {x : Int32} (h : JV m B) (hr : r < 4) (hx : 0 ≤ x) : JV (M_write m r n x).1 (B + 1) := ⟨(IM_write n h.1 hr hx).1, PM_write r n x h.2.1, TI_write n x h.2.2 hr⟩
theorem JV_drop {m : MV} {B r : Nat} {n : Fin 256} (h : JV m B) (hh : K_holds (m.2.1 r) n = true) : JV (M_drop m r n).1 (B + 1) := ⟨(IM_drop h.1 hh).1, PM_drop r n h.2.1, TI_drop h.2.2 hh⟩
theorem JV_forget {m : MV} {B r : Nat} (h : JV m B) (hr : r < 4) (hh : ¬ K_nothing (m.2.1 r) = true) : JV (M_forget m r).1 (B + 1) := ⟨(IM_forget h.1 hh).1, PM_forget r h.2.1, TI_forget h.2.2 hr hh⟩
theorem JV_lim {m : MV} {B : Nat} {x : Int32} (h : JV m B) (h0 : 0 < x) (h9 : x ≤ 9) : JV (M_setLim m x) (B + 1) := ⟨⟨h.1.1, h.1.2.1, h0⟩, ⟨h.2.1.1, h9, h.2.1.2.2⟩, TI_same h.2.2 (fun _ _ => rfl) rfl⟩
theorem JV_full {m : MV} {B : Nat} {x : Int32} (h : JV m B) (h0 : 0 < x) : JV (M_setFull m x) (B + 1) := ⟨h.1, ⟨h.2.1.1, h.2.1.2.1, h0⟩, TI_same h.2.2 (fun _ _ => rfl) rfl⟩
