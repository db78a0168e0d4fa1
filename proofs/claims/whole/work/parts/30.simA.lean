/-! ===== the class's machine as the reference sees it: equal but for values at empty places ===== -/
theorem up_at {α : Type} (f : Nat → α) (k : Nat) (x : α) : va_up f k x k = x := by simp [va_up]
theorem up_ne {α : Type} (f : Nat → α) {k j : Nat} (x : α) (h : j ≠ k) : va_up f k x j = f j := by simp [va_up, h]
theorem up_up {α : Type} (f : Nat → α) (k : Nat) (x y : α) : va_up (va_up f k x) k y = va_up f k y := by
  funext j
  by_cases h : j = k <;> simp [va_up, h]
theorem up_id {α : Type} (f : Nat → α) (k : Nat) : va_up f k (f k) = f := by
  funext j
  by_cases h : j = k
  · subst h; simp [va_up]
  · simp [va_up, h]
theorem upd_id (f : Nat → Int32) (k : Nat) : upd f k (f k) = f := by
  funext j
  by_cases h : j = k
  · subst h; simp [upd]
  · simp [upd, h]
theorem upd_upd (f : Nat → Int32) (k : Nat) (x y : Int32) : upd (upd f k x) k y = upd f k y := by
  funext j
  by_cases h : j = k <;> simp [upd, h]
theorem i_lt1 (x : Int32) : x < 1 ↔ x ≤ 0 := by
  rw [Int32.lt_iff_toInt_lt, Int32.le_iff_toInt_le, show (1 : Int32).toInt = 1 from by decide, show (0 : Int32).toInt = 0 from by decide]
  omega
theorem i_nle {x y : Int32} : ¬ x ≤ y ↔ y < x := by
  rw [Int32.lt_iff_toInt_lt, Int32.le_iff_toInt_le]
  omega
theorem i_nlt {x y : Int32} : ¬ x < y ↔ y ≤ x := by
  rw [Int32.lt_iff_toInt_lt, Int32.le_iff_toInt_le]
  omega
theorem i_ltle {x y z : Int32} (h : x < y) (k : y ≤ z) : x < z := by
  rw [Int32.lt_iff_toInt_lt] at h ⊢
  rw [Int32.le_iff_toInt_le] at k
  omega
theorem nI_gt0 {n : Nat} (h : 1 ≤ n) (hb : n < 2 ^ 31) : (0 : Int32) < nI n := by
  rw [show (0 : Int32) = nI 0 from rfl, nI_ltI (by decide) hb]
  omega
theorem i_m1 (x : Int32) : x + (-1) = x - 1 := (Int32.sub_eq_add_neg x 1).symm
-- the parts of a machine
theorem MsK1 (m : MV) (o : Nat) (k : KV) : (M_setK m o k).2.1 o = k := up_at _ _ _
theorem MsKn (m : MV) {o o2 : Nat} (k : KV) (h : o2 ≠ o) : (M_setK m o k).2.1 o2 = m.2.1 o2 := up_ne _ _ h
theorem MsK2 (m : MV) (o : Nat) (k k2 : KV) : M_setK (M_setK m o k) o k2 = M_setK m o k2 := congrArg (fun z => ((m.1, z, m.2.2) : MV)) (up_up m.2.1 o k k2)
theorem MsK0 (m : MV) (o : Nat) : M_setK m o (m.2.1 o) = m := congrArg (fun z => ((m.1, z, m.2.2) : MV)) (up_id m.2.1 o)
def nzK (k : KV) : KV := (k.1, fun j => if k.1 j = none then 0 else k.2.1 j, k.2.2.1, k.2.2.2.1, k.2.2.2.2)
def nz (m : MV) : MV := (m.1, fun o => nzK (m.2.1 o), m.2.2.1, m.2.2.2.1, m.2.2.2.2.1, m.2.2.2.2.2)
theorem nz_K (m : MV) (o : Nat) (k : KV) : nz (M_setK m o k) = M_setK (nz m) o (nzK k) := by
  have e : (fun j => nzK (va_up m.2.1 o k j)) = va_up (fun j => nzK (m.2.1 j)) o (nzK k) := by
    funext j
    by_cases h : j = o <;> simp [va_up, h]
  exact congrArg (fun z => ((m.1, z, m.2.2) : MV)) e
theorem nzK_val {k : KV} {p : Nat} {n : Fin 256} (h : k.1 p = some n) : (nzK k).2.1 p = k.2.1 p := by
  show (if k.1 p = none then 0 else k.2.1 p) = k.2.1 p
  rw [h, if_neg (by simp)]
theorem nzK_fill (k : KV) (p : Nat) (n : Fin 256) (x : Int32) (b : Bool) : nzK (K_setD (K_setV (K_setL k p (some n)) p x) p b) = K_setD (K_setV (K_setL (nzK k) p (some n)) p x) p b := by
  have e : (fun j => if va_up k.1 p (some n) j = none then 0 else upd k.2.1 p x j) = upd (fun j => if k.1 j = none then 0 else k.2.1 j) p x := by
    funext j
    by_cases h : j = p <;> simp [va_up, upd, h]
  exact congrArg (fun z => ((va_up k.1 p (some n), z, va_up k.2.2.1 p b, k.2.2.2.1, k.2.2.2.2) : KV)) e
theorem nzK_emp (k : KV) (p : Nat) : nzK (K_setD (K_setL k p none) p false) = K_setD (K_setV (K_setL (nzK k) p none) p 0) p false := by
  have e : (fun j => if va_up k.1 p none j = none then 0 else k.2.1 j) = upd (fun j => if k.1 j = none then 0 else k.2.1 j) p 0 := by
    funext j
    by_cases h : j = p <;> simp [va_up, upd, h]
  exact congrArg (fun z => ((va_up k.1 p none, z, va_up k.2.2.1 p false, k.2.2.2.1, k.2.2.2.2) : KV)) e
-- the reference's filters
def FQs (f : FV) (c : Nat) (d lim : Int32) : Nat → Bool := if d ≤ 0 then f.2.1 else if f.1 c < lim then f.2.1 else va_up f.2.1 c true
def FQ (f : FV) (c : Nat) (d lim : Int32) : FV := if FQs f c d lim c = true then (upd f.1 c (f.1 c + 0), FQs f c d lim, f.2.2) else (upd f.1 c (f.1 c + d), FQs f c d lim, f.2.2)
theorem Q_cntF_eq (o n : Nat) (d : Int32) (i : Nat) (m : MV) : Q_cntF o n d i m = M_setK m o (K_setF (m.2.1 o) (FQ (m.2.1 o).2.2.2.2 (Q_ctr n i) d m.2.2.1)) := by
  have e1 : Q_setSt m o (Q_stk m o (Q_ctr n i) d) = M_setK m o (K_setF (m.2.1 o) ((m.2.1 o).2.2.2.2.1, FQs (m.2.1 o).2.2.2.2 (Q_ctr n i) d m.2.2.1, (m.2.1 o).2.2.2.2.2.2)) := rfl
  unfold Q_cntF
  rw [e1]
  unfold Q_cnt2 Q_setCnt
  rw [MsK1]
  unfold FQ
  show (if FQs (m.2.1 o).2.2.2.2 (Q_ctr n i) d m.2.2.1 (Q_ctr n i) = true then _ else _) = _
  split
  · rw [MsK2]; rfl
  · rw [MsK2]; rfl
theorem Q_counts_eq (m : MV) (o n : Nat) (d : Int32) : Q_counts m o n d = M_setK m o (K_setF (m.2.1 o) (FQ (FQ (m.2.1 o).2.2.2.2 (n % 24) d m.2.2.1) ((7 * n + 5) % 24) d m.2.2.1)) := by
  show Q_cntF o n d 1 (Q_cntF o n d 0 m) = _
  rw [Q_cntF_eq o n d 0, Q_cntF_eq o n d 1, MsK1, MsK2]
  rfl
theorem FQ_raise (f : FV) (c : Nat) (lim : Int32) : FQ f c 1 lim = F_raise f c lim := by
  have h0 : ¬ (1 : Int32) ≤ 0 := by decide
  have z : f.1 c + 0 = f.1 c := Int32.add_zero _
  unfold FQ FQs F_raise
  rw [if_neg h0, z, upd_id]
  by_cases hs : f.2.1 c = true
  · have e : va_up f.2.1 c true = f.2.1 := by rw [← hs, up_id]
    by_cases hl : f.1 c < lim
    · rw [if_pos hl, if_pos hs, if_pos hs]
    · rw [if_neg hl, e, if_pos hs, if_pos hs]
  · by_cases hl : f.1 c < lim
    · rw [if_pos hl, if_neg hs, if_neg hs, if_pos hl]; rfl
    · rw [if_neg hl, up_at, if_pos rfl, if_neg hs, if_neg hl]; rfl
theorem FQ_lower {f : FV} {c : Nat} (lim : Int32) (h : f.2.1 c = true ∨ 0 < f.1 c) : FQ f c (-1) lim = F_lower f c := by
  have h0 : (-1 : Int32) ≤ 0 := by decide
  have z : f.1 c + 0 = f.1 c := Int32.add_zero _
  unfold FQ FQs F_lower
  rw [if_pos h0, z, upd_id, i_m1]
  by_cases hs : f.2.1 c = true
  · rw [if_pos hs, if_pos hs]
  · have h2 : ¬ f.1 c ≤ 0 := i_nle.mpr (h.resolve_left hs)
    rw [if_neg hs, if_neg hs, if_neg h2]
    rfl
theorem Q_notes_eq (m : MV) (o n : Nat) : Q_notes m o n = M_setK m o (K_setF (m.2.1 o) (F_add (m.2.1 o).2.2.2.2 n m.2.2.1)) := by
  unfold Q_notes
  rw [Q_counts_eq]
  unfold Q_setBit
  rw [MsK1, MsK2]
  show M_setK m o (K_setF _ (FQ (FQ _ _ 1 m.2.2.1) _ 1 m.2.2.1)) = _
  rw [FQ_raise, FQ_raise]
  rfl
theorem nz_add (m : MV) (o : Nat) (n : Fin 256) : Q_notes (nz m) o n.val = nz (M_add m o n) := by
  rw [Q_notes_eq]
  unfold M_add
  rw [nz_K]
  rfl
theorem nz_wb (m : MV) (o p : Nat) : Q_wb (nz m) o p = nz (M_wb m o p) := by
  unfold Q_wb M_wb
  show (match (m.2.1 o).1 p with
    | none => nz m
    | some n => if (m.2.1 o).2.2.1 p = true then Q_wb3 (Q_wb2 (Q_wb1 (nz m) o p n) o p) else nz m) = _
  cases h : (m.2.1 o).1 p with
  | none => rfl
  | some n =>
    show (if (m.2.1 o).2.2.1 p = true then _ else _) = nz (if (m.2.1 o).2.2.1 p = true then _ else _)
    by_cases hd : (m.2.1 o).2.2.1 p = true
    · rw [if_pos hd, if_pos hd]
      have e : Q_wb1 (nz m) o p n = nz (M_setMem m n.val ((m.2.1 o).2.1 p)) := by
        show M_setMem (nz m) n.val ((nzK (m.2.1 o)).2.1 p) = _
        rw [nzK_val h]
        rfl
      have e2 : Q_wb2 (nz (M_setMem m n.val ((m.2.1 o).2.1 p))) o p = nz (M_clean m o p n) := by
        unfold M_clean
        rw [nz_K]
        rfl
      rw [e, e2]
      rfl
    · rw [if_neg hd, if_neg hd]
theorem Q_lv_eq {m : MV} {o p : Nat} {n : Fin 256} (h : (m.2.1 o).1 p = some n) : Q_lv m o p = M_setK m o (K_setD (K_setV (K_setL (K_setF (m.2.1 o) (FQ (FQ (m.2.1 o).2.2.2.2 (n.val % 24) (-1) m.2.2.1) ((7 * n.val + 5) % 24) (-1) m.2.2.1)) p none) p 0) p false) := by
  unfold Q_lv
  rw [h]
  show Q_wb2 (Q_out2 (Q_out1 (Q_counts m o n.val (-1)) o p) o p) o p = _
  rw [Q_counts_eq]
  unfold Q_out1
  rw [MsK1, MsK2]
  unfold Q_out2
  rw [MsK1, MsK2]
  unfold Q_wb2
  rw [MsK1, MsK2]
def lowOK (f : FV) (n : Nat) : Prop := (f.2.1 (n % 24) = true ∨ 0 < f.1 (n % 24)) ∧ ((F_lower f (n % 24)).2.1 ((7 * n + 5) % 24) = true ∨ 0 < (F_lower f (n % 24)).1 ((7 * n + 5) % 24))
theorem nz_rel {m : MV} {o p : Nat} {n : Fin 256} (h : (m.2.1 o).1 p = some n) (hp : n.val % 8 = p) (hl : lowOK (m.2.1 o).2.2.2.2 n.val) : Q_lv (nz m) o p = nz (M_rel m o n) := by
  rw [Q_lv_eq (m := nz m) (n := n) h]
  show M_setK (nz m) o (K_setD (K_setV (K_setL (K_setF (nzK (m.2.1 o)) (FQ (FQ (m.2.1 o).2.2.2.2 (n.val % 24) (-1) m.2.2.1) ((7 * n.val + 5) % 24) (-1) m.2.2.1)) p none) p 0) p false) = _
  rw [FQ_lower _ hl.1, FQ_lower _ hl.2]
  unfold M_rel K_release K_empty
  rw [nz_K, hp, nzK_emp]
  rfl
theorem nz_vac {m : MV} {o p : Nat} (hc : ∀ n, (m.2.1 o).1 p = some n → n.val % 8 = p ∧ lowOK (m.2.1 o).2.2.2.2 n.val) (hw : (M_wb m o p).2.1 o = K_setD (m.2.1 o) p false ∨ (M_wb m o p).2.1 o = m.2.1 o) : Q_lv (Q_wb (nz m) o p) o p = nz (M_vac m o p) := by
  rw [nz_wb]
  unfold M_vac
  have el : ((M_wb m o p).2.1 o).1 = (m.2.1 o).1 := by rcases hw with h | h <;> rw [h] <;> rfl
  have ef : ((M_wb m o p).2.1 o).2.2.2.2 = (m.2.1 o).2.2.2.2 := by rcases hw with h | h <;> rw [h] <;> rfl
  cases h : (m.2.1 o).1 p with
  | none =>
    have e : M_wb m o p = m := by unfold M_wb; rw [h]
    rw [e]
    unfold Q_lv
    show (match (m.2.1 o).1 p with
      | none => nz m
      | some n => _) = _
    rw [h]
  | some n =>
    exact nz_rel (m := M_wb m o p) (by rw [el, h]) (hc n h).1 (by rw [ef]; exact (hc n h).2)
theorem M_wb_K (m : MV) (o p : Nat) : (M_wb m o p).2.1 o = K_setD (m.2.1 o) p false ∨ (M_wb m o p).2.1 o = m.2.1 o := by
  unfold M_wb
  split
  · exact Or.inr rfl
  · split
    · exact Or.inl (MsK1 _ _ _)
    · exact Or.inr rfl
theorem M_wb_Kn (m : MV) {o o2 : Nat} (p : Nat) (h : o2 ≠ o) : (M_wb m o p).2.1 o2 = m.2.1 o2 := by
  unfold M_wb
  split
  · rfl
  · split
    · exact MsKn _ _ h
    · rfl
theorem M_wb_set (m : MV) (o p : Nat) : (M_wb m o p).2.2.1 = m.2.2.1 ∧ (M_wb m o p).2.2.2.1 = m.2.2.2.1 := by
  unfold M_wb
  split
  · exact ⟨rfl, rfl⟩
  · split
    · exact ⟨rfl, rfl⟩
    · exact ⟨rfl, rfl⟩
theorem nz_fill (m : MV) (o : Nat) (n : Fin 256) (x : Int32) (b : Bool) : Q_in3 (Q_in2 (Q_in1 (nz m) o n) o (n.val % 8) x) o (n.val % 8) b = nz (M_fill m o n x b) := by
  unfold Q_in1 Q_in2
  rw [MsK1, MsK2]
  unfold Q_in3
  rw [MsK1, MsK2]
  unfold M_fill K_fill
  rw [nz_K, nzK_fill]
  rfl
theorem nz_tick (m : MV) (o t : Nat) : Q_tick (nz m) o t = nz (M_tick m o t) := by
  unfold Q_tick M_tick
  rw [nz_K]
  rfl
theorem nz_holds (m : MV) (o : Nat) (n : Fin 256) : Q_holds (nz m) o n = K_holds (m.2.1 o) n := rfl
theorem nz_from (m : MV) (o : Nat) : Q_from (nz m) o 1 = F_above (m.2.1 o).2.2.2.2 := by
  have e : Q_fromF (nz m) o 1 = F_aboveF (m.2.1 o).2.2.2.2 := by
    funext i x
    show (if (m.2.1 o).2.2.2.2.1 i < 1 then x + 0 else x + 1) = (if (m.2.1 o).2.2.2.2.1 i ≤ 0 then x else x + 1)
    rw [Int32.add_zero]
    by_cases h : (m.2.1 o).2.2.2.2.1 i < 1
    · rw [if_pos h, if_pos ((i_lt1 _).mp h)]
    · rw [if_neg h, if_neg (fun k => h ((i_lt1 _).mpr k))]
  unfold Q_from F_above
  rw [e]
theorem nz_may (m : MV) (o n : Nat) : Q_may (nz m) o n = F_may (m.2.1 o).2.2.2.2 n := by
  show Q_mayF (nz m) o n 1 (Q_mayF (nz m) o n 0 ((m.2.1 o).2.2.2.2.2.2 (n / 16))) = _
  unfold F_may
  show (if (if (m.2.1 o).2.2.2.2.2.2 (n / 16) = true then (if (m.2.1 o).2.2.2.2.1 (n % 24) ≤ 0 then false else true) else false) = true then (if (m.2.1 o).2.2.2.2.1 ((7 * n + 5) % 24) ≤ 0 then false else true) else false) = _
  cases (m.2.1 o).2.2.2.2.2.2 (n / 16) <;> by_cases h1 : (m.2.1 o).2.2.2.2.1 (n % 24) ≤ 0 <;> by_cases h2 : (m.2.1 o).2.2.2.2.1 ((7 * n + 5) % 24) ≤ 0 <;> simp [h1, h2]
