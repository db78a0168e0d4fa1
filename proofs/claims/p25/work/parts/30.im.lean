theorem u_ne {f : Nat → Int32} {k j : Nat} {x : Int32} (h : j ≠ k) : upd f k x j = f j := by simp only [upd, if_neg h]
theorem u_eq {f : Nat → Int32} {k : Nat} {x : Int32} : upd f k x k = x := by simp [upd]

/-! ===== the class's machine as the reference sees it: equal but for values at empty places ===== -/
theorem up_at {α : Type} (f : Nat → α) (k : Nat) (x : α) : va_up f k x k = x := by simp [va_up]
theorem up_ne {α : Type} (f : Nat → α) {k j : Nat} (x : α) (h : j ≠ k) : va_up f k x j = f j := by simp [va_up, h]
theorem up_up {α : Type} (f : Nat → α) (k : Nat) (x y : α) : va_up (va_up f k x) k y = va_up f k y := by
  funext j
  by_cases h : j = k <;> simp [va_up, h]
theorem up_id {α : Type} (f : Nat → α) (k : Nat) : va_up f k (f k) = f := by
  funext j
  by_cases h : j = k
  · subst h; simp [va_up]
  · simp [va_up, h]
theorem upd_id (f : Nat → Int32) (k : Nat) : upd f k (f k) = f := by
  funext j
  by_cases h : j = k
  · subst h; simp [upd]
  · simp [upd, h]
theorem upd_upd (f : Nat → Int32) (k : Nat) (x y : Int32) : upd (upd f k x) k y = upd f k y := by
  funext j
  by_cases h : j = k <;> simp [upd, h]
theorem i_lt1 (x : Int32) : x < 1 ↔ x ≤ 0 := by
  rw [Int32.lt_iff_toInt_lt, Int32.le_iff_toInt_le, show (1 : Int32).toInt = 1 from by decide, show (0 : Int32).toInt = 0 from by decide]
  omega
theorem i_nle {x y : Int32} : ¬ x ≤ y ↔ y < x := by
  rw [Int32.lt_iff_toInt_lt, Int32.le_iff_toInt_le]
  omega
theorem i_nlt {x y : Int32} : ¬ x < y ↔ y ≤ x := by
  rw [Int32.lt_iff_toInt_lt, Int32.le_iff_toInt_le]
  omega
theorem i_ltle {x y z : Int32} (h : x < y) (k : y ≤ z) : x < z := by
  rw [Int32.lt_iff_toInt_lt] at h ⊢
  rw [Int32.le_iff_toInt_le] at k
  omega
theorem nI_gt0 {n : Nat} (h : 1 ≤ n) (hb : n < 2 ^ 31) : (0 : Int32) < nI n := by
  rw [show (0 : Int32) = nI 0 from rfl, nI_ltI (by decide) hb]
  omega
theorem i_m1 (x : Int32) : x + (-1) = x - 1 := (Int32.sub_eq_add_neg x 1).symm
-- the parts of a machine
theorem MsK1 (m : MV) (o : Nat) (k : KV) : (M_setK m o k).2.1 o = k := up_at _ _ _
theorem MsKn (m : MV) {o o2 : Nat} (k : KV) (h : o2 ≠ o) : (M_setK m o k).2.1 o2 = m.2.1 o2 := up_ne _ _ h
theorem MsK2 (m : MV) (o : Nat) (k k2 : KV) : M_setK (M_setK m o k) o k2 = M_setK m o k2 := congrArg (fun z => ((m.1, z, m.2.2) : MV)) (up_up m.2.1 o k k2)
theorem MsK0 (m : MV) (o : Nat) : M_setK m o (m.2.1 o) = m := congrArg (fun z => ((m.1, z, m.2.2) : MV)) (up_id m.2.1 o)
-- the reference's filters
def lowOK (f : FV) (n : Nat) : Prop := (f.2.1 (n % 24) = true ∨ 0 < f.1 (n % 24)) ∧ ((F_lower f (n % 24)).2.1 ((7 * n + 5) % 24) = true ∨ 0 < (F_lower f (n % 24)).1 ((7 * n + 5) % 24))
theorem M_wb_K (m : MV) (o p : Nat) : (M_wb m o p).2.1 o = K_setD (m.2.1 o) p false ∨ (M_wb m o p).2.1 o = m.2.1 o := by
  unfold M_wb
  split
  · exact Or.inr rfl
  · split
    · exact Or.inl (MsK1 _ _ _)
    · exact Or.inr rfl
theorem M_wb_Kn (m : MV) {o o2 : Nat} (p : Nat) (h : o2 ≠ o) : (M_wb m o p).2.1 o2 = m.2.1 o2 := by
  unfold M_wb
  split
  · rfl
  · split
    · exact MsKn _ _ h
    · rfl
theorem M_wb_set (m : MV) (o p : Nat) : (M_wb m o p).2.2.1 = m.2.2.1 ∧ (M_wb m o p).2.2.2.1 = m.2.2.2.1 := by
  unfold M_wb
  split
  · exact ⟨rfl, rfl⟩
  · split
    · exact ⟨rfl, rfl⟩
    · exact ⟨rfl, rfl⟩
/-! ===== forgetting; what always holds of the class's machine ===== -/
theorem it_s {σ : Type} (f : Nat → σ → σ) (k : Nat) (x : σ) : it f (k + 1) x = f k (it f k x) := rfl
def clC (f : Nat → Int32) : Nat → Int32 := fun j => if j < 24 then 0 else f j
def clB (f : Nat → Bool) : Nat → Bool := fun j => if j < 16 then false else f j
theorem lt_up {α : Type} (f : Nat → α) (x : α) (k : Nat) : va_up (fun j => if j < k then x else f j) k x = fun j => if j < k + 1 then x else f j := by
  funext j
  unfold va_up
  by_cases h : j = k
  · rw [if_pos h, if_pos (by omega)]
  · rw [if_neg h]
    show (if j < k then x else f j) = if j < k + 1 then x else f j
    by_cases h2 : j < k
    · rw [if_pos h2, if_pos (by omega)]
    · rw [if_neg h2, if_neg (by omega)]
theorem ltz_f {α : Type} (f : Nat → α) (x : α) : (fun j => if j < 0 then x else f j) = f := by
  funext j
  exact if_neg (Nat.not_lt_zero j)
theorem it_w1 (f : FV) : ∀ k, it F_w1 k f = (fun j => if j < k then 0 else f.1 j, fun j => if j < k then false else f.2.1 j, f.2.2)
  | 0 => by rw [ltz_f, ltz_f]; rfl
  | k + 1 => by
    rw [it_s, it_w1 f k]
    show (_, _, _) = _
    rw [← lt_up f.1 0 k, ← lt_up f.2.1 false k]
    rfl
theorem it_w2 (f : FV) : ∀ k, it F_w2 k f = (f.1, f.2.1, fun j => if j < k then false else f.2.2 j)
  | 0 => by rw [ltz_f]; rfl
  | k + 1 => by
    rw [it_s, it_w2 f k, ← lt_up f.2.2 false k]
    rfl
theorem F_wipe_eq {f : FV} (h : ∀ c, f.2.1 c = true → c < 24) : F_wipe f = (clC f.1, fun _ => false, clB f.2.2) := by
  unfold F_wipe
  rw [it_w1, it_w2]
  have e : (fun j => if j < 24 then false else f.2.1 j) = fun _ => false := by
    funext j
    by_cases hj : j < 24
    · rw [if_pos hj]
    · rw [if_neg hj]
      cases hs : f.2.1 j with
      | false => rfl
      | true => exact absurd (h j hs) hj
  show ((fun j => if j < 24 then 0 else f.1 j, (fun j => if j < 24 then false else f.2.1 j), clB f.2.2) : FV) = _
  rw [e]
  rfl
theorem fa_F (m : MV) (o : Nat) (kept : Option (Fin 256)) : ∀ k, ((it (M_faF o kept) k (m, 0)).1.2.1 o).2.2.2.2 = (m.2.1 o).2.2.2.2
  | 0 => rfl
  | k + 1 => by
    rw [it_s, ← fa_F m o kept k]
    unfold M_faF
    split
    · rfl
    · split
      · rfl
      · unfold M_emp
        rw [MsK1]
        show ((M_wb (it (M_faF o kept) k (m, 0)).1 o k).2.1 o).2.2.2.2 = _
        rcases M_wb_K (it (M_faF o kept) k (m, 0)).1 o k with h | h <;> rw [h] <;> rfl
/-! ===== what always holds: caches and memory; filters ===== -/
def IC (m : MV) : Prop := (∀ o p n, (m.2.1 o).1 p = some n → n.val % 8 = p ∧ o < 4) ∧ (∀ o p n, (m.2.1 o).1 p = some n → (m.2.1 o).2.2.1 p = true → ∀ o2, (m.2.1 o2).1 p = some n → o2 = o) ∧ (∀ o p n, (m.2.1 o).1 p = some n → (m.2.1 o).2.2.1 p = false → (m.2.1 o).2.1 p = m.1 n.val) ∧ (∀ o p n, (m.2.1 o).1 p = some n → 0 ≤ (m.2.1 o).2.1 p) ∧ (∀ k, 0 ≤ m.1 k)
theorem IC_sub {m m2 : MV} (hm : m2.1 = m.1) (h : ∀ o p n, (m2.2.1 o).1 p = some n → (m.2.1 o).1 p = some n ∧ (m2.2.1 o).2.1 p = (m.2.1 o).2.1 p ∧ (m2.2.1 o).2.2.1 p = (m.2.1 o).2.2.1 p) (i : IC m) : IC m2 := by
  obtain ⟨i1, i2, i3, i4, i5⟩ := i
  refine ⟨fun o p n e => i1 o p n (h o p n e).1, fun o p n e d o2 e2 => ?_, fun o p n e d => ?_, fun o p n e => ?_, fun k => by rw [hm]; exact i5 k⟩
  · rw [(h o p n e).2.2] at d
    exact i2 o p n (h o p n e).1 d o2 (h o2 p n e2).1
  · rw [(h o p n e).2.2] at d
    rw [(h o p n e).2.1, hm]
    exact i3 o p n (h o p n e).1 d
  · rw [(h o p n e).2.1]
    exact i4 o p n (h o p n e).1
theorem IC_K {m : MV} {o : Nat} {k : KV} (h : ∀ p n, k.1 p = some n → (m.2.1 o).1 p = some n ∧ k.2.1 p = (m.2.1 o).2.1 p ∧ k.2.2.1 p = (m.2.1 o).2.2.1 p) (i : IC m) : IC (M_setK m o k) := by
  refine IC_sub (m := m) (m2 := M_setK m o k) rfl (fun o2 p n e => ?_) i
  by_cases ho : o2 = o
  · subst ho
    rw [MsK1] at e ⊢
    exact h p n e
  · rw [MsKn m k ho] at e ⊢
    exact ⟨e, rfl, rfl⟩
theorem IC_wb {m : MV} (o p : Nat) (i : IC m) : IC (M_wb m o p) := by
  unfold M_wb
  split
  · exact i
  · rename_i n hn
    split
    · rename_i hd
      obtain ⟨i1, i2, i3, i4, i5⟩ := i
      have L : ∀ o2, ((M_clean m o p n).2.1 o2).1 = (m.2.1 o2).1 ∧ ((M_clean m o p n).2.1 o2).2.1 = (m.2.1 o2).2.1 ∧ ∀ p2, ((M_clean m o p n).2.1 o2).2.2.1 p2 = if o2 = o ∧ p2 = p then false else (m.2.1 o2).2.2.1 p2 := by
        intro o2
        unfold M_clean
        by_cases ho : o2 = o
        · subst ho
          rw [MsK1]
          refine ⟨rfl, rfl, fun p2 => ?_⟩
          show va_up (m.2.1 o2).2.2.1 p false p2 = _
          unfold va_up
          by_cases hp : p2 = p
          · rw [if_pos hp, if_pos ⟨rfl, hp⟩]
          · rw [if_neg hp, if_neg (fun q => hp q.2)]
        · rw [MsKn _ _ ho]
          exact ⟨rfl, rfl, fun p2 => by rw [if_neg (fun q => ho q.1)]; rfl⟩
      have M : (M_clean m o p n).1 = upd m.1 n.val ((m.2.1 o).2.1 p) := rfl
      show IC (M_setBack (M_clean m o p n) ((M_clean m o p n).2.2.2.2.1 + 1))
      refine ⟨fun o2 p2 n2 e => ?_, fun o2 p2 n2 e d o3 e3 => ?_, fun o2 p2 n2 e d => ?_, fun o2 p2 n2 e => ?_, fun k => ?_⟩
      · change ((M_clean m o p n).2.1 o2).1 p2 = some n2 at e
        rw [(L o2).1] at e
        exact i1 o2 p2 n2 e
      · change ((M_clean m o p n).2.1 o2).1 p2 = some n2 at e
        change ((M_clean m o p n).2.1 o3).1 p2 = some n2 at e3
        change ((M_clean m o p n).2.1 o2).2.2.1 p2 = true at d
        rw [(L o2).1] at e
        rw [(L o3).1] at e3
        rw [(L o2).2.2] at d
        split at d
        · cases d
        · exact i2 o2 p2 n2 e d o3 e3
      · change ((M_clean m o p n).2.1 o2).1 p2 = some n2 at e
        change ((M_clean m o p n).2.1 o2).2.2.1 p2 = false at d
        show ((M_clean m o p n).2.1 o2).2.1 p2 = (M_clean m o p n).1 n2.val
        rw [(L o2).1] at e
        rw [(L o2).2.2] at d
        rw [(L o2).2.1, M]
        by_cases hn2 : n2 = n
        · subst hn2
          rw [u_eq]
          have ep : p2 = p := (i1 o2 p2 n2 e).1.symm.trans (i1 o p n2 hn).1
          subst ep
          have eo : o2 = o := i2 o p2 n2 hn hd o2 e
          rw [eo]
        · rw [u_ne (fun q => hn2 (Fin.ext q))]
          split at d
          · rename_i hq
            obtain ⟨rfl, rfl⟩ := hq
            rw [hn] at e
            exact absurd (Option.some.inj e).symm hn2
          · exact i3 o2 p2 n2 e d
      · change ((M_clean m o p n).2.1 o2).1 p2 = some n2 at e
        show 0 ≤ ((M_clean m o p n).2.1 o2).2.1 p2
        rw [(L o2).1] at e
        rw [(L o2).2.1]
        exact i4 o2 p2 n2 e
      · show 0 ≤ (M_clean m o p n).1 k
        rw [M]
        unfold upd
        split
        · exact i4 o p n hn
        · exact i5 k
    · exact i
theorem IC_emp {m : MV} (o p : Nat) (i : IC m) : IC (M_emp m o p) := by
  refine IC_K (fun p2 n e => ?_) i
  change va_up (m.2.1 o).1 p none p2 = some n at e
  by_cases hp : p2 = p
  · subst hp
    rw [up_at] at e
    cases e
  · rw [up_ne _ _ hp] at e
    exact ⟨e, rfl, up_ne _ _ hp⟩
theorem IC_rel {m : MV} (o : Nat) (n : Fin 256) (i : IC m) : IC (M_rel m o n) := by
  refine IC_K (fun p2 n2 e => ?_) i
  change va_up (m.2.1 o).1 (n.val % 8) none p2 = some n2 at e
  by_cases hp : p2 = n.val % 8
  · subst hp
    rw [up_at] at e
    cases e
  · rw [up_ne _ _ hp] at e
    exact ⟨e, rfl, up_ne _ _ hp⟩
theorem IC_F {m : MV} (o : Nat) (f : FV) (i : IC m) : IC (M_setK m o (K_setF (m.2.1 o) f)) := IC_K (fun _ _ e => ⟨e, rfl, rfl⟩) i
theorem IC_tick {m : MV} (o t : Nat) (i : IC m) : IC (M_tick m o t) := IC_K (fun _ _ e => ⟨e, rfl, rfl⟩) i
theorem K_reach_same (k : KV) (n : Fin 256) : (K_reach k n).1 = k.1 ∧ (K_reach k n).2.1 = k.2.1 ∧ (K_reach k n).2.2.1 = k.2.2.1 ∧ (K_reach k n).2.2.2.2 = k.2.2.2.2 := by
  unfold K_reach
  split
  · split
    · exact ⟨rfl, rfl, rfl, rfl⟩
    · exact ⟨rfl, rfl, rfl, rfl⟩
  · exact ⟨rfl, rfl, rfl, rfl⟩
theorem IC_reach {m : MV} (o : Nat) (n : Fin 256) (i : IC m) : IC (M_reach m o n) := by
  have h := K_reach_same (m.2.1 o) n
  exact IC_K (fun p _ e => ⟨by rw [h.1] at e; exact e, by rw [h.2.1], by rw [h.2.2.1]⟩) i
theorem IC_fill {m : MV} {o : Nat} {n : Fin 256} {x : Int32} {b : Bool} (i : IC m) (ho : o < 4) (hx : 0 ≤ x) (h1 : b = true → ∀ o2, o2 ≠ o → (m.2.1 o2).1 (n.val % 8) ≠ some n) (h2 : b = false → x = m.1 n.val ∧ ∀ o2, o2 ≠ o → (m.2.1 o2).1 (n.val % 8) = some n → (m.2.1 o2).2.2.1 (n.val % 8) = false) : IC (M_fill m o n x b) := by
  obtain ⟨i1, i2, i3, i4, i5⟩ := i
  have A : ∀ p2, ((M_fill m o n x b).2.1 o).1 p2 = (if p2 = n.val % 8 then some n else (m.2.1 o).1 p2) ∧ ((M_fill m o n x b).2.1 o).2.1 p2 = (if p2 = n.val % 8 then x else (m.2.1 o).2.1 p2) ∧ ((M_fill m o n x b).2.1 o).2.2.1 p2 = (if p2 = n.val % 8 then b else (m.2.1 o).2.2.1 p2) := by
    intro p2
    unfold M_fill
    rw [MsK1]
    exact ⟨rfl, rfl, rfl⟩
  have B : ∀ o2, o2 ≠ o → (M_fill m o n x b).2.1 o2 = m.2.1 o2 := fun o2 h => MsKn _ _ h
  have M : (M_fill m o n x b).1 = m.1 := rfl
  refine ⟨fun o2 p2 n2 e => ?_, fun o2 p2 n2 e d o3 e3 => ?_, fun o2 p2 n2 e d => ?_, fun o2 p2 n2 e => ?_, fun k => i5 k⟩
  · by_cases h : o2 = o
    · subst h
      rw [(A p2).1] at e
      split at e
      · rename_i hp
        rw [← Option.some.inj e]
        exact ⟨hp.symm, ho⟩
      · exact i1 o2 p2 n2 e
    · rw [B o2 h] at e
      exact i1 o2 p2 n2 e
  · by_cases h : o2 = o
    · subst h
      rw [(A p2).1] at e
      rw [(A p2).2.2] at d
      by_cases h3 : o3 = o2
      · exact h3
      · rw [B o3 h3] at e3
        by_cases hp : p2 = n.val % 8
        · rw [if_pos hp] at e d
          rw [← Option.some.inj e, hp] at e3
          exact absurd e3 (h1 d o3 h3)
        · rw [if_neg hp] at e d
          exact i2 o2 p2 n2 e d o3 e3
    · rw [B o2 h] at e d
      by_cases h3 : o3 = o
      · subst h3
        rw [(A p2).1] at e3
        by_cases hp : p2 = n.val % 8
        · rw [if_pos hp] at e3
          have en := Option.some.inj e3
          subst en
          subst hp
          cases b with
          | true => exact absurd e (h1 rfl o2 h)
          | false =>
            rw [(h2 rfl).2 o2 h e] at d
            cases d
        · rw [if_neg hp] at e3
          exact i2 o2 p2 n2 e d o3 e3
      · rw [B o3 h3] at e3
        exact i2 o2 p2 n2 e d o3 e3
  · rw [M]
    by_cases h : o2 = o
    · subst h
      rw [(A p2).1] at e
      rw [(A p2).2.2] at d
      rw [(A p2).2.1]
      by_cases hp : p2 = n.val % 8
      · rw [if_pos hp] at e d ⊢
        rw [← Option.some.inj e]
        exact (h2 d).1
      · rw [if_neg hp] at e d ⊢
        exact i3 o2 p2 n2 e d
    · rw [B o2 h] at e d ⊢
      exact i3 o2 p2 n2 e d
  · by_cases h : o2 = o
    · subst h
      rw [(A p2).1] at e
      rw [(A p2).2.1]
      by_cases hp : p2 = n.val % 8
      · rw [if_pos hp]
        exact hx
      · rw [if_neg hp] at e ⊢
        exact i4 o2 p2 n2 e
    · rw [B o2 h] at e ⊢
      exact i4 o2 p2 n2 e
-- filters
def CF (f : FV) (u : Nat → Nat) : Prop := (∀ c, f.2.1 c = false → f.1 c = nI (u c)) ∧ (∀ c, f.2.1 c = true → 0 < f.1 c ∧ c < 24)
theorem CF_congr {f : FV} {u u2 : Nat → Nat} (h : CF f u) (e : ∀ c, u c = u2 c) : CF f u2 := by
  have : u = u2 := funext e
  rw [← this]
  exact h
theorem CF_pos {f : FV} {u : Nat → Nat} (h : CF f u) {c : Nat} (h1 : 1 ≤ u c) (h2 : u c < 2 ^ 31) : 0 < f.1 c := by
  cases hs : f.2.1 c with
  | true => exact (h.2 c hs).1
  | false =>
    rw [h.1 c hs]
    exact nI_gt0 h1 h2
theorem CF_raise {f : FV} {u : Nat → Nat} {c : Nat} {lim : Int32} (h : CF f u) (hl : 0 < lim) (hc : c < 24) : CF (F_raise f c lim) (fun j => if j = c then u j + 1 else u j) := by
  unfold F_raise
  split
  · rename_i hs
    refine ⟨fun j hj => ?_, h.2⟩
    have hne : j ≠ c := fun q => by rw [q, hs] at hj; cases hj
    show f.1 j = nI (if j = c then u j + 1 else u j)
    rw [if_neg hne]
    exact h.1 j hj
  · rename_i hs
    split
    · refine ⟨fun j hj => ?_, fun j hj => ?_⟩
      · show upd f.1 c (f.1 c + 1) j = nI (if j = c then u j + 1 else u j)
        by_cases e : j = c
        · subst e
          rw [u_eq, if_pos rfl, h.1 j hj]
          exact nI_inc _
        · rw [u_ne e, if_neg e]
          exact h.1 j hj
      · have hne : j ≠ c := fun q => hs (q ▸ hj)
        show 0 < upd f.1 c (f.1 c + 1) j ∧ _
        rw [u_ne hne]
        exact h.2 j hj
    · rename_i hlt
      refine ⟨fun j hj => ?_, fun j hj => ?_⟩
      · change va_up f.2.1 c true j = false at hj
        by_cases e : j = c
        · subst e
          rw [up_at] at hj
          cases hj
        · rw [up_ne _ _ e] at hj
          show f.1 j = nI (if j = c then u j + 1 else u j)
          rw [if_neg e]
          exact h.1 j hj
      · change va_up f.2.1 c true j = true at hj
        by_cases e : j = c
        · subst e
          exact ⟨i_ltle hl (i_nlt.mp hlt), hc⟩
        · rw [up_ne _ _ e] at hj
          exact h.2 j hj
theorem CF_lower {f : FV} {u : Nat → Nat} {c : Nat} (h : CF f u) (h1 : 1 ≤ u c) (h2 : u c < 2 ^ 31) : CF (F_lower f c) (fun j => if j = c then u j - 1 else u j) := by
  have hp := CF_pos h h1 h2
  unfold F_lower
  split
  · rename_i hs
    refine ⟨fun j hj => ?_, h.2⟩
    have hne : j ≠ c := fun q => by rw [q, hs] at hj; cases hj
    show f.1 j = nI (if j = c then u j - 1 else u j)
    rw [if_neg hne]
    exact h.1 j hj
  · rename_i hs
    rw [if_neg (i_nle.mpr hp)]
    refine ⟨fun j hj => ?_, fun j hj => ?_⟩
    · show upd f.1 c (f.1 c - 1) j = nI (if j = c then u j - 1 else u j)
      by_cases e : j = c
      · subst e
        rw [u_eq, if_pos rfl, h.1 j hj]
        exact pk_sub (a := u j) (b := 1) h1
      · rw [u_ne e, if_neg e]
        exact h.1 j hj
    · have hne : j ≠ c := fun q => hs (q ▸ hj)
      show 0 < upd f.1 c (f.1 c - 1) j ∧ _
      rw [u_ne hne]
      exact h.2 j hj
def wN (n : Fin 256) (c : Nat) : Nat := (if c = n.val % 24 then 1 else 0) + (if c = (7 * n.val + 5) % 24 then 1 else 0)
def wO (x : Option (Fin 256)) (c : Nat) : Nat := match x with
  | none => 0
  | some n => wN n c
theorem wO_le (x : Option (Fin 256)) (c : Nat) : wO x c ≤ 2 := by
  unfold wO
  split
  · omega
  · unfold wN
    split <;> split <;> omega
def us (L : Nat → Option (Fin 256)) (c : Nat) : Nat := wO (L 0) c + wO (L 1) c + wO (L 2) c + wO (L 3) c + wO (L 4) c + wO (L 5) c + wO (L 6) c + wO (L 7) c
theorem us_lt (L : Nat → Option (Fin 256)) (c : Nat) : us L c < 2 ^ 31 := by
  have h0 := wO_le (L 0) c
  have h1 := wO_le (L 1) c
  have h2 := wO_le (L 2) c
  have h3 := wO_le (L 3) c
  have h4 := wO_le (L 4) c
  have h5 := wO_le (L 5) c
  have h6 := wO_le (L 6) c
  have h7 := wO_le (L 7) c
  unfold us
  omega
theorem lt8 {P : Nat → Prop} (h0 : P 0) (h1 : P 1) (h2 : P 2) (h3 : P 3) (h4 : P 4) (h5 : P 5) (h6 : P 6) (h7 : P 7) {p : Nat} (hp : p < 8) : P p := by
  rcases (show p = 0 ∨ p = 1 ∨ p = 2 ∨ p = 3 ∨ p = 4 ∨ p = 5 ∨ p = 6 ∨ p = 7 by omega) with h | h | h | h | h | h | h | h <;> subst h <;> assumption
theorem us_up (L : Nat → Option (Fin 256)) (x : Option (Fin 256)) (c : Nat) {p : Nat} (hp : p < 8) : us (va_up L p x) c + wO (L p) c = us L c + wO x c := by
  refine lt8 (P := fun p => us (va_up L p x) c + wO (L p) c = us L c + wO x c) ?_ ?_ ?_ ?_ ?_ ?_ ?_ ?_ hp <;> simp [us, va_up] <;> omega
theorem us_ge (L : Nat → Option (Fin 256)) (c : Nat) {p : Nat} (hp : p < 8) : wO (L p) c ≤ us L c := by
  refine lt8 (P := fun p => wO (L p) c ≤ us L c) ?_ ?_ ?_ ?_ ?_ ?_ ?_ ?_ hp <;> (unfold us; omega)
theorem us_none (c : Nat) : us (fun _ => none) c = 0 := rfl
theorem us_one (n : Fin 256) (c : Nat) : us (fun p => if p = n.val % 8 then some n else none) c = wN n c := by
  have h := us_up (fun _ => none) (some n) c (p := n.val % 8) (by omega)
  rw [us_none] at h
  have e : va_up (fun _ => none) (n.val % 8) (some n) = fun p => if p = n.val % 8 then some n else none := rfl
  rw [e] at h
  simpa [wO] using h
theorem c12 (n : Nat) : (7 * n + 5) % 24 ≠ n % 24 := by omega
theorem wN1 (n : Fin 256) : wN n (n.val % 24) = 1 := by
  unfold wN
  rw [if_pos rfl, if_neg (fun q => c12 n.val q.symm)]
theorem wN2 (n : Fin 256) : wN n ((7 * n.val + 5) % 24) = 1 := by
  unfold wN
  rw [if_neg (c12 n.val), if_pos rfl]
theorem CF_B {f : FV} {u : Nat → Nat} (b : Nat → Bool) (h : CF f u) : CF (f.1, f.2.1, b) u := h
theorem CF_add {f : FV} {u : Nat → Nat} {lim : Int32} (n : Fin 256) (h : CF f u) (hl : 0 < lim) : CF (F_add f n.val lim) (fun c => u c + wN n c) := by
  have h1 := CF_raise (CF_raise (c := n.val % 24) (f := F_setB f (n.val / 16) true) (u := u) h hl (by omega)) hl (c := (7 * n.val + 5) % 24) (by omega)
  refine CF_congr h1 (fun c => ?_)
  show (if c = (7 * n.val + 5) % 24 then (if c = n.val % 24 then u c + 1 else u c) + 1 else if c = n.val % 24 then u c + 1 else u c) = u c + wN n c
  unfold wN
  split <;> split <;> omega
theorem F_low_s (f : FV) (c : Nat) : (F_lower f c).2 = f.2 := by
  unfold F_lower
  split
  · rfl
  · split <;> rfl
theorem F_low_n (f : FV) {c j : Nat} (h : j ≠ c) : (F_lower f c).1 j = f.1 j := by
  unfold F_lower
  split
  · rfl
  · split
    · rfl
    · exact u_ne h
theorem CF_remove {f : FV} {u : Nat → Nat} (n : Fin 256) (h : CF f u) (h1 : ∀ c, wN n c ≤ u c) (h2 : ∀ c, u c < 2 ^ 31) : CF (F_remove f n.val) (fun c => u c - wN n c) ∧ lowOK f n.val := by
  have a1 : 1 ≤ u (n.val % 24) := by have := h1 (n.val % 24); rwa [wN1] at this
  have a2 : 1 ≤ u ((7 * n.val + 5) % 24) := by have := h1 ((7 * n.val + 5) % 24); rwa [wN2] at this
  have k1 := CF_lower h a1 (h2 _)
  have e2 : (if (7 * n.val + 5) % 24 = n.val % 24 then u ((7 * n.val + 5) % 24) - 1 else u ((7 * n.val + 5) % 24)) = u ((7 * n.val + 5) % 24) := if_neg (c12 n.val)
  have k2 := CF_lower (c := (7 * n.val + 5) % 24) k1 (by show 1 ≤ (if _ then _ else _); rw [e2]; exact a2) (by show (if _ then _ else _) < _; rw [e2]; exact h2 _)
  refine ⟨CF_congr k2 (fun c => ?_), Or.inr (CF_pos h a1 (h2 _)), Or.inr (CF_pos k1 (by show 1 ≤ (if _ then _ else _); rw [e2]; exact a2) (by show (if _ then _ else _) < _; rw [e2]; exact h2 _))⟩
  show (if c = (7 * n.val + 5) % 24 then (if c = n.val % 24 then u c - 1 else u c) - 1 else if c = n.val % 24 then u c - 1 else u c) = u c - wN n c
  unfold wN
  split <;> split <;> omega
def IF (k : KV) : Prop := (∀ p n, k.1 p = some n → k.2.2.2.2.2.2 (n.val / 16) = true) ∧ CF k.2.2.2.2 (us k.1)
theorem IF_may {k : KV} {n : Fin 256} (h : IF k) (e : k.1 (n.val % 8) = some n) : F_may k.2.2.2.2 n.val = true := by
  have g : ∀ c, wN n c ≤ us k.1 c := fun c => by
    have := us_ge k.1 c (p := n.val % 8) (by omega)
    rw [e] at this
    exact this
  have a1 : 1 ≤ us k.1 (n.val % 24) := by have := g (n.val % 24); rwa [wN1] at this
  have a2 : 1 ≤ us k.1 ((7 * n.val + 5) % 24) := by have := g ((7 * n.val + 5) % 24); rwa [wN2] at this
  have p1 := i_nle.mpr (CF_pos h.2 a1 (us_lt _ _))
  have p2 := i_nle.mpr (CF_pos h.2 a2 (us_lt _ _))
  unfold F_may
  rw [h.1 _ n e, decide_eq_false p1, decide_eq_false p2]
  rfl
theorem IF_low {k : KV} {n : Fin 256} (h : IF k) (e : k.1 (n.val % 8) = some n) : CF (F_remove k.2.2.2.2 n.val) (us (va_up k.1 (n.val % 8) none)) ∧ lowOK k.2.2.2.2 n.val := by
  have g : ∀ c, wN n c ≤ us k.1 c := fun c => by
    have := us_ge k.1 c (p := n.val % 8) (by omega)
    rw [e] at this
    exact this
  have r := CF_remove n h.2 g (us_lt k.1)
  refine ⟨CF_congr r.1 (fun c => ?_), r.2⟩
  have q := us_up k.1 none c (p := n.val % 8) (by omega)
  rw [e] at q
  change us (va_up k.1 (n.val % 8) none) c + wN n c = us k.1 c + 0 at q
  omega
theorem IF_rel {k : KV} {n : Fin 256} (h : IF k) (e : k.1 (n.val % 8) = some n) : IF (K_release k n) := by
  refine ⟨fun p2 n2 e2 => ?_, (IF_low h e).1⟩
  change va_up k.1 (n.val % 8) none p2 = some n2 at e2
  show (F_remove k.2.2.2.2 n.val).2.2 (n2.val / 16) = true
  have eb : (F_remove k.2.2.2.2 n.val).2 = k.2.2.2.2.2 := by unfold F_remove; rw [F_low_s, F_low_s]
  rw [eb]
  by_cases hp : p2 = n.val % 8
  · subst hp
    rw [up_at] at e2
    cases e2
  · rw [up_ne _ _ hp] at e2
    exact h.1 p2 n2 e2
theorem F_raise_b (f : FV) (c : Nat) (lim : Int32) : (F_raise f c lim).2.2 = f.2.2 := by
  unfold F_raise
  split
  · rfl
  · split <;> rfl
theorem F_add_b (f : FV) (n : Nat) (lim : Int32) : (F_add f n lim).2.2 = va_up f.2.2 (n / 16) true := by
  unfold F_add
  rw [F_raise_b, F_raise_b]
  rfl
theorem IF_add {k : KV} {n : Fin 256} {lim : Int32} (x : Int32) (b : Bool) (h : IF k) (e : k.1 (n.val % 8) = none) (hl : 0 < lim) : IF (K_setF (K_fill k n x b) (F_add k.2.2.2.2 n.val lim)) := by
  refine ⟨fun p2 n2 e2 => ?_, CF_congr (CF_add n h.2 hl) (fun c => ?_)⟩
  · change va_up k.1 (n.val % 8) (some n) p2 = some n2 at e2
    show (F_add k.2.2.2.2 n.val lim).2.2 (n2.val / 16) = true
    rw [F_add_b]
    unfold va_up
    split
    · rfl
    · rename_i hne
      by_cases hp : p2 = n.val % 8
      · subst hp
        rw [up_at] at e2
        rw [Option.some.inj e2] at hne
        exact absurd rfl hne
      · rw [up_ne _ _ hp] at e2
        exact h.1 p2 n2 e2
  · have q := us_up k.1 (some n) c (p := n.val % 8) (by omega)
    rw [e] at q
    change us (va_up k.1 (n.val % 8) (some n)) c + 0 = us k.1 c + wN n c at q
    show us k.1 c + wN n c = us (va_up k.1 (n.val % 8) (some n)) c
    omega

/-! ===== machines: what always holds, and the same as the reference's ===== -/
def IM (m : MV) : Prop := IC m ∧ (∀ o, IF (m.2.1 o)) ∧ 0 < m.2.2.1
theorem IM_K {m : MV} {o : Nat} {k : KV} (h : IM m) (c : IC (M_setK m o k)) (f : IF k) : IM (M_setK m o k) := by
  refine ⟨c, fun o2 => ?_, h.2.2⟩
  by_cases ho : o2 = o
  · subst ho
    rw [MsK1]
    exact f
  · rw [MsKn m k ho]
    exact h.2.1 o2
theorem IM_tick {m : MV} (o t : Nat) (h : IM m) : IM (M_tick m o t) := IM_K h (IC_tick o t h.1) (h.2.1 o)
theorem IF_reach {k : KV} (n : Fin 256) (h : IF k) : IF (K_reach k n) := by
  have e := K_reach_same k n
  unfold IF
  rw [e.1, e.2.2.2]
  exact h
theorem IM_reach {m : MV} (o : Nat) (n : Fin 256) (h : IM m) : IM (M_reach m o n) := IM_K h (IC_reach o n h.1) (IF_reach n (h.2.1 o))
theorem IM_wb {m : MV} (o p : Nat) (h : IM m) : IM (M_wb m o p) := by
  refine ⟨IC_wb o p h.1, fun o2 => ?_, by rw [(M_wb_set m o p).1]; exact h.2.2⟩
  by_cases ho : o2 = o
  · subst ho
    rcases M_wb_K m o2 p with e | e <;> rw [e] <;> exact h.2.1 o2
  · rw [M_wb_Kn m p ho]
    exact h.2.1 o2
theorem M_wb_L (m : MV) (o p o2 : Nat) : ((M_wb m o p).2.1 o2).1 = (m.2.1 o2).1 := by
  by_cases ho : o2 = o
  · subst ho
    rcases M_wb_K m o2 p with e | e <;> rw [e] <;> rfl
  · rw [M_wb_Kn m p ho]
theorem M_wb_V (m : MV) (o p o2 : Nat) : ((M_wb m o p).2.1 o2).2.1 = (m.2.1 o2).2.1 := by
  by_cases ho : o2 = o
  · subst ho
    rcases M_wb_K m o2 p with e | e <;> rw [e] <;> rfl
  · rw [M_wb_Kn m p ho]
theorem M_wb_mem (m : MV) (o p k : Nat) (h : ∀ n, (m.2.1 o).1 p = some n → n.val ≠ k) : (M_wb m o p).1 k = m.1 k := by
  unfold M_wb
  split
  · rfl
  · rename_i n hn
    split
    · exact u_ne (fun q => h n hn q.symm)
    · rfl
theorem M_wb_clean (m : MV) (o p : Nat) {n : Fin 256} (h : (m.2.1 o).1 p = some n) : ((M_wb m o p).2.1 o).2.2.1 p = false := by
  unfold M_wb
  rw [h]
  show ((if (m.2.1 o).2.2.1 p = true then M_setBack (M_clean m o p n) ((M_clean m o p n).2.2.2.2.1 + 1) else m).2.1 o).2.2.1 p = false
  by_cases hd : (m.2.1 o).2.2.1 p = true
  · rw [if_pos hd]
    show ((M_clean m o p n).2.1 o).2.2.1 p = false
    unfold M_clean
    rw [MsK1]
    exact up_at _ _ _
  · rw [if_neg hd]
    simpa using hd
theorem IM_rel {m : MV} {o : Nat} {n : Fin 256} (h : IM m) (e : (m.2.1 o).1 (n.val % 8) = some n) : IM (M_rel m o n) := IM_K h (IC_rel o n h.1) (IF_rel (h.2.1 o) e)
theorem IM_vac {m : MV} (o p : Nat) (h : IM m) : IM (M_vac m o p) := by
  unfold M_vac
  split
  · exact h
  · rename_i n hn
    have hp := (h.1.1 o p n hn).1
    exact IM_rel (IM_wb o p h) (by rw [M_wb_L, hp]; exact hn)
theorem vac_L {m : MV} (o p : Nat) (h : IM m) : ((M_vac m o p).2.1 o).1 = va_up (m.2.1 o).1 p none ∧ (∀ o2, o2 ≠ o → (M_vac m o p).2.1 o2 = m.2.1 o2) ∧ (M_vac m o p).2.2.1 = m.2.2.1 ∧ (M_vac m o p).2.2.2.1 = m.2.2.2.1 := by
  unfold M_vac
  split
  · rename_i hn
    exact ⟨by rw [← hn, up_id], fun _ _ => rfl, rfl, rfl⟩
  · rename_i n hn
    have hp := (h.1.1 o p n hn).1
    refine ⟨?_, fun o2 ho => ?_, (M_wb_set m o p).1, (M_wb_set m o p).2⟩
    · unfold M_rel
      rw [MsK1]
      show va_up ((M_wb m o p).2.1 o).1 (n.val % 8) none = _
      rw [M_wb_L, hp]
    · unfold M_rel
      rw [MsKn _ _ ho, M_wb_Kn m p ho]
theorem vac_mem (m : MV) (o p k : Nat) (h : ∀ n, (m.2.1 o).1 p = some n → n.val ≠ k) : (M_vac m o p).1 k = m.1 k := by
  unfold M_vac
  split
  · rfl
  · exact M_wb_mem m o p k h
theorem put_eq (m : MV) (o : Nat) (n : Fin 256) (x : Int32) (b : Bool) : M_add (M_fill m o n x b) o n = M_setK m o (K_setF (K_fill (m.2.1 o) n x b) (F_add (m.2.1 o).2.2.2.2 n.val m.2.2.1)) := by
  unfold M_add M_fill
  rw [MsK1, MsK2]
  rfl
theorem IM_put {m : MV} {o : Nat} {n : Fin 256} {x : Int32} {b : Bool} (h : IM m) (ho : o < 4) (e : (m.2.1 o).1 (n.val % 8) = none) (hx : 0 ≤ x) (h1 : b = true → ∀ o2, o2 ≠ o → (m.2.1 o2).1 (n.val % 8) ≠ some n) (h2 : b = false → x = m.1 n.val ∧ ∀ o2, o2 ≠ o → (m.2.1 o2).1 (n.val % 8) = some n → (m.2.1 o2).2.2.1 (n.val % 8) = false) : IM (M_add (M_fill m o n x b) o n) := by
  have c : IC (M_add (M_fill m o n x b) o n) := IC_F o _ (IC_fill h.1 ho hx h1 h2)
  rw [put_eq] at c ⊢
  exact IM_K h c (IF_add x b (h.2.1 o) e h.2.2)
theorem put_L (m : MV) (o : Nat) (n : Fin 256) (x : Int32) (b : Bool) : ((M_add (M_fill m o n x b) o n).2.1 o).1 = va_up (m.2.1 o).1 (n.val % 8) (some n) ∧ ((M_add (M_fill m o n x b) o n).2.1 o).2.1 (n.val % 8) = x := by
  rw [put_eq, MsK1]
  exact ⟨rfl, u_eq⟩
def FA (m : MV) (o : Nat) (kept : Option (Fin 256)) (k : Nat) (u : MV × Int32) : Prop := IC u.1 ∧ (∀ o2, o2 ≠ o → u.1.2.1 o2 = m.2.1 o2) ∧ (u.1.2.2.1 = m.2.2.1 ∧ u.1.2.2.2.1 = m.2.2.2.1) ∧ (∀ p, (u.1.2.1 o).1 p = if p < k ∧ (m.2.1 o).1 p ≠ kept then none else (m.2.1 o).1 p) ∧ (u.1.2.1 o).2.1 = (m.2.1 o).2.1 ∧ ∃ c, c ≤ k ∧ u.2 = nI c
theorem FA_loop {m : MV} (o : Nat) (kept : Option (Fin 256)) (i : IC m) : ∀ k, FA m o kept k (it (M_faF o kept) k (m, 0))
  | 0 => ⟨i, fun _ _ => rfl, ⟨rfl, rfl⟩, fun p => by rw [if_neg (by omega)]; rfl, rfl, 0, Nat.le_refl _, rfl⟩
  | k + 1 => by
    rw [it_s]
    obtain ⟨h1, h2, h3, h4, h5, c, hc, h6⟩ := FA_loop o kept i k
    have hk : ((it (M_faF o kept) k (m, 0)).1.2.1 o).1 k = (m.2.1 o).1 k := by rw [h4, if_neg (by omega)]
    generalize it (M_faF o kept) k (m, 0) = u at h1 h2 h3 h4 h5 h6 hk ⊢
    unfold M_faF
    rw [hk]
    cases hn : (m.2.1 o).1 k with
    | none =>
      refine ⟨h1, h2, h3, fun p => ?_, h5, c, by omega, h6⟩
      show (u.1.2.1 o).1 p = _
      rw [h4 p]
      by_cases hp : p = k
      · subst hp
        rw [hn]
        simp
      · by_cases hq : p < k ∧ (m.2.1 o).1 p ≠ kept
        · rw [if_pos hq, if_pos ⟨by omega, hq.2⟩]
        · rw [if_neg hq, if_neg (fun z => hq ⟨by omega, z.2⟩)]
    | some n =>
      show FA m o kept (k + 1) (if kept = some n then u else (M_emp (M_wb u.1 o k) o k, u.2 + 1))
      by_cases hkn : kept = some n
      · rw [if_pos hkn]
        refine ⟨h1, h2, h3, fun p => ?_, h5, c, by omega, h6⟩
        rw [h4 p]
        by_cases hp : p = k
        · subst hp
          rw [if_neg (by omega), if_neg (fun z => z.2 (hn.trans hkn.symm))]
        · by_cases hq : p < k ∧ (m.2.1 o).1 p ≠ kept
          · rw [if_pos hq, if_pos ⟨by omega, hq.2⟩]
          · rw [if_neg hq, if_neg (fun z => hq ⟨by omega, z.2⟩)]
      · rw [if_neg hkn]
        refine ⟨IC_emp o k (IC_wb o k h1), fun o2 ho => ?_, ?_, fun p => ?_, ?_, c + 1, by omega, ?_⟩
        · show (M_emp (M_wb u.1 o k) o k).2.1 o2 = _
          unfold M_emp
          rw [MsKn _ _ ho, M_wb_Kn _ _ ho]
          exact h2 o2 ho
        · exact ⟨(M_wb_set u.1 o k).1.trans h3.1, (M_wb_set u.1 o k).2.trans h3.2⟩
        · show ((M_emp (M_wb u.1 o k) o k).2.1 o).1 p = _
          unfold M_emp
          rw [MsK1]
          show va_up ((M_wb u.1 o k).2.1 o).1 k none p = _
          rw [M_wb_L]
          by_cases hp : p = k
          · subst hp
            rw [up_at, if_pos ⟨by omega, by rw [hn]; exact fun z => hkn z.symm⟩]
          · rw [up_ne _ _ hp, h4 p]
            by_cases hq : p < k ∧ (m.2.1 o).1 p ≠ kept
            · rw [if_pos hq, if_pos ⟨by omega, hq.2⟩]
            · rw [if_neg hq, if_neg (fun z => hq ⟨by omega, z.2⟩)]
        · show ((M_emp (M_wb u.1 o k) o k).2.1 o).2.1 = _
          unfold M_emp
          rw [MsK1]
          show ((M_wb u.1 o k).2.1 o).2.1 = _
          rw [M_wb_V]
          exact h5
        · show u.2 + 1 = nI (c + 1)
          rw [h6]
          exact nI_inc _
theorem us_hi (L : Nat → Option (Fin 256)) {c : Nat} (h : 24 ≤ c) : us L c = 0 := by
  have z : ∀ x, wO x c = 0 := fun x => by
    unfold wO
    split
    · rfl
    · unfold wN
      rw [if_neg (by omega), if_neg (by omega)]
  simp only [us, z]
theorem CF_wipe {f : FV} {L : Nat → Option (Fin 256)} (h : CF f (us L)) : CF (F_wipe f) (fun _ => 0) := by
  rw [F_wipe_eq (fun c hc => (h.2 c hc).2)]
  refine ⟨fun c _ => ?_, fun c hc => nomatch hc⟩
  show clC f.1 c = nI 0
  unfold clC
  split
  · rfl
  · rename_i hc
    cases hs : f.2.1 c with
    | true => exact absurd (h.2 c hs).2 hc
    | false => rw [h.1 c hs, us_hi L (by omega)]
-- forgetting, at its end
theorem fa_K {m : MV} (o : Nat) (kept : Option (Fin 256)) (i : IC m) : ((M_fa m o kept).1.2.1 o).1 = (fun p => if p < 8 ∧ (m.2.1 o).1 p ≠ kept then none else (m.2.1 o).1 p) ∧ ((M_fa m o kept).1.2.1 o).2.1 = (m.2.1 o).2.1 ∧ ((M_fa m o kept).1.2.1 o).2.2.2.2 = F_wipe (m.2.1 o).2.2.2.2 ∧ (∀ o2, o2 ≠ o → (M_fa m o kept).1.2.1 o2 = m.2.1 o2) ∧ IC (M_fa m o kept).1 ∧ (M_fa m o kept).1.2.2.1 = m.2.2.1 ∧ ∃ c, c ≤ 8 ∧ (M_fa m o kept).2 = nI c := by
  obtain ⟨h1, h2, h3, h4, h5, c, hc, h6⟩ := FA_loop o kept i 8
  have hf := fa_F m o kept 8
  unfold M_fa M_wipe M_tick
  generalize it (M_faF o kept) 8 (m, 0) = u at h1 h2 h3 h4 h5 h6 hf ⊢
  refine ⟨?_, ?_, ?_, fun o2 ho => ?_, IC_tick o 5 (IC_F o _ h1), h3.1, c, hc, h6⟩
  · rw [MsK1, MsK1]
    exact funext h4
  · rw [MsK1, MsK1]
    exact h5
  · rw [MsK1, MsK1]
    show F_wipe (u.1.2.1 o).2.2.2.2 = _
    rw [hf]
  · rw [MsKn _ _ ho, MsKn _ _ ho]
    exact h2 o2 ho
theorem IM_fa0 {m : MV} (o : Nat) (h : IM m) : IM (M_fa m o none).1 := by
  obtain ⟨k1, k2, k3, k4, k5, k6, _⟩ := fa_K o none h.1
  refine ⟨k5, fun o2 => ?_, by rw [k6]; exact h.2.2⟩
  by_cases ho : o2 = o
  · subst ho
    have el : ((M_fa m o2 none).1.2.1 o2).1 = fun _ => none := by
      rw [k1]
      funext p
      by_cases hp : p < 8 ∧ (m.2.1 o2).1 p ≠ none
      · rw [if_pos hp]
      · rw [if_neg hp]
        cases hn : (m.2.1 o2).1 p with
        | none => rfl
        | some n =>
          have := (h.1.1 o2 p n hn).1
          exact absurd ⟨by omega, by rw [hn]; simp⟩ hp
    refine ⟨fun p n e => ?_, ?_⟩
    · rw [el] at e
      cases e
    · rw [el, k3]
      exact CF_congr (CF_wipe (h.2.1 o2).2) (fun c => rfl)
  · rw [k4 o2 ho]
    exact h.2.1 o2
theorem IM_fa1 {m : MV} {o : Nat} {n : Fin 256} (h : IM m) (e : (m.2.1 o).1 (n.val % 8) = some n) : IM (M_add (M_fa m o (some n)).1 o n) := by
  obtain ⟨k1, k2, k3, k4, k5, k6, _⟩ := fa_K o (some n) h.1
  have el : ((M_fa m o (some n)).1.2.1 o).1 = fun p => if p = n.val % 8 then some n else none := by
    rw [k1]
    funext p
    by_cases hp : p < 8 ∧ (m.2.1 o).1 p ≠ some n
    · rw [if_pos hp, if_neg (fun z => hp.2 (by rw [z]; exact e))]
    · rw [if_neg hp]
      cases hn : (m.2.1 o).1 p with
      | none =>
        rw [if_neg (fun z => by rw [z, e] at hn; cases hn)]
      | some n2 =>
        have h8 := (h.1.1 o p n2 hn).1
        have e2 : n2 = n := by
          by_cases z : n2 = n
          · exact z
          · exact absurd ⟨by omega, by rw [hn]; exact fun w => z (Option.some.inj w)⟩ hp
        rw [e2] at h8 ⊢
        rw [if_pos h8.symm]
  refine ⟨IC_F o _ k5, fun o2 => ?_, by show 0 < (M_fa m o (some n)).1.2.2.1; rw [k6]; exact h.2.2⟩
  unfold M_add
  by_cases ho : o2 = o
  · subst ho
    rw [MsK1]
    refine ⟨fun p n2 e2 => ?_, ?_⟩
    · change ((M_fa m o2 (some n)).1.2.1 o2).1 p = some n2 at e2
      rw [el] at e2
      change (if p = n.val % 8 then some n else none) = some n2 at e2
      have e3 : n2 = n := by
        by_cases hp : p = n.val % 8
        · rw [if_pos hp] at e2
          exact (Option.some.inj e2).symm
        · rw [if_neg hp] at e2
          cases e2
      subst e3
      show (F_add _ n2.val _).2.2 (n2.val / 16) = true
      rw [F_add_b, up_at]
    · show CF (F_add ((M_fa m o2 (some n)).1.2.1 o2).2.2.2.2 n.val (M_fa m o2 (some n)).1.2.2.1) (us ((M_fa m o2 (some n)).1.2.1 o2).1)
      rw [el, k3, k6]
      exact CF_congr (CF_add n (CF_wipe (h.2.1 o2).2) h.2.2) (fun c => by rw [us_one]; omega)
  · rw [MsKn _ _ ho, k4 o2 ho]
    exact h.2.1 o2
theorem begin_IM {m : MV} {o : Nat} {n : Fin 256} {x : Int32} {b : Bool} (h : IM m) (ho : o < 4) (e : (m.2.1 o).1 (n.val % 8) = none) (hx : 0 ≤ x) (h1 : b = true → ∀ o2, o2 ≠ o → (m.2.1 o2).1 (n.val % 8) ≠ some n) (h2 : b = false → x = m.1 n.val ∧ ∀ o2, o2 ≠ o → (m.2.1 o2).1 (n.val % 8) = some n → (m.2.1 o2).2.2.1 (n.val % 8) = false) : IM (M_begin m o n x b) ∧ ((M_begin m o n x b).2.1 o).1 (n.val % 8) = some n ∧ ((M_begin m o n x b).2.1 o).2.1 (n.val % 8) = x := by
  have hp := IM_put h ho e hx h1 h2
  obtain ⟨hl, hv⟩ := put_L m o n x b
  have hl2 : ((M_add (M_fill m o n x b) o n).2.1 o).1 (n.val % 8) = some n := by rw [hl, up_at]
  unfold M_begin
  split
  · exact ⟨hp, hl2, hv⟩
  · refine ⟨IM_fa1 hp hl2, ?_, ?_⟩
    · unfold M_add
      rw [MsK1]
      show ((M_fa (M_add (M_fill m o n x b) o n) o (some n)).1.2.1 o).1 (n.val % 8) = some n
      rw [(fa_K o (some n) hp.1).1]
      show (if n.val % 8 < 8 ∧ ((M_add (M_fill m o n x b) o n).2.1 o).1 (n.val % 8) ≠ some n then none else ((M_add (M_fill m o n x b) o n).2.1 o).1 (n.val % 8)) = some n
      rw [if_neg (fun z => z.2 hl2), hl2]
    · unfold M_add
      rw [MsK1]
      show ((M_fa (M_add (M_fill m o n x b) o n) o (some n)).1.2.1 o).2.1 (n.val % 8) = x
      rw [(fa_K o (some n) hp.1).2.1, hv]
/-! ===== reading, writing, dropping, forgetting: the same on both sides ===== -/
theorem M_reach_eq (m : MV) (o : Nat) (n : Fin 256) : M_reach m o n = if K_may (m.2.1 o) n = true then (if K_holds (m.2.1 o) n = true then M_tick m o 2 else M_tick (M_tick m o 2) o 3) else M_tick m o 4 := by
  have eh : K_holds (K_tick (m.2.1 o) 2) n = K_holds (m.2.1 o) n := rfl
  unfold M_reach K_reach
  rw [eh]
  by_cases h1 : K_may (m.2.1 o) n = true
  · rw [if_pos h1, if_pos h1]
    by_cases h2 : K_holds (m.2.1 o) n = true
    · rw [if_pos h2, if_pos h2]
      rfl
    · rw [if_neg h2, if_neg h2]
      unfold M_tick
      rw [MsK1, MsK2]
  · rw [if_neg h1, if_neg h1]
    rfl
theorem reach_holds (m : MV) (o : Nat) (n : Fin 256) : K_holds ((M_reach m o n).2.1 o) n = K_holds (m.2.1 o) n := by
  unfold M_reach
  rw [MsK1]
  unfold K_holds
  rw [(K_reach_same _ n).1]
theorem reach_L (m : MV) (o o2 : Nat) (n : Fin 256) : ((M_reach m o n).2.1 o2).1 = (m.2.1 o2).1 := by
  unfold M_reach
  by_cases h : o2 = o
  · subst h
    rw [MsK1, (K_reach_same _ n).1]
  · rw [MsKn _ _ h]
theorem holds_line {k : KV} {n : Fin 256} (h : K_holds k n = true) : k.1 (n.val % 8) = some n := of_decide_eq_true h
theorem holds_not {k : KV} {n : Fin 256} (h : ¬ K_holds k n = true) : k.1 (n.val % 8) ≠ some n := fun e => h (decide_eq_true e)
def rdS (u : MV) (i : Nat) (n : Fin 256) : MV := if K_may (u.2.1 i) n = true then (if K_holds ((M_reach u i n).2.1 i) n = true then M_wb (M_reach u i n) i (n.val % 8) else M_reach u i n) else M_reach u i n
def RD (m : MV) (r : Nat) (n : Fin 256) (k : Nat) (u : MV) : Prop := IM u ∧ (∀ o, (u.2.1 o).1 = (m.2.1 o).1) ∧ ∀ o, o < k → o ≠ r → (u.2.1 o).1 (n.val % 8) = some n → (u.2.1 o).2.2.1 (n.val % 8) = false
def wrS (u : MV) (i : Nat) (n : Fin 256) : MV := if K_may (u.2.1 i) n = true then (if K_holds ((M_reach u i n).2.1 i) n = true then M_rel (M_reach u i n) i n else M_reach u i n) else M_reach u i n
def TK (m : MV) (r : Nat) (n : Fin 256) (k : Nat) (u : MV × Int32) : Prop := IM u.1 ∧ u.1.2.1 r = m.2.1 r ∧ (∀ o, o < k → o ≠ r → (u.1.2.1 o).1 (n.val % 8) ≠ some n) ∧ ∃ c, c ≤ k ∧ u.2 = nI c
theorem TK_wr {m : MV} {u : MV × Int32} {r k : Nat} {n : Fin 256} (h : TK m r n k u) (hr : k ≠ r) : IM (wrS u.1 k n) ∧ (wrS u.1 k n).2.1 r = m.2.1 r ∧ ∀ o, o < k + 1 → o ≠ r → ((wrS u.1 k n).2.1 o).1 (n.val % 8) ≠ some n := by
  obtain ⟨h1, h2, h3, _⟩ := h
  have hi := IM_reach k n h1
  have er : (M_reach u.1 k n).2.1 r = m.2.1 r := by unfold M_reach; rw [MsKn _ _ (Ne.symm hr)]; exact h2
  unfold wrS
  by_cases hm : K_may (u.1.2.1 k) n = true
  · rw [if_pos hm]
    by_cases hh : K_holds ((M_reach u.1 k n).2.1 k) n = true
    · rw [if_pos hh]
      refine ⟨IM_rel hi (holds_line hh), ?_, fun o ho hor => ?_⟩
      · unfold M_rel
        rw [MsKn _ _ (Ne.symm hr)]
        exact er
      · by_cases hok : o = k
        · subst hok
          unfold M_rel
          rw [MsK1]
          show va_up ((M_reach u.1 o n).2.1 o).1 (n.val % 8) none (n.val % 8) ≠ some n
          rw [up_at]
          simp
        · unfold M_rel
          rw [MsKn _ _ hok, reach_L]
          exact h3 o (by omega) hor
    · rw [if_neg hh]
      refine ⟨hi, er, fun o ho hor => ?_⟩
      by_cases hok : o = k
      · subst hok
        exact holds_not hh
      · rw [reach_L]
        exact h3 o (by omega) hor
  · rw [if_neg hm]
    refine ⟨hi, er, fun o ho hor => ?_⟩
    rw [reach_L]
    by_cases hok : o = k
    · subst hok
      exact fun el => hm (IF_may (h1.2.1 o) el)
    · exact h3 o (by omega) hor
theorem K_setL_id {k : KV} {p : Nat} {x : Option (Fin 256)} (h : k.1 p = x) : K_setL k p x = k := by
  subst h
  exact congrArg (fun z => ((z, k.2) : KV)) (up_id k.1 p)
theorem K_setD_id {k : KV} {p : Nat} {x : Bool} (h : k.2.2.1 p = x) : K_setD k p x = k := by
  subst h
  exact congrArg (fun z => ((k.1, k.2.1, z, k.2.2.2) : KV)) (up_id k.2.2.1 p)
theorem IM_fillT {m : MV} {o : Nat} {n : Fin 256} {x : Int32} (h : IM m) (ho : o < 4) (hx : 0 ≤ x) (e : (m.2.1 o).1 (n.val % 8) = some n) (h1 : ∀ o2, o2 ≠ o → (m.2.1 o2).1 (n.val % 8) ≠ some n) : IM (M_fill m o n x true) := by
  have c := IC_fill (b := true) h.1 ho hx (fun _ => h1) (fun q => nomatch q)
  refine IM_K h c ?_
  have el : (K_fill (m.2.1 o) n x true).1 = (m.2.1 o).1 := by
    show va_up (m.2.1 o).1 (n.val % 8) (some n) = _
    rw [← e, up_id]
  have i := h.2.1 o
  unfold IF
  rw [el]
  exact i
def wr2 (u : MV × Int32) (r : Nat) (n : Fin 256) (x : Int32) : MV × Int32 := if K_holds (u.1.2.1 r) n = true then (M_fill u.1 r n x true, u.2) else (M_begin (M_vac u.1 r (n.val % 8)) r n x true, u.2)
theorem IM_wrs {m : MV} (x : Int32) (h : IM m) : IM (M_setWr m x) := h
theorem cnt_F (t : Nat → Bool) : (fun (i : Nat) (x : Int32) => x + bI (t i)) = cntF t := by
  funext i x
  unfold cntF bI
  split
  · rfl
  · exact Int32.add_zero x
theorem RD_step1 {m u : MV} {r k : Nat} {n : Fin 256} (h : RD m r n k u) : RD m r n (k + 1) (M_readF r n k u) := by
  obtain ⟨h1, h2, h3⟩ := h
  by_cases hr : k = r
  · have e : M_readF r n k u = u := by unfold M_readF; rw [if_pos hr]
    rw [e]
    exact ⟨h1, h2, fun o ho hor => h3 o (by omega) hor⟩
  · have e : M_readF r n k u = rdS u k n := by unfold M_readF rdS; rw [if_neg hr]
    rw [e]
    have hi := IM_reach k n h1
    unfold rdS
    by_cases hm : K_may (u.2.1 k) n = true
    · rw [if_pos hm]
      by_cases hh : K_holds ((M_reach u k n).2.1 k) n = true
      · rw [if_pos hh]
        refine ⟨IM_wb _ _ hi, fun o => ?_, fun o ho hor el => ?_⟩
        · rw [M_wb_L, reach_L, h2]
        · by_cases hok : o = k
          · subst hok
            exact M_wb_clean _ _ _ (holds_line hh)
          · rw [M_wb_Kn _ _ hok] at el ⊢
            unfold M_reach at el ⊢
            rw [MsKn _ _ hok] at el ⊢
            exact h3 o (by omega) hor el
      · rw [if_neg hh]
        refine ⟨hi, fun o => by rw [reach_L, h2], fun o ho hor el => ?_⟩
        by_cases hok : o = k
        · subst hok
          exact absurd el (holds_not hh)
        · unfold M_reach at el ⊢
          rw [MsKn _ _ hok] at el ⊢
          exact h3 o (by omega) hor el
    · rw [if_neg hm]
      refine ⟨hi, fun o => by rw [reach_L, h2], fun o ho hor el => ?_⟩
      by_cases hok : o = k
      · subst hok
        rw [reach_L] at el
        exact absurd (IF_may (h1.2.1 o) el) hm
      · unfold M_reach at el ⊢
        rw [MsKn _ _ hok] at el ⊢
        exact h3 o (by omega) hor el
theorem RD_loop1 {m : MV} (r : Nat) (n : Fin 256) (h : IM m) : ∀ k, RD m r n k (it (M_readF r n) k m)
  | 0 => ⟨h, fun _ => rfl, fun o ho => by omega⟩
  | k + 1 => by
    rw [it_s]
    exact RD_step1 (RD_loop1 r n h k)
theorem IM_read {m : MV} {r : Nat} (n : Fin 256) (h : IM m) (hr : r < 4) : IM (M_read m r n).1 ∧ 0 ≤ (M_read m r n).2 := by
  by_cases hh : K_holds (m.2.1 r) n = true
  · have e := holds_line hh
    have e2 : ((M_tick m r 0).2.1 r).1 (n.val % 8) = some n := by unfold M_tick; rw [MsK1]; exact e
    unfold M_read
    rw [if_pos hh]
    exact ⟨IM_tick r 0 h, (IM_tick r 0 h).1.2.2.2.1 r _ n e2⟩
  · obtain ⟨i, hl, hc⟩ := RD_loop1 r n (IM_tick r 1 h) 4
    have eq1 : M_miss m r n = it (M_readF r n) 4 (M_tick m r 1) := rfl
    rw [← eq1] at i hl hc
    have hne : ((M_miss m r n).2.1 r).1 (n.val % 8) ≠ some n := by
      rw [hl]
      unfold M_tick
      rw [MsK1]
      exact holds_not hh
    obtain ⟨vl, vk, vs, vf⟩ := vac_L r (n.val % 8) i
    have vi := IM_vac r (n.val % 8) i
    have vn : ((M_vac (M_miss m r n) r (n.val % 8)).2.1 r).1 (n.val % 8) = none := by rw [vl, up_at]
    have vm : (M_vac (M_miss m r n) r (n.val % 8)).1 n.val = (M_miss m r n).1 n.val := vac_mem _ _ _ _ (fun n2 e2 q => hne (by rw [e2, Fin.ext q]))
    have c2 : false = false → (M_miss m r n).1 n.val = (M_vac (M_miss m r n) r (n.val % 8)).1 n.val ∧ ∀ o2, o2 ≠ r → ((M_vac (M_miss m r n) r (n.val % 8)).2.1 o2).1 (n.val % 8) = some n → ((M_vac (M_miss m r n) r (n.val % 8)).2.1 o2).2.2.1 (n.val % 8) = false := by
      refine fun _ => ⟨vm.symm, fun o2 ho el => ?_⟩
      rw [vk o2 ho] at el ⊢
      exact hc o2 (i.1.1 o2 _ n el).2 ho el
    have hx : 0 ≤ (M_miss m r n).1 n.val := i.1.2.2.2.2 n.val
    obtain ⟨b1, b2, b3⟩ := begin_IM (b := false) vi hr vn hx (fun q => nomatch q) c2
    unfold M_read
    rw [if_neg hh]
    exact ⟨b1, hx⟩
theorem M_takeF_eq {u : MV × Int32} {r k : Nat} {n : Fin 256} (hr : k ≠ r) : M_takeF r n k u = (wrS u.1 k n, if K_may (u.1.2.1 k) n = true then u.2 + 1 else u.2) := by
  unfold M_takeF wrS
  rw [if_neg hr]
  by_cases h1 : K_may (u.1.2.1 k) n = true
  · rw [if_pos h1, if_pos h1, if_pos h1]
    by_cases h2 : K_holds ((M_reach u.1 k n).2.1 k) n = true
    · rw [if_pos h2, if_pos h2]
    · rw [if_neg h2, if_neg h2]
  · rw [if_neg h1, if_neg h1, if_neg h1]
theorem TK_step1 {m : MV} {u : MV × Int32} {r k : Nat} {n : Fin 256} (h : TK m r n k u) : TK m r n (k + 1) (M_takeF r n k u) := by
  by_cases hr : k = r
  · have e : M_takeF r n k u = u := by unfold M_takeF; rw [if_pos hr]
    rw [e]
    obtain ⟨h1, h2, h3, c, hc, h4⟩ := h
    exact ⟨h1, h2, fun o ho hor => h3 o (by omega) hor, c, by omega, h4⟩
  · rw [M_takeF_eq hr]
    obtain ⟨a1, a2, a3⟩ := TK_wr h hr
    obtain ⟨h1, h2, h3, c, hc, h4⟩ := h
    refine ⟨a1, a2, a3, ?_⟩
    show ∃ c, c ≤ k + 1 ∧ (if K_may (u.1.2.1 k) n = true then u.2 + 1 else u.2) = nI c
    split
    · exact ⟨c + 1, by omega, by rw [h4]; exact nI_inc _⟩
    · exact ⟨c, by omega, h4⟩
theorem TK_loop1 {m : MV} (r : Nat) (n : Fin 256) (h : IM m) : ∀ k, TK m r n k (it (M_takeF r n) k (m, 0))
  | 0 => ⟨h, rfl, fun o ho => by omega, 0, Nat.le_refl _, rfl⟩
  | k + 1 => by
    rw [it_s]
    exact TK_step1 (TK_loop1 r n h k)
theorem IM_wr2 {m : MV} {r : Nat} {n : Fin 256} {x : Int32} (h : IM m) (hr : r < 4) (hx : 0 ≤ x) : IM (wr2 (M_take m r n) r n x).1 ∧ 0 ≤ (wr2 (M_take m r n) r n x).2 := by
  obtain ⟨i, hk, hc, c, hc4, he⟩ := TK_loop1 r n h 4
  change IM (M_take m r n).1 at i
  change (M_take m r n).1.2.1 r = m.2.1 r at hk
  change ∀ o, o < 4 → o ≠ r → ((M_take m r n).1.2.1 o).1 (n.val % 8) ≠ some n at hc
  change (M_take m r n).2 = nI c at he
  generalize M_take m r n = u at i hk hc he ⊢
  have others : ∀ o2, o2 ≠ r → (u.1.2.1 o2).1 (n.val % 8) ≠ some n := fun o2 ho el => hc o2 (i.1.1 o2 _ n el).2 ho el
  have hpos : 0 ≤ u.2 := by
    rw [he, show (0 : Int32) = nI 0 from rfl, nI_leI (by decide) (by omega)]
    omega
  unfold wr2
  by_cases hh : K_holds (u.1.2.1 r) n = true
  · rw [if_pos hh]
    exact ⟨IM_fillT i hr hx (holds_line hh) others, hpos⟩
  · rw [if_neg hh]
    obtain ⟨vl, vk, vs, vf⟩ := vac_L r (n.val % 8) i
    have vi := IM_vac r (n.val % 8) i
    have vn : ((M_vac u.1 r (n.val % 8)).2.1 r).1 (n.val % 8) = none := by rw [vl, up_at]
    have c1 : true = true → ∀ o2, o2 ≠ r → ((M_vac u.1 r (n.val % 8)).2.1 o2).1 (n.val % 8) ≠ some n := fun _ o2 ho => by rw [vk o2 ho]; exact others o2 ho
    obtain ⟨b1, b2, b3⟩ := begin_IM (b := true) vi hr vn hx c1 (fun q => nomatch q)
    exact ⟨b1, hpos⟩
theorem IM_write {m : MV} {r : Nat} (n : Fin 256) {x : Int32} (h : IM m) (hr : r < 4) (hx : 0 ≤ x) : IM (M_write m r n x).1 ∧ 0 ≤ (M_write m r n x).2 := by
  have iw : IM (M_setWr m (m.2.2.2.2.2 + 1)) := h
  have hwr2 : M_write m r n x = wr2 (M_own m r n) r n x := rfl
  rw [hwr2]
  unfold M_own
  generalize M_setWr m (m.2.2.2.2.2 + 1) = w at iw ⊢
  have key := IM_wr2 (n := n) iw hr hx
  by_cases hk : K_hd (w.2.1 r) n = true
  · rw [if_pos hk]
    have hk2 := hk
    unfold K_hd at hk2
    rw [Bool.and_eq_true] at hk2
    unfold wr2
    rw [if_pos hk2.1]
    have e := holds_line hk2.1
    exact ⟨IM_fillT iw hr hx e (fun o2 ho el => ho (iw.1.2.1 r _ n e hk2.2 o2 el)), Int32.le_refl 0⟩
  · rw [if_neg hk]
    exact key
theorem IM_drop {m : MV} {r : Nat} {n : Fin 256} (h : IM m) (hh : K_holds (m.2.1 r) n = true) : IM (M_drop m r n).1 ∧ 0 ≤ (M_drop m r n).2 := by
  unfold M_drop
  rw [if_pos hh]
  refine ⟨IM_vac r _ h, ?_⟩
  show 0 ≤ (if K_hd (m.2.1 r) n = true then (1 : Int32) else 0)
  split <;> decide
theorem IM_forget {m : MV} {r : Nat} (h : IM m) (hh : ¬ K_nothing (m.2.1 r) = true) : IM (M_forget m r).1 ∧ 0 ≤ (M_forget m r).2 := by
  unfold M_forget
  rw [if_neg hh]
  refine ⟨IM_fa0 r h, ?_⟩
  obtain ⟨_, _, _, _, _, _, c, hc, e⟩ := fa_K r none h.1
  rw [e, show (0 : Int32) = nI 0 from rfl, nI_leI (by decide) (by omega)]
  omega
theorem cN_lt {x hi : Int32} {B : Nat} (hB : hi = nI B) (hb : B < 2 ^ 31) (h : S_within x 0 hi = true) : cN x ≤ B ∧ x = nI (cN x) := by
  obtain ⟨k, hk, rfl⟩ := within_nat hB hb h
  rw [cN_nI (by omega)]
  exact ⟨hk, rfl⟩
theorem w_pos {x hi : Int32} (h : S_within x 0 hi = true) : 0 ≤ x := by
  simp only [S_within, Bool.and_eq_true, Bool.not_eq_true', decide_eq_false_iff_not] at h
  exact i_nlt.mp h.1
theorem w_pos1 {x hi : Int32} (h : S_within x 1 hi = true) : 0 < x := by
  simp only [S_within, Bool.and_eq_true, Bool.not_eq_true', decide_eq_false_iff_not] at h
  exact i_ltle (by decide) (i_nlt.mp h.1)
