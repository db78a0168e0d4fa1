/-! ===== what always holds: caches and memory; filters ===== -/
def IC (m : MV) : Prop := (∀ o p n, (m.2.1 o).1 p = some n → n.val % 8 = p ∧ o < 4) ∧ (∀ o p n, (m.2.1 o).1 p = some n → (m.2.1 o).2.2.1 p = true → ∀ o2, (m.2.1 o2).1 p = some n → o2 = o) ∧ (∀ o p n, (m.2.1 o).1 p = some n → (m.2.1 o).2.2.1 p = false → (m.2.1 o).2.1 p = m.1 n.val) ∧ (∀ o p n, (m.2.1 o).1 p = some n → 0 ≤ (m.2.1 o).2.1 p) ∧ (∀ k, 0 ≤ m.1 k)
theorem IC_sub {m m2 : MV} (hm : m2.1 = m.1) (h : ∀ o p n, (m2.2.1 o).1 p = some n → (m.2.1 o).1 p = some n ∧ (m2.2.1 o).2.1 p = (m.2.1 o).2.1 p ∧ (m2.2.1 o).2.2.1 p = (m.2.1 o).2.2.1 p) (i : IC m) : IC m2 := by
  obtain ⟨i1, i2, i3, i4, i5⟩ := i
  refine ⟨fun o p n e => i1 o p n (h o p n e).1, fun o p n e d o2 e2 => ?_, fun o p n e d => ?_, fun o p n e => ?_, fun k => by rw [hm]; exact i5 k⟩
  · rw [(h o p n e).2.2] at d
    exact i2 o p n (h o p n e).1 d o2 (h o2 p n e2).1
  · rw [(h o p n e).2.2] at d
    rw [(h o p n e).2.1, hm]
    exact i3 o p n (h o p n e).1 d
  · rw [(h o p n e).2.1]
    exact i4 o p n (h o p n e).1
theorem IC_K {m : MV} {o : Nat} {k : KV} (h : ∀ p n, k.1 p = some n → (m.2.1 o).1 p = some n ∧ k.2.1 p = (m.2.1 o).2.1 p ∧ k.2.2.1 p = (m.2.1 o).2.2.1 p) (i : IC m) : IC (M_setK m o k) := by
  refine IC_sub (m := m) (m2 := M_setK m o k) rfl (fun o2 p n e => ?_) i
  by_cases ho : o2 = o
  · subst ho
    rw [MsK1] at e ⊢
    exact h p n e
  · rw [MsKn m k ho] at e ⊢
    exact ⟨e, rfl, rfl⟩
theorem IC_wb {m : MV} (o p : Nat) (i : IC m) : IC (M_wb m o p) := by
  unfold M_wb
  split
  · exact i
  · rename_i n hn
    split
    · rename_i hd
      obtain ⟨i1, i2, i3, i4, i5⟩ := i
      have L : ∀ o2, ((M_clean m o p n).2.1 o2).1 = (m.2.1 o2).1 ∧ ((M_clean m o p n).2.1 o2).2.1 = (m.2.1 o2).2.1 ∧ ∀ p2, ((M_clean m o p n).2.1 o2).2.2.1 p2 = if o2 = o ∧ p2 = p then false else (m.2.1 o2).2.2.1 p2 := by
        intro o2
        unfold M_clean
        by_cases ho : o2 = o
        · subst ho
          rw [MsK1]
          refine ⟨rfl, rfl, fun p2 => ?_⟩
          show va_up (m.2.1 o2).2.2.1 p false p2 = _
          unfold va_up
          by_cases hp : p2 = p
          · rw [if_pos hp, if_pos ⟨rfl, hp⟩]
          · rw [if_neg hp, if_neg (fun q => hp q.2)]
        · rw [MsKn _ _ ho]
          exact ⟨rfl, rfl, fun p2 => by rw [if_neg (fun q => ho q.1)]; rfl⟩
      have M : (M_clean m o p n).1 = upd m.1 n.val ((m.2.1 o).2.1 p) := rfl
      show IC (M_setBack (M_clean m o p n) ((M_clean m o p n).2.2.2.2.1 + 1))
      refine ⟨fun o2 p2 n2 e => ?_, fun o2 p2 n2 e d o3 e3 => ?_, fun o2 p2 n2 e d => ?_, fun o2 p2 n2 e => ?_, fun k => ?_⟩
      · change ((M_clean m o p n).2.1 o2).1 p2 = some n2 at e
        rw [(L o2).1] at e
        exact i1 o2 p2 n2 e
      · change ((M_clean m o p n).2.1 o2).1 p2 = some n2 at e
        change ((M_clean m o p n).2.1 o3).1 p2 = some n2 at e3
        change ((M_clean m o p n).2.1 o2).2.2.1 p2 = true at d
        rw [(L o2).1] at e
        rw [(L o3).1] at e3
        rw [(L o2).2.2] at d
        split at d
        · cases d
        · exact i2 o2 p2 n2 e d o3 e3
      · change ((M_clean m o p n).2.1 o2).1 p2 = some n2 at e
        change ((M_clean m o p n).2.1 o2).2.2.1 p2 = false at d
        show ((M_clean m o p n).2.1 o2).2.1 p2 = (M_clean m o p n).1 n2.val
        rw [(L o2).1] at e
        rw [(L o2).2.2] at d
        rw [(L o2).2.1, M]
        by_cases hn2 : n2 = n
        · subst hn2
          rw [u_eq]
          have ep : p2 = p := (i1 o2 p2 n2 e).1.symm.trans (i1 o p n2 hn).1
          subst ep
          have eo : o2 = o := i2 o p2 n2 hn hd o2 e
          rw [eo]
        · rw [u_ne (fun q => hn2 (Fin.ext q))]
          split at d
          · rename_i hq
            obtain ⟨rfl, rfl⟩ := hq
            rw [hn] at e
            exact absurd (Option.some.inj e).symm hn2
          · exact i3 o2 p2 n2 e d
      · change ((M_clean m o p n).2.1 o2).1 p2 = some n2 at e
        show 0 ≤ ((M_clean m o p n).2.1 o2).2.1 p2
        rw [(L o2).1] at e
        rw [(L o2).2.1]
        exact i4 o2 p2 n2 e
      · show 0 ≤ (M_clean m o p n).1 k
        rw [M]
        unfold upd
        split
        · exact i4 o p n hn
        · exact i5 k
    · exact i
theorem IC_emp {m : MV} (o p : Nat) (i : IC m) : IC (M_emp m o p) := by
  refine IC_K (fun p2 n e => ?_) i
  change va_up (m.2.1 o).1 p none p2 = some n at e
  by_cases hp : p2 = p
  · subst hp
    rw [up_at] at e
    cases e
  · rw [up_ne _ _ hp] at e
    exact ⟨e, rfl, up_ne _ _ hp⟩
theorem IC_rel {m : MV} (o : Nat) (n : Fin 256) (i : IC m) : IC (M_rel m o n) := by
  refine IC_K (fun p2 n2 e => ?_) i
  change va_up (m.2.1 o).1 (n.val % 8) none p2 = some n2 at e
  by_cases hp : p2 = n.val % 8
  · subst hp
    rw [up_at] at e
    cases e
  · rw [up_ne _ _ hp] at e
    exact ⟨e, rfl, up_ne _ _ hp⟩
theorem IC_F {m : MV} (o : Nat) (f : FV) (i : IC m) : IC (M_setK m o (K_setF (m.2.1 o) f)) := IC_K (fun _ _ e => ⟨e, rfl, rfl⟩) i
theorem IC_tick {m : MV} (o t : Nat) (i : IC m) : IC (M_tick m o t) := IC_K (fun _ _ e => ⟨e, rfl, rfl⟩) i
theorem K_reach_same (k : KV) (n : Fin 256) : (K_reach k n).1 = k.1 ∧ (K_reach k n).2.1 = k.2.1 ∧ (K_reach k n).2.2.1 = k.2.2.1 ∧ (K_reach k n).2.2.2.2 = k.2.2.2.2 := by
  unfold K_reach
  split
  · split
    · exact ⟨rfl, rfl, rfl, rfl⟩
    · exact ⟨rfl, rfl, rfl, rfl⟩
  · exact ⟨rfl, rfl, rfl, rfl⟩
theorem IC_reach {m : MV} (o : Nat) (n : Fin 256) (i : IC m) : IC (M_reach m o n) := by
  have h := K_reach_same (m.2.1 o) n
  exact IC_K (fun p _ e => ⟨by rw [h.1] at e; exact e, by rw [h.2.1], by rw [h.2.2.1]⟩) i
theorem IC_fill {m : MV} {o : Nat} {n : Fin 256} {x : Int32} {b : Bool} (i : IC m) (ho : o < 4) (hx : 0 ≤ x) (h1 : b = true → ∀ o2, o2 ≠ o → (m.2.1 o2).1 (n.val % 8) ≠ some n) (h2 : b = false → x = m.1 n.val ∧ ∀ o2, o2 ≠ o → (m.2.1 o2).1 (n.val % 8) = some n → (m.2.1 o2).2.2.1 (n.val % 8) = false) : IC (M_fill m o n x b) := by
  obtain ⟨i1, i2, i3, i4, i5⟩ := i
  have A : ∀ p2, ((M_fill m o n x b).2.1 o).1 p2 = (if p2 = n.val % 8 then some n else (m.2.1 o).1 p2) ∧ ((M_fill m o n x b).2.1 o).2.1 p2 = (if p2 = n.val % 8 then x else (m.2.1 o).2.1 p2) ∧ ((M_fill m o n x b).2.1 o).2.2.1 p2 = (if p2 = n.val % 8 then b else (m.2.1 o).2.2.1 p2) := by
    intro p2
    unfold M_fill
    rw [MsK1]
    exact ⟨rfl, rfl, rfl⟩
  have B : ∀ o2, o2 ≠ o → (M_fill m o n x b).2.1 o2 = m.2.1 o2 := fun o2 h => MsKn _ _ h
  have M : (M_fill m o n x b).1 = m.1 := rfl
  refine ⟨fun o2 p2 n2 e => ?_, fun o2 p2 n2 e d o3 e3 => ?_, fun o2 p2 n2 e d => ?_, fun o2 p2 n2 e => ?_, fun k => i5 k⟩
  · by_cases h : o2 = o
    · subst h
      rw [(A p2).1] at e
      split at e
      · rename_i hp
        rw [← Option.some.inj e]
        exact ⟨hp.symm, ho⟩
      · exact i1 o2 p2 n2 e
    · rw [B o2 h] at e
      exact i1 o2 p2 n2 e
  · by_cases h : o2 = o
    · subst h
      rw [(A p2).1] at e
      rw [(A p2).2.2] at d
      by_cases h3 : o3 = o2
      · exact h3
      · rw [B o3 h3] at e3
        by_cases hp : p2 = n.val % 8
        · rw [if_pos hp] at e d
          rw [← Option.some.inj e, hp] at e3
          exact absurd e3 (h1 d o3 h3)
        · rw [if_neg hp] at e d
          exact i2 o2 p2 n2 e d o3 e3
    · rw [B o2 h] at e d
      by_cases h3 : o3 = o
      · subst h3
        rw [(A p2).1] at e3
        by_cases hp : p2 = n.val % 8
        · rw [if_pos hp] at e3
          have en := Option.some.inj e3
          subst en
          subst hp
          cases b with
          | true => exact absurd e (h1 rfl o2 h)
          | false =>
            rw [(h2 rfl).2 o2 h e] at d
            cases d
        · rw [if_neg hp] at e3
          exact i2 o2 p2 n2 e d o3 e3
      · rw [B o3 h3] at e3
        exact i2 o2 p2 n2 e d o3 e3
  · rw [M]
    by_cases h : o2 = o
    · subst h
      rw [(A p2).1] at e
      rw [(A p2).2.2] at d
      rw [(A p2).2.1]
      by_cases hp : p2 = n.val % 8
      · rw [if_pos hp] at e d ⊢
        rw [← Option.some.inj e]
        exact (h2 d).1
      · rw [if_neg hp] at e d ⊢
        exact i3 o2 p2 n2 e d
    · rw [B o2 h] at e d ⊢
      exact i3 o2 p2 n2 e d
  · by_cases h : o2 = o
    · subst h
      rw [(A p2).1] at e
      rw [(A p2).2.1]
      by_cases hp : p2 = n.val % 8
      · rw [if_pos hp]
        exact hx
      · rw [if_neg hp] at e ⊢
        exact i4 o2 p2 n2 e
    · rw [B o2 h] at e ⊢
      exact i4 o2 p2 n2 e
-- filters
def CF (f : FV) (u : Nat → Nat) : Prop := (∀ c, f.2.1 c = false → f.1 c = nI (u c)) ∧ (∀ c, f.2.1 c = true → 0 < f.1 c ∧ c < 24)
theorem CF_congr {f : FV} {u u2 : Nat → Nat} (h : CF f u) (e : ∀ c, u c = u2 c) : CF f u2 := by
  have : u = u2 := funext e
  rw [← this]
  exact h
theorem CF_pos {f : FV} {u : Nat → Nat} (h : CF f u) {c : Nat} (h1 : 1 ≤ u c) (h2 : u c < 2 ^ 31) : 0 < f.1 c := by
  cases hs : f.2.1 c with
  | true => exact (h.2 c hs).1
  | false =>
    rw [h.1 c hs]
    exact nI_gt0 h1 h2
theorem CF_raise {f : FV} {u : Nat → Nat} {c : Nat} {lim : Int32} (h : CF f u) (hl : 0 < lim) (hc : c < 24) : CF (F_raise f c lim) (fun j => if j = c then u j + 1 else u j) := by
  unfold F_raise
  split
  · rename_i hs
    refine ⟨fun j hj => ?_, h.2⟩
    have hne : j ≠ c := fun q => by rw [q, hs] at hj; cases hj
    show f.1 j = nI (if j = c then u j + 1 else u j)
    rw [if_neg hne]
    exact h.1 j hj
  · rename_i hs
    split
    · refine ⟨fun j hj => ?_, fun j hj => ?_⟩
      · show upd f.1 c (f.1 c + 1) j = nI (if j = c then u j + 1 else u j)
        by_cases e : j = c
        · subst e
          rw [u_eq, if_pos rfl, h.1 j hj]
          exact nI_inc _
        · rw [u_ne e, if_neg e]
          exact h.1 j hj
      · have hne : j ≠ c := fun q => hs (q ▸ hj)
        show 0 < upd f.1 c (f.1 c + 1) j ∧ _
        rw [u_ne hne]
        exact h.2 j hj
    · rename_i hlt
      refine ⟨fun j hj => ?_, fun j hj => ?_⟩
      · change va_up f.2.1 c true j = false at hj
        by_cases e : j = c
        · subst e
          rw [up_at] at hj
          cases hj
        · rw [up_ne _ _ e] at hj
          show f.1 j = nI (if j = c then u j + 1 else u j)
          rw [if_neg e]
          exact h.1 j hj
      · change va_up f.2.1 c true j = true at hj
        by_cases e : j = c
        · subst e
          exact ⟨i_ltle hl (i_nlt.mp hlt), hc⟩
        · rw [up_ne _ _ e] at hj
          exact h.2 j hj
theorem CF_lower {f : FV} {u : Nat → Nat} {c : Nat} (h : CF f u) (h1 : 1 ≤ u c) (h2 : u c < 2 ^ 31) : CF (F_lower f c) (fun j => if j = c then u j - 1 else u j) := by
  have hp := CF_pos h h1 h2
  unfold F_lower
  split
  · rename_i hs
    refine ⟨fun j hj => ?_, h.2⟩
    have hne : j ≠ c := fun q => by rw [q, hs] at hj; cases hj
    show f.1 j = nI (if j = c then u j - 1 else u j)
    rw [if_neg hne]
    exact h.1 j hj
  · rename_i hs
    rw [if_neg (i_nle.mpr hp)]
    refine ⟨fun j hj => ?_, fun j hj => ?_⟩
    · show upd f.1 c (f.1 c - 1) j = nI (if j = c then u j - 1 else u j)
      by_cases e : j = c
      · subst e
        rw [u_eq, if_pos rfl, h.1 j hj]
        exact pk_sub (a := u j) (b := 1) h1
      · rw [u_ne e, if_neg e]
        exact h.1 j hj
    · have hne : j ≠ c := fun q => hs (q ▸ hj)
      show 0 < upd f.1 c (f.1 c - 1) j ∧ _
      rw [u_ne hne]
      exact h.2 j hj
def wN (n : Fin 256) (c : Nat) : Nat := (if c = n.val % 24 then 1 else 0) + (if c = (7 * n.val + 5) % 24 then 1 else 0)
def wO (x : Option (Fin 256)) (c : Nat) : Nat := match x with
  | none => 0
  | some n => wN n c
theorem wO_le (x : Option (Fin 256)) (c : Nat) : wO x c ≤ 2 := by
  unfold wO
  split
  · omega
  · unfold wN
    split <;> split <;> omega
def us (L : Nat → Option (Fin 256)) (c : Nat) : Nat := wO (L 0) c + wO (L 1) c + wO (L 2) c + wO (L 3) c + wO (L 4) c + wO (L 5) c + wO (L 6) c + wO (L 7) c
theorem us_lt (L : Nat → Option (Fin 256)) (c : Nat) : us L c < 2 ^ 31 := by
  have h0 := wO_le (L 0) c
  have h1 := wO_le (L 1) c
  have h2 := wO_le (L 2) c
  have h3 := wO_le (L 3) c
  have h4 := wO_le (L 4) c
  have h5 := wO_le (L 5) c
  have h6 := wO_le (L 6) c
  have h7 := wO_le (L 7) c
  unfold us
  omega
theorem lt8 {P : Nat → Prop} (h0 : P 0) (h1 : P 1) (h2 : P 2) (h3 : P 3) (h4 : P 4) (h5 : P 5) (h6 : P 6) (h7 : P 7) {p : Nat} (hp : p < 8) : P p := by
  rcases (show p = 0 ∨ p = 1 ∨ p = 2 ∨ p = 3 ∨ p = 4 ∨ p = 5 ∨ p = 6 ∨ p = 7 by omega) with h | h | h | h | h | h | h | h <;> subst h <;> assumption
theorem us_up (L : Nat → Option (Fin 256)) (x : Option (Fin 256)) (c : Nat) {p : Nat} (hp : p < 8) : us (va_up L p x) c + wO (L p) c = us L c + wO x c := by
  refine lt8 (P := fun p => us (va_up L p x) c + wO (L p) c = us L c + wO x c) ?_ ?_ ?_ ?_ ?_ ?_ ?_ ?_ hp <;> simp [us, va_up] <;> omega
theorem us_ge (L : Nat → Option (Fin 256)) (c : Nat) {p : Nat} (hp : p < 8) : wO (L p) c ≤ us L c := by
  refine lt8 (P := fun p => wO (L p) c ≤ us L c) ?_ ?_ ?_ ?_ ?_ ?_ ?_ ?_ hp <;> (unfold us; omega)
theorem us_none (c : Nat) : us (fun _ => none) c = 0 := rfl
theorem us_one (n : Fin 256) (c : Nat) : us (fun p => if p = n.val % 8 then some n else none) c = wN n c := by
  have h := us_up (fun _ => none) (some n) c (p := n.val % 8) (by omega)
  rw [us_none] at h
  have e : va_up (fun _ => none) (n.val % 8) (some n) = fun p => if p = n.val % 8 then some n else none := rfl
  rw [e] at h
  simpa [wO] using h
theorem c12 (n : Nat) : (7 * n + 5) % 24 ≠ n % 24 := by omega
theorem wN1 (n : Fin 256) : wN n (n.val % 24) = 1 := by
  unfold wN
  rw [if_pos rfl, if_neg (fun q => c12 n.val q.symm)]
theorem wN2 (n : Fin 256) : wN n ((7 * n.val + 5) % 24) = 1 := by
  unfold wN
  rw [if_neg (c12 n.val), if_pos rfl]
theorem CF_B {f : FV} {u : Nat → Nat} (b : Nat → Bool) (h : CF f u) : CF (f.1, f.2.1, b) u := h
theorem CF_add {f : FV} {u : Nat → Nat} {lim : Int32} (n : Fin 256) (h : CF f u) (hl : 0 < lim) : CF (F_add f n.val lim) (fun c => u c + wN n c) := by
  have h1 := CF_raise (CF_raise (c := n.val % 24) (f := F_setB f (n.val / 16) true) (u := u) h hl (by omega)) hl (c := (7 * n.val + 5) % 24) (by omega)
  refine CF_congr h1 (fun c => ?_)
  show (if c = (7 * n.val + 5) % 24 then (if c = n.val % 24 then u c + 1 else u c) + 1 else if c = n.val % 24 then u c + 1 else u c) = u c + wN n c
  unfold wN
  split <;> split <;> omega
theorem F_low_s (f : FV) (c : Nat) : (F_lower f c).2 = f.2 := by
  unfold F_lower
  split
  · rfl
  · split <;> rfl
theorem F_low_n (f : FV) {c j : Nat} (h : j ≠ c) : (F_lower f c).1 j = f.1 j := by
  unfold F_lower
  split
  · rfl
  · split
    · rfl
    · exact u_ne h
theorem CF_remove {f : FV} {u : Nat → Nat} (n : Fin 256) (h : CF f u) (h1 : ∀ c, wN n c ≤ u c) (h2 : ∀ c, u c < 2 ^ 31) : CF (F_remove f n.val) (fun c => u c - wN n c) ∧ lowOK f n.val := by
  have a1 : 1 ≤ u (n.val % 24) := by have := h1 (n.val % 24); rwa [wN1] at this
  have a2 : 1 ≤ u ((7 * n.val + 5) % 24) := by have := h1 ((7 * n.val + 5) % 24); rwa [wN2] at this
  have k1 := CF_lower h a1 (h2 _)
  have e2 : (if (7 * n.val + 5) % 24 = n.val % 24 then u ((7 * n.val + 5) % 24) - 1 else u ((7 * n.val + 5) % 24)) = u ((7 * n.val + 5) % 24) := if_neg (c12 n.val)
  have k2 := CF_lower (c := (7 * n.val + 5) % 24) k1 (by show 1 ≤ (if _ then _ else _); rw [e2]; exact a2) (by show (if _ then _ else _) < _; rw [e2]; exact h2 _)
  refine ⟨CF_congr k2 (fun c => ?_), Or.inr (CF_pos h a1 (h2 _)), Or.inr (CF_pos k1 (by show 1 ≤ (if _ then _ else _); rw [e2]; exact a2) (by show (if _ then _ else _) < _; rw [e2]; exact h2 _))⟩
  show (if c = (7 * n.val + 5) % 24 then (if c = n.val % 24 then u c - 1 else u c) - 1 else if c = n.val % 24 then u c - 1 else u c) = u c - wN n c
  unfold wN
  split <;> split <;> omega
def IF (k : KV) : Prop := (∀ p n, k.1 p = some n → k.2.2.2.2.2.2 (n.val / 16) = true) ∧ CF k.2.2.2.2 (us k.1)
theorem IF_may {k : KV} {n : Fin 256} (h : IF k) (e : k.1 (n.val % 8) = some n) : F_may k.2.2.2.2 n.val = true := by
  have g : ∀ c, wN n c ≤ us k.1 c := fun c => by
    have := us_ge k.1 c (p := n.val % 8) (by omega)
    rw [e] at this
    exact this
  have a1 : 1 ≤ us k.1 (n.val % 24) := by have := g (n.val % 24); rwa [wN1] at this
  have a2 : 1 ≤ us k.1 ((7 * n.val + 5) % 24) := by have := g ((7 * n.val + 5) % 24); rwa [wN2] at this
  have p1 := i_nle.mpr (CF_pos h.2 a1 (us_lt _ _))
  have p2 := i_nle.mpr (CF_pos h.2 a2 (us_lt _ _))
  unfold F_may
  rw [h.1 _ n e, decide_eq_false p1, decide_eq_false p2]
  rfl
theorem IF_low {k : KV} {n : Fin 256} (h : IF k) (e : k.1 (n.val % 8) = some n) : CF (F_remove k.2.2.2.2 n.val) (us (va_up k.1 (n.val % 8) none)) ∧ lowOK k.2.2.2.2 n.val := by
  have g : ∀ c, wN n c ≤ us k.1 c := fun c => by
    have := us_ge k.1 c (p := n.val % 8) (by omega)
    rw [e] at this
    exact this
  have r := CF_remove n h.2 g (us_lt k.1)
  refine ⟨CF_congr r.1 (fun c => ?_), r.2⟩
  have q := us_up k.1 none c (p := n.val % 8) (by omega)
  rw [e] at q
  change us (va_up k.1 (n.val % 8) none) c + wN n c = us k.1 c + 0 at q
  omega
theorem IF_rel {k : KV} {n : Fin 256} (h : IF k) (e : k.1 (n.val % 8) = some n) : IF (K_release k n) := by
  refine ⟨fun p2 n2 e2 => ?_, (IF_low h e).1⟩
  change va_up k.1 (n.val % 8) none p2 = some n2 at e2
  show (F_remove k.2.2.2.2 n.val).2.2 (n2.val / 16) = true
  have eb : (F_remove k.2.2.2.2 n.val).2 = k.2.2.2.2.2 := by unfold F_remove; rw [F_low_s, F_low_s]
  rw [eb]
  by_cases hp : p2 = n.val % 8
  · subst hp
    rw [up_at] at e2
    cases e2
  · rw [up_ne _ _ hp] at e2
    exact h.1 p2 n2 e2
theorem F_raise_b (f : FV) (c : Nat) (lim : Int32) : (F_raise f c lim).2.2 = f.2.2 := by
  unfold F_raise
  split
  · rfl
  · split <;> rfl
theorem F_add_b (f : FV) (n : Nat) (lim : Int32) : (F_add f n lim).2.2 = va_up f.2.2 (n / 16) true := by
  unfold F_add
  rw [F_raise_b, F_raise_b]
  rfl
theorem IF_add {k : KV} {n : Fin 256} {lim : Int32} (x : Int32) (b : Bool) (h : IF k) (e : k.1 (n.val % 8) = none) (hl : 0 < lim) : IF (K_setF (K_fill k n x b) (F_add k.2.2.2.2 n.val lim)) := by
  refine ⟨fun p2 n2 e2 => ?_, CF_congr (CF_add n h.2 hl) (fun c => ?_)⟩
  · change va_up k.1 (n.val % 8) (some n) p2 = some n2 at e2
    show (F_add k.2.2.2.2 n.val lim).2.2 (n2.val / 16) = true
    rw [F_add_b]
    unfold va_up
    split
    · rfl
    · rename_i hne
      by_cases hp : p2 = n.val % 8
      · subst hp
        rw [up_at] at e2
        rw [Option.some.inj e2] at hne
        exact absurd rfl hne
      · rw [up_ne _ _ hp] at e2
        exact h.1 p2 n2 e2
  · have q := us_up k.1 (some n) c (p := n.val % 8) (by omega)
    rw [e] at q
    change us (va_up k.1 (n.val % 8) (some n)) c + 0 = us k.1 c + wN n c at q
    show us k.1 c + wN n c = us (va_up k.1 (n.val % 8) (some n)) c
    omega
