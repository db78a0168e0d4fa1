/-! ===== forgetting; what always holds of the class's machine ===== -/
theorem it_s {σ : Type} (f : Nat → σ → σ) (k : Nat) (x : σ) : it f (k + 1) x = f k (it f k x) := rfl
def clC (f : Nat → Int32) : Nat → Int32 := fun j => if j < 24 then 0 else f j
def clB (f : Nat → Bool) : Nat → Bool := fun j => if j < 16 then false else f j
theorem lt_up {α : Type} (f : Nat → α) (x : α) (k : Nat) : va_up (fun j => if j < k then x else f j) k x = fun j => if j < k + 1 then x else f j := by
  funext j
  unfold va_up
  by_cases h : j = k
  · rw [if_pos h, if_pos (by omega)]
  · rw [if_neg h]
    show (if j < k then x else f j) = if j < k + 1 then x else f j
    by_cases h2 : j < k
    · rw [if_pos h2, if_pos (by omega)]
    · rw [if_neg h2, if_neg (by omega)]
theorem ltz_f {α : Type} (f : Nat → α) (x : α) : (fun j => if j < 0 then x else f j) = f := by
  funext j
  exact if_neg (Nat.not_lt_zero j)
theorem it_cl1 (m : MV) (o : Nat) : ∀ k, it (Q_cl1 o) k m = M_setK m o (K_setF (m.2.1 o) (fun j => if j < k then 0 else (m.2.1 o).2.2.2.2.1 j, (m.2.1 o).2.2.2.2.2))
  | 0 => by
    rw [ltz_f]
    exact (MsK0 m o).symm
  | k + 1 => by
    rw [it_s, it_cl1 m o k]
    unfold Q_cl1 Q_setCnt
    rw [MsK1, MsK2]
    exact congrArg (fun z => M_setK m o (K_setF (m.2.1 o) (z, (m.2.1 o).2.2.2.2.2))) (lt_up _ _ _)
theorem it_cl2 (m : MV) (o : Nat) : ∀ k, it (Q_cl2 o) k m = M_setK m o (K_setF (m.2.1 o) ((m.2.1 o).2.2.2.2.1, (m.2.1 o).2.2.2.2.2.1, fun j => if j < k then false else (m.2.1 o).2.2.2.2.2.2 j))
  | 0 => by
    rw [ltz_f]
    exact (MsK0 m o).symm
  | k + 1 => by
    rw [it_s, it_cl2 m o k]
    unfold Q_cl2 Q_setBit
    rw [MsK1, MsK2]
    exact congrArg (fun z => M_setK m o (K_setF (m.2.1 o) ((m.2.1 o).2.2.2.2.1, (m.2.1 o).2.2.2.2.2.1, z))) (lt_up _ _ _)
theorem Q_clears_eq (m : MV) (o : Nat) : Q_clears m o = M_setK m o (K_setF (m.2.1 o) (clC (m.2.1 o).2.2.2.2.1, fun _ => false, clB (m.2.1 o).2.2.2.2.2.2)) := by
  unfold Q_clears
  rw [it_cl2, it_cl1, MsK1, MsK2]
  unfold Q_setSt
  rw [MsK1, MsK2]
  rfl
theorem it_w1 (f : FV) : ∀ k, it F_w1 k f = (fun j => if j < k then 0 else f.1 j, fun j => if j < k then false else f.2.1 j, f.2.2)
  | 0 => by rw [ltz_f, ltz_f]; rfl
  | k + 1 => by
    rw [it_s, it_w1 f k]
    show (_, _, _) = _
    rw [← lt_up f.1 0 k, ← lt_up f.2.1 false k]
    rfl
theorem it_w2 (f : FV) : ∀ k, it F_w2 k f = (f.1, f.2.1, fun j => if j < k then false else f.2.2 j)
  | 0 => by rw [ltz_f]; rfl
  | k + 1 => by
    rw [it_s, it_w2 f k, ← lt_up f.2.2 false k]
    rfl
theorem F_wipe_eq {f : FV} (h : ∀ c, f.2.1 c = true → c < 24) : F_wipe f = (clC f.1, fun _ => false, clB f.2.2) := by
  unfold F_wipe
  rw [it_w1, it_w2]
  have e : (fun j => if j < 24 then false else f.2.1 j) = fun _ => false := by
    funext j
    by_cases hj : j < 24
    · rw [if_pos hj]
    · rw [if_neg hj]
      cases hs : f.2.1 j with
      | false => rfl
      | true => exact absurd (h j hs) hj
  show ((fun j => if j < 24 then 0 else f.1 j, (fun j => if j < 24 then false else f.2.1 j), clB f.2.2) : FV) = _
  rw [e]
  rfl
theorem FQ_m1 (f : FV) (c : Nat) (lim : Int32) : ∃ g, FQ f c (-1) lim = (g, f.2) ∧ ∀ j, j ≠ c → g j = f.1 j := by
  have h0 : (-1 : Int32) ≤ 0 := by decide
  unfold FQ FQs
  rw [if_pos h0]
  split
  · exact ⟨_, rfl, fun j hj => u_ne hj⟩
  · exact ⟨_, rfl, fun j hj => u_ne hj⟩
theorem Q_wb_F (m : MV) (o p : Nat) (f : FV) : Q_wb (M_setK m o (K_setF (m.2.1 o) f)) o p = M_setK (Q_wb m o p) o (K_setF ((Q_wb m o p).2.1 o) f) := by
  have el : ((M_setK m o (K_setF (m.2.1 o) f)).2.1 o).1 p = (m.2.1 o).1 p := by rw [MsK1]; rfl
  unfold Q_wb
  rw [el]
  cases h : (m.2.1 o).1 p with
  | none => rfl
  | some n =>
    show (if ((M_setK m o (K_setF (m.2.1 o) f)).2.1 o).2.2.1 p = true then Q_wb3 (Q_wb2 (Q_wb1 (M_setK m o (K_setF (m.2.1 o) f)) o p n) o p) else M_setK m o (K_setF (m.2.1 o) f)) = M_setK (if (m.2.1 o).2.2.1 p = true then Q_wb3 (Q_wb2 (Q_wb1 m o p n) o p) else m) o (K_setF ((if (m.2.1 o).2.2.1 p = true then Q_wb3 (Q_wb2 (Q_wb1 m o p n) o p) else m).2.1 o) f)
    have ed : ((M_setK m o (K_setF (m.2.1 o) f)).2.1 o).2.2.1 p = (m.2.1 o).2.2.1 p := by rw [MsK1]; rfl
    rw [ed]
    by_cases hd : (m.2.1 o).2.2.1 p = true
    · rw [if_pos hd, if_pos hd]
      have e1 : Q_wb1 (M_setK m o (K_setF (m.2.1 o) f)) o p n = M_setK (Q_wb1 m o p n) o (K_setF (m.2.1 o) f) := by
        unfold Q_wb1
        rw [MsK1]
        rfl
      rw [e1]
      have e2 : Q_wb2 (M_setK (Q_wb1 m o p n) o (K_setF (m.2.1 o) f)) o p = M_setK (Q_wb2 (Q_wb1 m o p n) o p) o (K_setF ((Q_wb2 (Q_wb1 m o p n) o p).2.1 o) f) := by
        unfold Q_wb2
        rw [MsK1, MsK2, MsK1, MsK2]
        rfl
      rw [e2]
      rfl
    · rw [if_neg hd, if_neg hd]
def fgR (o : Nat) (x u : MV × Int32) : Prop := ∃ g : Nat → Int32, (∀ j, 24 ≤ j → g j = (u.1.2.1 o).2.2.2.2.1 j) ∧ x = (M_setK (nz u.1) o (K_setF ((nz u.1).2.1 o) (g, (u.1.2.1 o).2.2.2.2.2)), u.2)
theorem fgR_step {o : Nat} {x u : MV × Int32} (kept : Option (Fin 256)) (i : Nat) (h : fgR o x u) : fgR o (Q_fgF o kept i x) (M_faF o kept i u) := by
  obtain ⟨g, hg, rfl⟩ := h
  have el : ((M_setK (nz u.1) o (K_setF ((nz u.1).2.1 o) (g, (u.1.2.1 o).2.2.2.2.2))).2.1 o).1 i = (u.1.2.1 o).1 i := by rw [MsK1]; rfl
  unfold Q_fgF M_faF
  show fgR o (match ((M_setK (nz u.1) o (K_setF ((nz u.1).2.1 o) (g, (u.1.2.1 o).2.2.2.2.2))).2.1 o).1 i with
    | none => _
    | some n => _) _
  rw [el]
  cases hn : (u.1.2.1 o).1 i with
  | none => exact ⟨g, hg, rfl⟩
  | some n =>
    show fgR o (if kept = some n then _ else _) (if kept = some n then _ else _)
    by_cases hk : kept = some n
    · rw [if_pos hk, if_pos hk]
      exact ⟨g, hg, rfl⟩
    · rw [if_neg hk, if_neg hk]
      have ew : ((M_wb u.1 o i).2.1 o).2.2.2.2 = (u.1.2.1 o).2.2.2.2 := by rcases M_wb_K u.1 o i with h | h <;> rw [h] <;> rfl
      have ewl : ((M_wb u.1 o i).2.1 o).1 i = some n := by rcases M_wb_K u.1 o i with h | h <;> rw [h] <;> exact hn
      have e1 : Q_wb (M_setK (nz u.1) o (K_setF ((nz u.1).2.1 o) (g, (u.1.2.1 o).2.2.2.2.2))) o i = M_setK (nz (M_wb u.1 o i)) o (K_setF ((nz (M_wb u.1 o i)).2.1 o) (g, (u.1.2.1 o).2.2.2.2.2)) := by rw [Q_wb_F, nz_wb]
      obtain ⟨g1, hg1, hq1⟩ := FQ_m1 ((g, (u.1.2.1 o).2.2.2.2.2) : FV) (n.val % 24) (M_wb u.1 o i).2.2.1
      obtain ⟨g2, hg2, hq2⟩ := FQ_m1 ((g1, (u.1.2.1 o).2.2.2.2.2) : FV) ((7 * n.val + 5) % 24) (M_wb u.1 o i).2.2.1
      refine ⟨g2, fun j hj => ?_, ?_⟩
      · rw [hq2 j (by omega)]
        show g1 j = _
        rw [hq1 j (by omega)]
        show g j = _
        rw [hg j hj]
        show _ = ((M_emp (M_wb u.1 o i) o i).2.1 o).2.2.2.2.1 j
        unfold M_emp
        rw [MsK1]
        show _ = ((M_wb u.1 o i).2.1 o).2.2.2.2.1 j
        rw [ew]
      · show (Q_lv (Q_wb _ o i) o i, u.2 + 1) = (M_setK (nz (M_emp (M_wb u.1 o i) o i)) o (K_setF ((nz (M_emp (M_wb u.1 o i) o i)).2.1 o) (g2, ((M_emp (M_wb u.1 o i) o i).2.1 o).2.2.2.2.2)), u.2 + 1)
        rw [e1, Q_lv_eq (n := n) (by rw [MsK1]; exact ewl), MsK1, MsK2]
        show (M_setK _ o (K_setD (K_setV (K_setL (K_setF _ (FQ (FQ (g, (u.1.2.1 o).2.2.2.2.2) (n.val % 24) (-1) (M_wb u.1 o i).2.2.1) ((7 * n.val + 5) % 24) (-1) (M_wb u.1 o i).2.2.1)) i none) i 0) i false), u.2 + 1) = _
        rw [hg1, hg2]
        unfold M_emp
        rw [nz_K, MsK1, MsK2, MsK1]
        unfold K_empty
        rw [nzK_emp]
        show _ = (M_setK _ o (K_setF _ (g2, ((M_wb u.1 o i).2.1 o).2.2.2.2.2)), u.2 + 1)
        rw [ew]
        rfl
theorem fgR_loop (m : MV) (o : Nat) (kept : Option (Fin 256)) : ∀ k, fgR o (it (Q_fgF o kept) k (nz m, 0)) (it (M_faF o kept) k (m, 0))
  | 0 => ⟨(m.2.1 o).2.2.2.2.1, fun _ _ => rfl, congrArg (fun z => ((z, 0) : MV × Int32)) (MsK0 (nz m) o).symm⟩
  | k + 1 => fgR_step kept k (fgR_loop m o kept k)
theorem fa_F (m : MV) (o : Nat) (kept : Option (Fin 256)) : ∀ k, ((it (M_faF o kept) k (m, 0)).1.2.1 o).2.2.2.2 = (m.2.1 o).2.2.2.2
  | 0 => rfl
  | k + 1 => by
    rw [it_s, ← fa_F m o kept k]
    unfold M_faF
    split
    · rfl
    · split
      · rfl
      · unfold M_emp
        rw [MsK1]
        show ((M_wb (it (M_faF o kept) k (m, 0)).1 o k).2.1 o).2.2.2.2 = _
        rcases M_wb_K (it (M_faF o kept) k (m, 0)).1 o k with h | h <;> rw [h] <;> rfl
theorem nz_fa {m : MV} {o : Nat} (kept : Option (Fin 256)) (h : ∀ c, (m.2.1 o).2.2.2.2.2.1 c = true → c < 24) : Q_fg (nz m) o kept = (nz (M_fa m o kept).1, (M_fa m o kept).2) := by
  obtain ⟨g, hg, hx⟩ := fgR_loop m o kept 8
  unfold Q_fg M_fa
  rw [hx]
  show (Q_tick (Q_clears (M_setK _ o _) o) o 5, _) = _
  have e : Q_clears (M_setK (nz (it (M_faF o kept) 8 (m, 0)).1) o (K_setF ((nz (it (M_faF o kept) 8 (m, 0)).1).2.1 o) (g, ((it (M_faF o kept) 8 (m, 0)).1.2.1 o).2.2.2.2.2))) o = nz (M_wipe (it (M_faF o kept) 8 (m, 0)).1 o) := by
    rw [Q_clears_eq, MsK1, MsK2]
    unfold M_wipe
    rw [nz_K, F_wipe_eq (by rw [fa_F]; exact h)]
    have eg : clC g = clC ((it (M_faF o kept) 8 (m, 0)).1.2.1 o).2.2.2.2.1 := by
      funext j
      unfold clC
      by_cases hj : j < 24
      · rw [if_pos hj, if_pos hj]
      · rw [if_neg hj, if_neg hj, hg j (by omega)]
    show M_setK _ o (K_setF _ (clC g, _, _)) = _
    rw [eg]
    rfl
  rw [e, nz_tick]
