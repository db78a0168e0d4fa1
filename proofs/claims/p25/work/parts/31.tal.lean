/-! ===== tallies, settings, counters: what acts do to them ===== -/
def tl (m : MV) (o : Nat) : Nat → Int32 := (m.2.1 o).2.2.2.1
def sg (m : MV) : Int32 × Int32 × Int32 := (m.2.2.1, m.2.2.2.1, m.2.2.2.2.2)
theorem tl_K1 (m : MV) (o : Nat) (k : KV) : tl (M_setK m o k) o = k.2.2.2.1 := by unfold tl; rw [MsK1]
theorem tl_Kn (m : MV) {o o2 : Nat} (k : KV) (h : o2 ≠ o) : tl (M_setK m o k) o2 = tl m o2 := by unfold tl; rw [MsKn _ _ h]
theorem tl_Ks (m : MV) {o : Nat} {k : KV} (h : k.2.2.2.1 = tl m o) (o2 : Nat) : tl (M_setK m o k) o2 = tl m o2 := by
  by_cases ho : o2 = o
  · subst ho; rw [tl_K1, h]
  · exact tl_Kn m k ho
theorem sg_K (m : MV) (o : Nat) (k : KV) : sg (M_setK m o k) = sg m := rfl
theorem tl_wb (m : MV) (o p o2 : Nat) : tl (M_wb m o p) o2 = tl m o2 := by
  unfold tl
  by_cases ho : o2 = o
  · subst ho
    rcases M_wb_K m o2 p with h | h <;> rw [h] <;> rfl
  · rw [M_wb_Kn m p ho]
theorem sg_wb (m : MV) (o p : Nat) : sg (M_wb m o p) = sg m := by
  unfold M_wb
  split
  · rfl
  · split <;> rfl
theorem tl_rel (m : MV) (o : Nat) (n : Fin 256) (o2 : Nat) : tl (M_rel m o n) o2 = tl m o2 := tl_Ks m (k := K_release (m.2.1 o) n) rfl o2
theorem tl_vac (m : MV) (o p o2 : Nat) : tl (M_vac m o p) o2 = tl m o2 := by
  unfold M_vac
  split
  · rfl
  · rw [tl_rel, tl_wb]
theorem sg_vac (m : MV) (o p : Nat) : sg (M_vac m o p) = sg m := by
  unfold M_vac
  split
  · rfl
  · exact sg_wb m o p
theorem tl_emp (m : MV) (o p o2 : Nat) : tl (M_emp m o p) o2 = tl m o2 := tl_Ks m (k := K_empty (m.2.1 o) p) rfl o2
theorem tl_fill (m : MV) (o : Nat) (n : Fin 256) (x : Int32) (b : Bool) (o2 : Nat) : tl (M_fill m o n x b) o2 = tl m o2 := tl_Ks m (k := K_fill (m.2.1 o) n x b) rfl o2
theorem tl_add (m : MV) (o : Nat) (n : Fin 256) (o2 : Nat) : tl (M_add m o n) o2 = tl m o2 := tl_Ks m (k := K_setF (m.2.1 o) (F_add (m.2.1 o).2.2.2.2 n.val m.2.2.1)) rfl o2
theorem tl_wipe (m : MV) (o o2 : Nat) : tl (M_wipe m o) o2 = tl m o2 := tl_Ks m (k := K_setF (m.2.1 o) (F_wipe (m.2.1 o).2.2.2.2)) rfl o2
theorem tl_t1 (m : MV) (o t : Nat) : tl (M_tick m o t) o = upd (tl m o) t (tl m o t + 1) := tl_K1 m o _
theorem tl_tn (m : MV) {o o2 : Nat} (t : Nat) (h : o2 ≠ o) : tl (M_tick m o t) o2 = tl m o2 := tl_Kn m _ h
theorem tl_faL (m : MV) (o : Nat) (kept : Option (Fin 256)) (o2 : Nat) : ∀ k, tl (it (M_faF o kept) k (m, 0)).1 o2 = tl m o2 ∧ sg (it (M_faF o kept) k (m, 0)).1 = sg m
  | 0 => ⟨rfl, rfl⟩
  | k + 1 => by
    rw [it_s, ← (tl_faL m o kept o2 k).1, ← (tl_faL m o kept o2 k).2]
    generalize it (M_faF o kept) k (m, 0) = u
    unfold M_faF
    split
    · exact ⟨rfl, rfl⟩
    · split
      · exact ⟨rfl, rfl⟩
      · exact ⟨by rw [tl_emp, tl_wb], by show sg (M_wb u.1 o k) = _; exact sg_wb _ _ _⟩
theorem sg_fa (m : MV) (o : Nat) (kept : Option (Fin 256)) : sg (M_fa m o kept).1 = sg m := (tl_faL m o kept o 8).2
theorem tl_fa1 (m : MV) (o : Nat) (kept : Option (Fin 256)) : tl (M_fa m o kept).1 o = upd (tl m o) 5 (tl m o 5 + 1) := by
  show tl (M_tick (M_wipe (it (M_faF o kept) 8 (m, 0)).1 o) o 5) o = _
  rw [tl_t1, tl_wipe, (tl_faL m o kept o 8).1]
theorem tl_fan (m : MV) {o o2 : Nat} (kept : Option (Fin 256)) (h : o2 ≠ o) : tl (M_fa m o kept).1 o2 = tl m o2 := by
  show tl (M_tick (M_wipe (it (M_faF o kept) 8 (m, 0)).1 o) o 5) o2 = _
  rw [tl_tn _ _ h, tl_wipe, (tl_faL m o kept o2 8).1]
theorem sg_begin (m : MV) (o : Nat) (n : Fin 256) (x : Int32) (b : Bool) : sg (M_begin m o n x b) = sg m := by
  unfold M_begin
  split
  · rfl
  · show sg (M_fa (M_add (M_fill m o n x b) o n) o (some n)).1 = _
    rw [sg_fa]
    rfl
theorem tl_beginn (m : MV) {o o2 : Nat} (n : Fin 256) (x : Int32) (b : Bool) (h : o2 ≠ o) : tl (M_begin m o n x b) o2 = tl m o2 := by
  unfold M_begin
  split
  · rw [tl_add, tl_fill]
  · rw [tl_add, tl_fan _ _ h, tl_add, tl_fill]
theorem tl_begin1 (m : MV) (o : Nat) (n : Fin 256) (x : Int32) (b : Bool) : tl (M_begin m o n x b) o = tl m o ∨ tl (M_begin m o n x b) o = upd (tl m o) 5 (tl m o 5 + 1) := by
  unfold M_begin
  split
  · left; rw [tl_add, tl_fill]
  · right; rw [tl_add, tl_fa1, tl_add, tl_fill]
theorem tl_r1 (m : MV) (o : Nat) (n : Fin 256) : tl (M_reach m o n) o = (K_reach (m.2.1 o) n).2.2.2.1 := tl_K1 m o _
theorem rdS_n (u : MV) {i o : Nat} (n : Fin 256) (h : o ≠ i) : (rdS u i n).2.1 o = u.2.1 o := by
  unfold rdS
  split
  · split
    · rw [M_wb_Kn _ _ h]; exact MsKn _ _ h
    · exact MsKn _ _ h
  · exact MsKn _ _ h
theorem rdS_t (u : MV) (i : Nat) (n : Fin 256) : tl (rdS u i n) i = (K_reach (u.2.1 i) n).2.2.2.1 := by
  unfold rdS
  split
  · split
    · rw [tl_wb, tl_r1]
    · rw [tl_r1]
  · rw [tl_r1]
theorem rdS_s (u : MV) (i : Nat) (n : Fin 256) : sg (rdS u i n) = sg u := by
  unfold rdS
  split
  · split
    · rw [sg_wb]; rfl
    · rfl
  · rfl
theorem wrS_n (u : MV) {i o : Nat} (n : Fin 256) (h : o ≠ i) : (wrS u i n).2.1 o = u.2.1 o := by
  unfold wrS
  split
  · split
    · unfold M_rel; rw [MsKn _ _ h]; exact MsKn _ _ h
    · exact MsKn _ _ h
  · exact MsKn _ _ h
theorem wrS_t (u : MV) (i : Nat) (n : Fin 256) : tl (wrS u i n) i = (K_reach (u.2.1 i) n).2.2.2.1 := by
  unfold wrS
  split
  · split
    · rw [tl_rel, tl_r1]
    · rw [tl_r1]
  · rw [tl_r1]
theorem wrS_s (u : MV) (i : Nat) (n : Fin 256) : sg (wrS u i n) = sg u := by
  unfold wrS
  split
  · split <;> rfl
  · rfl
def LpV (m : MV) (r : Nat) (n : Fin 256) (k : Nat) (u : MV) : Prop := (∀ o, k ≤ o → u.2.1 o = m.2.1 o) ∧ u.2.1 r = m.2.1 r ∧ (∀ o, o < k → o ≠ r → tl u o = (K_reach (m.2.1 o) n).2.2.2.1) ∧ sg u = sg m
theorem LP_stay {m u : MV} {r : Nat} {n : Fin 256} (h : LpV m r n r u) : LpV m r n (r + 1) u := ⟨fun o ho => h.1 o (by omega), h.2.1, fun o ho hor => h.2.2.1 o (by omega) hor, h.2.2.2⟩
theorem LP_rd {m u : MV} {r k : Nat} {n : Fin 256} (hr : k ≠ r) (h : LpV m r n k u) : LpV m r n (k + 1) (rdS u k n) := by
  obtain ⟨h1, h2, h3, h4⟩ := h
  refine ⟨fun o ho => ?_, ?_, fun o ho hor => ?_, by rw [rdS_s, h4]⟩
  · rw [rdS_n _ _ (by omega)]; exact h1 o (by omega)
  · rw [rdS_n _ _ (Ne.symm hr)]; exact h2
  · by_cases hk : o = k
    · subst hk; rw [rdS_t, h1 o (Nat.le_refl _)]
    · unfold tl; rw [rdS_n _ _ hk]; exact h3 o (by omega) hor
theorem LP_wr {m u : MV} {r k : Nat} {n : Fin 256} (hr : k ≠ r) (h : LpV m r n k u) : LpV m r n (k + 1) (wrS u k n) := by
  obtain ⟨h1, h2, h3, h4⟩ := h
  refine ⟨fun o ho => ?_, ?_, fun o ho hor => ?_, by rw [wrS_s, h4]⟩
  · rw [wrS_n _ _ (by omega)]; exact h1 o (by omega)
  · rw [wrS_n _ _ (Ne.symm hr)]; exact h2
  · by_cases hk : o = k
    · subst hk; rw [wrS_t, h1 o (Nat.le_refl _)]
    · unfold tl; rw [wrS_n _ _ hk]; exact h3 o (by omega) hor
theorem LP_read (m : MV) (r : Nat) (n : Fin 256) : ∀ k, LpV m r n k (it (M_readF r n) k m)
  | 0 => ⟨fun _ _ => rfl, rfl, fun o ho => by omega, rfl⟩
  | k + 1 => by
    have h := LP_read m r n k
    rw [it_s]
    by_cases hr : k = r
    · subst hr
      have e : M_readF k n k (it (M_readF k n) k m) = it (M_readF k n) k m := by unfold M_readF; rw [if_pos rfl]
      rw [e]
      exact LP_stay h
    · have e : M_readF r n k (it (M_readF r n) k m) = rdS (it (M_readF r n) k m) k n := by
        generalize it (M_readF r n) k m = u
        unfold M_readF rdS
        rw [if_neg hr]
      rw [e]
      exact LP_rd hr h
theorem LP_take (m : MV) (r : Nat) (n : Fin 256) : ∀ k, LpV m r n k (it (M_takeF r n) k (m, 0)).1
  | 0 => ⟨fun _ _ => rfl, rfl, fun o ho => by omega, rfl⟩
  | k + 1 => by
    have h := LP_take m r n k
    rw [it_s]
    by_cases hr : k = r
    · subst hr
      have e : M_takeF k n k (it (M_takeF k n) k (m, 0)) = it (M_takeF k n) k (m, 0) := by unfold M_takeF; rw [if_pos rfl]
      rw [e]
      exact LP_stay h
    · rw [M_takeF_eq hr]
      exact LP_wr hr h
/-- what a read leaves: a hit, or the others reached and the reader's miss (and forgetting) -/
theorem read_hit {m : MV} {r : Nat} {n : Fin 256} (h : K_holds (m.2.1 r) n = true) : (M_read m r n).1 = M_tick m r 0 := by
  unfold M_read
  rw [if_pos h]
theorem read_tl {m : MV} {r : Nat} {n : Fin 256} (h : ¬ K_holds (m.2.1 r) n = true) : (∀ o, o < 4 → o ≠ r → tl (M_read m r n).1 o = (K_reach (m.2.1 o) n).2.2.2.1) ∧ (tl (M_read m r n).1 r = upd (tl m r) 1 (tl m r 1 + 1) ∨ tl (M_read m r n).1 r = upd (upd (tl m r) 1 (tl m r 1 + 1)) 5 (upd (tl m r) 1 (tl m r 1 + 1) 5 + 1)) ∧ sg (M_read m r n).1 = sg m := by
  obtain ⟨h1, h2, h3, h4⟩ := LP_read (M_tick m r 1) r n 4
  have e1 : it (M_readF r n) 4 (M_tick m r 1) = M_miss m r n := rfl
  rw [e1] at h1 h2 h3 h4
  unfold M_read
  rw [if_neg h]
  refine ⟨fun o ho hor => ?_, ?_, ?_⟩
  · show tl (M_begin (M_vac (M_miss m r n) r (n.val % 8)) r n _ false) o = _
    rw [tl_beginn _ _ _ _ hor, tl_vac, h3 o ho hor]
    unfold M_tick
    rw [MsKn _ _ hor]
  · have er : tl (M_vac (M_miss m r n) r (n.val % 8)) r = upd (tl m r) 1 (tl m r 1 + 1) := by
      rw [tl_vac]
      unfold tl
      rw [h2]
      exact tl_t1 m r 1
    have hb := tl_begin1 (M_vac (M_miss m r n) r (n.val % 8)) r n ((M_miss m r n).1 n.val) false
    rw [er] at hb
    exact hb
  · show sg (M_begin (M_vac (M_miss m r n) r (n.val % 8)) r n _ false) = _
    rw [sg_begin, sg_vac, h4]
    rfl
theorem write_hd {m : MV} {r : Nat} {n : Fin 256} (x : Int32) (h : K_hd (m.2.1 r) n = true) : (∀ o, tl (M_write m r n x).1 o = tl m o) ∧ sg (M_write m r n x).1 = (m.2.2.1, m.2.2.2.1, m.2.2.2.2.2 + 1) := by
  have h2 : K_hd ((M_setWr m (m.2.2.2.2.2 + 1)).2.1 r) n = true := h
  have hk := h
  unfold K_hd at hk
  rw [Bool.and_eq_true] at hk
  have h3 : K_holds ((M_setWr m (m.2.2.2.2.2 + 1)).2.1 r) n = true := hk.1
  have eo : M_own m r n = (M_setWr m (m.2.2.2.2.2 + 1), 0) := by unfold M_own; rw [if_pos h2]
  unfold M_write
  rw [eo, if_pos h3]
  exact ⟨fun o => tl_fill _ _ _ _ _ o, rfl⟩
theorem write_tl {m : MV} {r : Nat} {n : Fin 256} (x : Int32) (h : ¬ K_hd (m.2.1 r) n = true) : (∀ o, o < 4 → o ≠ r → tl (M_write m r n x).1 o = (K_reach (m.2.1 o) n).2.2.2.1) ∧ (tl (M_write m r n x).1 r = tl m r ∨ (¬ K_holds (m.2.1 r) n = true ∧ tl (M_write m r n x).1 r = upd (tl m r) 5 (tl m r 5 + 1))) ∧ sg (M_write m r n x).1 = (m.2.2.1, m.2.2.2.1, m.2.2.2.2.2 + 1) := by
  obtain ⟨h1, h2, h3, h4⟩ := LP_take (M_setWr m (m.2.2.2.2.2 + 1)) r n 4
  have e1 : it (M_takeF r n) 4 (M_setWr m (m.2.2.2.2.2 + 1), 0) = M_own m r n := by
    have hn : ¬ K_hd ((M_setWr m (m.2.2.2.2.2 + 1)).2.1 r) n = true := h
    unfold M_own
    rw [if_neg hn]
    rfl
  rw [e1] at h1 h2 h3 h4
  have hr : (M_own m r n).1.2.1 r = m.2.1 r := h2
  unfold M_write
  rw [hr]
  by_cases hh : K_holds (m.2.1 r) n = true
  · rw [if_pos hh]
    refine ⟨fun o ho hor => ?_, Or.inl ?_, ?_⟩
    · show tl (M_fill (M_own m r n).1 r n x true) o = _
      rw [tl_fill, h3 o ho hor]
      rfl
    · show tl (M_fill (M_own m r n).1 r n x true) r = _
      rw [tl_fill]
      unfold tl
      rw [hr]
    · show sg (M_own m r n).1 = _
      rw [h4]
      rfl
  · rw [if_neg hh]
    have er : tl (M_vac (M_own m r n).1 r (n.val % 8)) r = tl m r := by
      rw [tl_vac]
      unfold tl
      rw [hr]
    refine ⟨fun o ho hor => ?_, ?_, ?_⟩
    · show tl (M_begin (M_vac (M_own m r n).1 r (n.val % 8)) r n x true) o = _
      rw [tl_beginn _ _ _ _ hor, tl_vac, h3 o ho hor]
      rfl
    · have hb := tl_begin1 (M_vac (M_own m r n).1 r (n.val % 8)) r n x true
      rw [er] at hb
      rcases hb with hb | hb
      · exact Or.inl hb
      · exact Or.inr ⟨hh, hb⟩
    · show sg (M_begin (M_vac (M_own m r n).1 r (n.val % 8)) r n x true) = _
      rw [sg_begin, sg_vac, h4]
      rfl
theorem reach_t (k : KV) (n : Fin 256) : (K_reach k n).2.2.2.1 = if K_may k n = true then (if K_holds k n = true then upd k.2.2.2.1 2 (k.2.2.2.1 2 + 1) else upd (upd k.2.2.2.1 2 (k.2.2.2.1 2 + 1)) 3 (upd k.2.2.2.1 2 (k.2.2.2.1 2 + 1) 3 + 1)) else upd k.2.2.2.1 4 (k.2.2.2.1 4 + 1) := by
  unfold K_reach
  show (if K_may k n = true then (if K_holds k n = true then _ else _) else _ : KV).2.2.2.1 = _
  split
  · split <;> rfl
  · rfl
