/-! ===== reading, writing, dropping, forgetting: the same on both sides ===== -/
theorem M_reach_eq (m : MV) (o : Nat) (n : Fin 256) : M_reach m o n = if K_may (m.2.1 o) n = true then (if K_holds (m.2.1 o) n = true then M_tick m o 2 else M_tick (M_tick m o 2) o 3) else M_tick m o 4 := by
  have eh : K_holds (K_tick (m.2.1 o) 2) n = K_holds (m.2.1 o) n := rfl
  unfold M_reach K_reach
  rw [eh]
  by_cases h1 : K_may (m.2.1 o) n = true
  · rw [if_pos h1, if_pos h1]
    by_cases h2 : K_holds (m.2.1 o) n = true
    · rw [if_pos h2, if_pos h2]
      rfl
    · rw [if_neg h2, if_neg h2]
      unfold M_tick
      rw [MsK1, MsK2]
  · rw [if_neg h1, if_neg h1]
    rfl
theorem reach_holds (m : MV) (o : Nat) (n : Fin 256) : K_holds ((M_reach m o n).2.1 o) n = K_holds (m.2.1 o) n := by
  unfold M_reach
  rw [MsK1]
  unfold K_holds
  rw [(K_reach_same _ n).1]
theorem reach_L (m : MV) (o o2 : Nat) (n : Fin 256) : ((M_reach m o n).2.1 o2).1 = (m.2.1 o2).1 := by
  unfold M_reach
  by_cases h : o2 = o
  · subst h
    rw [MsK1, (K_reach_same _ n).1]
  · rw [MsKn _ _ h]
theorem holds_line {k : KV} {n : Fin 256} (h : K_holds k n = true) : k.1 (n.val % 8) = some n := of_decide_eq_true h
theorem holds_not {k : KV} {n : Fin 256} (h : ¬ K_holds k n = true) : k.1 (n.val % 8) ≠ some n := fun e => h (decide_eq_true e)
theorem tick_holds (m : MV) (o t : Nat) (n : Fin 256) : Q_holds (Q_tick (nz m) o t) o n = K_holds (m.2.1 o) n := by
  rw [nz_tick, nz_holds]
  unfold M_tick
  rw [MsK1]
  rfl
def rdS (u : MV) (i : Nat) (n : Fin 256) : MV := if K_may (u.2.1 i) n = true then (if K_holds ((M_reach u i n).2.1 i) n = true then M_wb (M_reach u i n) i (n.val % 8) else M_reach u i n) else M_reach u i n
theorem nz_snoop_r (u : MV) (i : Nat) (n : Fin 256) : Q_snoop (nz u) i n false = nz (rdS u i n) := by
  have hm : Q_may (nz u) i n.val = K_may (u.2.1 i) n := nz_may u i n.val
  unfold Q_snoop rdS
  rw [hm, tick_holds, reach_holds, M_reach_eq]
  by_cases h1 : K_may (u.2.1 i) n = true
  · by_cases h2 : K_holds (u.2.1 i) n = true
    · simp only [h1, h2, if_true, reduceIte, Bool.false_eq_true, if_false]
      rw [nz_tick, nz_wb]
    · simp only [h1, h2, if_true, reduceIte, Bool.false_eq_true, if_false]
      rw [nz_tick, nz_tick]
  · simp only [h1, if_true, reduceIte, Bool.false_eq_true, if_false]
    rw [nz_tick]
def RD (m : MV) (r : Nat) (n : Fin 256) (k : Nat) (u : MV) : Prop := IM u ∧ (∀ o, (u.2.1 o).1 = (m.2.1 o).1) ∧ ∀ o, o < k → o ≠ r → (u.2.1 o).1 (n.val % 8) = some n → (u.2.1 o).2.2.1 (n.val % 8) = false
theorem RD_step {m u : MV} {r k : Nat} {n : Fin 256} (h : RD m r n k u) : RD m r n (k + 1) (M_readF r n k u) ∧ ∀ x, (Q_snF r n false k (nz u, x)).1 = nz (M_readF r n k u) := by
  obtain ⟨h1, h2, h3⟩ := h
  by_cases hr : k = r
  · have e : M_readF r n k u = u := by unfold M_readF; rw [if_pos hr]
    rw [e]
    refine ⟨⟨h1, h2, fun o ho hor => h3 o (by omega) hor⟩, fun x => ?_⟩
    unfold Q_snF
    rw [if_pos hr]
  · have e : M_readF r n k u = rdS u k n := by unfold M_readF rdS; rw [if_neg hr]
    rw [e]
    refine ⟨?_, fun x => ?_⟩
    · have hi := IM_reach k n h1
      unfold rdS
      by_cases hm : K_may (u.2.1 k) n = true
      · rw [if_pos hm]
        by_cases hh : K_holds ((M_reach u k n).2.1 k) n = true
        · rw [if_pos hh]
          refine ⟨IM_wb _ _ hi, fun o => ?_, fun o ho hor el => ?_⟩
          · rw [M_wb_L, reach_L, h2]
          · by_cases hok : o = k
            · subst hok
              exact M_wb_clean _ _ _ (holds_line hh)
            · rw [M_wb_Kn _ _ hok] at el ⊢
              unfold M_reach at el ⊢
              rw [MsKn _ _ hok] at el ⊢
              exact h3 o (by omega) hor el
        · rw [if_neg hh]
          refine ⟨hi, fun o => by rw [reach_L, h2], fun o ho hor el => ?_⟩
          by_cases hok : o = k
          · subst hok
            exact absurd el (holds_not hh)
          · unfold M_reach at el ⊢
            rw [MsKn _ _ hok] at el ⊢
            exact h3 o (by omega) hor el
      · rw [if_neg hm]
        refine ⟨hi, fun o => by rw [reach_L, h2], fun o ho hor el => ?_⟩
        by_cases hok : o = k
        · subst hok
          rw [reach_L] at el
          exact absurd (IF_may (h1.2.1 o) el) hm
        · unfold M_reach at el ⊢
          rw [MsKn _ _ hok] at el ⊢
          exact h3 o (by omega) hor el
    · unfold Q_snF
      rw [if_neg hr]
      split
      · exact nz_snoop_r u k n
      · exact nz_snoop_r u k n
theorem RD_loop {m : MV} (r : Nat) (n : Fin 256) (h : IM m) : ∀ k, RD m r n k (it (M_readF r n) k m) ∧ (it (Q_snF r n false) k (nz m, 0)).1 = nz (it (M_readF r n) k m)
  | 0 => ⟨⟨h, fun _ => rfl, fun o ho => by omega⟩, rfl⟩
  | k + 1 => by
    obtain ⟨a, b⟩ := RD_loop r n h k
    obtain ⟨c, d⟩ := RD_step a
    refine ⟨c, ?_⟩
    rw [it_s, it_s, ← d (it (Q_snF r n false) k (nz m, 0)).2, ← b]
theorem nz_read {m : MV} {r : Nat} (n : Fin 256) (h : IM m) (hr : r < 4) : Q_reads (nz m) r n = (nz (M_read m r n).1, (M_read m r n).2) ∧ IM (M_read m r n).1 ∧ 0 ≤ (M_read m r n).2 := by
  by_cases hh : K_holds (m.2.1 r) n = true
  · have e := holds_line hh
    have e2 : ((M_tick m r 0).2.1 r).1 (n.val % 8) = some n := by unfold M_tick; rw [MsK1]; exact e
    unfold Q_reads M_read
    rw [nz_holds, if_pos hh, if_pos hh, nz_tick]
    refine ⟨congrArg (Prod.mk _) (nzK_val e2), IM_tick r 0 h, ?_⟩
    exact (IM_tick r 0 h).1.2.2.2.1 r _ n e2
  · obtain ⟨⟨i, hl, hc⟩, hs⟩ := RD_loop r n (IM_tick r 1 h) 4
    have eq1 : M_miss m r n = it (M_readF r n) 4 (M_tick m r 1) := rfl
    have eq2 : (Q_snoops (Q_tick (nz m) r 1) r n false).1 = nz (M_miss m r n) := by
      rw [nz_tick, eq1]
      exact hs
    rw [← eq1] at i hl hc
    have hne : ((M_miss m r n).2.1 r).1 (n.val % 8) ≠ some n := by
      rw [hl]
      unfold M_tick
      rw [MsK1]
      exact holds_not hh
    obtain ⟨vl, vk, vs, vf⟩ := vac_L r (n.val % 8) i
    have vi := IM_vac r (n.val % 8) i
    have vn : ((M_vac (M_miss m r n) r (n.val % 8)).2.1 r).1 (n.val % 8) = none := by rw [vl, up_at]
    have vm : (M_vac (M_miss m r n) r (n.val % 8)).1 n.val = (M_miss m r n).1 n.val := vac_mem _ _ _ _ (fun n2 e2 q => hne (by rw [e2, Fin.ext q]))
    have c2 : false = false → (M_miss m r n).1 n.val = (M_vac (M_miss m r n) r (n.val % 8)).1 n.val ∧ ∀ o2, o2 ≠ r → ((M_vac (M_miss m r n) r (n.val % 8)).2.1 o2).1 (n.val % 8) = some n → ((M_vac (M_miss m r n) r (n.val % 8)).2.1 o2).2.2.1 (n.val % 8) = false := by
      refine fun _ => ⟨vm.symm, fun o2 ho el => ?_⟩
      rw [vk o2 ho] at el ⊢
      exact hc o2 (i.1.1 o2 _ n el).2 ho el
    have hx : 0 ≤ (M_miss m r n).1 n.val := i.1.2.2.2.2 n.val
    obtain ⟨b1, b2, b3⟩ := begin_IM (b := false) vi hr vn hx (fun q => nomatch q) c2
    have nb := nz_begin i (IM_put (b := false) vi hr vn hx (fun q => nomatch q) c2)
    have eq3 : Q_miss (nz m) r n = nz (M_begin (M_vac (M_miss m r n) r (n.val % 8)) r n ((M_miss m r n).1 n.val) false) := by
      unfold Q_miss
      rw [eq2]
      exact nb
    unfold Q_reads M_read
    rw [nz_holds, if_neg hh, if_neg hh, eq3]
    refine ⟨congrArg (Prod.mk _) ((nzK_val b2).trans b3), b1, hx⟩
def wrS (u : MV) (i : Nat) (n : Fin 256) : MV := if K_may (u.2.1 i) n = true then (if K_holds ((M_reach u i n).2.1 i) n = true then M_rel (M_reach u i n) i n else M_reach u i n) else M_reach u i n
theorem nz_snoop_w {u : MV} {i : Nat} (n : Fin 256) (h : IF (u.2.1 i)) : Q_snoop (nz u) i n true = nz (wrS u i n) := by
  have hm : Q_may (nz u) i n.val = K_may (u.2.1 i) n := nz_may u i n.val
  unfold Q_snoop wrS
  rw [hm, tick_holds, reach_holds, M_reach_eq]
  by_cases h1 : K_may (u.2.1 i) n = true
  · by_cases h2 : K_holds (u.2.1 i) n = true
    · simp only [h1, h2, if_true, reduceIte]
      rw [nz_tick]
      have e := holds_line h2
      exact nz_rel (m := M_tick u i 2) (n := n) (by unfold M_tick; rw [MsK1]; exact e) rfl (by unfold M_tick; rw [MsK1]; exact (IF_low h e).2)
    · simp only [h1, h2, if_true, reduceIte, Bool.false_eq_true, if_false]
      rw [nz_tick, nz_tick]
  · simp only [h1, if_true, reduceIte, Bool.false_eq_true, if_false]
    rw [nz_tick]
def TK (m : MV) (r : Nat) (n : Fin 256) (k : Nat) (u : MV × Int32) : Prop := IM u.1 ∧ u.1.2.1 r = m.2.1 r ∧ (∀ o, o < k → o ≠ r → (u.1.2.1 o).1 (n.val % 8) ≠ some n) ∧ ∃ c, c ≤ k ∧ u.2 = nI c
theorem TK_wr {m : MV} {u : MV × Int32} {r k : Nat} {n : Fin 256} (h : TK m r n k u) (hr : k ≠ r) : IM (wrS u.1 k n) ∧ (wrS u.1 k n).2.1 r = m.2.1 r ∧ ∀ o, o < k + 1 → o ≠ r → ((wrS u.1 k n).2.1 o).1 (n.val % 8) ≠ some n := by
  obtain ⟨h1, h2, h3, _⟩ := h
  have hi := IM_reach k n h1
  have er : (M_reach u.1 k n).2.1 r = m.2.1 r := by unfold M_reach; rw [MsKn _ _ (Ne.symm hr)]; exact h2
  unfold wrS
  by_cases hm : K_may (u.1.2.1 k) n = true
  · rw [if_pos hm]
    by_cases hh : K_holds ((M_reach u.1 k n).2.1 k) n = true
    · rw [if_pos hh]
      refine ⟨IM_rel hi (holds_line hh), ?_, fun o ho hor => ?_⟩
      · unfold M_rel
        rw [MsKn _ _ (Ne.symm hr)]
        exact er
      · by_cases hok : o = k
        · subst hok
          unfold M_rel
          rw [MsK1]
          show va_up ((M_reach u.1 o n).2.1 o).1 (n.val % 8) none (n.val % 8) ≠ some n
          rw [up_at]
          simp
        · unfold M_rel
          rw [MsKn _ _ hok, reach_L]
          exact h3 o (by omega) hor
    · rw [if_neg hh]
      refine ⟨hi, er, fun o ho hor => ?_⟩
      by_cases hok : o = k
      · subst hok
        exact holds_not hh
      · rw [reach_L]
        exact h3 o (by omega) hor
  · rw [if_neg hm]
    refine ⟨hi, er, fun o ho hor => ?_⟩
    rw [reach_L]
    by_cases hok : o = k
    · subst hok
      exact fun el => hm (IF_may (h1.2.1 o) el)
    · exact h3 o (by omega) hor
theorem TK_step {m : MV} {u : MV × Int32} {r k : Nat} {n : Fin 256} (h : TK m r n k u) : TK m r n (k + 1) (M_takeF r n k u) ∧ Q_snF r n true k (nz u.1, u.2) = (nz (M_takeF r n k u).1, (M_takeF r n k u).2) := by
  by_cases hr : k = r
  · have e : M_takeF r n k u = u := by unfold M_takeF; rw [if_pos hr]
    rw [e]
    obtain ⟨h1, h2, h3, c, hc, h4⟩ := h
    refine ⟨⟨h1, h2, fun o ho hor => h3 o (by omega) hor, c, by omega, h4⟩, ?_⟩
    unfold Q_snF
    rw [if_pos hr, Int32.add_zero]
  · have hs := nz_snoop_w n (h.1.2.1 k)
    have hm : Q_may (nz u.1) k n.val = K_may (u.1.2.1 k) n := nz_may u.1 k n.val
    have e : M_takeF r n k u = (wrS u.1 k n, if K_may (u.1.2.1 k) n = true then u.2 + 1 else u.2) := by
      unfold M_takeF wrS
      rw [if_neg hr]
      by_cases h1 : K_may (u.1.2.1 k) n = true
      · rw [if_pos h1, if_pos h1, if_pos h1]
        by_cases h2 : K_holds ((M_reach u.1 k n).2.1 k) n = true
        · rw [if_pos h2, if_pos h2]
        · rw [if_neg h2, if_neg h2]
      · rw [if_neg h1, if_neg h1, if_neg h1]
    rw [e]
    obtain ⟨a1, a2, a3⟩ := TK_wr h hr
    obtain ⟨h1, h2, h3, c, hc, h4⟩ := h
    refine ⟨⟨a1, a2, a3, ?_⟩, ?_⟩
    · show ∃ c, c ≤ k + 1 ∧ (if K_may (u.1.2.1 k) n = true then u.2 + 1 else u.2) = nI c
      split
      · exact ⟨c + 1, by omega, by rw [h4]; exact nI_inc _⟩
      · exact ⟨c, by omega, h4⟩
    · unfold Q_snF
      rw [if_neg hr]
      show (if Q_may (nz u.1) k n.val = true then (Q_snoop (nz u.1) k n true, u.2 + 1) else (Q_snoop (nz u.1) k n true, u.2 + 0)) = _
      rw [hm, hs, Int32.add_zero]
      by_cases h1 : K_may (u.1.2.1 k) n = true
      · rw [if_pos h1, if_pos h1]
      · rw [if_neg h1, if_neg h1]
theorem TK_loop {m : MV} (r : Nat) (n : Fin 256) (h : IM m) : ∀ k, TK m r n k (it (M_takeF r n) k (m, 0)) ∧ it (Q_snF r n true) k (nz m, 0) = (nz (it (M_takeF r n) k (m, 0)).1, (it (M_takeF r n) k (m, 0)).2)
  | 0 => ⟨⟨h, rfl, fun o ho => by omega, 0, Nat.le_refl _, rfl⟩, rfl⟩
  | k + 1 => by
    obtain ⟨a, b⟩ := TK_loop r n h k
    obtain ⟨c, d⟩ := TK_step a
    refine ⟨c, ?_⟩
    rw [it_s, it_s, b, d]
theorem K_setL_id {k : KV} {p : Nat} {x : Option (Fin 256)} (h : k.1 p = x) : K_setL k p x = k := by
  subst h
  exact congrArg (fun z => ((z, k.2) : KV)) (up_id k.1 p)
theorem K_setD_id {k : KV} {p : Nat} {x : Bool} (h : k.2.2.1 p = x) : K_setD k p x = k := by
  subst h
  exact congrArg (fun z => ((k.1, k.2.1, z, k.2.2.2) : KV)) (up_id k.2.2.1 p)
theorem in1_id {m : MV} {o : Nat} {n : Fin 256} (h : (m.2.1 o).1 (n.val % 8) = some n) : Q_in1 m o n = m := by
  unfold Q_in1
  rw [K_setL_id h, MsK0]
theorem in3_id {m : MV} {o p : Nat} {b : Bool} (h : (m.2.1 o).2.2.1 p = b) : Q_in3 m o p b = m := by
  unfold Q_in3
  rw [K_setD_id h, MsK0]
theorem IM_fillT {m : MV} {o : Nat} {n : Fin 256} {x : Int32} (h : IM m) (ho : o < 4) (hx : 0 ≤ x) (e : (m.2.1 o).1 (n.val % 8) = some n) (h1 : ∀ o2, o2 ≠ o → (m.2.1 o2).1 (n.val % 8) ≠ some n) : IM (M_fill m o n x true) := by
  have c := IC_fill (b := true) h.1 ho hx (fun _ => h1) (fun q => nomatch q)
  refine IM_K h c ?_
  have el : (K_fill (m.2.1 o) n x true).1 = (m.2.1 o).1 := by
    show va_up (m.2.1 o).1 (n.val % 8) (some n) = _
    rw [← e, up_id]
  have i := h.2.1 o
  unfold IF
  rw [el]
  exact i
def wr2 (u : MV × Int32) (r : Nat) (n : Fin 256) (x : Int32) : MV × Int32 := if K_holds (u.1.2.1 r) n = true then (M_fill u.1 r n x true, u.2) else (M_begin (M_vac u.1 r (n.val % 8)) r n x true, u.2)
theorem nz_wr2 {m : MV} {r : Nat} {n : Fin 256} {x : Int32} (h : IM m) (hr : r < 4) (hx : 0 ≤ x) : Q_wr2 (nz m) r n x = (nz (wr2 (M_take m r n) r n x).1, (wr2 (M_take m r n) r n x).2) ∧ IM (wr2 (M_take m r n) r n x).1 ∧ 0 ≤ (wr2 (M_take m r n) r n x).2 := by
  obtain ⟨⟨i, hk, hc, c, hc4, he⟩, hs⟩ := TK_loop r n h 4
  change IM (M_take m r n).1 at i
  change (M_take m r n).1.2.1 r = m.2.1 r at hk
  change ∀ o, o < 4 → o ≠ r → ((M_take m r n).1.2.1 o).1 (n.val % 8) ≠ some n at hc
  change (M_take m r n).2 = nI c at he
  have hs2 : Q_snoops (nz m) r n true = (nz (M_take m r n).1, (M_take m r n).2) := hs
  generalize M_take m r n = u at i hk hc he hs2 ⊢
  have others : ∀ o2, o2 ≠ r → (u.1.2.1 o2).1 (n.val % 8) ≠ some n := fun o2 ho el => hc o2 (i.1.1 o2 _ n el).2 ho el
  have hpos : 0 ≤ u.2 := by
    rw [he, show (0 : Int32) = nI 0 from rfl, nI_leI (by decide) (by omega)]
    omega
  unfold Q_wr2 wr2
  rw [hs2, nz_holds]
  by_cases hh : K_holds (u.1.2.1 r) n = true
  · rw [if_pos hh, if_pos hh]
    have e := holds_line hh
    refine ⟨?_, IM_fillT i hr hx e others, hpos⟩
    show (Q_in3 (Q_in2 (nz u.1) r (n.val % 8) x) r (n.val % 8) true, u.2) = _
    rw [← nz_fill, in1_id (m := nz u.1) e]
  · rw [if_neg hh, if_neg hh]
    obtain ⟨vl, vk, vs, vf⟩ := vac_L r (n.val % 8) i
    have vi := IM_vac r (n.val % 8) i
    have vn : ((M_vac u.1 r (n.val % 8)).2.1 r).1 (n.val % 8) = none := by rw [vl, up_at]
    have c1 : true = true → ∀ o2, o2 ≠ r → ((M_vac u.1 r (n.val % 8)).2.1 o2).1 (n.val % 8) ≠ some n := fun _ o2 ho => by rw [vk o2 ho]; exact others o2 ho
    obtain ⟨b1, b2, b3⟩ := begin_IM (b := true) vi hr vn hx c1 (fun q => nomatch q)
    have nb := nz_begin i (IM_put (b := true) vi hr vn hx c1 (fun q => nomatch q))
    refine ⟨?_, b1, hpos⟩
    show (Q_begins (nz u.1) r n x true, u.2) = _
    rw [nb]
theorem IM_wrs {m : MV} (x : Int32) (h : IM m) : IM (M_setWr m x) := h
theorem nz_write {m : MV} {r : Nat} (n : Fin 256) {x : Int32} (h : IM m) (hr : r < 4) (hx : 0 ≤ x) : Q_writes (nz m) r n x = (nz (M_write m r n x).1, (M_write m r n x).2) ∧ IM (M_write m r n x).1 ∧ 0 ≤ (M_write m r n x).2 := by
  have iw : IM (M_setWr m (m.2.2.2.2.2 + 1)) := h
  have ew : Q_wr (nz m) = nz (M_setWr m (m.2.2.2.2.2 + 1)) := rfl
  have hwr2 : M_write m r n x = wr2 (M_own m r n) r n x := rfl
  rw [hwr2]
  unfold Q_writes M_own
  rw [ew, nz_holds]
  generalize M_setWr m (m.2.2.2.2.2 + 1) = w at iw ⊢
  have key := nz_wr2 (n := n) iw hr hx
  by_cases hh : K_holds (w.2.1 r) n = true
  · rw [if_pos hh]
    have e := holds_line hh
    show (if (w.2.1 r).2.2.1 (n.val % 8) = true then _ else _) = _ ∧ _
    by_cases hd : (w.2.1 r).2.2.1 (n.val % 8) = true
    · have hk : K_hd (w.2.1 r) n = true := by unfold K_hd; rw [hh, hd]; rfl
      rw [if_pos hd, if_pos hk]
      unfold wr2
      rw [if_pos hh]
      refine ⟨?_, IM_fillT iw hr hx e (fun o2 ho el => ho (iw.1.2.1 r _ n e hd o2 el)), Int32.le_refl 0⟩
      show (Q_in2 (nz w) r (n.val % 8) x, 0) = (nz (M_fill w r n x true), 0)
      rw [← nz_fill, in1_id (m := nz w) e, in3_id]
      unfold Q_in2
      rw [MsK1]
      exact hd
    · have hk : ¬ K_hd (w.2.1 r) n = true := by
        unfold K_hd
        rw [hh]
        simpa using hd
      rw [if_neg hd, if_neg hk]
      exact key
  · have hk : ¬ K_hd (w.2.1 r) n = true := by
      unfold K_hd
      intro q
      rw [Bool.and_eq_true] at q
      exact hh q.1
    rw [if_neg hh, if_neg hk]
    exact key
theorem nz_drop {m : MV} {r : Nat} {n : Fin 256} (h : IM m) (hh : K_holds (m.2.1 r) n = true) : Q_drops (nz m) r n = (nz (M_drop m r n).1, (M_drop m r n).2) ∧ IM (M_drop m r n).1 ∧ 0 ≤ (M_drop m r n).2 := by
  unfold M_drop
  rw [if_pos hh]
  refine ⟨?_, IM_vac r _ h, ?_⟩
  · unfold Q_drops
    rw [nz_vac2 r _ h]
    show (_, bI ((m.2.1 r).2.2.1 (n.val % 8))) = _
    unfold K_hd bI
    rw [hh, Bool.true_and]
  · show 0 ≤ (if K_hd (m.2.1 r) n = true then (1 : Int32) else 0)
    split <;> decide
theorem cnt_F (t : Nat → Bool) : (fun (i : Nat) (x : Int32) => x + bI (t i)) = cntF t := by
  funext i x
  unfold cntF bI
  split
  · rfl
  · exact Int32.add_zero x
theorem nz_bits (m : MV) (o : Nat) : Q_bits (nz m) o = cntT (m.2.1 o).2.2.2.2.2.2 16 := congrArg (fun f => it f 16 (0 : Int32)) (cnt_F (m.2.1 o).2.2.2.2.2.2)
theorem nz_dirty (m : MV) (o : Nat) : Q_dirty (nz m) o = K_dirties (m.2.1 o) := congrArg (fun f => it f 8 (0 : Int32)) (cnt_F (m.2.1 o).2.2.1)
theorem nz_stuckOf (m : MV) (o : Nat) : Q_stuckOf (nz m) o = cntT (m.2.1 o).2.2.2.2.2.1 24 := congrArg (fun f => it f 24 (0 : Int32)) (cnt_F (m.2.1 o).2.2.2.2.2.1)
theorem nz_lines (m : MV) (o : Nat) : Q_lines (nz m) o = K_held (m.2.1 o) := by
  have e : Q_linesF (nz m) o = K_heldF (m.2.1 o) := by
    funext i x
    show (if (m.2.1 o).1 i = none then x + 0 else x + 1) = (if (m.2.1 o).1 i = none then x else x + 1)
    rw [Int32.add_zero]
  unfold Q_lines K_held
  rw [e]
theorem nz_empty (m : MV) (o : Nat) : Q_empty (nz m) o = K_nothing (m.2.1 o) := by
  unfold Q_empty K_nothing
  rw [nz_lines, nz_from, nz_bits]
theorem nz_forget {m : MV} {r : Nat} (h : IM m) (hh : ¬ K_nothing (m.2.1 r) = true) : Q_fg (nz m) r none = (nz (M_forget m r).1, (M_forget m r).2) ∧ IM (M_forget m r).1 ∧ 0 ≤ (M_forget m r).2 := by
  unfold M_forget
  rw [if_neg hh]
  refine ⟨nz_fa none (fun c hc => ((h.2.1 r).2.2 c hc).2), IM_fa0 r h, ?_⟩
  obtain ⟨_, _, _, _, _, _, c, hc, e⟩ := fa_K r none h.1
  rw [e, show (0 : Int32) = nI 0 from rfl, nI_leI (by decide) (by omega)]
  omega
