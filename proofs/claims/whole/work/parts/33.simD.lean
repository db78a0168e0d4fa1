/-! ===== machines: what always holds, and the same as the reference's ===== -/
def IM (m : MV) : Prop := IC m ∧ (∀ o, IF (m.2.1 o)) ∧ 0 < m.2.2.1
theorem IM_K {m : MV} {o : Nat} {k : KV} (h : IM m) (c : IC (M_setK m o k)) (f : IF k) : IM (M_setK m o k) := by
  refine ⟨c, fun o2 => ?_, h.2.2⟩
  by_cases ho : o2 = o
  · subst ho
    rw [MsK1]
    exact f
  · rw [MsKn m k ho]
    exact h.2.1 o2
theorem IM_tick {m : MV} (o t : Nat) (h : IM m) : IM (M_tick m o t) := IM_K h (IC_tick o t h.1) (h.2.1 o)
theorem IF_reach {k : KV} (n : Fin 256) (h : IF k) : IF (K_reach k n) := by
  have e := K_reach_same k n
  unfold IF
  rw [e.1, e.2.2.2]
  exact h
theorem IM_reach {m : MV} (o : Nat) (n : Fin 256) (h : IM m) : IM (M_reach m o n) := IM_K h (IC_reach o n h.1) (IF_reach n (h.2.1 o))
theorem IM_wb {m : MV} (o p : Nat) (h : IM m) : IM (M_wb m o p) := by
  refine ⟨IC_wb o p h.1, fun o2 => ?_, by rw [(M_wb_set m o p).1]; exact h.2.2⟩
  by_cases ho : o2 = o
  · subst ho
    rcases M_wb_K m o2 p with e | e <;> rw [e] <;> exact h.2.1 o2
  · rw [M_wb_Kn m p ho]
    exact h.2.1 o2
theorem M_wb_L (m : MV) (o p o2 : Nat) : ((M_wb m o p).2.1 o2).1 = (m.2.1 o2).1 := by
  by_cases ho : o2 = o
  · subst ho
    rcases M_wb_K m o2 p with e | e <;> rw [e] <;> rfl
  · rw [M_wb_Kn m p ho]
theorem M_wb_V (m : MV) (o p o2 : Nat) : ((M_wb m o p).2.1 o2).2.1 = (m.2.1 o2).2.1 := by
  by_cases ho : o2 = o
  · subst ho
    rcases M_wb_K m o2 p with e | e <;> rw [e] <;> rfl
  · rw [M_wb_Kn m p ho]
theorem M_wb_mem (m : MV) (o p k : Nat) (h : ∀ n, (m.2.1 o).1 p = some n → n.val ≠ k) : (M_wb m o p).1 k = m.1 k := by
  unfold M_wb
  split
  · rfl
  · rename_i n hn
    split
    · exact u_ne (fun q => h n hn q.symm)
    · rfl
theorem M_wb_clean (m : MV) (o p : Nat) {n : Fin 256} (h : (m.2.1 o).1 p = some n) : ((M_wb m o p).2.1 o).2.2.1 p = false := by
  unfold M_wb
  rw [h]
  show ((if (m.2.1 o).2.2.1 p = true then M_setBack (M_clean m o p n) ((M_clean m o p n).2.2.2.2.1 + 1) else m).2.1 o).2.2.1 p = false
  by_cases hd : (m.2.1 o).2.2.1 p = true
  · rw [if_pos hd]
    show ((M_clean m o p n).2.1 o).2.2.1 p = false
    unfold M_clean
    rw [MsK1]
    exact up_at _ _ _
  · rw [if_neg hd]
    simpa using hd
theorem IM_rel {m : MV} {o : Nat} {n : Fin 256} (h : IM m) (e : (m.2.1 o).1 (n.val % 8) = some n) : IM (M_rel m o n) := IM_K h (IC_rel o n h.1) (IF_rel (h.2.1 o) e)
theorem IM_vac {m : MV} (o p : Nat) (h : IM m) : IM (M_vac m o p) := by
  unfold M_vac
  split
  · exact h
  · rename_i n hn
    have hp := (h.1.1 o p n hn).1
    exact IM_rel (IM_wb o p h) (by rw [M_wb_L, hp]; exact hn)
theorem vac_L {m : MV} (o p : Nat) (h : IM m) : ((M_vac m o p).2.1 o).1 = va_up (m.2.1 o).1 p none ∧ (∀ o2, o2 ≠ o → (M_vac m o p).2.1 o2 = m.2.1 o2) ∧ (M_vac m o p).2.2.1 = m.2.2.1 ∧ (M_vac m o p).2.2.2.1 = m.2.2.2.1 := by
  unfold M_vac
  split
  · rename_i hn
    exact ⟨by rw [← hn, up_id], fun _ _ => rfl, rfl, rfl⟩
  · rename_i n hn
    have hp := (h.1.1 o p n hn).1
    refine ⟨?_, fun o2 ho => ?_, (M_wb_set m o p).1, (M_wb_set m o p).2⟩
    · unfold M_rel
      rw [MsK1]
      show va_up ((M_wb m o p).2.1 o).1 (n.val % 8) none = _
      rw [M_wb_L, hp]
    · unfold M_rel
      rw [MsKn _ _ ho, M_wb_Kn m p ho]
theorem vac_mem (m : MV) (o p k : Nat) (h : ∀ n, (m.2.1 o).1 p = some n → n.val ≠ k) : (M_vac m o p).1 k = m.1 k := by
  unfold M_vac
  split
  · rfl
  · exact M_wb_mem m o p k h
theorem nz_vac2 {m : MV} (o p : Nat) (h : IM m) : Q_lv (Q_wb (nz m) o p) o p = nz (M_vac m o p) := by
  refine nz_vac (fun n hn => ?_) (M_wb_K m o p)
  have hp := (h.1.1 o p n hn).1
  exact ⟨hp, (IF_low (h.2.1 o) (by rw [hp]; exact hn)).2⟩
theorem put_eq (m : MV) (o : Nat) (n : Fin 256) (x : Int32) (b : Bool) : M_add (M_fill m o n x b) o n = M_setK m o (K_setF (K_fill (m.2.1 o) n x b) (F_add (m.2.1 o).2.2.2.2 n.val m.2.2.1)) := by
  unfold M_add M_fill
  rw [MsK1, MsK2]
  rfl
theorem IM_put {m : MV} {o : Nat} {n : Fin 256} {x : Int32} {b : Bool} (h : IM m) (ho : o < 4) (e : (m.2.1 o).1 (n.val % 8) = none) (hx : 0 ≤ x) (h1 : b = true → ∀ o2, o2 ≠ o → (m.2.1 o2).1 (n.val % 8) ≠ some n) (h2 : b = false → x = m.1 n.val ∧ ∀ o2, o2 ≠ o → (m.2.1 o2).1 (n.val % 8) = some n → (m.2.1 o2).2.2.1 (n.val % 8) = false) : IM (M_add (M_fill m o n x b) o n) := by
  have c : IC (M_add (M_fill m o n x b) o n) := IC_F o _ (IC_fill h.1 ho hx h1 h2)
  rw [put_eq] at c ⊢
  exact IM_K h c (IF_add x b (h.2.1 o) e h.2.2)
theorem put_L (m : MV) (o : Nat) (n : Fin 256) (x : Int32) (b : Bool) : ((M_add (M_fill m o n x b) o n).2.1 o).1 = va_up (m.2.1 o).1 (n.val % 8) (some n) ∧ ((M_add (M_fill m o n x b) o n).2.1 o).2.1 (n.val % 8) = x := by
  rw [put_eq, MsK1]
  exact ⟨rfl, u_eq⟩
def FA (m : MV) (o : Nat) (kept : Option (Fin 256)) (k : Nat) (u : MV × Int32) : Prop := IC u.1 ∧ (∀ o2, o2 ≠ o → u.1.2.1 o2 = m.2.1 o2) ∧ (u.1.2.2.1 = m.2.2.1 ∧ u.1.2.2.2.1 = m.2.2.2.1) ∧ (∀ p, (u.1.2.1 o).1 p = if p < k ∧ (m.2.1 o).1 p ≠ kept then none else (m.2.1 o).1 p) ∧ (u.1.2.1 o).2.1 = (m.2.1 o).2.1 ∧ ∃ c, c ≤ k ∧ u.2 = nI c
theorem FA_loop {m : MV} (o : Nat) (kept : Option (Fin 256)) (i : IC m) : ∀ k, FA m o kept k (it (M_faF o kept) k (m, 0))
  | 0 => ⟨i, fun _ _ => rfl, ⟨rfl, rfl⟩, fun p => by rw [if_neg (by omega)]; rfl, rfl, 0, Nat.le_refl _, rfl⟩
  | k + 1 => by
    rw [it_s]
    obtain ⟨h1, h2, h3, h4, h5, c, hc, h6⟩ := FA_loop o kept i k
    have hk : ((it (M_faF o kept) k (m, 0)).1.2.1 o).1 k = (m.2.1 o).1 k := by rw [h4, if_neg (by omega)]
    generalize it (M_faF o kept) k (m, 0) = u at h1 h2 h3 h4 h5 h6 hk ⊢
    unfold M_faF
    rw [hk]
    cases hn : (m.2.1 o).1 k with
    | none =>
      refine ⟨h1, h2, h3, fun p => ?_, h5, c, by omega, h6⟩
      show (u.1.2.1 o).1 p = _
      rw [h4 p]
      by_cases hp : p = k
      · subst hp
        rw [hn]
        simp
      · by_cases hq : p < k ∧ (m.2.1 o).1 p ≠ kept
        · rw [if_pos hq, if_pos ⟨by omega, hq.2⟩]
        · rw [if_neg hq, if_neg (fun z => hq ⟨by omega, z.2⟩)]
    | some n =>
      show FA m o kept (k + 1) (if kept = some n then u else (M_emp (M_wb u.1 o k) o k, u.2 + 1))
      by_cases hkn : kept = some n
      · rw [if_pos hkn]
        refine ⟨h1, h2, h3, fun p => ?_, h5, c, by omega, h6⟩
        rw [h4 p]
        by_cases hp : p = k
        · subst hp
          rw [if_neg (by omega), if_neg (fun z => z.2 (hn.trans hkn.symm))]
        · by_cases hq : p < k ∧ (m.2.1 o).1 p ≠ kept
          · rw [if_pos hq, if_pos ⟨by omega, hq.2⟩]
          · rw [if_neg hq, if_neg (fun z => hq ⟨by omega, z.2⟩)]
      · rw [if_neg hkn]
        refine ⟨IC_emp o k (IC_wb o k h1), fun o2 ho => ?_, ?_, fun p => ?_, ?_, c + 1, by omega, ?_⟩
        · show (M_emp (M_wb u.1 o k) o k).2.1 o2 = _
          unfold M_emp
          rw [MsKn _ _ ho, M_wb_Kn _ _ ho]
          exact h2 o2 ho
        · exact ⟨(M_wb_set u.1 o k).1.trans h3.1, (M_wb_set u.1 o k).2.trans h3.2⟩
        · show ((M_emp (M_wb u.1 o k) o k).2.1 o).1 p = _
          unfold M_emp
          rw [MsK1]
          show va_up ((M_wb u.1 o k).2.1 o).1 k none p = _
          rw [M_wb_L]
          by_cases hp : p = k
          · subst hp
            rw [up_at, if_pos ⟨by omega, by rw [hn]; exact fun z => hkn z.symm⟩]
          · rw [up_ne _ _ hp, h4 p]
            by_cases hq : p < k ∧ (m.2.1 o).1 p ≠ kept
            · rw [if_pos hq, if_pos ⟨by omega, hq.2⟩]
            · rw [if_neg hq, if_neg (fun z => hq ⟨by omega, z.2⟩)]
        · show ((M_emp (M_wb u.1 o k) o k).2.1 o).2.1 = _
          unfold M_emp
          rw [MsK1]
          show ((M_wb u.1 o k).2.1 o).2.1 = _
          rw [M_wb_V]
          exact h5
        · show u.2 + 1 = nI (c + 1)
          rw [h6]
          exact nI_inc _
theorem us_hi (L : Nat → Option (Fin 256)) {c : Nat} (h : 24 ≤ c) : us L c = 0 := by
  have z : ∀ x, wO x c = 0 := fun x => by
    unfold wO
    split
    · rfl
    · unfold wN
      rw [if_neg (by omega), if_neg (by omega)]
  simp only [us, z]
theorem CF_wipe {f : FV} {L : Nat → Option (Fin 256)} (h : CF f (us L)) : CF (F_wipe f) (fun _ => 0) := by
  rw [F_wipe_eq (fun c hc => (h.2 c hc).2)]
  refine ⟨fun c _ => ?_, fun c hc => nomatch hc⟩
  show clC f.1 c = nI 0
  unfold clC
  split
  · rfl
  · rename_i hc
    cases hs : f.2.1 c with
    | true => exact absurd (h.2 c hs).2 hc
    | false => rw [h.1 c hs, us_hi L (by omega)]
-- forgetting, at its end
theorem fa_K {m : MV} (o : Nat) (kept : Option (Fin 256)) (i : IC m) : ((M_fa m o kept).1.2.1 o).1 = (fun p => if p < 8 ∧ (m.2.1 o).1 p ≠ kept then none else (m.2.1 o).1 p) ∧ ((M_fa m o kept).1.2.1 o).2.1 = (m.2.1 o).2.1 ∧ ((M_fa m o kept).1.2.1 o).2.2.2.2 = F_wipe (m.2.1 o).2.2.2.2 ∧ (∀ o2, o2 ≠ o → (M_fa m o kept).1.2.1 o2 = m.2.1 o2) ∧ IC (M_fa m o kept).1 ∧ (M_fa m o kept).1.2.2.1 = m.2.2.1 ∧ ∃ c, c ≤ 8 ∧ (M_fa m o kept).2 = nI c := by
  obtain ⟨h1, h2, h3, h4, h5, c, hc, h6⟩ := FA_loop o kept i 8
  have hf := fa_F m o kept 8
  unfold M_fa M_wipe M_tick
  generalize it (M_faF o kept) 8 (m, 0) = u at h1 h2 h3 h4 h5 h6 hf ⊢
  refine ⟨?_, ?_, ?_, fun o2 ho => ?_, IC_tick o 5 (IC_F o _ h1), h3.1, c, hc, h6⟩
  · rw [MsK1, MsK1]
    exact funext h4
  · rw [MsK1, MsK1]
    exact h5
  · rw [MsK1, MsK1]
    show F_wipe (u.1.2.1 o).2.2.2.2 = _
    rw [hf]
  · rw [MsKn _ _ ho, MsKn _ _ ho]
    exact h2 o2 ho
theorem IM_fa0 {m : MV} (o : Nat) (h : IM m) : IM (M_fa m o none).1 := by
  obtain ⟨k1, k2, k3, k4, k5, k6, _⟩ := fa_K o none h.1
  refine ⟨k5, fun o2 => ?_, by rw [k6]; exact h.2.2⟩
  by_cases ho : o2 = o
  · subst ho
    have el : ((M_fa m o2 none).1.2.1 o2).1 = fun _ => none := by
      rw [k1]
      funext p
      by_cases hp : p < 8 ∧ (m.2.1 o2).1 p ≠ none
      · rw [if_pos hp]
      · rw [if_neg hp]
        cases hn : (m.2.1 o2).1 p with
        | none => rfl
        | some n =>
          have := (h.1.1 o2 p n hn).1
          exact absurd ⟨by omega, by rw [hn]; simp⟩ hp
    refine ⟨fun p n e => ?_, ?_⟩
    · rw [el] at e
      cases e
    · rw [el, k3]
      exact CF_congr (CF_wipe (h.2.1 o2).2) (fun c => rfl)
  · rw [k4 o2 ho]
    exact h.2.1 o2
theorem IM_fa1 {m : MV} {o : Nat} {n : Fin 256} (h : IM m) (e : (m.2.1 o).1 (n.val % 8) = some n) : IM (M_add (M_fa m o (some n)).1 o n) := by
  obtain ⟨k1, k2, k3, k4, k5, k6, _⟩ := fa_K o (some n) h.1
  have el : ((M_fa m o (some n)).1.2.1 o).1 = fun p => if p = n.val % 8 then some n else none := by
    rw [k1]
    funext p
    by_cases hp : p < 8 ∧ (m.2.1 o).1 p ≠ some n
    · rw [if_pos hp, if_neg (fun z => hp.2 (by rw [z]; exact e))]
    · rw [if_neg hp]
      cases hn : (m.2.1 o).1 p with
      | none =>
        rw [if_neg (fun z => by rw [z, e] at hn; cases hn)]
      | some n2 =>
        have h8 := (h.1.1 o p n2 hn).1
        have e2 : n2 = n := by
          by_cases z : n2 = n
          · exact z
          · exact absurd ⟨by omega, by rw [hn]; exact fun w => z (Option.some.inj w)⟩ hp
        rw [e2] at h8 ⊢
        rw [if_pos h8.symm]
  refine ⟨IC_F o _ k5, fun o2 => ?_, by show 0 < (M_fa m o (some n)).1.2.2.1; rw [k6]; exact h.2.2⟩
  unfold M_add
  by_cases ho : o2 = o
  · subst ho
    rw [MsK1]
    refine ⟨fun p n2 e2 => ?_, ?_⟩
    · change ((M_fa m o2 (some n)).1.2.1 o2).1 p = some n2 at e2
      rw [el] at e2
      change (if p = n.val % 8 then some n else none) = some n2 at e2
      have e3 : n2 = n := by
        by_cases hp : p = n.val % 8
        · rw [if_pos hp] at e2
          exact (Option.some.inj e2).symm
        · rw [if_neg hp] at e2
          cases e2
      subst e3
      show (F_add _ n2.val _).2.2 (n2.val / 16) = true
      rw [F_add_b, up_at]
    · show CF (F_add ((M_fa m o2 (some n)).1.2.1 o2).2.2.2.2 n.val (M_fa m o2 (some n)).1.2.2.1) (us ((M_fa m o2 (some n)).1.2.1 o2).1)
      rw [el, k3, k6]
      exact CF_congr (CF_add n (CF_wipe (h.2.1 o2).2) h.2.2) (fun c => by rw [us_one]; omega)
  · rw [MsKn _ _ ho, k4 o2 ho]
    exact h.2.1 o2
theorem begin_IM {m : MV} {o : Nat} {n : Fin 256} {x : Int32} {b : Bool} (h : IM m) (ho : o < 4) (e : (m.2.1 o).1 (n.val % 8) = none) (hx : 0 ≤ x) (h1 : b = true → ∀ o2, o2 ≠ o → (m.2.1 o2).1 (n.val % 8) ≠ some n) (h2 : b = false → x = m.1 n.val ∧ ∀ o2, o2 ≠ o → (m.2.1 o2).1 (n.val % 8) = some n → (m.2.1 o2).2.2.1 (n.val % 8) = false) : IM (M_begin m o n x b) ∧ ((M_begin m o n x b).2.1 o).1 (n.val % 8) = some n ∧ ((M_begin m o n x b).2.1 o).2.1 (n.val % 8) = x := by
  have hp := IM_put h ho e hx h1 h2
  obtain ⟨hl, hv⟩ := put_L m o n x b
  have hl2 : ((M_add (M_fill m o n x b) o n).2.1 o).1 (n.val % 8) = some n := by rw [hl, up_at]
  unfold M_begin
  split
  · exact ⟨hp, hl2, hv⟩
  · refine ⟨IM_fa1 hp hl2, ?_, ?_⟩
    · unfold M_add
      rw [MsK1]
      show ((M_fa (M_add (M_fill m o n x b) o n) o (some n)).1.2.1 o).1 (n.val % 8) = some n
      rw [(fa_K o (some n) hp.1).1]
      show (if n.val % 8 < 8 ∧ ((M_add (M_fill m o n x b) o n).2.1 o).1 (n.val % 8) ≠ some n then none else ((M_add (M_fill m o n x b) o n).2.1 o).1 (n.val % 8)) = some n
      rw [if_neg (fun z => z.2 hl2), hl2]
    · unfold M_add
      rw [MsK1]
      show ((M_fa (M_add (M_fill m o n x b) o n) o (some n)).1.2.1 o).2.1 (n.val % 8) = x
      rw [(fa_K o (some n) hp.1).2.1, hv]
theorem nz_begin {m : MV} {o : Nat} {n : Fin 256} {x : Int32} {b : Bool} (h : IM m) (hp : IM (M_add (M_fill (M_vac m o (n.val % 8)) o n x b) o n)) : Q_begins (nz m) o n x b = nz (M_begin (M_vac m o (n.val % 8)) o n x b) := by
  have e : Q_put (nz m) o n x b = nz (M_add (M_fill (M_vac m o (n.val % 8)) o n x b) o n) := by
    unfold Q_put
    rw [nz_vac2 o _ h, nz_fill, nz_add]
  unfold Q_begins M_begin
  rw [e, nz_from]
  show (if F_above _ < (M_add (M_fill (M_vac m o (n.val % 8)) o n x b) o n).2.2.2.1 then _ else _) = _
  by_cases hc : F_above ((M_add (M_fill (M_vac m o (n.val % 8)) o n x b) o n).2.1 o).2.2.2.2 < (M_add (M_fill (M_vac m o (n.val % 8)) o n x b) o n).2.2.2.1
  · rw [if_pos hc, if_pos hc]
  · rw [if_neg hc, if_neg hc, nz_fa (some n) (fun c hc => ((hp.2.1 o).2.2 c hc).2)]
    exact nz_add _ o n
