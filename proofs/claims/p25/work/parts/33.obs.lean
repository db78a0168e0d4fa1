/-! ===== what the questions answer, in numbers ===== -/
def bN (b : Bool) : Nat := if b = true then 1 else 0
theorem bN_I (b : Bool) : bI b = nI (bN b) := by cases b <;> rfl
theorem bN_le (b : Bool) : bN b ≤ 1 := by cases b <;> decide
def cn (t : Nat → Bool) : Nat → Nat
  | 0 => 0
  | n + 1 => cn t n + bN (t n)
theorem cn_s (t : Nat → Bool) (n : Nat) : cn t (n + 1) = cn t n + bN (t n) := rfl
theorem cn_le (t : Nat → Bool) : ∀ n, cn t n ≤ n
  | 0 => Nat.le_refl _
  | n + 1 => by
    have := cn_le t n
    have := bN_le (t n)
    rw [cn_s]
    omega
theorem cn_mono {a b : Nat → Bool} : ∀ {n : Nat}, (∀ i, i < n → a i = true → b i = true) → cn a n ≤ cn b n
  | 0, _ => Nat.le_refl _
  | n + 1, h => by
    have i := cn_mono (n := n) (fun i hi => h i (by omega))
    have z : bN (a n) ≤ bN (b n) := by
      have := h n (by omega)
      cases ha : a n with
      | false => exact Nat.zero_le _
      | true => rw [this ha]; exact Nat.le_refl _
    rw [cn_s, cn_s]
    omega
theorem it_cn {f : Nat → Int32 → Int32} {t : Nat → Bool} (h : ∀ i x, f i x = if t i = true then x + 1 else x) : ∀ n, it f n 0 = nI (cn t n)
  | 0 => rfl
  | n + 1 => by
    rw [it_s, it_cn h n, h, cn_s]
    cases t n with
    | true => exact nI_inc _
    | false => rfl
def hol (k : KV) : Nat → Bool := fun p => decide (¬ k.1 p = none)
def abv (f : FV) : Nat → Bool := fun c => decide (¬ f.1 c ≤ 0)
theorem held_cn (k : KV) : K_held k = nI (cn (hol k) 8) := it_cn (fun i x => by
  show (if k.1 i = none then x else x + 1) = if decide (¬ k.1 i = none) = true then x + 1 else x
  by_cases h : k.1 i = none <;> simp [h]) 8
theorem above_cn (f : FV) : F_above f = nI (cn (abv f) 24) := it_cn (fun i x => by
  show (if f.1 i ≤ 0 then x else x + 1) = if decide (¬ f.1 i ≤ 0) = true then x + 1 else x
  by_cases h : f.1 i ≤ 0 <;> simp [h]) 24
theorem cntT_cn (t : Nat → Bool) (n : Nat) : cntT t n = nI (cn t n) := it_cn (fun _ _ => rfl) n
theorem sw3 {co : Nat} (h : co < 4) : S_within (nI co) 0 3 = true := within_nI (B := 3) rfl (by omega) (by decide)
theorem sw7 {p : Nat} (h : p < 8) : S_within (nI p) 0 7 = true := within_nI (B := 7) rfl (by omega) (by decide)
theorem sw15 {p : Nat} (h : p < 16) : S_within (nI p) 0 15 = true := within_nI (B := 15) rfl (by omega) (by decide)
theorem sw23 {p : Nat} (h : p < 24) : S_within (nI p) 0 23 = true := within_nI (B := 23) rfl (by omega) (by decide)
theorem sw255 (n : Fin 256) : S_within (nI n.val) 0 255 = true := within_nI (B := 255) rfl (by have := n.isLt; omega) (by decide)
def enc5 (x : Option (Fin 256)) : Int32 := match x with
  | none => -5
  | some n => nI n.val
theorem o_held0 (x : XV) {co p : Nat} (hc : co < 4) (hp : p < 8) : X_held x (nI co) (nI p) 0 = enc5 ((x.1.2.1 co).1 p) := by
  unfold X_held
  rw [if_pos (sw3 hc), if_pos (sw7 hp), if_pos (by decide), cN_nI (by omega), cN_nI (by omega)]
  cases h : (x.1.2.1 co).1 p with
  | none => rfl
  | some n => rfl
theorem o_held1 (x : XV) {co p : Nat} {n : Fin 256} (hc : co < 4) (hp : p < 8) (h : (x.1.2.1 co).1 p = some n) : X_held x (nI co) (nI p) 1 = (x.1.2.1 co).2.1 p := by
  unfold X_held
  rw [if_pos (sw3 hc), if_pos (sw7 hp), if_pos (by decide), cN_nI (by omega), cN_nI (by omega), h]
  rfl
theorem o_held2 (x : XV) {co p : Nat} {n : Fin 256} (hc : co < 4) (hp : p < 8) (h : (x.1.2.1 co).1 p = some n) : X_held x (nI co) (nI p) 2 = nI (bN ((x.1.2.1 co).2.2.1 p)) := by
  unfold X_held
  rw [if_pos (sw3 hc), if_pos (sw7 hp), if_pos (by decide), cN_nI (by omega), cN_nI (by omega), h, ← bN_I]
  rfl
theorem o_cnt (x : XV) {co k : Nat} (hc : co < 4) (hk : k < 24) : X_counter x (nI co) (nI k) = (x.1.2.1 co).2.2.2.2.1 k := by
  unfold X_counter
  rw [if_pos (sw3 hc), if_pos (sw23 hk), cN_nI (by omega), cN_nI (by omega)]
theorem o_bit (x : XV) {co g : Nat} (hc : co < 4) (hg : g < 16) : X_bit x (nI co) (nI g) = nI (bN ((x.1.2.1 co).2.2.2.2.2.2 g)) := by
  unfold X_bit
  rw [if_pos (sw3 hc), if_pos (sw15 hg), cN_nI (by omega), cN_nI (by omega), bN_I]
theorem o_line0 (x : XV) (n : Fin 256) : X_line x (nI n.val) 0 = x.1.1 n.val := by
  unfold X_line
  rw [if_pos (sw255 n), if_pos (by decide), lF_nI, if_pos (by decide)]
theorem o_line1 (x : XV) (n : Fin 256) : X_line x (nI n.val) 1 = M_vfr x.1 n := by
  unfold X_line
  rw [if_pos (sw255 n), if_pos (by decide), lF_nI, if_neg (by decide), if_pos (by decide)]
theorem o_line2 (x : XV) (n : Fin 256) : X_line x (nI n.val) 2 = M_holders x.1 n := by
  unfold X_line
  rw [if_pos (sw255 n), if_pos (by decide), lF_nI, if_neg (by decide), if_neg (by decide), if_pos (by decide)]
theorem o_line3 (x : XV) (n : Fin 256) : X_line x (nI n.val) 3 = M_mays x.1 n := by
  unfold X_line
  rw [if_pos (sw255 n), if_pos (by decide), lF_nI, if_neg (by decide), if_neg (by decide), if_neg (by decide), if_pos (by decide)]
theorem o_line4 (x : XV) (n : Fin 256) : X_line x (nI n.val) 4 = nI (n.val % 24) := by
  unfold X_line
  rw [if_pos (sw255 n), if_pos (by decide), lF_nI, if_neg (by decide), if_neg (by decide), if_neg (by decide), if_neg (by decide), if_pos (by decide)]
theorem o_line5 (x : XV) (n : Fin 256) : X_line x (nI n.val) 5 = nI ((7 * n.val + 5) % 24) := by
  unfold X_line
  rw [if_pos (sw255 n), if_pos (by decide), lF_nI, if_neg (by decide), if_neg (by decide), if_neg (by decide), if_neg (by decide), if_neg (by decide)]
theorem o_core0 (x : XV) {co : Nat} (hc : co < 4) : X_core x (nI co) 0 = nI (cn (hol (x.1.2.1 co)) 8) := by
  unfold X_core
  rw [if_pos (sw3 hc), if_pos (by decide), cN_nI (by omega), ← held_cn]
  rfl
theorem o_core1 (x : XV) {co : Nat} (hc : co < 4) : X_core x (nI co) 1 = nI (cn (x.1.2.1 co).2.2.1 8) := by
  unfold X_core
  rw [if_pos (sw3 hc), if_pos (by decide), cN_nI (by omega), ← cntT_cn]
  rfl
theorem o_core2 (x : XV) {co : Nat} (hc : co < 4) : X_core x (nI co) 2 = nI (cn (abv (x.1.2.1 co).2.2.2.2) 24) := by
  unfold X_core
  rw [if_pos (sw3 hc), if_pos (by decide), cN_nI (by omega), ← above_cn]
  rfl
theorem o_core3 (x : XV) {co : Nat} (hc : co < 4) : X_core x (nI co) 3 = nI (cn (x.1.2.1 co).2.2.2.2.2.1 24) := by
  unfold X_core
  rw [if_pos (sw3 hc), if_pos (by decide), cN_nI (by omega), ← cntT_cn]
  rfl
theorem o_core4 (x : XV) {co : Nat} (hc : co < 4) : X_core x (nI co) 4 = nI (cn (x.1.2.1 co).2.2.2.2.2.2 16) := by
  unfold X_core
  rw [if_pos (sw3 hc), if_pos (by decide), cN_nI (by omega), ← cntT_cn]
  rfl
theorem o_tal (x : XV) {co w : Nat} (hc : co < 4) (h5 : 5 ≤ w) (h10 : w ≤ 10) : X_core x (nI co) (nI w) = tl x.1 co (w - 5) := by
  unfold X_core
  rw [if_pos (sw3 hc), if_pos (show S_within (nI w) 0 10 = true from within_nI (B := 10) rfl h10 (by decide)), cN_nI (by omega), cN_nI (by omega), if_neg (by omega), if_neg (by omega), if_neg (by omega), if_neg (by omega), if_neg (by omega)]
  rfl
theorem o_tal8 (x : XV) {co : Nat} (hc : co < 4) : X_core x (nI co) 8 = tl x.1 co 3 := o_tal x (w := 8) hc (by decide) (by decide)
theorem o_tal7 (x : XV) {co : Nat} (hc : co < 4) : X_core x (nI co) 7 = tl x.1 co 2 := o_tal x (w := 7) hc (by decide) (by decide)
theorem o_tal5 (x : XV) {co : Nat} (hc : co < 4) : X_core x (nI co) 5 = tl x.1 co 0 := o_tal x (w := 5) hc (by decide) (by decide)
theorem o_tal6 (x : XV) {co : Nat} (hc : co < 4) : X_core x (nI co) 6 = tl x.1 co 1 := o_tal x (w := 6) hc (by decide) (by decide)
theorem o_tal9 (x : XV) {co : Nat} (hc : co < 4) : X_core x (nI co) 9 = tl x.1 co 4 := o_tal x (w := 9) hc (by decide) (by decide)
theorem o_tal10 (x : XV) {co : Nat} (hc : co < 4) : X_core x (nI co) 10 = tl x.1 co 5 := o_tal x (w := 10) hc (by decide) (by decide)
theorem o_size (x : XV) : X_count x 12 = nI x.2.2.2.1.2.2.val := by
  unfold X_count
  rw [if_pos (by decide)]
  rfl
theorem o_writes (x : XV) : X_count x 9 = x.1.2.2.2.2.2 := by
  unfold X_count
  rw [if_pos (by decide)]
  rfl
-- what always holds, as the questions show it
theorem cnt_pos {m : MV} (h : IM m) (co c : Nat) : 0 ≤ (m.2.1 co).2.2.2.2.1 c := by
  have hf := (h.2.1 co).2
  cases hs : (m.2.1 co).2.2.2.2.2.1 c with
  | true => exact Int32.le_of_lt (hf.2 c hs).1
  | false =>
    rw [hf.1 c hs, show (0 : Int32) = nI 0 from rfl, nI_leI (by decide) (us_lt _ _)]
    exact Nat.zero_le _
theorem cnt_us {m : MV} (h : IM m) {co c : Nat} (h1 : ¬ us (m.2.1 co).1 c = 0) : ¬ (m.2.1 co).2.2.2.2.1 c ≤ 0 := i_nle.mpr (CF_pos (h.2.1 co).2 (by omega) (us_lt _ _))
theorem stuck_ge {m : MV} (h : IM m) (co : Nat) : cn (fun c => decide (¬ (m.2.1 co).2.2.2.2.1 c = nI (us (m.2.1 co).1 c))) 24 ≤ cn (m.2.1 co).2.2.2.2.2.1 24 := by
  refine cn_mono (fun c _ e => ?_)
  have hf := (h.2.1 co).2
  cases hs : (m.2.1 co).2.2.2.2.2.1 c with
  | true => rfl
  | false => exact absurd (hf.1 c hs) (of_decide_eq_true e)
theorem stuck_le {m : MV} (h : IM m) (co : Nat) : cn (m.2.1 co).2.2.2.2.2.1 24 ≤ cn (abv (m.2.1 co).2.2.2.2) 24 := by
  refine cn_mono (fun c _ e => ?_)
  exact decide_eq_true (i_nle.mpr ((h.2.1 co).2.2 c e).1)
theorem line_at {m : MV} (h : IM m) {co p : Nat} {n : Fin 256} (e : (m.2.1 co).1 p = some n) : n.val % 8 = p ∧ co < 4 := h.1.1 co p n e
theorem line_holds {m : MV} (h : IM m) {co p : Nat} {n : Fin 256} (e : (m.2.1 co).1 p = some n) : K_holds (m.2.1 co) n = true := by
  refine decide_eq_true ?_
  rw [(line_at h e).1]
  exact e
theorem reason_held (x : XV) (h : IM x.1) {co p : Nat} {n : Fin 256} (e : (x.1.2.1 co).1 p = some n) : X_reason x (nI co) (nI n.val) = 0 := by
  have hc := (line_at h e).2
  unfold X_reason
  rw [if_pos (sw3 hc), if_pos (sw255 n), cN_nI (by omega), lF_nI, if_pos (line_holds h e)]
def sel {α : Type} (a b c d : α) (i : Nat) : α := match i with
  | 0 => a
  | 1 => b
  | 2 => c
  | _ => d
def hb (a b c d : Bool) : Int32 := it (fun i x => if sel a b c d i = true then x ||| ((1 : Int32) <<< (nI i &&& 31)) else x) 4 0
theorem hb_at (a b c d : Bool) {i : Nat} (hi : i < 4) : (hb a b c d >>> (nI i &&& 31)) &&& 1 = bI (sel a b c d i) := by
  refine four (P := fun i => (hb a b c d >>> (nI i &&& 31)) &&& 1 = bI (sel a b c d i)) ?_ ?_ ?_ ?_ hi <;> (cases a <;> cases b <;> cases c <;> cases d <;> decide)
theorem hb_sub : ∀ a b c d e f g h : Bool, (a = true → e = true) → (b = true → f = true) → (c = true → g = true) → (d = true → h = true) → hb a b c d &&& (hb e f g h ^^^ -1) = 0 := by decide +kernel
theorem holders_hb (m : MV) (n : Fin 256) : M_holders m n = hb (K_holds (m.2.1 0) n) (K_holds (m.2.1 1) n) (K_holds (m.2.1 2) n) (K_holds (m.2.1 3) n) := rfl
theorem mays_hb (m : MV) (n : Fin 256) : M_mays m n = hb (K_may (m.2.1 0) n) (K_may (m.2.1 1) n) (K_may (m.2.1 2) n) (K_may (m.2.1 3) n) := rfl
theorem hold_bit (m : MV) (n : Fin 256) {i : Nat} (hi : i < 4) : (M_holders m n >>> (nI i &&& 31)) &&& 1 = bI (K_holds (m.2.1 i) n) := by
  rw [holders_hb, hb_at _ _ _ _ hi]
  exact four (P := fun i => bI (sel (K_holds (m.2.1 0) n) (K_holds (m.2.1 1) n) (K_holds (m.2.1 2) n) (K_holds (m.2.1 3) n) i) = bI (K_holds (m.2.1 i) n)) rfl rfl rfl rfl hi
theorem may_bit (m : MV) (n : Fin 256) {i : Nat} (hi : i < 4) : (M_mays m n >>> (nI i &&& 31)) &&& 1 = bI (K_may (m.2.1 i) n) := by
  rw [mays_hb, hb_at _ _ _ _ hi]
  exact four (P := fun i => bI (sel (K_may (m.2.1 0) n) (K_may (m.2.1 1) n) (K_may (m.2.1 2) n) (K_may (m.2.1 3) n) i) = bI (K_may (m.2.1 i) n)) rfl rfl rfl rfl hi
theorem holds_may {m : MV} (h : IM m) {i : Nat} {n : Fin 256} (e : K_holds (m.2.1 i) n = true) : K_may (m.2.1 i) n = true := IF_may (h.2.1 i) (holds_line e)
theorem hold_sub {m : MV} (h : IM m) (n : Fin 256) : M_holders m n &&& (M_mays m n ^^^ -1) = 0 := by
  rw [holders_hb, mays_hb]
  exact hb_sub _ _ _ _ _ _ _ _ (holds_may h) (holds_may h) (holds_may h) (holds_may h)
theorem hold_one {m : MV} {n : Fin 256} {co : Nat} (hc : co < 4) (h : ∀ i, i < 4 → K_holds (m.2.1 i) n = decide (i = co)) : M_holders m n = (1 : Int32) <<< (nI co &&& 31) := by
  rw [holders_hb, h 0 (by decide), h 1 (by decide), h 2 (by decide), h 3 (by decide)]
  exact four (P := fun co => hb (decide (0 = co)) (decide (1 = co)) (decide (2 = co)) (decide (3 = co)) = (1 : Int32) <<< (nI co &&& 31)) (by decide) (by decide) (by decide) (by decide) hc
theorem dirty_one {m : MV} (h : IM m) {co p : Nat} {n : Fin 256} (e : (m.2.1 co).1 p = some n) (d : (m.2.1 co).2.2.1 p = true) : M_holders m n = (1 : Int32) <<< (nI co &&& 31) := by
  obtain ⟨hp, hc⟩ := line_at h e
  refine hold_one hc (fun i _ => ?_)
  by_cases hi : i = co
  · subst hi
    rw [decide_eq_true rfl]
    exact line_holds h e
  · rw [decide_eq_false hi]
    refine decide_eq_false (fun q => hi ?_)
    rw [hp] at q
    exact h.1.2.1 co p n e d i q
theorem fst_ex {f : Nat → Option Int32} {y : Int32} : ∀ {n : Nat}, (∀ i, i < n → f i = none ∨ f i = some y) → (∃ i, i < n ∧ f i = some y) → fstS f n = some y
  | 0, _, ⟨i, hi, _⟩ => by omega
  | n + 1, h, ⟨i, hi, e⟩ => by
    show (match fstS f n with
      | some x => some x
      | none => f n) = some y
    by_cases hx : ∃ i, i < n ∧ f i = some y
    · rw [fst_ex (fun i hi => h i (by omega)) hx]
    · have hin : i = n := by
        by_cases hq : i < n
        · exact absurd ⟨i, hq, e⟩ hx
        · omega
      subst hin
      have hn : ∀ k, k ≤ i → fstS f k = none := by
        intro k
        induction k with
        | zero => intro _; rfl
        | succ k ih =>
          intro hk
          refine fstS_no f (ih (by omega)) ?_
          rcases h k (by omega) with q | q
          · exact q
          · exact absurd ⟨k, by omega, q⟩ hx
      rw [hn i (Nat.le_refl _)]
      exact e
theorem fst_none {f : Nat → Option Int32} : ∀ {n : Nat}, (∀ i, i < n → f i = none) → fstS f n = none
  | 0, _ => rfl
  | n + 1, h => fstS_no f (fst_none (fun i hi => h i (by omega))) (h n (by omega))
theorem vfr_val {m : MV} (h : IM m) {co : Nat} {n : Fin 256} (e : (m.2.1 co).1 (n.val % 8) = some n) : M_vfr m n = (m.2.1 co).2.1 (n.val % 8) := by
  have hc := (line_at h e).2
  have key : fstS (M_vfrF m n) 4 = some ((m.2.1 co).2.1 (n.val % 8)) := by
    refine fst_ex (fun i _ => ?_) ⟨co, hc, ?_⟩
    · unfold M_vfrF
      by_cases hh : K_holds (m.2.1 i) n = true
      · rw [if_pos hh]
        right
        have ei := holds_line hh
        cases d : (m.2.1 co).2.2.1 (n.val % 8) with
        | true => rw [h.1.2.1 co _ n e d i ei]
        | false =>
          cases d2 : (m.2.1 i).2.2.1 (n.val % 8) with
          | true => rw [h.1.2.1 i _ n ei d2 co e]
          | false => rw [h.1.2.2.1 co _ n e d, h.1.2.2.1 i _ n ei d2]
      · rw [if_neg hh]
        left
        rfl
    · unfold M_vfrF
      rw [if_pos (show K_holds (m.2.1 co) n = true from decide_eq_true e)]
  unfold M_vfr
  rw [key]
theorem vfr_mem {m : MV} {n : Fin 256} (h : ∀ i, i < 4 → ¬ K_holds (m.2.1 i) n = true) : M_vfr m n = m.1 n.val := by
  have key : fstS (M_vfrF m n) 4 = none := by
    refine fst_none (fun i hi => ?_)
    unfold M_vfrF
    rw [if_neg (h i hi)]
  unfold M_vfr
  rw [key]
theorem clean_mem {m : MV} (h : IM m) {co p : Nat} {n : Fin 256} (e : (m.2.1 co).1 p = some n) (d : (m.2.1 co).2.2.1 p = false) : (m.2.1 co).2.1 p = m.1 n.val := h.1.2.2.1 co p n e d
-- what a reader gets
theorem rdS_LV (u : MV) (k : Nat) (n : Fin 256) (o : Nat) : ((rdS u k n).2.1 o).1 = (u.2.1 o).1 ∧ ((rdS u k n).2.1 o).2.1 = (u.2.1 o).2.1 := by
  have a : ((M_reach u k n).2.1 o).1 = (u.2.1 o).1 ∧ ((M_reach u k n).2.1 o).2.1 = (u.2.1 o).2.1 := by
    refine ⟨reach_L u k o n, ?_⟩
    unfold M_reach
    by_cases h : o = k
    · subst h
      rw [MsK1]
      exact (K_reach_same _ n).2.1
    · rw [MsKn _ _ h]
  unfold rdS
  split
  · split
    · exact ⟨(M_wb_L _ _ _ _).trans a.1, (M_wb_V _ _ _ _).trans a.2⟩
    · exact a
  · exact a
theorem rdS_mem {u : MV} {k : Nat} {n : Fin 256} (h : ¬ K_holds (u.2.1 k) n = true) : (rdS u k n).1 = u.1 := by
  have h2 : ¬ K_holds ((M_reach u k n).2.1 k) n = true := by rw [reach_holds]; exact h
  unfold rdS
  split
  · first | rfl | (rw [if_neg h2]; rfl)
  · rfl
theorem miss_LV (m : MV) (r : Nat) (n : Fin 256) : ∀ k, k ≤ 4 → (∀ o, ((it (M_readF r n) k m).2.1 o).1 = (m.2.1 o).1 ∧ ((it (M_readF r n) k m).2.1 o).2.1 = (m.2.1 o).2.1) ∧ ((∀ o, o < 4 → ¬ K_holds (m.2.1 o) n = true) → (it (M_readF r n) k m).1 = m.1)
  | 0, _ => ⟨fun _ => ⟨rfl, rfl⟩, fun _ => rfl⟩
  | k + 1, hk => by
    obtain ⟨h1, h2⟩ := miss_LV m r n k (by omega)
    rw [it_s]
    generalize it (M_readF r n) k m = u at h1 h2
    by_cases hr : k = r
    · have e : M_readF r n k u = u := by unfold M_readF; rw [if_pos hr]
      rw [e]
      exact ⟨h1, h2⟩
    · have e : M_readF r n k u = rdS u k n := by unfold M_readF rdS; rw [if_neg hr]
      rw [e]
      refine ⟨fun o => ⟨(rdS_LV u k n o).1.trans (h1 o).1, (rdS_LV u k n o).2.trans (h1 o).2⟩, fun h => ?_⟩
      rw [rdS_mem (fun q => h k (by omega) ?_)]
      · exact h2 h
      · unfold K_holds at q ⊢
        rw [(h1 k).1] at q
        exact q
theorem read_val {m : MV} {r : Nat} (n : Fin 256) (h : IM m) (hr : r < 4) : (M_read m r n).2 = M_vfr m n := by
  by_cases hh : K_holds (m.2.1 r) n = true
  · rw [vfr_val h (holds_line hh)]
    unfold M_read
    rw [if_pos hh]
    show ((M_tick m r 0).2.1 r).2.1 (n.val % 8) = _
    unfold M_tick
    rw [MsK1]
    rfl
  · obtain ⟨i, hl, hc⟩ := RD_loop1 r n (IM_tick r 1 h) 4
    obtain ⟨g1, g2⟩ := miss_LV (M_tick m r 1) r n 4 (Nat.le_refl _)
    have tL : ∀ o, ((M_tick m r 1).2.1 o).1 = (m.2.1 o).1 ∧ ((M_tick m r 1).2.1 o).2.1 = (m.2.1 o).2.1 := by
      intro o
      unfold M_tick
      by_cases ho : o = r
      · subst ho; rw [MsK1]; exact ⟨rfl, rfl⟩
      · rw [MsKn _ _ ho]; exact ⟨rfl, rfl⟩
    have eq1 : it (M_readF r n) 4 (M_tick m r 1) = M_miss m r n := rfl
    rw [eq1] at i hl hc g1 g2
    have er : (M_read m r n).2 = (M_miss m r n).1 n.val := by
      unfold M_read
      rw [if_neg hh]
    rw [er]
    by_cases hx : ∃ o, o < 4 ∧ K_holds (m.2.1 o) n = true
    · obtain ⟨o, ho, hho⟩ := hx
      have hor : o ≠ r := fun q => hh (q ▸ hho)
      have e := holds_line hho
      have e2 : ((M_miss m r n).2.1 o).1 (n.val % 8) = some n := by rw [(g1 o).1, (tL o).1]; exact e
      rw [vfr_val h e, ← (tL o).2, ← (g1 o).2]
      exact (clean_mem i e2 (hc o ho hor e2)).symm
    · have hno : ∀ o, o < 4 → ¬ K_holds (m.2.1 o) n = true := fun o ho q => hx ⟨o, ho, q⟩
      rw [vfr_mem hno, g2 (fun o ho q => hno o ho ?_)]
      · rfl
      · unfold K_holds at q ⊢
        rw [(tL o).1] at q
        exact q
-- sums
theorem M_sum_nI {m : MV} {j : Nat} {t : Nat → Nat} (h : ∀ o, o < 4 → tl m o j = nI (t o)) : M_sum m j = nI (sum4 t) := by
  show 0 + tl m 0 j + tl m 1 j + tl m 2 j + tl m 3 j = _
  rw [h 0 (by decide), h 1 (by decide), h 2 (by decide), h 3 (by decide), Int32.zero_add, nI_add, nI_add, nI_add]
  rfl
theorem same_sum {m m2 : MV} {j : Nat} (h : ∀ o, o < 4 → tl m2 o j = tl m o j) : M_sum m2 j - M_sum m j = 0 := by
  have e : M_sum m2 j = M_sum m j := by
    show 0 + tl m2 0 j + tl m2 1 j + tl m2 2 j + tl m2 3 j = 0 + tl m 0 j + tl m 1 j + tl m 2 j + tl m 3 j
    rw [h 0 (by decide), h 1 (by decide), h 2 (by decide), h 3 (by decide)]
  rw [e, Int32.sub_self]
def cm (m : MV) (r : Nat) (n : Fin 256) : Nat → Bool := fun i => K_may (m.2.1 i) n && !decide (i = r)
def vm (m : MV) (r : Nat) (n : Fin 256) : Nat → Bool := fun i => (K_may (m.2.1 i) n && !K_holds (m.2.1 i) n) && !decide (i = r)
theorem sum4_cn (t : Nat → Nat) (b : Nat → Bool) : sum4 (fun o => t o + bN (b o)) = sum4 t + cn b 4 := by
  show t 0 + bN (b 0) + (t 1 + bN (b 1)) + (t 2 + bN (b 2)) + (t 3 + bN (b 3)) = t 0 + t 1 + t 2 + t 3 + (0 + bN (b 0) + bN (b 1) + bN (b 2) + bN (b 3))
  omega
theorem reach_2 {k : KV} {n : Fin 256} {t : Nat → Nat} (h : ∀ j, k.2.2.2.1 j = nI (t j)) : (K_reach k n).2.2.2.1 2 = nI (t 2 + bN (K_may k n)) := by
  rw [reach_rt h]
  rfl
theorem reach_3 {k : KV} {n : Fin 256} {t : Nat → Nat} (h : ∀ j, k.2.2.2.1 j = nI (t j)) : (K_reach k n).2.2.2.1 3 = nI (t 3 + bN (K_may k n && !K_holds k n)) := by
  rw [reach_rt h]
  show nI (t 3 + if K_may k n = true ∧ K_holds k n = false then 1 else 0) = _
  cases K_may k n <;> cases K_holds k n <;> rfl
theorem reach_5 (k : KV) (n : Fin 256) : (K_reach k n).2.2.2.1 5 = k.2.2.2.1 5 := by
  rw [reach_t]
  split
  · split <;> rfl
  · rfl
theorem reach_sum {m m2 : MV} {B r : Nat} {n : Fin 256} (hT : TI m B) (ht : ∀ o, o < 4 → o ≠ r → tl m2 o = (K_reach (m.2.1 o) n).2.2.2.1) (h2 : tl m2 r 2 = tl m r 2) (h3 : tl m2 r 3 = tl m r 3) : M_sum m2 2 - M_sum m 2 = nI (cn (cm m r n) 4) ∧ M_sum m2 3 - M_sum m 3 = nI (cn (vm m r n) 4) := by
  obtain ⟨t, W, w, h1, -, -⟩ := hT
  have a2 : M_sum m2 2 = nI (sum4 (fun o => t o 2 + bN (cm m r n o))) := by
    refine M_sum_nI (fun o ho => ?_)
    unfold cm
    by_cases e : o = r
    · subst e
      rw [h2, h1 o ho 2, decide_eq_true rfl]
      simp [bN]
    · rw [ht o ho e, reach_2 (h1 o ho), decide_eq_false e]
      simp
  have a3 : M_sum m2 3 = nI (sum4 (fun o => t o 3 + bN (vm m r n o))) := by
    refine M_sum_nI (fun o ho => ?_)
    unfold vm
    by_cases e : o = r
    · subst e
      rw [h3, h1 o ho 3, decide_eq_true rfl]
      simp [bN]
    · rw [ht o ho e, reach_3 (h1 o ho), decide_eq_false e]
      simp
  rw [a2, a3, M_sum_nI (m := m) (fun o ho => h1 o ho 2), M_sum_nI (m := m) (fun o ho => h1 o ho 3), sum4_cn, sum4_cn, pk_sub (by omega), pk_sub (by omega), Nat.add_sub_cancel_left, Nat.add_sub_cancel_left]
  exact ⟨rfl, rfl⟩
-- what reading and writing would cost
theorem cost_now (x : XV) (a b : Int32) (c : Bool) (d : Int32) : (X_cost x a b c d).2.1 = x.1 := by
  unfold X_cost
  split
  · split
    · split <;> rfl
    · rfl
  · rfl
theorem cost_hist (x : XV) (a b : Int32) (c : Bool) (d : Int32) : (X_cost x a b c d).2.2.2.2.1 = x.2.2.2.1 := by
  unfold X_cost
  split
  · split
    · split <;> rfl
    · rfl
  · rfl
theorem cost_eq (x : XV) {r w : Nat} (n : Fin 256) (b : Bool) (hr : r < 4) (hw : w < 4) : (X_cost x (nI r) (nI n.val) b (nI w)).1 = if w = 0 then M_sum (if b = true then (M_write x.1 r n 0).1 else (M_read x.1 r n).1) 2 - M_sum x.1 2 else if w = 1 then M_sum (if b = true then (M_write x.1 r n 0).1 else (M_read x.1 r n).1) 3 - M_sum x.1 3 else if w = 2 then (if b = true then (M_write x.1 r n 0).1 else (M_read x.1 r n).1).2.2.2.2.1 - x.1.2.2.2.2.1 else M_sum (if b = true then (M_write x.1 r n 0).1 else (M_read x.1 r n).1) 5 - M_sum x.1 5 := by
  unfold X_cost X_try
  rw [if_pos (sw3 hr), if_pos (sw255 n), if_pos (sw3 hw), cN_nI (n := r) (by omega), cN_nI (n := w) (by omega), lF_nI]
theorem cost_r0 {x : XV} {m : MV} {B r : Nat} (hx : x.1 = m) (hJ : JV m B) (n : Fin 256) (hr : r < 4) : (X_cost x (nI r) (nI n.val) false 0).1 = nI (if K_holds (m.2.1 r) n = true then 0 else cn (cm m r n) 4) := by
  have e := cost_eq x (w := 0) n false hr (by decide)
  rw [if_pos rfl, if_neg (by decide), hx] at e
  refine Eq.trans e ?_
  by_cases hh : K_holds (m.2.1 r) n = true
  · rw [if_pos hh, read_hit hh]
    refine same_sum (fun o ho => ?_)
    by_cases q : o = r
    · subst q; rw [tl_t1]; rfl
    · rw [tl_tn _ _ q]
  · rw [if_neg hh]
    obtain ⟨a1, a2, -⟩ := read_tl hh
    refine (reach_sum hJ.2.2 a1 ?_ ?_).1 <;> (rcases a2 with a2 | a2 <;> rw [a2] <;> rfl)
theorem cost_r1 {x : XV} {m : MV} {B r : Nat} (hx : x.1 = m) (hJ : JV m B) (n : Fin 256) (hr : r < 4) : (X_cost x (nI r) (nI n.val) false 1).1 = nI (if K_holds (m.2.1 r) n = true then 0 else cn (vm m r n) 4) := by
  have e := cost_eq x (w := 1) n false hr (by decide)
  rw [if_neg (by decide), if_pos rfl, if_neg (by decide), hx] at e
  refine Eq.trans e ?_
  by_cases hh : K_holds (m.2.1 r) n = true
  · rw [if_pos hh, read_hit hh]
    refine same_sum (fun o ho => ?_)
    by_cases q : o = r
    · subst q; rw [tl_t1]; rfl
    · rw [tl_tn _ _ q]
  · rw [if_neg hh]
    obtain ⟨a1, a2, -⟩ := read_tl hh
    refine (reach_sum hJ.2.2 a1 ?_ ?_).2 <;> (rcases a2 with a2 | a2 <;> rw [a2] <;> rfl)
theorem cost_w0 {x : XV} {m : MV} {B r : Nat} (hx : x.1 = m) (hJ : JV m B) (n : Fin 256) (hr : r < 4) : (X_cost x (nI r) (nI n.val) true 0).1 = nI (if K_hd (m.2.1 r) n = true then 0 else cn (cm m r n) 4) := by
  have e := cost_eq x (w := 0) n true hr (by decide)
  rw [if_pos rfl, if_pos rfl, hx] at e
  refine Eq.trans e ?_
  by_cases hh : K_hd (m.2.1 r) n = true
  · rw [if_pos hh]
    exact same_sum (fun o _ => by rw [(write_hd 0 hh).1 o])
  · rw [if_neg hh]
    obtain ⟨a1, a2, -⟩ := write_tl 0 hh
    refine (reach_sum hJ.2.2 a1 ?_ ?_).1 <;> (rcases a2 with a2 | ⟨-, a2⟩ <;> rw [a2] <;> rfl)
theorem cost_w1 {x : XV} {m : MV} {B r : Nat} (hx : x.1 = m) (hJ : JV m B) (n : Fin 256) (hr : r < 4) : (X_cost x (nI r) (nI n.val) true 1).1 = nI (if K_hd (m.2.1 r) n = true then 0 else cn (vm m r n) 4) := by
  have e := cost_eq x (w := 1) n true hr (by decide)
  rw [if_neg (by decide), if_pos rfl, if_pos rfl, hx] at e
  refine Eq.trans e ?_
  by_cases hh : K_hd (m.2.1 r) n = true
  · rw [if_pos hh]
    exact same_sum (fun o _ => by rw [(write_hd 0 hh).1 o])
  · rw [if_neg hh]
    obtain ⟨a1, a2, -⟩ := write_tl 0 hh
    refine (reach_sum hJ.2.2 a1 ?_ ?_).2 <;> (rcases a2 with a2 | ⟨-, a2⟩ <;> rw [a2] <;> rfl)
theorem cost_r2 {x : XV} {m : MV} {r : Nat} (hx : x.1 = m) (n : Fin 256) (hr : r < 4) (hh : K_holds (m.2.1 r) n = true) : (X_cost x (nI r) (nI n.val) false 2).1 = 0 := by
  have e := cost_eq x (w := 2) n false hr (by decide)
  rw [if_neg (by decide), if_neg (by decide), if_pos rfl, if_neg (by decide), hx, read_hit hh] at e
  refine Eq.trans e ?_
  exact Int32.sub_self _
theorem cost_r3 {x : XV} {m : MV} {r : Nat} (hx : x.1 = m) (n : Fin 256) (hr : r < 4) (hh : K_holds (m.2.1 r) n = true) : (X_cost x (nI r) (nI n.val) false 3).1 = 0 := by
  have e := cost_eq x (w := 3) n false hr (by decide)
  rw [if_neg (by decide), if_neg (by decide), if_neg (by decide), if_neg (by decide), hx, read_hit hh] at e
  refine Eq.trans e ?_
  refine same_sum (fun o ho => ?_)
  by_cases q : o = r
  · subst q; rw [tl_t1]; rfl
  · rw [tl_tn _ _ q]
theorem cost_w3 {x : XV} {m : MV} {r : Nat} (hx : x.1 = m) (n : Fin 256) (hr : r < 4) (hh : K_holds (m.2.1 r) n = true) : (X_cost x (nI r) (nI n.val) true 3).1 = 0 := by
  have e := cost_eq x (w := 3) n true hr (by decide)
  rw [if_neg (by decide), if_neg (by decide), if_neg (by decide), if_pos rfl, hx] at e
  refine Eq.trans e ?_
  refine same_sum (fun o ho => ?_)
  by_cases hd : K_hd (m.2.1 r) n = true
  · rw [(write_hd 0 hd).1 o]
  · obtain ⟨a1, a2, -⟩ := write_tl 0 hd
    by_cases q : o = r
    · subst q
      rcases a2 with a2 | ⟨a3, a2⟩
      · rw [a2]
      · exact absurd hh a3
    · rw [a1 o ho q, reach_5]
      rfl
