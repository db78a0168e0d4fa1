/-! ===== what the law asks, answered ===== -/
def JW (m : MV) : Prop := ∃ B, B ≤ 1000 ∧ JV m B
theorem al_worst {x u : XV} (h : x.1 = u.1) : X_worst x = X_worst u := by unfold X_worst; rw [h]
theorem al_held {x u : XV} (h : x.1 = u.1) (a b c : Int32) : X_held x a b c = X_held u a b c := by unfold X_held; rw [h]
theorem al_counter {x u : XV} (h : x.1 = u.1) (a b : Int32) : X_counter x a b = X_counter u a b := by unfold X_counter; rw [h]
theorem al_core {x u : XV} (h : x.1 = u.1) (a b : Int32) : X_core x a b = X_core u a b := by unfold X_core; rw [h]
theorem al_line {x u : XV} (h : x.1 = u.1) (a b : Int32) : X_line x a b = X_line u a b := by unfold X_line; rw [h]
theorem al_count {x u : XV} (h : x.1 = u.1) {w : Nat} (hw : w < 12) : X_count x (nI w) = X_count u (nI w) := by
  unfold X_count
  rw [h, cN_nI (by omega)]
  have a : ¬ w = 12 := by omega
  rcases (show w = 0 ∨ w = 1 ∨ w = 2 ∨ w = 3 ∨ w = 4 ∨ w = 5 ∨ w = 6 ∨ w = 7 ∨ w = 8 ∨ w = 9 ∨ w = 10 ∨ w = 11 by omega) with q | q | q | q | q | q | q | q | q | q | q | q <;> subst q <;> rfl
theorem enc5_neg {x : Option (Fin 256)} : enc5 x < 0 ↔ x = none := by
  cases x with
  | none => exact ⟨fun _ => rfl, fun _ => by decide⟩
  | some n =>
    have hn := n.isLt
    refine ⟨fun h => ?_, fun h => by cases h⟩
    change nI n.val < nI 0 at h
    rw [nI_ltI (by omega) (by decide)] at h
    omega
theorem enc5_pos {x : Option (Fin 256)} (h : ¬ enc5 x < 0) : ∃ n : Fin 256, x = some n := by
  cases x with
  | none => exact absurd (by decide) h
  | some n => exact ⟨n, rfl⟩
theorem bN_1 {b : Bool} : bN b = 1 ↔ b = true := by cases b <;> decide
theorem bN_0 {b : Bool} (h : ¬ bN b = 1) : b = false := by
  cases b with
  | true => exact absurd rfl h
  | false => rfl
def du (L : Nat → Option (Fin 256)) (c : Nat) : Nat → Nat
  | 0 => 0
  | q + 1 => du L c q + wO (L q) c
theorem du_none {L : Nat → Option (Fin 256)} {c q : Nat} (h : L q = none) : du L c (q + 1) = du L c q := by
  show du L c q + wO (L q) c = _
  rw [h]
  rfl
theorem du_some {L : Nat → Option (Fin 256)} {c q : Nat} {n : Fin 256} (h : L q = some n) : du L c (q + 1) = du L c q + ((if c = n.val % 24 then 1 else 0) + (if c = (7 * n.val + 5) % 24 then 1 else 0)) := by
  show du L c q + wO (L q) c = _
  rw [h]
  rfl
theorem du_8 (L : Nat → Option (Fin 256)) (c : Nat) : du L c 8 = us L c := by
  show 0 + wO (L 0) c + wO (L 1) c + wO (L 2) c + wO (L 3) c + wO (L 4) c + wO (L 5) c + wO (L 6) c + wO (L 7) c = _
  rw [Nat.zero_add]
  rfl
theorem du_le (L : Nat → Option (Fin 256)) (c : Nat) : ∀ q, du L c q ≤ 2 * q
  | 0 => Nat.le_refl _
  | q + 1 => by
    have := du_le L c q
    have := wO_le (L q) c
    show du L c q + wO (L q) c ≤ _
    omega
def skf (k : KV) : Nat → Bool := fun c => decide (¬ k.2.2.2.2.1 c = nI (us k.1 c))
theorem sk_1 {k : KV} {c dd : Nat} (h : ¬ k.2.2.2.2.1 c = nI dd) (e : dd = us k.1 c) : bN (skf k c) = 1 := by
  unfold skf
  rw [← e, decide_eq_true h]
  rfl
theorem sk_0 {k : KV} {c dd : Nat} (h : k.2.2.2.2.1 c = nI dd) (e : dd = us k.1 c) : bN (skf k c) = 0 := by
  unfold skf
  rw [← e, decide_eq_false (fun q => q h)]
  rfl
theorem ab_1 {f : FV} {c : Nat} (h : ¬ f.1 c ≤ 0) : bN (abv f c) = 1 := by
  unfold abv
  rw [decide_eq_true h]
  rfl
theorem ab_0 {f : FV} {c : Nat} (h : f.1 c ≤ 0) : bN (abv f c) = 0 := by
  unfold abv
  rw [decide_eq_false (fun q => q h)]
  rfl
theorem ho_1 {k : KV} {p : Nat} {n : Fin 256} (h : k.1 p = some n) : bN (hol k p) = 1 := by
  unfold hol
  rw [h, decide_eq_true (by simp)]
  rfl
theorem ho_0 {k : KV} {p : Nat} (h : k.1 p = none) : bN (hol k p) = 0 := by
  unfold hol
  rw [h, decide_eq_false (by simp)]
  rfl
theorem dy_0 {m : MV} (h : PM m) {co p : Nat} (e : (m.2.1 co).1 p = none) : bN ((m.2.1 co).2.2.1 p) = 0 := by
  rw [(h.1 co).1 p e]
  rfl
theorem ge10 {x : Int32} (h : x ≤ 9) : ¬ (10 : Int32) ≤ x := by
  rw [Int32.le_iff_toInt_le] at h ⊢
  rw [show (9 : Int32).toInt = 9 from by decide] at h
  rw [show (10 : Int32).toInt = 10 from by decide]
  omega
theorem bit_one (x : XV) (h : IM x.1) {co p : Nat} {n : Fin 256} (e : (x.1.2.1 co).1 p = some n) : X_bit x (nI co) (nI (n.val / 16)) = 1 := by
  have hn := n.isLt
  rw [o_bit x (line_at h e).2 (by omega), (h.2.1 co).1 p n e]
  rfl
theorem line_bit (x : XV) (h : IM x.1) {co p : Nat} {n : Fin 256} (e : (x.1.2.1 co).1 p = some n) : (X_line x (nI n.val) 2 >>> (nI co &&& 31)) &&& 1 = 1 := by
  rw [o_line2, hold_bit _ _ (line_at h e).2, line_holds h e]
  rfl
theorem held_line1 (x : XV) (h : IM x.1) {co p : Nat} {n : Fin 256} (hp : p < 8) (e : (x.1.2.1 co).1 p = some n) : X_held x (nI co) (nI p) 1 = X_line x (nI n.val) 1 := by
  obtain ⟨e8, hc⟩ := line_at h e
  rw [o_held1 x hc hp e, o_line1, vfr_val h (co := co) (by rw [e8]; exact e), e8]
theorem held_line0 (x : XV) (h : IM x.1) {co p : Nat} {n : Fin 256} (hp : p < 8) (e : (x.1.2.1 co).1 p = some n) (d : (x.1.2.1 co).2.2.1 p = false) : X_held x (nI co) (nI p) 1 = X_line x (nI n.val) 0 := by
  rw [o_held1 x (line_at h e).2 hp e, o_line0, clean_mem h e d]
theorem stuck_lt (x : XV) (h : IM x.1) {co : Nat} (hc : co < 4) : ¬ X_core x (nI co) 3 < nI (cn (skf (x.1.2.1 co)) 24) := by
  have a := stuck_ge h co
  have b := cn_le (skf (x.1.2.1 co)) 24
  have d := cn_le (x.1.2.1 co).2.2.2.2.2.1 24
  change cn (skf (x.1.2.1 co)) 24 ≤ _ at a
  rw [o_core3 x hc, nI_ltI (by omega) (by omega)]
  omega
theorem stuck_gt (x : XV) (h : IM x.1) {co : Nat} (hc : co < 4) : ¬ nI (cn (abv (x.1.2.1 co).2.2.2.2) 24) < X_core x (nI co) 3 := by
  have a := stuck_le h co
  have b := cn_le (abv (x.1.2.1 co).2.2.2.2) 24
  have d := cn_le (x.1.2.1 co).2.2.2.2.2.1 24
  rw [o_core3 x hc, nI_ltI (by omega) (by omega)]
  omega
theorem vain_le (x : XV) (h : JW x.1) {co : Nat} (hc : co < 4) : ¬ X_core x (nI co) 7 < X_core x (nI co) 8 := by
  obtain ⟨B, hB, -, -, t, W, w, h1, h2, h3, h4, -⟩ := h
  have a := h4 co hc
  have b := h3 co hc 2
  have d := h3 co hc 3
  rw [o_tal7 x hc, o_tal8 x hc, h1 co hc, h1 co hc, nI_ltI (by omega) (by omega)]
  omega
-- sums over the cores
def sC (x : XV) (w : Int32) : Nat → Int32 → Int32 := fun i z => z + X_core x (nI i) w
theorem sC_4 (x : XV) (w : Int32) {f : Nat → Int32} (h : ∀ i, i < 4 → X_core x (nI i) w = f i) : it (sC x w) 4 0 = 0 + f 0 + f 1 + f 2 + f 3 := by
  show 0 + X_core x (nI 0) w + X_core x (nI 1) w + X_core x (nI 2) w + X_core x (nI 3) w = _
  rw [h 0 (by decide), h 1 (by decide), h 2 (by decide), h 3 (by decide)]
theorem sum_0 (x : XV) : it (sC x 0) 4 0 = X_count x 0 := by
  rw [sC_4 x 0 (f := fun o => K_held (x.1.2.1 o)) (fun i hi => by rw [o_core0 x hi, held_cn])]
  rfl
theorem sum_1 (x : XV) : it (sC x 1) 4 0 = X_count x 1 := by
  rw [sC_4 x 1 (f := fun o => K_dirties (x.1.2.1 o)) (fun i hi => by rw [o_core1 x hi]; exact (cntT_cn _ _).symm)]
  rfl
theorem sum_m7 (x : XV) : it (sC x 7) 4 0 = M_sum x.1 2 := sC_4 x 7 (f := fun o => tl x.1 o 2) (fun _ hi => o_tal7 x hi)
theorem sum_m8 (x : XV) : it (sC x 8) 4 0 = M_sum x.1 3 := sC_4 x 8 (f := fun o => tl x.1 o 3) (fun _ hi => o_tal8 x hi)
theorem sum_m9 (x : XV) : it (sC x 9) 4 0 = M_sum x.1 4 := sC_4 x 9 (f := fun o => tl x.1 o 4) (fun _ hi => o_tal9 x hi)
theorem sum_m10 (x : XV) : it (sC x 10) 4 0 = M_sum x.1 5 := sC_4 x 10 (f := fun o => tl x.1 o 5) (fun _ hi => o_tal10 x hi)
theorem sum_m5 (x : XV) : it (sC x 5) 4 0 = M_sum x.1 0 := sC_4 x 5 (f := fun o => tl x.1 o 0) (fun _ hi => o_tal5 x hi)
theorem sum_m6 (x : XV) : it (sC x 6) 4 0 = M_sum x.1 1 := sC_4 x 6 (f := fun o => tl x.1 o 1) (fun _ hi => o_tal6 x hi)
theorem sum_7 (x : XV) : it (sC x 7) 4 0 = X_count x 2 := (sum_m7 x).trans rfl
theorem sum_8 (x : XV) : it (sC x 8) 4 0 = X_count x 3 := (sum_m8 x).trans rfl
theorem sum_9 (x : XV) : it (sC x 9) 4 0 = X_count x 4 := (sum_m9 x).trans rfl
theorem sum_10 (x : XV) : it (sC x 10) 4 0 = X_count x 6 := (sum_m10 x).trans rfl
theorem sum_5 (x : XV) : it (sC x 5) 4 0 = X_count x 7 := (sum_m5 x).trans rfl
theorem sum_6 (x : XV) : it (sC x 6) 4 0 = X_count x 8 := (sum_m6 x).trans rfl
theorem sums_nat (x : XV) (h : JW x.1) : ∃ S2 S4 S1 W w : Nat, it (sC x 7) 4 0 = nI S2 ∧ it (sC x 9) 4 0 = nI S4 ∧ it (sC x 6) 4 0 = nI S1 ∧ X_count x 9 = nI W ∧ w ≤ W ∧ S2 + S4 = 3 * (S1 + w) ∧ S2 ≤ 4000 ∧ S4 ≤ 4000 ∧ S1 ≤ 4000 ∧ W ≤ 1000 := by
  obtain ⟨B, hB, -, -, t, W, w, h1, h2, h3, h4, h5, h6, h7⟩ := h
  have bd : ∀ j, sum4 (fun o => t o j) ≤ 4000 := fun j => by
    have a0 := h3 0 (by decide) j
    have a1 := h3 1 (by decide) j
    have a2 := h3 2 (by decide) j
    have a3 := h3 3 (by decide) j
    show t 0 j + t 1 j + t 2 j + t 3 j ≤ 4000
    omega
  refine ⟨sum4 (fun o => t o 2), sum4 (fun o => t o 4), sum4 (fun o => t o 1), W, w, ?_, ?_, ?_, ?_, h6, ?_, bd 2, bd 4, bd 1, by omega⟩
  · rw [sum_m7]; exact M_sum_nI (fun o ho => h1 o ho 2)
  · rw [sum_m9]; exact M_sum_nI (fun o ho => h1 o ho 4)
  · rw [sum_m6]; exact M_sum_nI (fun o ho => h1 o ho 1)
  · rw [o_writes]; exact h2
  · rw [← h7]
    show t 0 2 + t 1 2 + t 2 2 + t 3 2 + (t 0 4 + t 1 4 + t 2 4 + t 3 4) = t 0 2 + t 0 4 + (t 1 2 + t 1 4) + (t 2 2 + t 2 4) + (t 3 2 + t 3 4)
    omega
theorem wst_le {m : MV} {i : Nat} (h : tl m i 3 ≤ (it (X_worstF m) i (-5, 0)).2) : (it (X_worstF m) i (-5, 0)).2 = (it (X_worstF m) (i + 1) (-5, 0)).2 := by
  rw [it_s]
  generalize it (X_worstF m) i (-5, 0) = u at h ⊢
  unfold X_worstF
  rw [if_pos (show (m.2.1 i).2.2.2.1 3 ≤ u.2 from h)]
theorem wst_gt {m : MV} {i : Nat} (h : ¬ tl m i 3 ≤ (it (X_worstF m) i (-5, 0)).2) : tl m i 3 = (it (X_worstF m) (i + 1) (-5, 0)).2 := by
  rw [it_s]
  generalize it (X_worstF m) i (-5, 0) = u at h ⊢
  unfold X_worstF
  rw [if_neg (show ¬ (m.2.1 i).2.2.2.1 3 ≤ u.2 from h)]
  rfl
theorem wst_inv (m : MV) : ∀ k, 0 ≤ (it (X_worstF m) k (-5, 0)).2 ∧ (((it (X_worstF m) k (-5, 0)).2 = 0 ∧ (it (X_worstF m) k (-5, 0)).1 = -5) ∨ (∃ j, j < k ∧ (it (X_worstF m) k (-5, 0)).1 = nI j ∧ (it (X_worstF m) k (-5, 0)).2 = tl m j 3 ∧ ¬ (it (X_worstF m) k (-5, 0)).2 = 0))
  | 0 => ⟨Int32.le_refl 0, Or.inl ⟨rfl, rfl⟩⟩
  | k + 1 => by
    obtain ⟨h0, h⟩ := wst_inv m k
    rw [it_s]
    generalize it (X_worstF m) k (-5, 0) = u at h0 h ⊢
    by_cases hc : tl m k 3 ≤ u.2
    · have e : X_worstF m k u = u := by unfold X_worstF; rw [if_pos (show (m.2.1 k).2.2.2.1 3 ≤ u.2 from hc)]
      rw [e]
      refine ⟨h0, ?_⟩
      rcases h with h | ⟨j, hj, h⟩
      · exact Or.inl h
      · exact Or.inr ⟨j, by omega, h⟩
    · have e : X_worstF m k u = (nI k, tl m k 3) := by unfold X_worstF; rw [if_neg (show ¬ (m.2.1 k).2.2.2.1 3 ≤ u.2 from hc)]; rfl
      have hl := i_nle.mp hc
      have hp : 0 < tl m k 3 := by
        rw [Int32.lt_iff_toInt_lt] at hl ⊢
        rw [Int32.le_iff_toInt_le] at h0
        omega
      rw [e]
      refine ⟨Int32.le_of_lt hp, Or.inr ⟨k, by omega, rfl, rfl, fun q => ?_⟩⟩
      change tl m k 3 = 0 at q
      rw [q] at hp
      exact absurd hp (by decide)
theorem wst_none (x : XV) (h : (it (X_worstF x.1) 4 (-5, 0)).2 = 0) : X_worst x = -5 := by
  rcases (wst_inv x.1 4).2 with a | ⟨j, -, -, -, a⟩
  · exact a.2
  · exact absurd h a
theorem wst_some (x : XV) (h : ¬ (it (X_worstF x.1) 4 (-5, 0)).2 = 0) : X_core x (X_worst x) 8 = (it (X_worstF x.1) 4 (-5, 0)).2 := by
  rcases (wst_inv x.1 4).2 with a | ⟨j, hj, a, b, -⟩
  · exact absurd a.1 h
  · have e : X_worst x = nI j := a
    rw [e, o_tal8 x hj, b]
-- a line
/-- the four cases of a core and a line -/
theorem rs_cases {m : MV} (h : IM m) (i : Nat) (n : Fin 256) : (K_holds (m.2.1 i) n = true ∧ K_may (m.2.1 i) n = true ∧ (m.2.1 i).2.2.2.2.2.2 (n.val / 16) = true) ∨ (K_holds (m.2.1 i) n = false ∧ K_may (m.2.1 i) n = true ∧ (m.2.1 i).2.2.2.2.2.2 (n.val / 16) = true) ∨ (K_holds (m.2.1 i) n = false ∧ K_may (m.2.1 i) n = false ∧ (m.2.1 i).2.2.2.2.2.2 (n.val / 16) = true) ∨ (K_holds (m.2.1 i) n = false ∧ K_may (m.2.1 i) n = false ∧ (m.2.1 i).2.2.2.2.2.2 (n.val / 16) = false) := by
  have hb : K_may (m.2.1 i) n = true → (m.2.1 i).2.2.2.2.2.2 (n.val / 16) = true := by
    intro q
    unfold K_may F_may at q
    rw [Bool.and_eq_true] at q
    exact q.1
  cases hh : K_holds (m.2.1 i) n with
  | true => exact Or.inl ⟨rfl, holds_may h hh, hb (holds_may h hh)⟩
  | false =>
    cases hm : K_may (m.2.1 i) n with
    | true => exact Or.inr (Or.inl ⟨rfl, rfl, hb hm⟩)
    | false =>
      cases hx : (m.2.1 i).2.2.2.2.2.2 (n.val / 16) with
      | true => exact Or.inr (Or.inr (Or.inl ⟨rfl, rfl, rfl⟩))
      | false => exact Or.inr (Or.inr (Or.inr ⟨rfl, rfl, rfl⟩))
theorem reason_0 (x : XV) {i : Nat} {n : Fin 256} (hi : i < 4) (h : K_holds (x.1.2.1 i) n = true) : X_reason x (nI i) (nI n.val) = 0 := by
  unfold X_reason
  rw [if_pos (sw3 hi), if_pos (sw255 n), cN_nI (by omega), lF_nI, if_pos h]
theorem reason_1 (x : XV) {i : Nat} {n : Fin 256} (hi : i < 4) (h : K_holds (x.1.2.1 i) n = false) (hm : K_may (x.1.2.1 i) n = true) : X_reason x (nI i) (nI n.val) = 1 := by
  have hm2 : F_may (x.1.2.1 i).2.2.2.2 n.val = true := hm
  unfold X_reason
  rw [if_pos (sw3 hi), if_pos (sw255 n), cN_nI (by omega), lF_nI, if_neg (by rw [h]; decide), if_pos hm2]
theorem reason_3 (x : XV) {i : Nat} {n : Fin 256} (hi : i < 4) (h : K_holds (x.1.2.1 i) n = false) (hm : K_may (x.1.2.1 i) n = false) (hb : (x.1.2.1 i).2.2.2.2.2.2 (n.val / 16) = true) : X_reason x (nI i) (nI n.val) = 3 := by
  have hm2 : F_may (x.1.2.1 i).2.2.2.2 n.val = false := hm
  unfold X_reason
  rw [if_pos (sw3 hi), if_pos (sw255 n), cN_nI (by omega), lF_nI, if_neg (by rw [h]; decide), if_neg (by rw [hm2]; decide), if_pos hb]
theorem reason_2 (x : XV) {i : Nat} {n : Fin 256} (hi : i < 4) (h : K_holds (x.1.2.1 i) n = false) (hm : K_may (x.1.2.1 i) n = false) (hb : (x.1.2.1 i).2.2.2.2.2.2 (n.val / 16) = false) : X_reason x (nI i) (nI n.val) = 2 := by
  have hm2 : F_may (x.1.2.1 i).2.2.2.2 n.val = false := hm
  unfold X_reason
  rw [if_pos (sw3 hi), if_pos (sw255 n), cN_nI (by omega), lF_nI, if_neg (by rw [h]; decide), if_neg (by rw [hm2]; decide), if_neg (by rw [hb]; decide)]
theorem may_b1 {m : MV} {i : Nat} {n : Fin 256} (hi : i < 4) (h : K_may (m.2.1 i) n = true) : (M_mays m n >>> (nI i &&& 31)) &&& 1 = 1 := by
  rw [may_bit m n hi, h]
  rfl
theorem may_b0 {m : MV} {i : Nat} {n : Fin 256} (hi : i < 4) (h : K_may (m.2.1 i) n = false) : (M_mays m n >>> (nI i &&& 31)) &&& 1 = 0 := by
  rw [may_bit m n hi, h]
  rfl
theorem hold_b1 {m : MV} {i : Nat} {n : Fin 256} (hi : i < 4) (h : K_holds (m.2.1 i) n = true) : (M_holders m n >>> (nI i &&& 31)) &&& 1 = 1 := by
  rw [hold_bit m n hi, h]
  rfl
theorem hold_b0 {m : MV} {i : Nat} {n : Fin 256} (hi : i < 4) (h : K_holds (m.2.1 i) n = false) : (M_holders m n >>> (nI i &&& 31)) &&& 1 = 0 := by
  rw [hold_bit m n hi, h]
  rfl
theorem bit_1 (x : XV) {i : Nat} {n : Fin 256} (hi : i < 4) (h : (x.1.2.1 i).2.2.2.2.2.2 (n.val / 16) = true) : X_bit x (nI i) (nI (n.val / 16)) = 1 := by
  have hn := n.isLt
  rw [o_bit x hi (by omega), h]
  rfl
theorem bit_0 (x : XV) {i : Nat} {n : Fin 256} (hi : i < 4) (h : (x.1.2.1 i).2.2.2.2.2.2 (n.val / 16) = false) : X_bit x (nI i) (nI (n.val / 16)) = 0 := by
  have hn := n.isLt
  rw [o_bit x hi (by omega), h]
  rfl
theorem cnt_off (x : XV) (h : IM x.1) {i : Nat} {n : Fin 256} (hi : i < 4) (hm : K_may (x.1.2.1 i) n = false) (hb : (x.1.2.1 i).2.2.2.2.2.2 (n.val / 16) = true) (h1 : ¬ X_counter x (nI i) (nI (n.val % 24)) = 0) : X_counter x (nI i) (nI ((7 * n.val + 5) % 24)) = 0 := by
  rw [o_cnt x hi (by omega)] at h1 ⊢
  have p1 := cnt_pos h i (n.val % 24)
  have p2 := cnt_pos h i ((7 * n.val + 5) % 24)
  have a1 : ¬ (x.1.2.1 i).2.2.2.2.1 (n.val % 24) ≤ 0 := fun q => h1 (Int32.le_antisymm q p1)
  unfold K_may F_may at hm
  rw [hb, decide_eq_false a1] at hm
  by_cases q : (x.1.2.1 i).2.2.2.2.1 ((7 * n.val + 5) % 24) ≤ 0
  · exact Int32.le_antisymm q p2
  · rw [decide_eq_false q] at hm
    exact absurd hm (by decide)
theorem cm_1 {m : MV} {r i : Nat} {n : Fin 256} (h : K_may (m.2.1 i) n = true) (hr : ¬ i = r) : bN (cm m r n i) = 1 := by
  unfold cm
  rw [h, decide_eq_false hr]
  rfl
theorem cm_m {m : MV} {r i : Nat} {n : Fin 256} (h : K_may (m.2.1 i) n = false) : bN (cm m r n i) = 0 := by
  unfold cm
  rw [h]
  rfl
theorem cm_r {m : MV} {r i : Nat} {n : Fin 256} (hr : i = r) : bN (cm m r n i) = 0 := by
  unfold cm
  rw [decide_eq_true hr, Bool.not_true, Bool.and_false]
  rfl
theorem vm_1 {m : MV} {r i : Nat} {n : Fin 256} (h : K_may (m.2.1 i) n = true) (hh : K_holds (m.2.1 i) n = false) (hr : ¬ i = r) : bN (vm m r n i) = 1 := by
  unfold vm
  rw [h, hh, decide_eq_false hr]
  rfl
theorem vm_m {m : MV} {r i : Nat} {n : Fin 256} (h : K_may (m.2.1 i) n = false) : bN (vm m r n i) = 0 := by
  unfold vm
  rw [h]
  rfl
theorem vm_h {m : MV} {r i : Nat} {n : Fin 256} (h : K_holds (m.2.1 i) n = true) : bN (vm m r n i) = 0 := by
  unfold vm
  rw [h, Bool.not_true, Bool.and_false]
  rfl
theorem vm_r {m : MV} {r i : Nat} {n : Fin 256} (hr : i = r) : bN (vm m r n i) = 0 := by
  unfold vm
  rw [decide_eq_true hr, Bool.not_true, Bool.and_false]
  rfl
theorem hd_no {m : MV} {r : Nat} {n : Fin 256} (h : K_holds (m.2.1 r) n = false) : K_hd (m.2.1 r) n = false := by
  unfold K_hd
  rw [h]
  rfl
theorem hd_d {m : MV} {r : Nat} {n : Fin 256} {b : Bool} (h : K_holds (m.2.1 r) n = true) (d : (m.2.1 r).2.2.1 (n.val % 8) = b) : K_hd (m.2.1 r) n = b := by
  unfold K_hd
  rw [h, d]
  rfl
theorem held_d1 (x : XV) {r : Nat} {n : Fin 256} (hr : r < 4) (h : K_holds (x.1.2.1 r) n = true) (d : (x.1.2.1 r).2.2.1 (n.val % 8) = true) : X_held x (nI r) (nI (n.val % 8)) 2 = 1 := by
  rw [o_held2 x hr (by omega) (holds_line h), d]
  rfl
theorem held_d0 (x : XV) {r : Nat} {n : Fin 256} (hr : r < 4) (h : K_holds (x.1.2.1 r) n = true) (d : (x.1.2.1 r).2.2.1 (n.val % 8) = false) : X_held x (nI r) (nI (n.val % 8)) 2 = 0 := by
  rw [o_held2 x hr (by omega) (holds_line h), d]
  rfl
theorem read_ans {x : XV} {m : MV} (hx : x.1 = m) (h : IM m) {r : Nat} (n : Fin 256) (hr : r < 4) : (X_read x (nI r) (nI n.val)).1 = M_vfr m n := by
  unfold X_read
  rw [if_pos (sw3 hr), if_pos (sw255 n), cN_nI (by omega), lF_nI, hx]
  exact read_val n h hr
theorem read_rec (x : XV) {r : Nat} (n : Fin 256) (hr : r < 4) : (X_read x (nI r) (nI n.val)).2 = X_setNow (X_rec x) (M_read x.1 r n).1 := by
  unfold X_read
  rw [if_pos (sw3 hr), if_pos (sw255 n), cN_nI (by omega), lF_nI]
def ls2 (x : XV) (n : Fin 256) (r : Nat) : XV := (X_undo (X_read x (nI r) (nI n.val)).2).2
def ls4 (x : XV) (n : Fin 256) (r : Nat) : XV := (X_cost (X_cost (X_cost (X_cost x (nI r) (nI n.val) false 0).2 (nI r) (nI n.val) false 1).2 (nI r) (nI n.val) true 0).2 (nI r) (nI n.val) true 1).2
def ls3 (x : XV) (n : Fin 256) (r : Nat) : XV := (X_cost (X_cost (X_cost x (nI r) (nI n.val) false 2).2 (nI r) (nI n.val) false 3).2 (nI r) (nI n.val) true 3).2
def X_ls (x : XV) (n : Fin 256) (r : Nat) : XV := if K_holds (x.1.2.1 r) n = true then ls2 (ls3 (ls4 x n r) n r) n r else ls2 (ls4 x n r) n r
theorem ls2_now (x : XV) (n : Fin 256) {r : Nat} (hr : r < 4) : (ls2 x n r).1 = x.1 := by
  unfold ls2
  rw [read_rec x n hr]
  exact (undo_rec x _).2
theorem ls4_now (x : XV) (n : Fin 256) (r : Nat) : (ls4 x n r).1 = x.1 := by
  unfold ls4
  rw [cost_now, cost_now, cost_now, cost_now]
theorem ls3_now (x : XV) (n : Fin 256) (r : Nat) : (ls3 x n r).1 = x.1 := by
  unfold ls3
  rw [cost_now, cost_now, cost_now]
theorem ls_now (x : XV) (n : Fin 256) {r : Nat} (hr : r < 4) : (X_ls x n r).1 = x.1 := by
  unfold X_ls
  split
  · rw [ls2_now _ n hr, ls3_now, ls4_now]
  · rw [ls2_now _ n hr, ls4_now]
theorem undo_read {x v9 v8 : XV} {r : Nat} (n : Fin 256) (hr : r < 4) (e8 : v8 = (X_read x (nI r) (nI n.val)).2) (e9 : v9 = (X_undo v8).2) : (X_undo v8).1 = nI (if x.2.2.2.1.2.2.val = 4 then 3 else x.2.2.2.1.2.2.val) ∧ v9.1 = x.1 := by
  subst e8
  subst e9
  rw [read_rec x n hr]
  exact undo_rec x _
theorem kh_cases (k : KV) (n : Fin 256) : K_holds k n = false ∨ (K_holds k n = true ∧ k.2.2.1 (n.val % 8) = false) ∨ (K_holds k n = true ∧ k.2.2.1 (n.val % 8) = true) := by
  cases K_holds k n with
  | false => exact Or.inl rfl
  | true =>
    cases k.2.2.1 (n.val % 8) with
    | false => exact Or.inr (Or.inl ⟨rfl, rfl⟩)
    | true => exact Or.inr (Or.inr ⟨rfl, rfl⟩)
