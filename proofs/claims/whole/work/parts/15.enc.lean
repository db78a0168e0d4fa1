/-! ===== the reference's row: a machine's value as 544 ints ===== -/
def enc5 (x : Option (Fin 256)) : Int32 := match x with
  | none => -5
  | some n => nI n.val
theorem nI_m5 {n : Nat} (h : n < 2 ^ 31) : ¬ nI n = -5 := by
  intro q
  have a := nI_toInt h
  rw [q] at a
  exact absurd a (by rw [show (-5 : Int32).toInt = -5 from by decide]; omega)
theorem enc5_m5 {x : Option (Fin 256)} : enc5 x = -5 ↔ x = none := by
  cases x with
  | none => simp [enc5]
  | some n => simp only [enc5, reduceCtorEq, iff_false]; exact nI_m5 (by have := n.isLt; omega)
theorem enc5_ex {x : Option (Fin 256)} (h : ¬ enc5 x = -5) : ∃ n : Fin 256, x = some n := by
  cases x with
  | none => exact absurd rfl h
  | some n => exact ⟨n, rfl⟩
theorem enc5_eq {x : Option (Fin 256)} {n : Fin 256} : enc5 x = nI n.val ↔ x = some n := by
  have hn := n.isLt
  cases x with
  | none => simp only [enc5, reduceCtorEq, iff_false]; exact fun q => nI_m5 (n := n.val) (by omega) q.symm
  | some k =>
    have hk := k.isLt
    simp only [enc5, Option.some.injEq]
    rw [nI_eq (by omega) (by omega)]
    exact Fin.val_inj
theorem enc5_eq2 {x y : Option (Fin 256)} : enc5 x = enc5 y ↔ x = y := by
  cases y with
  | none => exact enc5_m5
  | some n => exact enc5_eq
theorem bI_n1 {b : Bool} : ¬ bI b = 1 ↔ b = false := by cases b <;> decide
theorem bI_nn0 {b : Bool} : bI b = 1 ↔ b = true := by cases b <;> decide
def mkN (st : Nat → Bool) : Nat → Nat
  | 0 => 0
  | n + 1 => mkN st n + (if st n = true then 2 ^ n else 0)
theorem mkN_lt (st : Nat → Bool) : ∀ n, mkN st n < 2 ^ n
  | 0 => by simp [mkN]
  | n + 1 => by
    have := mkN_lt st n
    simp only [mkN]
    split <;> (rw [Nat.pow_succ]; omega)
theorem mkN_bit (st : Nat → Bool) : ∀ n i, (mkN st n).testBit i = (decide (i < n) && st i)
  | 0, i => by simp [mkN]
  | n + 1, i => by
    have hl := mkN_lt st n
    have ih := mkN_bit st n i
    simp only [mkN]
    by_cases hs : st n = true
    · rw [if_pos hs, Nat.add_comm]
      rcases Nat.lt_trichotomy i n with h | h | h
      · rw [Nat.testBit_two_pow_add_gt h, ih]
        simp [h, Nat.lt_succ_of_lt h]
      · subst h
        rw [Nat.testBit_two_pow_add_eq, ih]
        simp [hs]
      · rw [Nat.testBit_lt_two_pow (Nat.lt_of_lt_of_le (by omega : 2 ^ n + mkN st n < 2 ^ n + 2 ^ n) (by rw [← Nat.two_mul, ← Nat.pow_succ']; exact Nat.pow_le_pow_right (by decide) h))]
        simp; omega
    · rw [if_neg hs, Nat.add_zero, ih]
      rcases Nat.lt_trichotomy i n with h | h | h
      · simp [h, Nat.lt_succ_of_lt h]
      · subst h
        simp at hs
        simp [hs]
      · have h2 : ¬ i < n := by omega
        have h3 : ¬ i < n + 1 := by omega
        simp [h2, h3]
def mk (st : Nat → Bool) : Int32 := nI (mkN st 24)
theorem sh1 : ∀ c, c < 32 → ((1 : Int32) <<< (nI c &&& 31)) = nI (2 ^ c) := by decide
theorem shm : ∀ c, c < 32 → ((nI c &&& 31).toBitVec.smod 32).toNat = c := by decide
theorem nI_or (a b : Nat) : nI a ||| nI b = nI (a ||| b) := by
  apply Int32.toBitVec_inj.mp
  show BitVec.ofNat 32 a ||| BitVec.ofNat 32 b = BitVec.ofNat 32 (a ||| b)
  exact (BitVec.ofNat_or).symm
theorem mk_or (st : Nat → Bool) {c : Nat} (hc : c < 24) : mk st ||| ((1 : Int32) <<< (nI c &&& 31)) = mk (va_up st c true) := by
  rw [sh1 c (by omega), mk, nI_or, mk]
  congr 1
  apply Nat.eq_of_testBit_eq
  intro i
  rw [Nat.testBit_or, mkN_bit, mkN_bit, Nat.testBit_two_pow]
  by_cases h : i = c
  · subst h; simp [va_up, hc]
  · have h2 : ¬ c = i := fun q => h q.symm
    simp [va_up, h, h2]
theorem mk_or0 (st : Nat → Bool) : mk st ||| (0 : Int32) = mk st := by simp
theorem mk_bit (st : Nat → Bool) {c : Nat} (hc : c < 24) : (mk st >>> (nI c &&& 31)) &&& 1 = bI (st c) := by
  have hl := mkN_lt st 24
  rw [mk, pk_shrN (by omega) (nI c &&& 31) c (shm c (by omega)), pk_andN (m := 1) (Nat.lt_of_le_of_lt (Nat.div_le_self _ _) (by omega)) 1 (by decide)]
  have hb := mkN_bit st 24 c
  rw [Nat.testBit_eq_decide_div_mod_eq] at hb
  simp only [hc, decide_true, Bool.true_and] at hb
  rw [← hb]
  rcases Nat.mod_two_eq_zero_or_one (mkN st 24 / 2 ^ c) with h | h
  · rw [h]; decide
  · rw [h]; decide
theorem mk_0 : mk (fun _ => false) = 0 := by decide

def encS (v : MV) : Nat → Int32 := fun k =>
  if k < 256 then v.1 k
  else if k < 288 then enc5 ((v.2.1 ((k - 256) / 8)).1 ((k - 256) % 8))
  else if k < 320 then (v.2.1 ((k - 288) / 8)).2.1 ((k - 288) % 8)
  else if k < 352 then bI ((v.2.1 ((k - 320) / 8)).2.2.1 ((k - 320) % 8))
  else if k < 448 then (v.2.1 ((k - 352) / 24)).2.2.2.2.1 ((k - 352) % 24)
  else if k < 512 then bI ((v.2.1 ((k - 448) / 16)).2.2.2.2.2.2 ((k - 448) % 16))
  else if k < 536 then (v.2.1 ((k - 512) / 6)).2.2.2.1 ((k - 512) % 6)
  else if k = 536 then v.2.2.1
  else if k = 537 then v.2.2.2.1
  else if k = 538 then v.2.2.2.2.1
  else if k = 539 then v.2.2.2.2.2
  else mk (v.2.1 (k - 540)).2.2.2.2.2.1

theorem gS_mem (v : MV) {k n : Nat} (h : k = n) (hn : n < 256) : encS v k = v.1 n := by subst h; unfold encS; rw [if_pos hn]

theorem gS_line (v : MV) {k o q : Nat} (h : k = 256 + (8 * o + q)) (ho : o < 4) (hq : q < 8) : encS v k = enc5 ((v.2.1 o).1 q) := by
  subst h
  unfold encS
  rw [if_neg (by omega), if_pos (by omega), show (256 + (8 * o + q) - 256) / 8 = o from by omega, show (256 + (8 * o + q) - 256) % 8 = q from by omega]

theorem gS_val (v : MV) {k o q : Nat} (h : k = 288 + (8 * o + q)) (ho : o < 4) (hq : q < 8) : encS v k = (v.2.1 o).2.1 q := by
  subst h
  unfold encS
  rw [if_neg (by omega), if_neg (by omega), if_pos (by omega), show (288 + (8 * o + q) - 288) / 8 = o from by omega, show (288 + (8 * o + q) - 288) % 8 = q from by omega]

theorem gS_dirty (v : MV) {k o q : Nat} (h : k = 320 + (8 * o + q)) (ho : o < 4) (hq : q < 8) : encS v k = bI ((v.2.1 o).2.2.1 q) := by
  subst h
  unfold encS
  rw [if_neg (by omega), if_neg (by omega), if_neg (by omega), if_pos (by omega), show (320 + (8 * o + q) - 320) / 8 = o from by omega, show (320 + (8 * o + q) - 320) % 8 = q from by omega]

theorem gS_cnt (v : MV) {k o q : Nat} (h : k = 352 + (24 * o + q)) (ho : o < 4) (hq : q < 24) : encS v k = (v.2.1 o).2.2.2.2.1 q := by
  subst h
  unfold encS
  rw [if_neg (by omega), if_neg (by omega), if_neg (by omega), if_neg (by omega), if_pos (by omega), show (352 + (24 * o + q) - 352) / 24 = o from by omega, show (352 + (24 * o + q) - 352) % 24 = q from by omega]

theorem gS_bit (v : MV) {k o q : Nat} (h : k = 448 + (16 * o + q)) (ho : o < 4) (hq : q < 16) : encS v k = bI ((v.2.1 o).2.2.2.2.2.2 q) := by
  subst h
  unfold encS
  rw [if_neg (by omega), if_neg (by omega), if_neg (by omega), if_neg (by omega), if_neg (by omega), if_pos (by omega), show (448 + (16 * o + q) - 448) / 16 = o from by omega, show (448 + (16 * o + q) - 448) % 16 = q from by omega]

theorem gS_tal (v : MV) {k o q : Nat} (h : k = 512 + (6 * o + q)) (ho : o < 4) (hq : q < 6) : encS v k = (v.2.1 o).2.2.2.1 q := by
  subst h
  unfold encS
  rw [if_neg (by omega), if_neg (by omega), if_neg (by omega), if_neg (by omega), if_neg (by omega), if_neg (by omega), if_pos (by omega), show (512 + (6 * o + q) - 512) / 6 = o from by omega, show (512 + (6 * o + q) - 512) % 6 = q from by omega]

theorem gS_lim (v : MV) {k : Nat} (h : k = 536) : encS v k = v.2.2.1 := by
  subst h
  unfold encS
  rw [if_neg (by omega), if_neg (by omega), if_neg (by omega), if_neg (by omega), if_neg (by omega), if_neg (by omega), if_neg (by omega), if_pos rfl]

theorem gS_full (v : MV) {k : Nat} (h : k = 537) : encS v k = v.2.2.2.1 := by
  subst h
  unfold encS
  rw [if_neg (by omega), if_neg (by omega), if_neg (by omega), if_neg (by omega), if_neg (by omega), if_neg (by omega), if_neg (by omega), if_neg (by omega), if_pos rfl]

theorem gS_back (v : MV) {k : Nat} (h : k = 538) : encS v k = v.2.2.2.2.1 := by
  subst h
  unfold encS
  rw [if_neg (by omega), if_neg (by omega), if_neg (by omega), if_neg (by omega), if_neg (by omega), if_neg (by omega), if_neg (by omega), if_neg (by omega), if_neg (by omega), if_pos rfl]

theorem gS_wr (v : MV) {k : Nat} (h : k = 539) : encS v k = v.2.2.2.2.2 := by
  subst h
  unfold encS
  rw [if_neg (by omega), if_neg (by omega), if_neg (by omega), if_neg (by omega), if_neg (by omega), if_neg (by omega), if_neg (by omega), if_neg (by omega), if_neg (by omega), if_neg (by omega), if_pos rfl]

theorem gS_stuck (v : MV) {k o : Nat} (h : k = 540 + o) : encS v k = mk (v.2.1 o).2.2.2.2.2.1 := by
  subst h
  unfold encS
  rw [if_neg (by omega), if_neg (by omega), if_neg (by omega), if_neg (by omega), if_neg (by omega), if_neg (by omega), if_neg (by omega), if_neg (by omega), if_neg (by omega), if_neg (by omega), if_neg (by omega), Nat.add_sub_cancel_left]

theorem S_cases {P : Nat → Prop} (h_mem : ∀ n, n < 256 → P n) (h_line : ∀ o q, o < 4 → q < 8 → P (256 + (8 * o + q))) (h_val : ∀ o q, o < 4 → q < 8 → P (288 + (8 * o + q))) (h_dirty : ∀ o q, o < 4 → q < 8 → P (320 + (8 * o + q))) (h_cnt : ∀ o q, o < 4 → q < 24 → P (352 + (24 * o + q))) (h_bit : ∀ o q, o < 4 → q < 16 → P (448 + (16 * o + q))) (h_tal : ∀ o q, o < 4 → q < 6 → P (512 + (6 * o + q))) (h_lim : P 536) (h_full : P 537) (h_back : P 538) (h_wr : P 539) (h_stuck : ∀ o, P (540 + o)) : ∀ j, P j := by
  intro j
  by_cases r : j < 256
  · exact h_mem j r
  by_cases r_line : j < 288
  · have := h_line ((j - 256) / 8) ((j - 256) % 8) (by omega) (by omega)
    rwa [show 256 + (8 * ((j - 256) / 8) + (j - 256) % 8) = j from by omega] at this
  by_cases r_val : j < 320
  · have := h_val ((j - 288) / 8) ((j - 288) % 8) (by omega) (by omega)
    rwa [show 288 + (8 * ((j - 288) / 8) + (j - 288) % 8) = j from by omega] at this
  by_cases r_dirty : j < 352
  · have := h_dirty ((j - 320) / 8) ((j - 320) % 8) (by omega) (by omega)
    rwa [show 320 + (8 * ((j - 320) / 8) + (j - 320) % 8) = j from by omega] at this
  by_cases r_cnt : j < 448
  · have := h_cnt ((j - 352) / 24) ((j - 352) % 24) (by omega) (by omega)
    rwa [show 352 + (24 * ((j - 352) / 24) + (j - 352) % 24) = j from by omega] at this
  by_cases r_bit : j < 512
  · have := h_bit ((j - 448) / 16) ((j - 448) % 16) (by omega) (by omega)
    rwa [show 448 + (16 * ((j - 448) / 16) + (j - 448) % 16) = j from by omega] at this
  by_cases r_tal : j < 536
  · have := h_tal ((j - 512) / 6) ((j - 512) % 6) (by omega) (by omega)
    rwa [show 512 + (6 * ((j - 512) / 6) + (j - 512) % 6) = j from by omega] at this
  by_cases r_lim : j = 536
  · subst r_lim; exact h_lim
  by_cases r_full : j = 537
  · subst r_full; exact h_full
  by_cases r_back : j = 538
  · subst r_back; exact h_back
  by_cases r_wr : j = 539
  · subst r_wr; exact h_wr
  have := h_stuck (j - 540)
  rwa [show 540 + (j - 540) = j from by omega] at this

theorem u_ne {f : Nat → Int32} {k j : Nat} {x : Int32} (h : j ≠ k) : upd f k x j = f j := by simp only [upd, if_neg h]
theorem u_eq {f : Nat → Int32} {k : Nat} {x : Int32} : upd f k x k = x := by simp [upd]

theorem pS_mem (v : MV) {k q : Nat} (x : Int32) (h : k = q) (ho : q < 256) : upd (encS v) k (x) = encS (M_setMem v q x) := by
  rw [h]
  funext j
  revert j
  refine S_cases ?_ ?_ ?_ ?_ ?_ ?_ ?_ ?_ ?_ ?_ ?_ ?_
  · intro q2 h2
    by_cases e : q2 = q
    · subst e; rw [u_eq, gS_mem _ rfl h2]
      simp [M_setK, M_setMem, M_setLim, M_setFull, M_setBack, M_setWr, K_setL, K_setV, K_setD, K_setT, K_setF, F_setC, F_setB, va_up, upd]
    · rw [u_ne e, gS_mem _ rfl h2, gS_mem _ rfl h2]
      simp [M_setK, M_setMem, M_setLim, M_setFull, M_setBack, M_setWr, K_setL, K_setV, K_setD, K_setT, K_setF, F_setC, F_setB, va_up, upd, e]
  · intro o2 q2 h2 h3
    rw [u_ne (by omega), gS_line _ rfl h2 h3, gS_line _ rfl h2 h3]
    try rfl
  · intro o2 q2 h2 h3
    rw [u_ne (by omega), gS_val _ rfl h2 h3, gS_val _ rfl h2 h3]
    try rfl
  · intro o2 q2 h2 h3
    rw [u_ne (by omega), gS_dirty _ rfl h2 h3, gS_dirty _ rfl h2 h3]
    try rfl
  · intro o2 q2 h2 h3
    rw [u_ne (by omega), gS_cnt _ rfl h2 h3, gS_cnt _ rfl h2 h3]
    try rfl
  · intro o2 q2 h2 h3
    rw [u_ne (by omega), gS_bit _ rfl h2 h3, gS_bit _ rfl h2 h3]
    try rfl
  · intro o2 q2 h2 h3
    rw [u_ne (by omega), gS_tal _ rfl h2 h3, gS_tal _ rfl h2 h3]
    try rfl
  · skip
    rw [u_ne (by omega), gS_lim _ rfl, gS_lim _ rfl]
    try rfl
  · skip
    rw [u_ne (by omega), gS_full _ rfl, gS_full _ rfl]
    try rfl
  · skip
    rw [u_ne (by omega), gS_back _ rfl, gS_back _ rfl]
    try rfl
  · skip
    rw [u_ne (by omega), gS_wr _ rfl, gS_wr _ rfl]
    try rfl
  · intro o2
    rw [u_ne (by omega), gS_stuck _ rfl, gS_stuck _ rfl]
    try rfl

theorem pS_line (v : MV) {k o q : Nat} (x : Option (Fin 256)) (h : k = 256 + (8 * o + q)) (ho : o < 4) (hq : q < 8) : upd (encS v) k (enc5 x) = encS (M_setK v o (K_setL (v.2.1 o) q x)) := by
  rw [h]
  funext j
  revert j
  refine S_cases ?_ ?_ ?_ ?_ ?_ ?_ ?_ ?_ ?_ ?_ ?_ ?_
  · intro q2 h2
    rw [u_ne (by omega), gS_mem _ rfl h2, gS_mem _ rfl h2]
    try rfl
  · intro o2 q2 h2 h3
    by_cases e : o2 = o
    · subst e
      by_cases e2 : q2 = q
      · subst e2; rw [u_eq, gS_line _ rfl h2 h3]
        simp [M_setK, M_setMem, M_setLim, M_setFull, M_setBack, M_setWr, K_setL, K_setV, K_setD, K_setT, K_setF, F_setC, F_setB, va_up, upd]
      · rw [u_ne (by omega), gS_line _ rfl h2 h3, gS_line _ rfl h2 h3]
        simp [M_setK, M_setMem, M_setLim, M_setFull, M_setBack, M_setWr, K_setL, K_setV, K_setD, K_setT, K_setF, F_setC, F_setB, va_up, upd, e2]
    · rw [u_ne (by omega), gS_line _ rfl h2 h3, gS_line _ rfl h2 h3]
      simp [M_setK, M_setMem, M_setLim, M_setFull, M_setBack, M_setWr, K_setL, K_setV, K_setD, K_setT, K_setF, F_setC, F_setB, va_up, upd, e]
  · intro o2 q2 h2 h3
    rw [u_ne (by omega), gS_val _ rfl h2 h3, gS_val _ rfl h2 h3]
    by_cases e : o2 = o
    · subst e; simp [M_setK, M_setMem, M_setLim, M_setFull, M_setBack, M_setWr, K_setL, K_setV, K_setD, K_setT, K_setF, F_setC, F_setB, va_up, upd]
    · simp [M_setK, M_setMem, M_setLim, M_setFull, M_setBack, M_setWr, K_setL, K_setV, K_setD, K_setT, K_setF, F_setC, F_setB, va_up, upd, e]
  · intro o2 q2 h2 h3
    rw [u_ne (by omega), gS_dirty _ rfl h2 h3, gS_dirty _ rfl h2 h3]
    by_cases e : o2 = o
    · subst e; simp [M_setK, M_setMem, M_setLim, M_setFull, M_setBack, M_setWr, K_setL, K_setV, K_setD, K_setT, K_setF, F_setC, F_setB, va_up, upd]
    · simp [M_setK, M_setMem, M_setLim, M_setFull, M_setBack, M_setWr, K_setL, K_setV, K_setD, K_setT, K_setF, F_setC, F_setB, va_up, upd, e]
  · intro o2 q2 h2 h3
    rw [u_ne (by omega), gS_cnt _ rfl h2 h3, gS_cnt _ rfl h2 h3]
    by_cases e : o2 = o
    · subst e; simp [M_setK, M_setMem, M_setLim, M_setFull, M_setBack, M_setWr, K_setL, K_setV, K_setD, K_setT, K_setF, F_setC, F_setB, va_up, upd]
    · simp [M_setK, M_setMem, M_setLim, M_setFull, M_setBack, M_setWr, K_setL, K_setV, K_setD, K_setT, K_setF, F_setC, F_setB, va_up, upd, e]
  · intro o2 q2 h2 h3
    rw [u_ne (by omega), gS_bit _ rfl h2 h3, gS_bit _ rfl h2 h3]
    by_cases e : o2 = o
    · subst e; simp [M_setK, M_setMem, M_setLim, M_setFull, M_setBack, M_setWr, K_setL, K_setV, K_setD, K_setT, K_setF, F_setC, F_setB, va_up, upd]
    · simp [M_setK, M_setMem, M_setLim, M_setFull, M_setBack, M_setWr, K_setL, K_setV, K_setD, K_setT, K_setF, F_setC, F_setB, va_up, upd, e]
  · intro o2 q2 h2 h3
    rw [u_ne (by omega), gS_tal _ rfl h2 h3, gS_tal _ rfl h2 h3]
    by_cases e : o2 = o
    · subst e; simp [M_setK, M_setMem, M_setLim, M_setFull, M_setBack, M_setWr, K_setL, K_setV, K_setD, K_setT, K_setF, F_setC, F_setB, va_up, upd]
    · simp [M_setK, M_setMem, M_setLim, M_setFull, M_setBack, M_setWr, K_setL, K_setV, K_setD, K_setT, K_setF, F_setC, F_setB, va_up, upd, e]
  · skip
    rw [u_ne (by omega), gS_lim _ rfl, gS_lim _ rfl]
    try rfl
  · skip
    rw [u_ne (by omega), gS_full _ rfl, gS_full _ rfl]
    try rfl
  · skip
    rw [u_ne (by omega), gS_back _ rfl, gS_back _ rfl]
    try rfl
  · skip
    rw [u_ne (by omega), gS_wr _ rfl, gS_wr _ rfl]
    try rfl
  · intro o2
    rw [u_ne (by omega), gS_stuck _ rfl, gS_stuck _ rfl]
    by_cases e : o2 = o
    · subst e; simp [M_setK, M_setMem, M_setLim, M_setFull, M_setBack, M_setWr, K_setL, K_setV, K_setD, K_setT, K_setF, F_setC, F_setB, va_up, upd]
    · simp [M_setK, M_setMem, M_setLim, M_setFull, M_setBack, M_setWr, K_setL, K_setV, K_setD, K_setT, K_setF, F_setC, F_setB, va_up, upd, e]

theorem pS_val (v : MV) {k o q : Nat} (x : Int32) (h : k = 288 + (8 * o + q)) (ho : o < 4) (hq : q < 8) : upd (encS v) k (x) = encS (M_setK v o (K_setV (v.2.1 o) q x)) := by
  rw [h]
  funext j
  revert j
  refine S_cases ?_ ?_ ?_ ?_ ?_ ?_ ?_ ?_ ?_ ?_ ?_ ?_
  · intro q2 h2
    rw [u_ne (by omega), gS_mem _ rfl h2, gS_mem _ rfl h2]
    try rfl
  · intro o2 q2 h2 h3
    rw [u_ne (by omega), gS_line _ rfl h2 h3, gS_line _ rfl h2 h3]
    by_cases e : o2 = o
    · subst e; simp [M_setK, M_setMem, M_setLim, M_setFull, M_setBack, M_setWr, K_setL, K_setV, K_setD, K_setT, K_setF, F_setC, F_setB, va_up, upd]
    · simp [M_setK, M_setMem, M_setLim, M_setFull, M_setBack, M_setWr, K_setL, K_setV, K_setD, K_setT, K_setF, F_setC, F_setB, va_up, upd, e]
  · intro o2 q2 h2 h3
    by_cases e : o2 = o
    · subst e
      by_cases e2 : q2 = q
      · subst e2; rw [u_eq, gS_val _ rfl h2 h3]
        simp [M_setK, M_setMem, M_setLim, M_setFull, M_setBack, M_setWr, K_setL, K_setV, K_setD, K_setT, K_setF, F_setC, F_setB, va_up, upd]
      · rw [u_ne (by omega), gS_val _ rfl h2 h3, gS_val _ rfl h2 h3]
        simp [M_setK, M_setMem, M_setLim, M_setFull, M_setBack, M_setWr, K_setL, K_setV, K_setD, K_setT, K_setF, F_setC, F_setB, va_up, upd, e2]
    · rw [u_ne (by omega), gS_val _ rfl h2 h3, gS_val _ rfl h2 h3]
      simp [M_setK, M_setMem, M_setLim, M_setFull, M_setBack, M_setWr, K_setL, K_setV, K_setD, K_setT, K_setF, F_setC, F_setB, va_up, upd, e]
  · intro o2 q2 h2 h3
    rw [u_ne (by omega), gS_dirty _ rfl h2 h3, gS_dirty _ rfl h2 h3]
    by_cases e : o2 = o
    · subst e; simp [M_setK, M_setMem, M_setLim, M_setFull, M_setBack, M_setWr, K_setL, K_setV, K_setD, K_setT, K_setF, F_setC, F_setB, va_up, upd]
    · simp [M_setK, M_setMem, M_setLim, M_setFull, M_setBack, M_setWr, K_setL, K_setV, K_setD, K_setT, K_setF, F_setC, F_setB, va_up, upd, e]
  · intro o2 q2 h2 h3
    rw [u_ne (by omega), gS_cnt _ rfl h2 h3, gS_cnt _ rfl h2 h3]
    by_cases e : o2 = o
    · subst e; simp [M_setK, M_setMem, M_setLim, M_setFull, M_setBack, M_setWr, K_setL, K_setV, K_setD, K_setT, K_setF, F_setC, F_setB, va_up, upd]
    · simp [M_setK, M_setMem, M_setLim, M_setFull, M_setBack, M_setWr, K_setL, K_setV, K_setD, K_setT, K_setF, F_setC, F_setB, va_up, upd, e]
  · intro o2 q2 h2 h3
    rw [u_ne (by omega), gS_bit _ rfl h2 h3, gS_bit _ rfl h2 h3]
    by_cases e : o2 = o
    · subst e; simp [M_setK, M_setMem, M_setLim, M_setFull, M_setBack, M_setWr, K_setL, K_setV, K_setD, K_setT, K_setF, F_setC, F_setB, va_up, upd]
    · simp [M_setK, M_setMem, M_setLim, M_setFull, M_setBack, M_setWr, K_setL, K_setV, K_setD, K_setT, K_setF, F_setC, F_setB, va_up, upd, e]
  · intro o2 q2 h2 h3
    rw [u_ne (by omega), gS_tal _ rfl h2 h3, gS_tal _ rfl h2 h3]
    by_cases e : o2 = o
    · subst e; simp [M_setK, M_setMem, M_setLim, M_setFull, M_setBack, M_setWr, K_setL, K_setV, K_setD, K_setT, K_setF, F_setC, F_setB, va_up, upd]
    · simp [M_setK, M_setMem, M_setLim, M_setFull, M_setBack, M_setWr, K_setL, K_setV, K_setD, K_setT, K_setF, F_setC, F_setB, va_up, upd, e]
  · skip
    rw [u_ne (by omega), gS_lim _ rfl, gS_lim _ rfl]
    try rfl
  · skip
    rw [u_ne (by omega), gS_full _ rfl, gS_full _ rfl]
    try rfl
  · skip
    rw [u_ne (by omega), gS_back _ rfl, gS_back _ rfl]
    try rfl
  · skip
    rw [u_ne (by omega), gS_wr _ rfl, gS_wr _ rfl]
    try rfl
  · intro o2
    rw [u_ne (by omega), gS_stuck _ rfl, gS_stuck _ rfl]
    by_cases e : o2 = o
    · subst e; simp [M_setK, M_setMem, M_setLim, M_setFull, M_setBack, M_setWr, K_setL, K_setV, K_setD, K_setT, K_setF, F_setC, F_setB, va_up, upd]
    · simp [M_setK, M_setMem, M_setLim, M_setFull, M_setBack, M_setWr, K_setL, K_setV, K_setD, K_setT, K_setF, F_setC, F_setB, va_up, upd, e]

theorem pS_dirty (v : MV) {k o q : Nat} (x : Bool) (h : k = 320 + (8 * o + q)) (ho : o < 4) (hq : q < 8) : upd (encS v) k (bI x) = encS (M_setK v o (K_setD (v.2.1 o) q x)) := by
  rw [h]
  funext j
  revert j
  refine S_cases ?_ ?_ ?_ ?_ ?_ ?_ ?_ ?_ ?_ ?_ ?_ ?_
  · intro q2 h2
    rw [u_ne (by omega), gS_mem _ rfl h2, gS_mem _ rfl h2]
    try rfl
  · intro o2 q2 h2 h3
    rw [u_ne (by omega), gS_line _ rfl h2 h3, gS_line _ rfl h2 h3]
    by_cases e : o2 = o
    · subst e; simp [M_setK, M_setMem, M_setLim, M_setFull, M_setBack, M_setWr, K_setL, K_setV, K_setD, K_setT, K_setF, F_setC, F_setB, va_up, upd]
    · simp [M_setK, M_setMem, M_setLim, M_setFull, M_setBack, M_setWr, K_setL, K_setV, K_setD, K_setT, K_setF, F_setC, F_setB, va_up, upd, e]
  · intro o2 q2 h2 h3
    rw [u_ne (by omega), gS_val _ rfl h2 h3, gS_val _ rfl h2 h3]
    by_cases e : o2 = o
    · subst e; simp [M_setK, M_setMem, M_setLim, M_setFull, M_setBack, M_setWr, K_setL, K_setV, K_setD, K_setT, K_setF, F_setC, F_setB, va_up, upd]
    · simp [M_setK, M_setMem, M_setLim, M_setFull, M_setBack, M_setWr, K_setL, K_setV, K_setD, K_setT, K_setF, F_setC, F_setB, va_up, upd, e]
  · intro o2 q2 h2 h3
    by_cases e : o2 = o
    · subst e
      by_cases e2 : q2 = q
      · subst e2; rw [u_eq, gS_dirty _ rfl h2 h3]
        simp [M_setK, M_setMem, M_setLim, M_setFull, M_setBack, M_setWr, K_setL, K_setV, K_setD, K_setT, K_setF, F_setC, F_setB, va_up, upd]
      · rw [u_ne (by omega), gS_dirty _ rfl h2 h3, gS_dirty _ rfl h2 h3]
        simp [M_setK, M_setMem, M_setLim, M_setFull, M_setBack, M_setWr, K_setL, K_setV, K_setD, K_setT, K_setF, F_setC, F_setB, va_up, upd, e2]
    · rw [u_ne (by omega), gS_dirty _ rfl h2 h3, gS_dirty _ rfl h2 h3]
      simp [M_setK, M_setMem, M_setLim, M_setFull, M_setBack, M_setWr, K_setL, K_setV, K_setD, K_setT, K_setF, F_setC, F_setB, va_up, upd, e]
  · intro o2 q2 h2 h3
    rw [u_ne (by omega), gS_cnt _ rfl h2 h3, gS_cnt _ rfl h2 h3]
    by_cases e : o2 = o
    · subst e; simp [M_setK, M_setMem, M_setLim, M_setFull, M_setBack, M_setWr, K_setL, K_setV, K_setD, K_setT, K_setF, F_setC, F_setB, va_up, upd]
    · simp [M_setK, M_setMem, M_setLim, M_setFull, M_setBack, M_setWr, K_setL, K_setV, K_setD, K_setT, K_setF, F_setC, F_setB, va_up, upd, e]
  · intro o2 q2 h2 h3
    rw [u_ne (by omega), gS_bit _ rfl h2 h3, gS_bit _ rfl h2 h3]
    by_cases e : o2 = o
    · subst e; simp [M_setK, M_setMem, M_setLim, M_setFull, M_setBack, M_setWr, K_setL, K_setV, K_setD, K_setT, K_setF, F_setC, F_setB, va_up, upd]
    · simp [M_setK, M_setMem, M_setLim, M_setFull, M_setBack, M_setWr, K_setL, K_setV, K_setD, K_setT, K_setF, F_setC, F_setB, va_up, upd, e]
  · intro o2 q2 h2 h3
    rw [u_ne (by omega), gS_tal _ rfl h2 h3, gS_tal _ rfl h2 h3]
    by_cases e : o2 = o
    · subst e; simp [M_setK, M_setMem, M_setLim, M_setFull, M_setBack, M_setWr, K_setL, K_setV, K_setD, K_setT, K_setF, F_setC, F_setB, va_up, upd]
    · simp [M_setK, M_setMem, M_setLim, M_setFull, M_setBack, M_setWr, K_setL, K_setV, K_setD, K_setT, K_setF, F_setC, F_setB, va_up, upd, e]
  · skip
    rw [u_ne (by omega), gS_lim _ rfl, gS_lim _ rfl]
    try rfl
  · skip
    rw [u_ne (by omega), gS_full _ rfl, gS_full _ rfl]
    try rfl
  · skip
    rw [u_ne (by omega), gS_back _ rfl, gS_back _ rfl]
    try rfl
  · skip
    rw [u_ne (by omega), gS_wr _ rfl, gS_wr _ rfl]
    try rfl
  · intro o2
    rw [u_ne (by omega), gS_stuck _ rfl, gS_stuck _ rfl]
    by_cases e : o2 = o
    · subst e; simp [M_setK, M_setMem, M_setLim, M_setFull, M_setBack, M_setWr, K_setL, K_setV, K_setD, K_setT, K_setF, F_setC, F_setB, va_up, upd]
    · simp [M_setK, M_setMem, M_setLim, M_setFull, M_setBack, M_setWr, K_setL, K_setV, K_setD, K_setT, K_setF, F_setC, F_setB, va_up, upd, e]

theorem pS_cnt (v : MV) {k o q : Nat} (x : Int32) (h : k = 352 + (24 * o + q)) (ho : o < 4) (hq : q < 24) : upd (encS v) k (x) = encS (M_setK v o (K_setF (v.2.1 o) (F_setC (v.2.1 o).2.2.2.2 q x))) := by
  rw [h]
  funext j
  revert j
  refine S_cases ?_ ?_ ?_ ?_ ?_ ?_ ?_ ?_ ?_ ?_ ?_ ?_
  · intro q2 h2
    rw [u_ne (by omega), gS_mem _ rfl h2, gS_mem _ rfl h2]
    try rfl
  · intro o2 q2 h2 h3
    rw [u_ne (by omega), gS_line _ rfl h2 h3, gS_line _ rfl h2 h3]
    by_cases e : o2 = o
    · subst e; simp [M_setK, M_setMem, M_setLim, M_setFull, M_setBack, M_setWr, K_setL, K_setV, K_setD, K_setT, K_setF, F_setC, F_setB, va_up, upd]
    · simp [M_setK, M_setMem, M_setLim, M_setFull, M_setBack, M_setWr, K_setL, K_setV, K_setD, K_setT, K_setF, F_setC, F_setB, va_up, upd, e]
  · intro o2 q2 h2 h3
    rw [u_ne (by omega), gS_val _ rfl h2 h3, gS_val _ rfl h2 h3]
    by_cases e : o2 = o
    · subst e; simp [M_setK, M_setMem, M_setLim, M_setFull, M_setBack, M_setWr, K_setL, K_setV, K_setD, K_setT, K_setF, F_setC, F_setB, va_up, upd]
    · simp [M_setK, M_setMem, M_setLim, M_setFull, M_setBack, M_setWr, K_setL, K_setV, K_setD, K_setT, K_setF, F_setC, F_setB, va_up, upd, e]
  · intro o2 q2 h2 h3
    rw [u_ne (by omega), gS_dirty _ rfl h2 h3, gS_dirty _ rfl h2 h3]
    by_cases e : o2 = o
    · subst e; simp [M_setK, M_setMem, M_setLim, M_setFull, M_setBack, M_setWr, K_setL, K_setV, K_setD, K_setT, K_setF, F_setC, F_setB, va_up, upd]
    · simp [M_setK, M_setMem, M_setLim, M_setFull, M_setBack, M_setWr, K_setL, K_setV, K_setD, K_setT, K_setF, F_setC, F_setB, va_up, upd, e]
  · intro o2 q2 h2 h3
    by_cases e : o2 = o
    · subst e
      by_cases e2 : q2 = q
      · subst e2; rw [u_eq, gS_cnt _ rfl h2 h3]
        simp [M_setK, M_setMem, M_setLim, M_setFull, M_setBack, M_setWr, K_setL, K_setV, K_setD, K_setT, K_setF, F_setC, F_setB, va_up, upd]
      · rw [u_ne (by omega), gS_cnt _ rfl h2 h3, gS_cnt _ rfl h2 h3]
        simp [M_setK, M_setMem, M_setLim, M_setFull, M_setBack, M_setWr, K_setL, K_setV, K_setD, K_setT, K_setF, F_setC, F_setB, va_up, upd, e2]
    · rw [u_ne (by omega), gS_cnt _ rfl h2 h3, gS_cnt _ rfl h2 h3]
      simp [M_setK, M_setMem, M_setLim, M_setFull, M_setBack, M_setWr, K_setL, K_setV, K_setD, K_setT, K_setF, F_setC, F_setB, va_up, upd, e]
  · intro o2 q2 h2 h3
    rw [u_ne (by omega), gS_bit _ rfl h2 h3, gS_bit _ rfl h2 h3]
    by_cases e : o2 = o
    · subst e; simp [M_setK, M_setMem, M_setLim, M_setFull, M_setBack, M_setWr, K_setL, K_setV, K_setD, K_setT, K_setF, F_setC, F_setB, va_up, upd]
    · simp [M_setK, M_setMem, M_setLim, M_setFull, M_setBack, M_setWr, K_setL, K_setV, K_setD, K_setT, K_setF, F_setC, F_setB, va_up, upd, e]
  · intro o2 q2 h2 h3
    rw [u_ne (by omega), gS_tal _ rfl h2 h3, gS_tal _ rfl h2 h3]
    by_cases e : o2 = o
    · subst e; simp [M_setK, M_setMem, M_setLim, M_setFull, M_setBack, M_setWr, K_setL, K_setV, K_setD, K_setT, K_setF, F_setC, F_setB, va_up, upd]
    · simp [M_setK, M_setMem, M_setLim, M_setFull, M_setBack, M_setWr, K_setL, K_setV, K_setD, K_setT, K_setF, F_setC, F_setB, va_up, upd, e]
  · skip
    rw [u_ne (by omega), gS_lim _ rfl, gS_lim _ rfl]
    try rfl
  · skip
    rw [u_ne (by omega), gS_full _ rfl, gS_full _ rfl]
    try rfl
  · skip
    rw [u_ne (by omega), gS_back _ rfl, gS_back _ rfl]
    try rfl
  · skip
    rw [u_ne (by omega), gS_wr _ rfl, gS_wr _ rfl]
    try rfl
  · intro o2
    rw [u_ne (by omega), gS_stuck _ rfl, gS_stuck _ rfl]
    by_cases e : o2 = o
    · subst e; simp [M_setK, M_setMem, M_setLim, M_setFull, M_setBack, M_setWr, K_setL, K_setV, K_setD, K_setT, K_setF, F_setC, F_setB, va_up, upd]
    · simp [M_setK, M_setMem, M_setLim, M_setFull, M_setBack, M_setWr, K_setL, K_setV, K_setD, K_setT, K_setF, F_setC, F_setB, va_up, upd, e]

theorem pS_bit (v : MV) {k o q : Nat} (x : Bool) (h : k = 448 + (16 * o + q)) (ho : o < 4) (hq : q < 16) : upd (encS v) k (bI x) = encS (M_setK v o (K_setF (v.2.1 o) (F_setB (v.2.1 o).2.2.2.2 q x))) := by
  rw [h]
  funext j
  revert j
  refine S_cases ?_ ?_ ?_ ?_ ?_ ?_ ?_ ?_ ?_ ?_ ?_ ?_
  · intro q2 h2
    rw [u_ne (by omega), gS_mem _ rfl h2, gS_mem _ rfl h2]
    try rfl
  · intro o2 q2 h2 h3
    rw [u_ne (by omega), gS_line _ rfl h2 h3, gS_line _ rfl h2 h3]
    by_cases e : o2 = o
    · subst e; simp [M_setK, M_setMem, M_setLim, M_setFull, M_setBack, M_setWr, K_setL, K_setV, K_setD, K_setT, K_setF, F_setC, F_setB, va_up, upd]
    · simp [M_setK, M_setMem, M_setLim, M_setFull, M_setBack, M_setWr, K_setL, K_setV, K_setD, K_setT, K_setF, F_setC, F_setB, va_up, upd, e]
  · intro o2 q2 h2 h3
    rw [u_ne (by omega), gS_val _ rfl h2 h3, gS_val _ rfl h2 h3]
    by_cases e : o2 = o
    · subst e; simp [M_setK, M_setMem, M_setLim, M_setFull, M_setBack, M_setWr, K_setL, K_setV, K_setD, K_setT, K_setF, F_setC, F_setB, va_up, upd]
    · simp [M_setK, M_setMem, M_setLim, M_setFull, M_setBack, M_setWr, K_setL, K_setV, K_setD, K_setT, K_setF, F_setC, F_setB, va_up, upd, e]
  · intro o2 q2 h2 h3
    rw [u_ne (by omega), gS_dirty _ rfl h2 h3, gS_dirty _ rfl h2 h3]
    by_cases e : o2 = o
    · subst e; simp [M_setK, M_setMem, M_setLim, M_setFull, M_setBack, M_setWr, K_setL, K_setV, K_setD, K_setT, K_setF, F_setC, F_setB, va_up, upd]
    · simp [M_setK, M_setMem, M_setLim, M_setFull, M_setBack, M_setWr, K_setL, K_setV, K_setD, K_setT, K_setF, F_setC, F_setB, va_up, upd, e]
  · intro o2 q2 h2 h3
    rw [u_ne (by omega), gS_cnt _ rfl h2 h3, gS_cnt _ rfl h2 h3]
    by_cases e : o2 = o
    · subst e; simp [M_setK, M_setMem, M_setLim, M_setFull, M_setBack, M_setWr, K_setL, K_setV, K_setD, K_setT, K_setF, F_setC, F_setB, va_up, upd]
    · simp [M_setK, M_setMem, M_setLim, M_setFull, M_setBack, M_setWr, K_setL, K_setV, K_setD, K_setT, K_setF, F_setC, F_setB, va_up, upd, e]
  · intro o2 q2 h2 h3
    by_cases e : o2 = o
    · subst e
      by_cases e2 : q2 = q
      · subst e2; rw [u_eq, gS_bit _ rfl h2 h3]
        simp [M_setK, M_setMem, M_setLim, M_setFull, M_setBack, M_setWr, K_setL, K_setV, K_setD, K_setT, K_setF, F_setC, F_setB, va_up, upd]
      · rw [u_ne (by omega), gS_bit _ rfl h2 h3, gS_bit _ rfl h2 h3]
        simp [M_setK, M_setMem, M_setLim, M_setFull, M_setBack, M_setWr, K_setL, K_setV, K_setD, K_setT, K_setF, F_setC, F_setB, va_up, upd, e2]
    · rw [u_ne (by omega), gS_bit _ rfl h2 h3, gS_bit _ rfl h2 h3]
      simp [M_setK, M_setMem, M_setLim, M_setFull, M_setBack, M_setWr, K_setL, K_setV, K_setD, K_setT, K_setF, F_setC, F_setB, va_up, upd, e]
  · intro o2 q2 h2 h3
    rw [u_ne (by omega), gS_tal _ rfl h2 h3, gS_tal _ rfl h2 h3]
    by_cases e : o2 = o
    · subst e; simp [M_setK, M_setMem, M_setLim, M_setFull, M_setBack, M_setWr, K_setL, K_setV, K_setD, K_setT, K_setF, F_setC, F_setB, va_up, upd]
    · simp [M_setK, M_setMem, M_setLim, M_setFull, M_setBack, M_setWr, K_setL, K_setV, K_setD, K_setT, K_setF, F_setC, F_setB, va_up, upd, e]
  · skip
    rw [u_ne (by omega), gS_lim _ rfl, gS_lim _ rfl]
    try rfl
  · skip
    rw [u_ne (by omega), gS_full _ rfl, gS_full _ rfl]
    try rfl
  · skip
    rw [u_ne (by omega), gS_back _ rfl, gS_back _ rfl]
    try rfl
  · skip
    rw [u_ne (by omega), gS_wr _ rfl, gS_wr _ rfl]
    try rfl
  · intro o2
    rw [u_ne (by omega), gS_stuck _ rfl, gS_stuck _ rfl]
    by_cases e : o2 = o
    · subst e; simp [M_setK, M_setMem, M_setLim, M_setFull, M_setBack, M_setWr, K_setL, K_setV, K_setD, K_setT, K_setF, F_setC, F_setB, va_up, upd]
    · simp [M_setK, M_setMem, M_setLim, M_setFull, M_setBack, M_setWr, K_setL, K_setV, K_setD, K_setT, K_setF, F_setC, F_setB, va_up, upd, e]

theorem pS_tal (v : MV) {k o q : Nat} (x : Int32) (h : k = 512 + (6 * o + q)) (ho : o < 4) (hq : q < 6) : upd (encS v) k (x) = encS (M_setK v o (K_setT (v.2.1 o) q x)) := by
  rw [h]
  funext j
  revert j
  refine S_cases ?_ ?_ ?_ ?_ ?_ ?_ ?_ ?_ ?_ ?_ ?_ ?_
  · intro q2 h2
    rw [u_ne (by omega), gS_mem _ rfl h2, gS_mem _ rfl h2]
    try rfl
  · intro o2 q2 h2 h3
    rw [u_ne (by omega), gS_line _ rfl h2 h3, gS_line _ rfl h2 h3]
    by_cases e : o2 = o
    · subst e; simp [M_setK, M_setMem, M_setLim, M_setFull, M_setBack, M_setWr, K_setL, K_setV, K_setD, K_setT, K_setF, F_setC, F_setB, va_up, upd]
    · simp [M_setK, M_setMem, M_setLim, M_setFull, M_setBack, M_setWr, K_setL, K_setV, K_setD, K_setT, K_setF, F_setC, F_setB, va_up, upd, e]
  · intro o2 q2 h2 h3
    rw [u_ne (by omega), gS_val _ rfl h2 h3, gS_val _ rfl h2 h3]
    by_cases e : o2 = o
    · subst e; simp [M_setK, M_setMem, M_setLim, M_setFull, M_setBack, M_setWr, K_setL, K_setV, K_setD, K_setT, K_setF, F_setC, F_setB, va_up, upd]
    · simp [M_setK, M_setMem, M_setLim, M_setFull, M_setBack, M_setWr, K_setL, K_setV, K_setD, K_setT, K_setF, F_setC, F_setB, va_up, upd, e]
  · intro o2 q2 h2 h3
    rw [u_ne (by omega), gS_dirty _ rfl h2 h3, gS_dirty _ rfl h2 h3]
    by_cases e : o2 = o
    · subst e; simp [M_setK, M_setMem, M_setLim, M_setFull, M_setBack, M_setWr, K_setL, K_setV, K_setD, K_setT, K_setF, F_setC, F_setB, va_up, upd]
    · simp [M_setK, M_setMem, M_setLim, M_setFull, M_setBack, M_setWr, K_setL, K_setV, K_setD, K_setT, K_setF, F_setC, F_setB, va_up, upd, e]
  · intro o2 q2 h2 h3
    rw [u_ne (by omega), gS_cnt _ rfl h2 h3, gS_cnt _ rfl h2 h3]
    by_cases e : o2 = o
    · subst e; simp [M_setK, M_setMem, M_setLim, M_setFull, M_setBack, M_setWr, K_setL, K_setV, K_setD, K_setT, K_setF, F_setC, F_setB, va_up, upd]
    · simp [M_setK, M_setMem, M_setLim, M_setFull, M_setBack, M_setWr, K_setL, K_setV, K_setD, K_setT, K_setF, F_setC, F_setB, va_up, upd, e]
  · intro o2 q2 h2 h3
    rw [u_ne (by omega), gS_bit _ rfl h2 h3, gS_bit _ rfl h2 h3]
    by_cases e : o2 = o
    · subst e; simp [M_setK, M_setMem, M_setLim, M_setFull, M_setBack, M_setWr, K_setL, K_setV, K_setD, K_setT, K_setF, F_setC, F_setB, va_up, upd]
    · simp [M_setK, M_setMem, M_setLim, M_setFull, M_setBack, M_setWr, K_setL, K_setV, K_setD, K_setT, K_setF, F_setC, F_setB, va_up, upd, e]
  · intro o2 q2 h2 h3
    by_cases e : o2 = o
    · subst e
      by_cases e2 : q2 = q
      · subst e2; rw [u_eq, gS_tal _ rfl h2 h3]
        simp [M_setK, M_setMem, M_setLim, M_setFull, M_setBack, M_setWr, K_setL, K_setV, K_setD, K_setT, K_setF, F_setC, F_setB, va_up, upd]
      · rw [u_ne (by omega), gS_tal _ rfl h2 h3, gS_tal _ rfl h2 h3]
        simp [M_setK, M_setMem, M_setLim, M_setFull, M_setBack, M_setWr, K_setL, K_setV, K_setD, K_setT, K_setF, F_setC, F_setB, va_up, upd, e2]
    · rw [u_ne (by omega), gS_tal _ rfl h2 h3, gS_tal _ rfl h2 h3]
      simp [M_setK, M_setMem, M_setLim, M_setFull, M_setBack, M_setWr, K_setL, K_setV, K_setD, K_setT, K_setF, F_setC, F_setB, va_up, upd, e]
  · skip
    rw [u_ne (by omega), gS_lim _ rfl, gS_lim _ rfl]
    try rfl
  · skip
    rw [u_ne (by omega), gS_full _ rfl, gS_full _ rfl]
    try rfl
  · skip
    rw [u_ne (by omega), gS_back _ rfl, gS_back _ rfl]
    try rfl
  · skip
    rw [u_ne (by omega), gS_wr _ rfl, gS_wr _ rfl]
    try rfl
  · intro o2
    rw [u_ne (by omega), gS_stuck _ rfl, gS_stuck _ rfl]
    by_cases e : o2 = o
    · subst e; simp [M_setK, M_setMem, M_setLim, M_setFull, M_setBack, M_setWr, K_setL, K_setV, K_setD, K_setT, K_setF, F_setC, F_setB, va_up, upd]
    · simp [M_setK, M_setMem, M_setLim, M_setFull, M_setBack, M_setWr, K_setL, K_setV, K_setD, K_setT, K_setF, F_setC, F_setB, va_up, upd, e]

theorem pS_lim (v : MV) {k : Nat} (x : Int32) (h : k = 536)  : upd (encS v) k (x) = encS (M_setLim v x) := by
  rw [h]
  funext j
  revert j
  refine S_cases ?_ ?_ ?_ ?_ ?_ ?_ ?_ ?_ ?_ ?_ ?_ ?_
  · intro q2 h2
    rw [u_ne (by omega), gS_mem _ rfl h2, gS_mem _ rfl h2]
    try rfl
  · intro o2 q2 h2 h3
    rw [u_ne (by omega), gS_line _ rfl h2 h3, gS_line _ rfl h2 h3]
    try rfl
  · intro o2 q2 h2 h3
    rw [u_ne (by omega), gS_val _ rfl h2 h3, gS_val _ rfl h2 h3]
    try rfl
  · intro o2 q2 h2 h3
    rw [u_ne (by omega), gS_dirty _ rfl h2 h3, gS_dirty _ rfl h2 h3]
    try rfl
  · intro o2 q2 h2 h3
    rw [u_ne (by omega), gS_cnt _ rfl h2 h3, gS_cnt _ rfl h2 h3]
    try rfl
  · intro o2 q2 h2 h3
    rw [u_ne (by omega), gS_bit _ rfl h2 h3, gS_bit _ rfl h2 h3]
    try rfl
  · intro o2 q2 h2 h3
    rw [u_ne (by omega), gS_tal _ rfl h2 h3, gS_tal _ rfl h2 h3]
    try rfl
  · skip
    rw [u_eq, gS_lim _ rfl]
    simp [M_setK, M_setMem, M_setLim, M_setFull, M_setBack, M_setWr, K_setL, K_setV, K_setD, K_setT, K_setF, F_setC, F_setB, va_up, upd]
  · skip
    rw [u_ne (by omega), gS_full _ rfl, gS_full _ rfl]
    try rfl
  · skip
    rw [u_ne (by omega), gS_back _ rfl, gS_back _ rfl]
    try rfl
  · skip
    rw [u_ne (by omega), gS_wr _ rfl, gS_wr _ rfl]
    try rfl
  · intro o2
    rw [u_ne (by omega), gS_stuck _ rfl, gS_stuck _ rfl]
    try rfl

theorem pS_full (v : MV) {k : Nat} (x : Int32) (h : k = 537)  : upd (encS v) k (x) = encS (M_setFull v x) := by
  rw [h]
  funext j
  revert j
  refine S_cases ?_ ?_ ?_ ?_ ?_ ?_ ?_ ?_ ?_ ?_ ?_ ?_
  · intro q2 h2
    rw [u_ne (by omega), gS_mem _ rfl h2, gS_mem _ rfl h2]
    try rfl
  · intro o2 q2 h2 h3
    rw [u_ne (by omega), gS_line _ rfl h2 h3, gS_line _ rfl h2 h3]
    try rfl
  · intro o2 q2 h2 h3
    rw [u_ne (by omega), gS_val _ rfl h2 h3, gS_val _ rfl h2 h3]
    try rfl
  · intro o2 q2 h2 h3
    rw [u_ne (by omega), gS_dirty _ rfl h2 h3, gS_dirty _ rfl h2 h3]
    try rfl
  · intro o2 q2 h2 h3
    rw [u_ne (by omega), gS_cnt _ rfl h2 h3, gS_cnt _ rfl h2 h3]
    try rfl
  · intro o2 q2 h2 h3
    rw [u_ne (by omega), gS_bit _ rfl h2 h3, gS_bit _ rfl h2 h3]
    try rfl
  · intro o2 q2 h2 h3
    rw [u_ne (by omega), gS_tal _ rfl h2 h3, gS_tal _ rfl h2 h3]
    try rfl
  · skip
    rw [u_ne (by omega), gS_lim _ rfl, gS_lim _ rfl]
    try rfl
  · skip
    rw [u_eq, gS_full _ rfl]
    simp [M_setK, M_setMem, M_setLim, M_setFull, M_setBack, M_setWr, K_setL, K_setV, K_setD, K_setT, K_setF, F_setC, F_setB, va_up, upd]
  · skip
    rw [u_ne (by omega), gS_back _ rfl, gS_back _ rfl]
    try rfl
  · skip
    rw [u_ne (by omega), gS_wr _ rfl, gS_wr _ rfl]
    try rfl
  · intro o2
    rw [u_ne (by omega), gS_stuck _ rfl, gS_stuck _ rfl]
    try rfl

theorem pS_back (v : MV) {k : Nat} (x : Int32) (h : k = 538)  : upd (encS v) k (x) = encS (M_setBack v x) := by
  rw [h]
  funext j
  revert j
  refine S_cases ?_ ?_ ?_ ?_ ?_ ?_ ?_ ?_ ?_ ?_ ?_ ?_
  · intro q2 h2
    rw [u_ne (by omega), gS_mem _ rfl h2, gS_mem _ rfl h2]
    try rfl
  · intro o2 q2 h2 h3
    rw [u_ne (by omega), gS_line _ rfl h2 h3, gS_line _ rfl h2 h3]
    try rfl
  · intro o2 q2 h2 h3
    rw [u_ne (by omega), gS_val _ rfl h2 h3, gS_val _ rfl h2 h3]
    try rfl
  · intro o2 q2 h2 h3
    rw [u_ne (by omega), gS_dirty _ rfl h2 h3, gS_dirty _ rfl h2 h3]
    try rfl
  · intro o2 q2 h2 h3
    rw [u_ne (by omega), gS_cnt _ rfl h2 h3, gS_cnt _ rfl h2 h3]
    try rfl
  · intro o2 q2 h2 h3
    rw [u_ne (by omega), gS_bit _ rfl h2 h3, gS_bit _ rfl h2 h3]
    try rfl
  · intro o2 q2 h2 h3
    rw [u_ne (by omega), gS_tal _ rfl h2 h3, gS_tal _ rfl h2 h3]
    try rfl
  · skip
    rw [u_ne (by omega), gS_lim _ rfl, gS_lim _ rfl]
    try rfl
  · skip
    rw [u_ne (by omega), gS_full _ rfl, gS_full _ rfl]
    try rfl
  · skip
    rw [u_eq, gS_back _ rfl]
    simp [M_setK, M_setMem, M_setLim, M_setFull, M_setBack, M_setWr, K_setL, K_setV, K_setD, K_setT, K_setF, F_setC, F_setB, va_up, upd]
  · skip
    rw [u_ne (by omega), gS_wr _ rfl, gS_wr _ rfl]
    try rfl
  · intro o2
    rw [u_ne (by omega), gS_stuck _ rfl, gS_stuck _ rfl]
    try rfl

theorem pS_wr (v : MV) {k : Nat} (x : Int32) (h : k = 539)  : upd (encS v) k (x) = encS (M_setWr v x) := by
  rw [h]
  funext j
  revert j
  refine S_cases ?_ ?_ ?_ ?_ ?_ ?_ ?_ ?_ ?_ ?_ ?_ ?_
  · intro q2 h2
    rw [u_ne (by omega), gS_mem _ rfl h2, gS_mem _ rfl h2]
    try rfl
  · intro o2 q2 h2 h3
    rw [u_ne (by omega), gS_line _ rfl h2 h3, gS_line _ rfl h2 h3]
    try rfl
  · intro o2 q2 h2 h3
    rw [u_ne (by omega), gS_val _ rfl h2 h3, gS_val _ rfl h2 h3]
    try rfl
  · intro o2 q2 h2 h3
    rw [u_ne (by omega), gS_dirty _ rfl h2 h3, gS_dirty _ rfl h2 h3]
    try rfl
  · intro o2 q2 h2 h3
    rw [u_ne (by omega), gS_cnt _ rfl h2 h3, gS_cnt _ rfl h2 h3]
    try rfl
  · intro o2 q2 h2 h3
    rw [u_ne (by omega), gS_bit _ rfl h2 h3, gS_bit _ rfl h2 h3]
    try rfl
  · intro o2 q2 h2 h3
    rw [u_ne (by omega), gS_tal _ rfl h2 h3, gS_tal _ rfl h2 h3]
    try rfl
  · skip
    rw [u_ne (by omega), gS_lim _ rfl, gS_lim _ rfl]
    try rfl
  · skip
    rw [u_ne (by omega), gS_full _ rfl, gS_full _ rfl]
    try rfl
  · skip
    rw [u_ne (by omega), gS_back _ rfl, gS_back _ rfl]
    try rfl
  · skip
    rw [u_eq, gS_wr _ rfl]
    simp [M_setK, M_setMem, M_setLim, M_setFull, M_setBack, M_setWr, K_setL, K_setV, K_setD, K_setT, K_setF, F_setC, F_setB, va_up, upd]
  · intro o2
    rw [u_ne (by omega), gS_stuck _ rfl, gS_stuck _ rfl]
    try rfl

theorem pS_stuck (v : MV) {k o : Nat} (x : Nat → Bool) (h : k = 540 + o) (ho : o < 4) : upd (encS v) k (mk x) = encS (M_setK v o (K_setF (v.2.1 o) ((v.2.1 o).2.2.2.2.1, x, (v.2.1 o).2.2.2.2.2.2))) := by
  rw [h]
  funext j
  revert j
  refine S_cases ?_ ?_ ?_ ?_ ?_ ?_ ?_ ?_ ?_ ?_ ?_ ?_
  · intro q2 h2
    rw [u_ne (by omega), gS_mem _ rfl h2, gS_mem _ rfl h2]
    try rfl
  · intro o2 q2 h2 h3
    rw [u_ne (by omega), gS_line _ rfl h2 h3, gS_line _ rfl h2 h3]
    by_cases e : o2 = o
    · subst e; simp [M_setK, M_setMem, M_setLim, M_setFull, M_setBack, M_setWr, K_setL, K_setV, K_setD, K_setT, K_setF, F_setC, F_setB, va_up, upd]
    · simp [M_setK, M_setMem, M_setLim, M_setFull, M_setBack, M_setWr, K_setL, K_setV, K_setD, K_setT, K_setF, F_setC, F_setB, va_up, upd, e]
  · intro o2 q2 h2 h3
    rw [u_ne (by omega), gS_val _ rfl h2 h3, gS_val _ rfl h2 h3]
    by_cases e : o2 = o
    · subst e; simp [M_setK, M_setMem, M_setLim, M_setFull, M_setBack, M_setWr, K_setL, K_setV, K_setD, K_setT, K_setF, F_setC, F_setB, va_up, upd]
    · simp [M_setK, M_setMem, M_setLim, M_setFull, M_setBack, M_setWr, K_setL, K_setV, K_setD, K_setT, K_setF, F_setC, F_setB, va_up, upd, e]
  · intro o2 q2 h2 h3
    rw [u_ne (by omega), gS_dirty _ rfl h2 h3, gS_dirty _ rfl h2 h3]
    by_cases e : o2 = o
    · subst e; simp [M_setK, M_setMem, M_setLim, M_setFull, M_setBack, M_setWr, K_setL, K_setV, K_setD, K_setT, K_setF, F_setC, F_setB, va_up, upd]
    · simp [M_setK, M_setMem, M_setLim, M_setFull, M_setBack, M_setWr, K_setL, K_setV, K_setD, K_setT, K_setF, F_setC, F_setB, va_up, upd, e]
  · intro o2 q2 h2 h3
    rw [u_ne (by omega), gS_cnt _ rfl h2 h3, gS_cnt _ rfl h2 h3]
    by_cases e : o2 = o
    · subst e; simp [M_setK, M_setMem, M_setLim, M_setFull, M_setBack, M_setWr, K_setL, K_setV, K_setD, K_setT, K_setF, F_setC, F_setB, va_up, upd]
    · simp [M_setK, M_setMem, M_setLim, M_setFull, M_setBack, M_setWr, K_setL, K_setV, K_setD, K_setT, K_setF, F_setC, F_setB, va_up, upd, e]
  · intro o2 q2 h2 h3
    rw [u_ne (by omega), gS_bit _ rfl h2 h3, gS_bit _ rfl h2 h3]
    by_cases e : o2 = o
    · subst e; simp [M_setK, M_setMem, M_setLim, M_setFull, M_setBack, M_setWr, K_setL, K_setV, K_setD, K_setT, K_setF, F_setC, F_setB, va_up, upd]
    · simp [M_setK, M_setMem, M_setLim, M_setFull, M_setBack, M_setWr, K_setL, K_setV, K_setD, K_setT, K_setF, F_setC, F_setB, va_up, upd, e]
  · intro o2 q2 h2 h3
    rw [u_ne (by omega), gS_tal _ rfl h2 h3, gS_tal _ rfl h2 h3]
    by_cases e : o2 = o
    · subst e; simp [M_setK, M_setMem, M_setLim, M_setFull, M_setBack, M_setWr, K_setL, K_setV, K_setD, K_setT, K_setF, F_setC, F_setB, va_up, upd]
    · simp [M_setK, M_setMem, M_setLim, M_setFull, M_setBack, M_setWr, K_setL, K_setV, K_setD, K_setT, K_setF, F_setC, F_setB, va_up, upd, e]
  · skip
    rw [u_ne (by omega), gS_lim _ rfl, gS_lim _ rfl]
    try rfl
  · skip
    rw [u_ne (by omega), gS_full _ rfl, gS_full _ rfl]
    try rfl
  · skip
    rw [u_ne (by omega), gS_back _ rfl, gS_back _ rfl]
    try rfl
  · skip
    rw [u_ne (by omega), gS_wr _ rfl, gS_wr _ rfl]
    try rfl
  · intro o2
    by_cases e : o2 = o
    · subst e; rw [u_eq, gS_stuck _ rfl]
      simp [M_setK, M_setMem, M_setLim, M_setFull, M_setBack, M_setWr, K_setL, K_setV, K_setD, K_setT, K_setF, F_setC, F_setB, va_up, upd]
    · rw [u_ne (by omega), gS_stuck _ rfl, gS_stuck _ rfl]
      simp [M_setK, M_setMem, M_setLim, M_setFull, M_setBack, M_setWr, K_setL, K_setV, K_setD, K_setT, K_setF, F_setC, F_setB, va_up, upd, e]
