/-! ===== what the methods do, in words: static ones, filters ===== -/
def cntF (t : Nat → Bool) : Nat → Int32 → Int32 := fun i x => if t i = true then x + 1 else x
def cntT (t : Nat → Bool) (n : Nat) : Int32 := it (cntF t) n 0
def S_within (x lo hi : Int32) : Bool := !decide (x < lo) && !decide (hi < x)
def F_raise (v : FV) (k : Nat) (lim : Int32) : FV := if v.2.1 k = true then v else if v.1 k < lim then F_setC v k (v.1 k + 1) else F_setS v k true
def F_lower (v : FV) (k : Nat) : FV := if v.2.1 k = true then v else if v.1 k ≤ 0 then v else F_setC v k (v.1 k - 1)
def F_add (v : FV) (n : Nat) (lim : Int32) : FV := F_raise (F_raise (F_setB v (n / 16) true) (n % 24) lim) ((7 * n + 5) % 24) lim
def F_remove (v : FV) (n : Nat) : FV := F_lower (F_lower v (n % 24)) ((7 * n + 5) % 24)
def F_may (v : FV) (n : Nat) : Bool := v.2.2 (n / 16) && (!decide (v.1 (n % 24) ≤ 0) && !decide (v.1 ((7 * n + 5) % 24) ≤ 0))
def F_aboveF (v : FV) : Nat → Int32 → Int32 := fun i x => if v.1 i ≤ 0 then x else x + 1
def F_above (v : FV) : Int32 := it (F_aboveF v) 24 0
def F_w1 : Nat → FV → FV := fun i u => F_setS (F_setC u i 0) i false
def F_w2 : Nat → FV → FV := fun i u => F_setB u i false
def F_wipe (v : FV) : FV := it F_w2 16 (it F_w1 24 v)
set_option maxHeartbeats 4000000 in
set_option maxRecDepth 100000 in
theorem c_X1_firstCounter (l : Launch) (E : ET) (sz : Nat) (n : Nat) (hn : n < 256) : Met l yX1_firstCounter wsX1_firstCounter ({ frames := 0, cells := 0, slots := 0, locals := 0 }) (mPc E [.int (nI (n))] sz ([])) (mQi E (nI (n % 24)) ([]) ([]) sz) 0 0 (va_A ([]) sz) := by
  refine v_start (cc := cX1_firstCounter) (maxL := 1) (ret := (some .int)) (by decide) rfl (Nat.le_of_ble_eq_true rfl) rfl ?_
  intro p e s m args below meth c hsz hr hX
  have hX : Xc p s m args meth c E 1 (va_A ([]) sz) cX1_firstCounter RX1 wsX1_firstCounter := hX
  refine v_iload_n hX dX1_firstCounter_0 rfl ?_
  refine v_bipush (x := (24 : Int32)) hX dX1_firstCounter_1 (by decide) ?_
  refine v_irem (z := nI ((n) % 24)) hX dX1_firstCounter_3 (by decide) (rem_c (n) 24 (by omega) (by decide) (by decide)) ?_
  exact v_iret hX hr hsz dX1_firstCounter_4 rfl rfl (by (first | rfl | (simp only [if_true, if_false, reduceIte, Bool.false_eq_true, reduceCtorEq, decide_true, decide_false, Bool.and_true, Bool.and_false, Bool.true_and, Bool.false_and, Bool.or_true, Bool.or_false, Bool.true_or, Bool.false_or, not_true_eq_false, not_false_eq_true, Bool.not_true, Bool.not_false, eq_self, Nat.reduceEqDiff]; done) | (simp only [if_true, if_false, reduceIte, Bool.false_eq_true, reduceCtorEq, decide_true, decide_false, Bool.and_true, Bool.and_false, Bool.true_and, Bool.false_and, Bool.or_true, Bool.or_false, Bool.true_or, Bool.false_or, not_true_eq_false, not_false_eq_true, Bool.not_true, Bool.not_false, eq_self, Nat.reduceEqDiff]; rfl) | contradiction | (exfalso; omega))) rfl
set_option maxHeartbeats 4000000 in
set_option maxRecDepth 100000 in
theorem c_X1_secondCounter (l : Launch) (E : ET) (sz : Nat) (n : Nat) (hn : n < 256) : Met l yX1_secondCounter wsX1_secondCounter ({ frames := 0, cells := 0, slots := 0, locals := 0 }) (mPc E [.int (nI (n))] sz ([])) (mQi E (nI ((7 * n + 5) % 24)) ([]) ([]) sz) 0 0 (va_A ([]) sz) := by
  refine v_start (cc := cX1_secondCounter) (maxL := 1) (ret := (some .int)) (by decide) rfl (Nat.le_of_ble_eq_true rfl) rfl ?_
  intro p e s m args below meth c hsz hr hX
  have hX : Xc p s m args meth c E 1 (va_A ([]) sz) cX1_secondCounter RX1 wsX1_secondCounter := hX
  refine v_bipush (x := (7 : Int32)) hX dX1_secondCounter_0 (by decide) ?_
  refine v_iload_n hX dX1_secondCounter_2 rfl ?_
  refine v_imul (z := nI (7 * n)) hX dX1_secondCounter_3 (pk_mul 7 n) ?_
  refine v_iconst (x := (5 : Int32)) hX dX1_secondCounter_4 (by decide) ?_
  refine v_iadd (z := nI ((7 * n) + 5)) hX dX1_secondCounter_5 (nI_add (7 * n) 5) ?_
  refine v_bipush (x := (24 : Int32)) hX dX1_secondCounter_6 (by decide) ?_
  refine v_irem (z := nI (((7 * n) + 5) % 24)) hX dX1_secondCounter_8 (by decide) (rem_c ((7 * n) + 5) 24 (by omega) (by decide) (by decide)) ?_
  exact v_iret hX hr hsz dX1_secondCounter_9 rfl rfl (by (first | rfl | (simp only [if_true, if_false, reduceIte, Bool.false_eq_true, reduceCtorEq, decide_true, decide_false, Bool.and_true, Bool.and_false, Bool.true_and, Bool.false_and, Bool.or_true, Bool.or_false, Bool.true_or, Bool.false_or, not_true_eq_false, not_false_eq_true, Bool.not_true, Bool.not_false, eq_self, Nat.reduceEqDiff]; done) | (simp only [if_true, if_false, reduceIte, Bool.false_eq_true, reduceCtorEq, decide_true, decide_false, Bool.and_true, Bool.and_false, Bool.true_and, Bool.false_and, Bool.or_true, Bool.or_false, Bool.true_or, Bool.false_or, not_true_eq_false, not_false_eq_true, Bool.not_true, Bool.not_false, eq_self, Nat.reduceEqDiff]; rfl) | contradiction | (exfalso; omega))) rfl
set_option maxHeartbeats 4000000 in
set_option maxRecDepth 100000 in
theorem c_X0_placeOf (l : Launch) (E : ET) (sz : Nat) (n : Nat) (hn : n < 256) : Met l yX0_placeOf wsX0_placeOf ({ frames := 0, cells := 0, slots := 0, locals := 0 }) (mPc E [.int (nI (n))] sz ([])) (mQi E (nI (n % 8)) ([]) ([]) sz) 0 0 (va_A ([]) sz) := by
  refine v_start (cc := cX0_placeOf) (maxL := 1) (ret := (some .int)) (by decide) rfl (Nat.le_of_ble_eq_true rfl) rfl ?_
  intro p e s m args below meth c hsz hr hX
  have hX : Xc p s m args meth c E 1 (va_A ([]) sz) cX0_placeOf RX0 wsX0_placeOf := hX
  refine v_iload_n hX dX0_placeOf_0 rfl ?_
  refine v_bipush (x := (8 : Int32)) hX dX0_placeOf_1 (by decide) ?_
  refine v_irem (z := nI ((n) % 8)) hX dX0_placeOf_3 (by decide) (rem_c (n) 8 (by omega) (by decide) (by decide)) ?_
  exact v_iret hX hr hsz dX0_placeOf_4 rfl rfl (by (first | rfl | (simp only [if_true, if_false, reduceIte, Bool.false_eq_true, reduceCtorEq, decide_true, decide_false, Bool.and_true, Bool.and_false, Bool.true_and, Bool.false_and, Bool.or_true, Bool.or_false, Bool.true_or, Bool.false_or, not_true_eq_false, not_false_eq_true, Bool.not_true, Bool.not_false, eq_self, Nat.reduceEqDiff]; done) | (simp only [if_true, if_false, reduceIte, Bool.false_eq_true, reduceCtorEq, decide_true, decide_false, Bool.and_true, Bool.and_false, Bool.true_and, Bool.false_and, Bool.or_true, Bool.or_false, Bool.true_or, Bool.false_or, not_true_eq_false, not_false_eq_true, Bool.not_true, Bool.not_false, eq_self, Nat.reduceEqDiff]; rfl) | contradiction | (exfalso; omega))) rfl
set_option maxHeartbeats 4000000 in
set_option maxRecDepth 100000 in
theorem c_X5_isWithin (l : Launch) (E : ET) (sz : Nat) (x : Int32) (lo : Int32) (hi : Int32) : Met l yX5_isWithin wsX5_isWithin ({ frames := 0, cells := 0, slots := 0, locals := 0 }) (mPc E [.int (x), .int (lo), .int (hi)] sz ([])) (mQi E (bI (S_within x lo hi)) ([]) ([]) sz) 0 0 (va_A ([]) sz) := by
  refine v_start (cc := cX5_isWithin) (maxL := 3) (ret := (some .boolean)) (by decide) rfl (Nat.le_of_ble_eq_true rfl) rfl ?_
  intro p e s m args below meth c hsz hr hX
  have hX : Xc p s m args meth c E 3 (va_A ([]) sz) cX5_isWithin RX5 wsX5_isWithin := hX
  refine v_iload_n hX dX5_isWithin_0 rfl ?_
  refine v_iload_n hX dX5_isWithin_1 rfl ?_
  refine v_icmp_lt (tgt := 14) hX dX5_isWithin_2 (by decide) (fun c1 => ?_) (fun c1 => ?_)
  · refine v_iconst (x := (0 : Int32)) hX dX5_isWithin_14 (by decide) ?_
    exact v_zret hX hr hsz dX5_isWithin_15 rfl rfl (bI_narrow (false)) (congrArg bI (by (first | rfl | (simp only [S_within, c1, if_true, if_false, reduceIte, Bool.false_eq_true, reduceCtorEq, decide_true, decide_false, Bool.and_true, Bool.and_false, Bool.true_and, Bool.false_and, Bool.or_true, Bool.or_false, Bool.true_or, Bool.false_or, not_true_eq_false, not_false_eq_true, Bool.not_true, Bool.not_false, eq_self, Nat.reduceEqDiff]; done) | (simp only [S_within, c1, if_true, if_false, reduceIte, Bool.false_eq_true, reduceCtorEq, decide_true, decide_false, Bool.and_true, Bool.and_false, Bool.true_and, Bool.false_and, Bool.or_true, Bool.or_false, Bool.true_or, Bool.false_or, not_true_eq_false, not_false_eq_true, Bool.not_true, Bool.not_false, eq_self, Nat.reduceEqDiff]; rfl) | contradiction | (exfalso; omega)) : false = S_within x lo hi)) rfl
  · refine v_iload_n hX dX5_isWithin_5 rfl ?_
    refine v_iload_n hX dX5_isWithin_6 rfl ?_
    refine v_icmp_gt (tgt := 14) hX dX5_isWithin_7 (by decide) (fun c2 => ?_) (fun c2 => ?_)
    · refine v_iconst (x := (0 : Int32)) hX dX5_isWithin_14 (by decide) ?_
      exact v_zret hX hr hsz dX5_isWithin_15 rfl rfl (bI_narrow (false)) (congrArg bI (by (first | rfl | (simp only [S_within, c1, c2, if_true, if_false, reduceIte, Bool.false_eq_true, reduceCtorEq, decide_true, decide_false, Bool.and_true, Bool.and_false, Bool.true_and, Bool.false_and, Bool.or_true, Bool.or_false, Bool.true_or, Bool.false_or, not_true_eq_false, not_false_eq_true, Bool.not_true, Bool.not_false, eq_self, Nat.reduceEqDiff]; done) | (simp only [S_within, c1, c2, if_true, if_false, reduceIte, Bool.false_eq_true, reduceCtorEq, decide_true, decide_false, Bool.and_true, Bool.and_false, Bool.true_and, Bool.false_and, Bool.or_true, Bool.or_false, Bool.true_or, Bool.false_or, not_true_eq_false, not_false_eq_true, Bool.not_true, Bool.not_false, eq_self, Nat.reduceEqDiff]; rfl) | contradiction | (exfalso; omega)) : false = S_within x lo hi)) rfl
    · refine v_iconst (x := (1 : Int32)) hX dX5_isWithin_10 (by decide) ?_
      refine v_goto (tgt := 15) hX dX5_isWithin_11 (by decide) ?_
      exact v_zret hX hr hsz dX5_isWithin_15 rfl rfl (bI_narrow (true)) (congrArg bI (by (first | rfl | (simp only [S_within, c1, c2, if_true, if_false, reduceIte, Bool.false_eq_true, reduceCtorEq, decide_true, decide_false, Bool.and_true, Bool.and_false, Bool.true_and, Bool.false_and, Bool.or_true, Bool.or_false, Bool.true_or, Bool.false_or, not_true_eq_false, not_false_eq_true, Bool.not_true, Bool.not_false, eq_self, Nat.reduceEqDiff]; done) | (simp only [S_within, c1, c2, if_true, if_false, reduceIte, Bool.false_eq_true, reduceCtorEq, decide_true, decide_false, Bool.and_true, Bool.and_false, Bool.true_and, Bool.false_and, Bool.or_true, Bool.or_false, Bool.true_or, Bool.false_or, not_true_eq_false, not_false_eq_true, Bool.not_true, Bool.not_false, eq_self, Nat.reduceEqDiff]; rfl) | contradiction | (exfalso; omega)) : true = S_within x lo hi)) rfl
set_option maxHeartbeats 4000000 in
set_option maxRecDepth 100000 in
theorem c_X5_isCore (l : Launch) (E : ET) (sz : Nat) (x : Int32) : Met l yX5_isCore wsX5_isCore ({ frames := 1, cells := 0, slots := 0, locals := 22 }) (mPc E [.int (x)] sz ([])) (mQi E (bI (S_within x (0 : Int32) (3 : Int32))) ([]) ([]) sz) 0 0 (va_A ([]) sz) := by
  refine v_start (cc := cX5_isCore) (maxL := 1) (ret := (some .boolean)) (by decide) rfl (Nat.le_of_ble_eq_true rfl) rfl ?_
  intro p e s m args below meth c hsz hr hX
  have hX : Xc p s m args meth c E 1 (va_A ([]) sz) cX5_isCore RX5 wsX5_isCore := hX
  refine v_iload_n hX dX5_isCore_0 rfl ?_
  refine v_iconst (x := (0 : Int32)) hX dX5_isCore_1 (by decide) ?_
  refine v_iconst (x := (3 : Int32)) hX dX5_isCore_2 (by decide) ?_
  refine v_callSi (r := bI (S_within x (0 : Int32) (3 : Int32))) (rest := []) (ws' := []) hX (fun sz => c_X5_isWithin l E sz x (0 : Int32) (3 : Int32)) (va_cwS 3 hX.2.2.2.2.1 gX5_isCore_X5_isWithin rfl rfl rfl (by decide +kernel) ⟨Nat.le_of_ble_eq_true rfl, Nat.le_of_ble_eq_true rfl⟩) ([]) ([]) (rfl) rfl (rfl) rfl rfl (Nat.le_of_ble_eq_true rfl) dX5_isCore_3 ?_
  exact v_zret hX hr hsz dX5_isCore_6 rfl rfl (bI_narrow (S_within x (0 : Int32) (3 : Int32))) rfl rfl
set_option maxHeartbeats 4000000 in
set_option maxRecDepth 100000 in
theorem c_X5_isLine (l : Launch) (E : ET) (sz : Nat) (x : Int32) : Met l yX5_isLine wsX5_isLine ({ frames := 1, cells := 0, slots := 0, locals := 22 }) (mPc E [.int (x)] sz ([])) (mQi E (bI (S_within x (0 : Int32) (255 : Int32))) ([]) ([]) sz) 0 0 (va_A ([]) sz) := by
  refine v_start (cc := cX5_isLine) (maxL := 1) (ret := (some .boolean)) (by decide) rfl (Nat.le_of_ble_eq_true rfl) rfl ?_
  intro p e s m args below meth c hsz hr hX
  have hX : Xc p s m args meth c E 1 (va_A ([]) sz) cX5_isLine RX5 wsX5_isLine := hX
  refine v_iload_n hX dX5_isLine_0 rfl ?_
  refine v_iconst (x := (0 : Int32)) hX dX5_isLine_1 (by decide) ?_
  refine v_sipush (x := (255 : Int32)) hX dX5_isLine_2 (by decide) ?_
  refine v_callSi (r := bI (S_within x (0 : Int32) (255 : Int32))) (rest := []) (ws' := []) hX (fun sz => c_X5_isWithin l E sz x (0 : Int32) (255 : Int32)) (va_cwS 3 hX.2.2.2.2.1 gX5_isLine_X5_isWithin rfl rfl rfl (by decide +kernel) ⟨Nat.le_of_ble_eq_true rfl, Nat.le_of_ble_eq_true rfl⟩) ([]) ([]) (rfl) rfl (rfl) rfl rfl (Nat.le_of_ble_eq_true rfl) dX5_isLine_5 ?_
  exact v_zret hX hr hsz dX5_isLine_8 rfl rfl (bI_narrow (S_within x (0 : Int32) (255 : Int32))) rfl rfl
set_option maxHeartbeats 4000000 in
set_option maxRecDepth 100000 in
theorem c_X1_raise (l : Launch) (E : ET) (a : Nat → Nat) (sz : Nat) (v : FV) (k : Nat) (hk : k < 24) (lim : Int32) : Met l yX1_raise wsX1_raise ({ frames := 0, cells := 0, slots := 0, locals := 0 }) (mPc E [.ref (a 0), .int (nI (k)), .int (lim)] sz (wF E a v)) (mQv E (wF E a v) (wF E a (F_raise v k lim)) sz) 0 0 (va_A (wF E a v) sz) := by
  refine v_start (cc := cX1_raise) (maxL := 3) (ret := none) (by decide) rfl (Nat.le_of_ble_eq_true rfl) rfl ?_
  intro p e s m args below meth c hsz hr hX
  have hX : Xc p s m args meth c E 3 (va_A (wF E a v) sz) cX1_raise RX1 wsX1_raise := hX
  have in_X1 : ∀ w ∈ u_ws RX1 TX1 3, w ∈ wsX1_raise := by decide +kernel
  have fl_15 : Cond.fieldLink RX1 15 RX1 "stuck" "[Z" ∈ wsX1_raise := by decide +kernel
  have fl_9 : Cond.fieldLink RX1 9 RX1 "counters" "[I" ∈ wsX1_raise := by decide +kernel
  refine v_aload_n hX dX1_raise_0 rfl ?_
  refine v_get (C := RX1) (T := TX1) (N := 3) (ci := 1) (v := .ref (a 2)) hX in_X1 0 rfl rfl 1 (by decide) fl_15 rfl rfl dX1_raise_1 ?_
  refine v_iload_n hX dX1_raise_4 rfl ?_
  refine v_zald (z := bI (v.2.1 (k))) hX 2 rfl (vp_in_nI (by omega : k < 24) (by omega)) (by simp only [nI_clamp (show k < 2 ^ 31 by omega)]) dX1_raise_5 ?_
  refine v_if_eq (tgt := 10) hX dX1_raise_6 (by decide) (fun c1 => ?_) (fun c1 => ?_)
  · replace c1 := bI_0.mp c1
    refine v_aload_n hX dX1_raise_10 rfl ?_
    refine v_get (C := RX1) (T := TX1) (N := 3) (ci := 1) (v := .ref (a 1)) hX in_X1 0 rfl rfl 0 (by decide) fl_9 rfl rfl dX1_raise_11 ?_
    refine v_iload_n hX dX1_raise_14 rfl ?_
    refine v_iald (z := v.1 (k)) hX 1 rfl (vp_in_nI (by omega : k < 24) (by omega)) (by simp only [nI_clamp (show k < 2 ^ 31 by omega)]) dX1_raise_15 ?_
    refine v_iload_n hX dX1_raise_16 rfl ?_
    refine v_icmp_lt (tgt := 30) hX dX1_raise_17 (by decide) (fun c2 => ?_) (fun c2 => ?_)
    · refine v_aload_n hX dX1_raise_30 rfl ?_
      refine v_get (C := RX1) (T := TX1) (N := 3) (ci := 1) (v := .ref (a 1)) hX in_X1 0 rfl rfl 0 (by decide) fl_9 rfl rfl dX1_raise_31 ?_
      refine v_iload_n hX dX1_raise_34 rfl ?_
      refine v_dup2 hX dX1_raise_35 rfl rfl ?_
      refine v_iald (z := v.1 (k)) hX 1 rfl (vp_in_nI (by omega : k < 24) (by omega)) (by simp only [nI_clamp (show k < 2 ^ 31 by omega)]) dX1_raise_36 ?_
      refine v_iconst (x := (1 : Int32)) hX dX1_raise_37 (by decide) ?_
      refine v_iadd (z := (v.1 (k) + (1 : Int32))) hX dX1_raise_38 (rfl) ?_
      obtain ⟨v3, hv3⟩ : ∃ z_ : FV, z_ = F_setC v (k) ((v.1 (k) + (1 : Int32))) := ⟨_, rfl⟩
      refine v_iast (ws' := wF E a v3) hX 1 rfl (vp_in_nI (by omega : k < 24) (by omega)) (by rw [hv3]; exact sF_C E a v (k := k) (by omega) _) dX1_raise_39 ?_
      exact v_vret hX hr hsz dX1_raise_40 rfl rfl (by (subst hv3; first | rfl | (simp only [F_raise, c1, c2, if_true, if_false, reduceIte, Bool.false_eq_true, reduceCtorEq, decide_true, decide_false, Bool.and_true, Bool.and_false, Bool.true_and, Bool.false_and, Bool.or_true, Bool.or_false, Bool.true_or, Bool.false_or, not_true_eq_false, not_false_eq_true, Bool.not_true, Bool.not_false, eq_self, Nat.reduceEqDiff]; done) | (simp only [F_raise, c1, c2, if_true, if_false, reduceIte, Bool.false_eq_true, reduceCtorEq, decide_true, decide_false, Bool.and_true, Bool.and_false, Bool.true_and, Bool.false_and, Bool.or_true, Bool.or_false, Bool.true_or, Bool.false_or, not_true_eq_false, not_false_eq_true, Bool.not_true, Bool.not_false, eq_self, Nat.reduceEqDiff]; rfl) | contradiction | (exfalso; omega)))
    · refine v_aload_n hX dX1_raise_20 rfl ?_
      refine v_get (C := RX1) (T := TX1) (N := 3) (ci := 1) (v := .ref (a 2)) hX in_X1 0 rfl rfl 1 (by decide) fl_15 rfl rfl dX1_raise_21 ?_
      refine v_iload_n hX dX1_raise_24 rfl ?_
      refine v_iconst (x := (1 : Int32)) hX dX1_raise_25 (by decide) ?_
      obtain ⟨v4, hv4⟩ : ∃ z_ : FV, z_ = F_setS v (k) (true) := ⟨_, rfl⟩
      refine v_zast (ws' := wF E a v4) hX 2 rfl (vp_in_nI (by omega : k < 24) (by omega)) (by rw [hv4]; exact sF_S E a v (k := k) (by omega) (true)) dX1_raise_26 ?_
      refine v_goto (tgt := 40) hX dX1_raise_27 (by decide) ?_
      exact v_vret hX hr hsz dX1_raise_40 rfl rfl (by (subst hv4; first | rfl | (simp only [F_raise, c1, c2, if_true, if_false, reduceIte, Bool.false_eq_true, reduceCtorEq, decide_true, decide_false, Bool.and_true, Bool.and_false, Bool.true_and, Bool.false_and, Bool.or_true, Bool.or_false, Bool.true_or, Bool.false_or, not_true_eq_false, not_false_eq_true, Bool.not_true, Bool.not_false, eq_self, Nat.reduceEqDiff]; done) | (simp only [F_raise, c1, c2, if_true, if_false, reduceIte, Bool.false_eq_true, reduceCtorEq, decide_true, decide_false, Bool.and_true, Bool.and_false, Bool.true_and, Bool.false_and, Bool.or_true, Bool.or_false, Bool.true_or, Bool.false_or, not_true_eq_false, not_false_eq_true, Bool.not_true, Bool.not_false, eq_self, Nat.reduceEqDiff]; rfl) | contradiction | (exfalso; omega)))
  · replace c1 := bI_n0.mp c1
    exact v_vret hX hr hsz dX1_raise_9 rfl rfl (by (first | rfl | (simp only [F_raise, c1, if_true, if_false, reduceIte, Bool.false_eq_true, reduceCtorEq, decide_true, decide_false, Bool.and_true, Bool.and_false, Bool.true_and, Bool.false_and, Bool.or_true, Bool.or_false, Bool.true_or, Bool.false_or, not_true_eq_false, not_false_eq_true, Bool.not_true, Bool.not_false, eq_self, Nat.reduceEqDiff]; done) | (simp only [F_raise, c1, if_true, if_false, reduceIte, Bool.false_eq_true, reduceCtorEq, decide_true, decide_false, Bool.and_true, Bool.and_false, Bool.true_and, Bool.false_and, Bool.or_true, Bool.or_false, Bool.true_or, Bool.false_or, not_true_eq_false, not_false_eq_true, Bool.not_true, Bool.not_false, eq_self, Nat.reduceEqDiff]; rfl) | contradiction | (exfalso; omega)))
set_option maxHeartbeats 4000000 in
set_option maxRecDepth 100000 in
theorem c_X1_lower (l : Launch) (E : ET) (a : Nat → Nat) (sz : Nat) (v : FV) (k : Nat) (hk : k < 24) : Met l yX1_lower wsX1_lower ({ frames := 0, cells := 0, slots := 0, locals := 0 }) (mPc E [.ref (a 0), .int (nI (k))] sz (wF E a v)) (mQv E (wF E a v) (wF E a (F_lower v k)) sz) 0 0 (va_A (wF E a v) sz) := by
  refine v_start (cc := cX1_lower) (maxL := 2) (ret := none) (by decide) rfl (Nat.le_of_ble_eq_true rfl) rfl ?_
  intro p e s m args below meth c hsz hr hX
  have hX : Xc p s m args meth c E 2 (va_A (wF E a v) sz) cX1_lower RX1 wsX1_lower := hX
  have in_X1 : ∀ w ∈ u_ws RX1 TX1 3, w ∈ wsX1_lower := by decide +kernel
  have fl_15 : Cond.fieldLink RX1 15 RX1 "stuck" "[Z" ∈ wsX1_lower := by decide +kernel
  have fl_9 : Cond.fieldLink RX1 9 RX1 "counters" "[I" ∈ wsX1_lower := by decide +kernel
  refine v_aload_n hX dX1_lower_0 rfl ?_
  refine v_get (C := RX1) (T := TX1) (N := 3) (ci := 1) (v := .ref (a 2)) hX in_X1 0 rfl rfl 1 (by decide) fl_15 rfl rfl dX1_lower_1 ?_
  refine v_iload_n hX dX1_lower_4 rfl ?_
  refine v_zald (z := bI (v.2.1 (k))) hX 2 rfl (vp_in_nI (by omega : k < 24) (by omega)) (by simp only [nI_clamp (show k < 2 ^ 31 by omega)]) dX1_lower_5 ?_
  refine v_if_ne (tgt := 28) hX dX1_lower_6 (by decide) (fun c1 => ?_) (fun c1 => ?_)
  · replace c1 := bI_n0.mp c1
    exact v_vret hX hr hsz dX1_lower_28 rfl rfl (by (first | rfl | (simp only [F_lower, c1, if_true, if_false, reduceIte, Bool.false_eq_true, reduceCtorEq, decide_true, decide_false, Bool.and_true, Bool.and_false, Bool.true_and, Bool.false_and, Bool.or_true, Bool.or_false, Bool.true_or, Bool.false_or, not_true_eq_false, not_false_eq_true, Bool.not_true, Bool.not_false, eq_self, Nat.reduceEqDiff]; done) | (simp only [F_lower, c1, if_true, if_false, reduceIte, Bool.false_eq_true, reduceCtorEq, decide_true, decide_false, Bool.and_true, Bool.and_false, Bool.true_and, Bool.false_and, Bool.or_true, Bool.or_false, Bool.true_or, Bool.false_or, not_true_eq_false, not_false_eq_true, Bool.not_true, Bool.not_false, eq_self, Nat.reduceEqDiff]; rfl) | contradiction | (exfalso; omega)))
  · replace c1 := bI_0.mp c1
    refine v_aload_n hX dX1_lower_9 rfl ?_
    refine v_get (C := RX1) (T := TX1) (N := 3) (ci := 1) (v := .ref (a 1)) hX in_X1 0 rfl rfl 0 (by decide) fl_9 rfl rfl dX1_lower_10 ?_
    refine v_iload_n hX dX1_lower_13 rfl ?_
    refine v_iald (z := v.1 (k)) hX 1 rfl (vp_in_nI (by omega : k < 24) (by omega)) (by simp only [nI_clamp (show k < 2 ^ 31 by omega)]) dX1_lower_14 ?_
    refine v_if_le (tgt := 28) hX dX1_lower_15 (by decide) (fun c2 => ?_) (fun c2 => ?_)
    · exact v_vret hX hr hsz dX1_lower_28 rfl rfl (by (first | rfl | (simp only [F_lower, c1, c2, if_true, if_false, reduceIte, Bool.false_eq_true, reduceCtorEq, decide_true, decide_false, Bool.and_true, Bool.and_false, Bool.true_and, Bool.false_and, Bool.or_true, Bool.or_false, Bool.true_or, Bool.false_or, not_true_eq_false, not_false_eq_true, Bool.not_true, Bool.not_false, eq_self, Nat.reduceEqDiff]; done) | (simp only [F_lower, c1, c2, if_true, if_false, reduceIte, Bool.false_eq_true, reduceCtorEq, decide_true, decide_false, Bool.and_true, Bool.and_false, Bool.true_and, Bool.false_and, Bool.or_true, Bool.or_false, Bool.true_or, Bool.false_or, not_true_eq_false, not_false_eq_true, Bool.not_true, Bool.not_false, eq_self, Nat.reduceEqDiff]; rfl) | contradiction | (exfalso; omega)))
    · refine v_aload_n hX dX1_lower_18 rfl ?_
      refine v_get (C := RX1) (T := TX1) (N := 3) (ci := 1) (v := .ref (a 1)) hX in_X1 0 rfl rfl 0 (by decide) fl_9 rfl rfl dX1_lower_19 ?_
      refine v_iload_n hX dX1_lower_22 rfl ?_
      refine v_dup2 hX dX1_lower_23 rfl rfl ?_
      refine v_iald (z := v.1 (k)) hX 1 rfl (vp_in_nI (by omega : k < 24) (by omega)) (by simp only [nI_clamp (show k < 2 ^ 31 by omega)]) dX1_lower_24 ?_
      refine v_iconst (x := (1 : Int32)) hX dX1_lower_25 (by decide) ?_
      refine v_isub (z := (v.1 (k) - (1 : Int32))) hX dX1_lower_26 (rfl) ?_
      obtain ⟨v3, hv3⟩ : ∃ z_ : FV, z_ = F_setC v (k) ((v.1 (k) - (1 : Int32))) := ⟨_, rfl⟩
      refine v_iast (ws' := wF E a v3) hX 1 rfl (vp_in_nI (by omega : k < 24) (by omega)) (by rw [hv3]; exact sF_C E a v (k := k) (by omega) _) dX1_lower_27 ?_
      exact v_vret hX hr hsz dX1_lower_28 rfl rfl (by (subst hv3; first | rfl | (simp only [F_lower, c1, c2, if_true, if_false, reduceIte, Bool.false_eq_true, reduceCtorEq, decide_true, decide_false, Bool.and_true, Bool.and_false, Bool.true_and, Bool.false_and, Bool.or_true, Bool.or_false, Bool.true_or, Bool.false_or, not_true_eq_false, not_false_eq_true, Bool.not_true, Bool.not_false, eq_self, Nat.reduceEqDiff]; done) | (simp only [F_lower, c1, c2, if_true, if_false, reduceIte, Bool.false_eq_true, reduceCtorEq, decide_true, decide_false, Bool.and_true, Bool.and_false, Bool.true_and, Bool.false_and, Bool.or_true, Bool.or_false, Bool.true_or, Bool.false_or, not_true_eq_false, not_false_eq_true, Bool.not_true, Bool.not_false, eq_self, Nat.reduceEqDiff]; rfl) | contradiction | (exfalso; omega)))
set_option maxHeartbeats 4000000 in
set_option maxRecDepth 100000 in
theorem c_X1_add (l : Launch) (E : ET) (a : Nat → Nat) (sz : Nat) (v : FV) (n : Nat) (hn : n < 256) (lim : Int32) : Met l yX1_add wsX1_add ({ frames := 1, cells := 0, slots := 0, locals := 22 }) (mPc E [.ref (a 0), .int (nI (n)), .int (lim)] sz (wF E a v)) (mQv E (wF E a v) (wF E a (F_add v n lim)) sz) 0 0 (va_A (wF E a v) sz) := by
  refine v_start (cc := cX1_add) (maxL := 3) (ret := none) (by decide) rfl (Nat.le_of_ble_eq_true rfl) rfl ?_
  intro p e s m args below meth c hsz hr hX
  have hX : Xc p s m args meth c E 3 (va_A (wF E a v) sz) cX1_add RX1 wsX1_add := hX
  have in_X1 : ∀ w ∈ u_ws RX1 TX1 3, w ∈ wsX1_add := by decide +kernel
  have fl_19 : Cond.fieldLink RX1 19 RX1 "bits" "[Z" ∈ wsX1_add := by decide +kernel
  refine v_aload_n hX dX1_add_0 rfl ?_
  refine v_get (C := RX1) (T := TX1) (N := 3) (ci := 1) (v := .ref (a 3)) hX in_X1 0 rfl rfl 2 (by decide) fl_19 rfl rfl dX1_add_1 ?_
  refine v_iload_n hX dX1_add_4 rfl ?_
  refine v_bipush (x := (16 : Int32)) hX dX1_add_5 (by decide) ?_
  refine v_idiv (z := nI ((n) / 16)) hX dX1_add_7 (by decide) (div_c (n) 16 (by omega) (by decide) (by decide)) ?_
  refine v_iconst (x := (1 : Int32)) hX dX1_add_8 (by decide) ?_
  obtain ⟨v1, hv1⟩ : ∃ z_ : FV, z_ = F_setB v ((n) / 16) (true) := ⟨_, rfl⟩
  refine v_zast (ws' := wF E a v1) hX 3 rfl (vp_in_nI (by omega : (n) / 16 < 16) (by omega)) (by rw [hv1]; exact sF_B E a v (k := (n) / 16) (by omega) (true)) dX1_add_9 ?_
  refine v_aload_n hX dX1_add_10 rfl ?_
  refine v_iload_n hX dX1_add_11 rfl ?_
  refine v_callSi (r := nI (n % 24)) (rest := [.ref (a 0)]) (ws' := wF E a v1) hX (fun sz => c_X1_firstCounter l E sz n (by first | omega | exact Nat.le_of_ble_eq_true rfl | assumption | decide)) (va_cwS 1 hX.2.2.2.2.1 gX1_add_X1_firstCounter rfl rfl rfl (by decide +kernel) ⟨Nat.le_of_ble_eq_true rfl, Nat.le_of_ble_eq_true rfl⟩) ([]) (wF E a v1) (rfl) rfl (rfl) rfl rfl (Nat.le_of_ble_eq_true rfl) dX1_add_12 ?_
  refine v_iload_n hX dX1_add_15 rfl ?_
  obtain ⟨v2, hv2⟩ : ∃ z_ : FV, z_ = F_raise v1 (n % 24) lim := ⟨_, rfl⟩
  refine v_callVv (rest := []) (ws' := wF E a v2) hX (fun sz => c_X1_raise l E a sz v1 (n % 24) (by first | omega | exact Nat.le_of_ble_eq_true rfl | assumption | decide) lim) (cwV 2 hX.2.2.2.2.1 gX1_add_X1_raise rfl rfl rfl (by decide +kernel) ⟨Nat.le_of_ble_eq_true rfl, Nat.le_of_ble_eq_true rfl⟩) ([]) ([]) ((List.append_nil _).symm) (by rw [hv2]; exact List.append_nil _) (wF_fst E a _ _) (ci := 1) (q0 := 0) rfl rfl rfl rfl rfl (Nat.le_of_ble_eq_true rfl) dX1_add_16 ?_
  refine v_aload_n hX dX1_add_19 rfl ?_
  refine v_iload_n hX dX1_add_20 rfl ?_
  refine v_callSi (r := nI ((7 * n + 5) % 24)) (rest := [.ref (a 0)]) (ws' := wF E a v2) hX (fun sz => c_X1_secondCounter l E sz n (by first | omega | exact Nat.le_of_ble_eq_true rfl | assumption | decide)) (va_cwS 1 hX.2.2.2.2.1 gX1_add_X1_secondCounter rfl rfl rfl (by decide +kernel) ⟨Nat.le_of_ble_eq_true rfl, Nat.le_of_ble_eq_true rfl⟩) ([]) (wF E a v2) (rfl) rfl (rfl) rfl rfl (Nat.le_of_ble_eq_true rfl) dX1_add_21 ?_
  refine v_iload_n hX dX1_add_24 rfl ?_
  obtain ⟨v3, hv3⟩ : ∃ z_ : FV, z_ = F_raise v2 ((7 * n + 5) % 24) lim := ⟨_, rfl⟩
  refine v_callVv (rest := []) (ws' := wF E a v3) hX (fun sz => c_X1_raise l E a sz v2 ((7 * n + 5) % 24) (by first | omega | exact Nat.le_of_ble_eq_true rfl | assumption | decide) lim) (cwV 2 hX.2.2.2.2.1 gX1_add_X1_raise rfl rfl rfl (by decide +kernel) ⟨Nat.le_of_ble_eq_true rfl, Nat.le_of_ble_eq_true rfl⟩) ([]) ([]) ((List.append_nil _).symm) (by rw [hv3]; exact List.append_nil _) (wF_fst E a _ _) (ci := 1) (q0 := 0) rfl rfl rfl rfl rfl (Nat.le_of_ble_eq_true rfl) dX1_add_25 ?_
  exact v_vret hX hr hsz dX1_add_28 rfl rfl (by (subst hv3; subst hv2; subst hv1; first | rfl | (simp only [F_add, if_true, if_false, reduceIte, Bool.false_eq_true, reduceCtorEq, decide_true, decide_false, Bool.and_true, Bool.and_false, Bool.true_and, Bool.false_and, Bool.or_true, Bool.or_false, Bool.true_or, Bool.false_or, not_true_eq_false, not_false_eq_true, Bool.not_true, Bool.not_false, eq_self, Nat.reduceEqDiff]; done) | (simp only [F_add, if_true, if_false, reduceIte, Bool.false_eq_true, reduceCtorEq, decide_true, decide_false, Bool.and_true, Bool.and_false, Bool.true_and, Bool.false_and, Bool.or_true, Bool.or_false, Bool.true_or, Bool.false_or, not_true_eq_false, not_false_eq_true, Bool.not_true, Bool.not_false, eq_self, Nat.reduceEqDiff]; rfl) | contradiction | (exfalso; omega)))
set_option maxHeartbeats 4000000 in
set_option maxRecDepth 100000 in
theorem c_X1_remove (l : Launch) (E : ET) (a : Nat → Nat) (sz : Nat) (v : FV) (n : Nat) (hn : n < 256) : Met l yX1_remove wsX1_remove ({ frames := 1, cells := 0, slots := 0, locals := 21 }) (mPc E [.ref (a 0), .int (nI (n))] sz (wF E a v)) (mQv E (wF E a v) (wF E a (F_remove v n)) sz) 0 0 (va_A (wF E a v) sz) := by
  refine v_start (cc := cX1_remove) (maxL := 2) (ret := none) (by decide) rfl (Nat.le_of_ble_eq_true rfl) rfl ?_
  intro p e s m args below meth c hsz hr hX
  have hX : Xc p s m args meth c E 2 (va_A (wF E a v) sz) cX1_remove RX1 wsX1_remove := hX
  refine v_aload_n hX dX1_remove_0 rfl ?_
  refine v_iload_n hX dX1_remove_1 rfl ?_
  refine v_callSi (r := nI (n % 24)) (rest := [.ref (a 0)]) (ws' := wF E a v) hX (fun sz => c_X1_firstCounter l E sz n (by first | omega | exact Nat.le_of_ble_eq_true rfl | assumption | decide)) (va_cwS 1 hX.2.2.2.2.1 gX1_remove_X1_firstCounter rfl rfl rfl (by decide +kernel) ⟨Nat.le_of_ble_eq_true rfl, Nat.le_of_ble_eq_true rfl⟩) ([]) (wF E a v) (rfl) rfl (rfl) rfl rfl (Nat.le_of_ble_eq_true rfl) dX1_remove_2 ?_
  obtain ⟨v1, hv1⟩ : ∃ z_ : FV, z_ = F_lower v (n % 24) := ⟨_, rfl⟩
  refine v_callVv (rest := []) (ws' := wF E a v1) hX (fun sz => c_X1_lower l E a sz v (n % 24) (by first | omega | exact Nat.le_of_ble_eq_true rfl | assumption | decide)) (cwV 1 hX.2.2.2.2.1 gX1_remove_X1_lower rfl rfl rfl (by decide +kernel) ⟨Nat.le_of_ble_eq_true rfl, Nat.le_of_ble_eq_true rfl⟩) ([]) ([]) ((List.append_nil _).symm) (by rw [hv1]; exact List.append_nil _) (wF_fst E a _ _) (ci := 1) (q0 := 0) rfl rfl rfl rfl rfl (Nat.le_of_ble_eq_true rfl) dX1_remove_5 ?_
  refine v_aload_n hX dX1_remove_8 rfl ?_
  refine v_iload_n hX dX1_remove_9 rfl ?_
  refine v_callSi (r := nI ((7 * n + 5) % 24)) (rest := [.ref (a 0)]) (ws' := wF E a v1) hX (fun sz => c_X1_secondCounter l E sz n (by first | omega | exact Nat.le_of_ble_eq_true rfl | assumption | decide)) (va_cwS 1 hX.2.2.2.2.1 gX1_remove_X1_secondCounter rfl rfl rfl (by decide +kernel) ⟨Nat.le_of_ble_eq_true rfl, Nat.le_of_ble_eq_true rfl⟩) ([]) (wF E a v1) (rfl) rfl (rfl) rfl rfl (Nat.le_of_ble_eq_true rfl) dX1_remove_10 ?_
  obtain ⟨v2, hv2⟩ : ∃ z_ : FV, z_ = F_lower v1 ((7 * n + 5) % 24) := ⟨_, rfl⟩
  refine v_callVv (rest := []) (ws' := wF E a v2) hX (fun sz => c_X1_lower l E a sz v1 ((7 * n + 5) % 24) (by first | omega | exact Nat.le_of_ble_eq_true rfl | assumption | decide)) (cwV 1 hX.2.2.2.2.1 gX1_remove_X1_lower rfl rfl rfl (by decide +kernel) ⟨Nat.le_of_ble_eq_true rfl, Nat.le_of_ble_eq_true rfl⟩) ([]) ([]) ((List.append_nil _).symm) (by rw [hv2]; exact List.append_nil _) (wF_fst E a _ _) (ci := 1) (q0 := 0) rfl rfl rfl rfl rfl (Nat.le_of_ble_eq_true rfl) dX1_remove_13 ?_
  exact v_vret hX hr hsz dX1_remove_16 rfl rfl (by (subst hv2; subst hv1; first | rfl | (simp only [F_remove, if_true, if_false, reduceIte, Bool.false_eq_true, reduceCtorEq, decide_true, decide_false, Bool.and_true, Bool.and_false, Bool.true_and, Bool.false_and, Bool.or_true, Bool.or_false, Bool.true_or, Bool.false_or, not_true_eq_false, not_false_eq_true, Bool.not_true, Bool.not_false, eq_self, Nat.reduceEqDiff]; done) | (simp only [F_remove, if_true, if_false, reduceIte, Bool.false_eq_true, reduceCtorEq, decide_true, decide_false, Bool.and_true, Bool.and_false, Bool.true_and, Bool.false_and, Bool.or_true, Bool.or_false, Bool.true_or, Bool.false_or, not_true_eq_false, not_false_eq_true, Bool.not_true, Bool.not_false, eq_self, Nat.reduceEqDiff]; rfl) | contradiction | (exfalso; omega)))
set_option maxHeartbeats 4000000 in
set_option maxRecDepth 100000 in
theorem c_X1_hasBitOf (l : Launch) (E : ET) (a : Nat → Nat) (sz : Nat) (v : FV) (n : Nat) (hn : n < 256) : Met l yX1_hasBitOf wsX1_hasBitOf ({ frames := 0, cells := 0, slots := 0, locals := 0 }) (mPc E [.ref (a 0), .int (nI (n))] sz (wF E a v)) (mQi E (bI (v.2.2 (n / 16))) (wF E a v) (wF E a v) sz) 0 0 (va_A (wF E a v) sz) := by
  refine v_start (cc := cX1_hasBitOf) (maxL := 2) (ret := (some .boolean)) (by decide) rfl (Nat.le_of_ble_eq_true rfl) rfl ?_
  intro p e s m args below meth c hsz hr hX
  have hX : Xc p s m args meth c E 2 (va_A (wF E a v) sz) cX1_hasBitOf RX1 wsX1_hasBitOf := hX
  have in_X1 : ∀ w ∈ u_ws RX1 TX1 3, w ∈ wsX1_hasBitOf := by decide +kernel
  have fl_19 : Cond.fieldLink RX1 19 RX1 "bits" "[Z" ∈ wsX1_hasBitOf := by decide +kernel
  refine v_aload_n hX dX1_hasBitOf_0 rfl ?_
  refine v_get (C := RX1) (T := TX1) (N := 3) (ci := 1) (v := .ref (a 3)) hX in_X1 0 rfl rfl 2 (by decide) fl_19 rfl rfl dX1_hasBitOf_1 ?_
  refine v_iload_n hX dX1_hasBitOf_4 rfl ?_
  refine v_bipush (x := (16 : Int32)) hX dX1_hasBitOf_5 (by decide) ?_
  refine v_idiv (z := nI ((n) / 16)) hX dX1_hasBitOf_7 (by decide) (div_c (n) 16 (by omega) (by decide) (by decide)) ?_
  refine v_zald (z := bI (v.2.2 ((n) / 16))) hX 3 rfl (vp_in_nI (by omega : (n) / 16 < 16) (by omega)) (by simp only [nI_clamp (show (n) / 16 < 2 ^ 31 by omega)]) dX1_hasBitOf_8 ?_
  exact v_zret hX hr hsz dX1_hasBitOf_9 rfl rfl (bI_narrow (v.2.2 ((n) / 16))) (congrArg bI (by (first | rfl | (simp only [if_true, if_false, reduceIte, Bool.false_eq_true, reduceCtorEq, decide_true, decide_false, Bool.and_true, Bool.and_false, Bool.true_and, Bool.false_and, Bool.or_true, Bool.or_false, Bool.true_or, Bool.false_or, not_true_eq_false, not_false_eq_true, Bool.not_true, Bool.not_false, eq_self, Nat.reduceEqDiff]; done) | (simp only [if_true, if_false, reduceIte, Bool.false_eq_true, reduceCtorEq, decide_true, decide_false, Bool.and_true, Bool.and_false, Bool.true_and, Bool.false_and, Bool.or_true, Bool.or_false, Bool.true_or, Bool.false_or, not_true_eq_false, not_false_eq_true, Bool.not_true, Bool.not_false, eq_self, Nat.reduceEqDiff]; rfl) | contradiction | (exfalso; omega)) : v.2.2 ((n) / 16) = v.2.2 (n / 16))) rfl
set_option maxHeartbeats 4000000 in
set_option maxRecDepth 100000 in
theorem c_X1_mayHave (l : Launch) (E : ET) (a : Nat → Nat) (sz : Nat) (v : FV) (n : Nat) (hn : n < 256) : Met l yX1_mayHave wsX1_mayHave ({ frames := 1, cells := 0, slots := 0, locals := 21 }) (mPc E [.ref (a 0), .int (nI (n))] sz (wF E a v)) (mQi E (bI (F_may v n)) (wF E a v) (wF E a v) sz) 0 0 (va_A (wF E a v) sz) := by
  refine v_start (cc := cX1_mayHave) (maxL := 2) (ret := (some .boolean)) (by decide) rfl (Nat.le_of_ble_eq_true rfl) rfl ?_
  intro p e s m args below meth c hsz hr hX
  have hX : Xc p s m args meth c E 2 (va_A (wF E a v) sz) cX1_mayHave RX1 wsX1_mayHave := hX
  have in_X1 : ∀ w ∈ u_ws RX1 TX1 3, w ∈ wsX1_mayHave := by decide +kernel
  have fl_9 : Cond.fieldLink RX1 9 RX1 "counters" "[I" ∈ wsX1_mayHave := by decide +kernel
  refine v_aload_n hX dX1_mayHave_0 rfl ?_
  refine v_iload_n hX dX1_mayHave_1 rfl ?_
  refine v_callVi (r := bI (v.2.2 (n / 16))) (rest := []) (ws' := wF E a v) hX (fun sz => c_X1_hasBitOf l E a sz v n (by first | omega | exact Nat.le_of_ble_eq_true rfl | assumption | decide)) (cwV 1 hX.2.2.2.2.1 gX1_mayHave_X1_hasBitOf rfl rfl rfl (by decide +kernel) ⟨Nat.le_of_ble_eq_true rfl, Nat.le_of_ble_eq_true rfl⟩) ([]) ([]) ((List.append_nil _).symm) ((List.append_nil _).symm).symm (wF_fst E a _ _) (ci := 1) (q0 := 0) rfl rfl rfl rfl rfl (Nat.le_of_ble_eq_true rfl) dX1_mayHave_2 ?_
  refine v_if_eq (tgt := 36) hX dX1_mayHave_5 (by decide) (fun c1 => ?_) (fun c1 => ?_)
  · replace c1 := bI_0.mp c1
    refine v_iconst (x := (0 : Int32)) hX dX1_mayHave_36 (by decide) ?_
    exact v_zret hX hr hsz dX1_mayHave_37 rfl rfl (bI_narrow (false)) (congrArg bI (by (first | rfl | (simp only [F_may, c1, if_true, if_false, reduceIte, Bool.false_eq_true, reduceCtorEq, decide_true, decide_false, Bool.and_true, Bool.and_false, Bool.true_and, Bool.false_and, Bool.or_true, Bool.or_false, Bool.true_or, Bool.false_or, not_true_eq_false, not_false_eq_true, Bool.not_true, Bool.not_false, eq_self, Nat.reduceEqDiff]; done) | (simp only [F_may, c1, if_true, if_false, reduceIte, Bool.false_eq_true, reduceCtorEq, decide_true, decide_false, Bool.and_true, Bool.and_false, Bool.true_and, Bool.false_and, Bool.or_true, Bool.or_false, Bool.true_or, Bool.false_or, not_true_eq_false, not_false_eq_true, Bool.not_true, Bool.not_false, eq_self, Nat.reduceEqDiff]; rfl) | contradiction | (exfalso; omega)) : false = F_may v n)) rfl
  · replace c1 := bI_n0.mp c1
    refine v_aload_n hX dX1_mayHave_8 rfl ?_
    refine v_get (C := RX1) (T := TX1) (N := 3) (ci := 1) (v := .ref (a 1)) hX in_X1 0 rfl rfl 0 (by decide) fl_9 rfl rfl dX1_mayHave_9 ?_
    refine v_iload_n hX dX1_mayHave_12 rfl ?_
    refine v_callSi (r := nI (n % 24)) (rest := [.ref (a 1)]) (ws' := wF E a v) hX (fun sz => c_X1_firstCounter l E sz n (by first | omega | exact Nat.le_of_ble_eq_true rfl | assumption | decide)) (va_cwS 1 hX.2.2.2.2.1 gX1_mayHave_X1_firstCounter rfl rfl rfl (by decide +kernel) ⟨Nat.le_of_ble_eq_true rfl, Nat.le_of_ble_eq_true rfl⟩) ([]) (wF E a v) (rfl) rfl (rfl) rfl rfl (Nat.le_of_ble_eq_true rfl) dX1_mayHave_13 ?_
    refine v_iald (z := v.1 (n % 24)) hX 1 rfl (vp_in_nI (by omega : n % 24 < 24) (by omega)) (by simp only [nI_clamp (show n % 24 < 2 ^ 31 by omega)]) dX1_mayHave_16 ?_
    refine v_if_le (tgt := 36) hX dX1_mayHave_17 (by decide) (fun c2 => ?_) (fun c2 => ?_)
    · refine v_iconst (x := (0 : Int32)) hX dX1_mayHave_36 (by decide) ?_
      exact v_zret hX hr hsz dX1_mayHave_37 rfl rfl (bI_narrow (false)) (congrArg bI (by (first | rfl | (simp only [F_may, c1, c2, if_true, if_false, reduceIte, Bool.false_eq_true, reduceCtorEq, decide_true, decide_false, Bool.and_true, Bool.and_false, Bool.true_and, Bool.false_and, Bool.or_true, Bool.or_false, Bool.true_or, Bool.false_or, not_true_eq_false, not_false_eq_true, Bool.not_true, Bool.not_false, eq_self, Nat.reduceEqDiff]; done) | (simp only [F_may, c1, c2, if_true, if_false, reduceIte, Bool.false_eq_true, reduceCtorEq, decide_true, decide_false, Bool.and_true, Bool.and_false, Bool.true_and, Bool.false_and, Bool.or_true, Bool.or_false, Bool.true_or, Bool.false_or, not_true_eq_false, not_false_eq_true, Bool.not_true, Bool.not_false, eq_self, Nat.reduceEqDiff]; rfl) | contradiction | (exfalso; omega)) : false = F_may v n)) rfl
    · refine v_aload_n hX dX1_mayHave_20 rfl ?_
      refine v_get (C := RX1) (T := TX1) (N := 3) (ci := 1) (v := .ref (a 1)) hX in_X1 0 rfl rfl 0 (by decide) fl_9 rfl rfl dX1_mayHave_21 ?_
      refine v_iload_n hX dX1_mayHave_24 rfl ?_
      refine v_callSi (r := nI ((7 * n + 5) % 24)) (rest := [.ref (a 1)]) (ws' := wF E a v) hX (fun sz => c_X1_secondCounter l E sz n (by first | omega | exact Nat.le_of_ble_eq_true rfl | assumption | decide)) (va_cwS 1 hX.2.2.2.2.1 gX1_mayHave_X1_secondCounter rfl rfl rfl (by decide +kernel) ⟨Nat.le_of_ble_eq_true rfl, Nat.le_of_ble_eq_true rfl⟩) ([]) (wF E a v) (rfl) rfl (rfl) rfl rfl (Nat.le_of_ble_eq_true rfl) dX1_mayHave_25 ?_
      refine v_iald (z := v.1 ((7 * n + 5) % 24)) hX 1 rfl (vp_in_nI (by omega : (7 * n + 5) % 24 < 24) (by omega)) (by simp only [nI_clamp (show (7 * n + 5) % 24 < 2 ^ 31 by omega)]) dX1_mayHave_28 ?_
      refine v_if_le (tgt := 36) hX dX1_mayHave_29 (by decide) (fun c3 => ?_) (fun c3 => ?_)
      · refine v_iconst (x := (0 : Int32)) hX dX1_mayHave_36 (by decide) ?_
        exact v_zret hX hr hsz dX1_mayHave_37 rfl rfl (bI_narrow (false)) (congrArg bI (by (first | rfl | (simp only [F_may, c1, c2, c3, if_true, if_false, reduceIte, Bool.false_eq_true, reduceCtorEq, decide_true, decide_false, Bool.and_true, Bool.and_false, Bool.true_and, Bool.false_and, Bool.or_true, Bool.or_false, Bool.true_or, Bool.false_or, not_true_eq_false, not_false_eq_true, Bool.not_true, Bool.not_false, eq_self, Nat.reduceEqDiff]; done) | (simp only [F_may, c1, c2, c3, if_true, if_false, reduceIte, Bool.false_eq_true, reduceCtorEq, decide_true, decide_false, Bool.and_true, Bool.and_false, Bool.true_and, Bool.false_and, Bool.or_true, Bool.or_false, Bool.true_or, Bool.false_or, not_true_eq_false, not_false_eq_true, Bool.not_true, Bool.not_false, eq_self, Nat.reduceEqDiff]; rfl) | contradiction | (exfalso; omega)) : false = F_may v n)) rfl
      · refine v_iconst (x := (1 : Int32)) hX dX1_mayHave_32 (by decide) ?_
        refine v_goto (tgt := 37) hX dX1_mayHave_33 (by decide) ?_
        exact v_zret hX hr hsz dX1_mayHave_37 rfl rfl (bI_narrow (true)) (congrArg bI (by (first | rfl | (simp only [F_may, c1, c2, c3, if_true, if_false, reduceIte, Bool.false_eq_true, reduceCtorEq, decide_true, decide_false, Bool.and_true, Bool.and_false, Bool.true_and, Bool.false_and, Bool.or_true, Bool.or_false, Bool.true_or, Bool.false_or, not_true_eq_false, not_false_eq_true, Bool.not_true, Bool.not_false, eq_self, Nat.reduceEqDiff]; done) | (simp only [F_may, c1, c2, c3, if_true, if_false, reduceIte, Bool.false_eq_true, reduceCtorEq, decide_true, decide_false, Bool.and_true, Bool.and_false, Bool.true_and, Bool.false_and, Bool.or_true, Bool.or_false, Bool.true_or, Bool.false_or, not_true_eq_false, not_false_eq_true, Bool.not_true, Bool.not_false, eq_self, Nat.reduceEqDiff]; rfl) | contradiction | (exfalso; omega)) : true = F_may v n)) rfl
set_option maxHeartbeats 4000000 in
set_option maxRecDepth 100000 in
theorem c_X1_countersAboveZero (l : Launch) (E : ET) (a : Nat → Nat) (sz : Nat) (v : FV) : Met l yX1_countersAboveZero wsX1_countersAboveZero ({ frames := 0, cells := 0, slots := 0, locals := 0 }) (mPc E [.ref (a 0)] sz (wF E a v)) (mQi E (F_above v) (wF E a v) (wF E a v) sz) 0 0 (va_A (wF E a v) sz) := by
  refine v_start (cc := cX1_countersAboveZero) (maxL := 3) (ret := (some .int)) (by decide) rfl (Nat.le_of_ble_eq_true rfl) rfl ?_
  intro p e s m args below meth c hsz hr hX
  have hX : Xc p s m args meth c E 3 (va_A (wF E a v) sz) cX1_countersAboveZero RX1 wsX1_countersAboveZero := hX
  have in_X1 : ∀ w ∈ u_ws RX1 TX1 3, w ∈ wsX1_countersAboveZero := by decide +kernel
  have fl_9 : Cond.fieldLink RX1 9 RX1 "counters" "[I" ∈ wsX1_countersAboveZero := by decide +kernel
  refine v_iconst (x := (0 : Int32)) hX dX1_countersAboveZero_0 (by decide) ?_
  refine v_istore_n (lv' := [.ref (a 0), .int ((0 : Int32))]) hX dX1_countersAboveZero_1 (Nat.le_of_ble_eq_true rfl) (Nat.le_of_ble_eq_true rfl) rfl rfl ?_
  refine v_iconst (x := (0 : Int32)) hX dX1_countersAboveZero_2 (by decide) ?_
  refine v_istore_n (lv' := [.ref (a 0), .int ((0 : Int32)), .int ((0 : Int32))]) hX dX1_countersAboveZero_3 (Nat.le_of_ble_eq_true rfl) (Nat.le_of_ble_eq_true rfl) rfl rfl ?_
  have loop_4 : ∀ (fu i : Nat), i + fu = 24 → V p l e ({ frames := 0, cells := 0, slots := 0, locals := 0 } : Room) s m args below meth c E 3 (va_A (wF E a v) sz) (MQ below (mQi E (F_above v) (wF E a v) (wF E a v) sz) args s 0 0 (va_A (wF E a v) sz)) (wF E a v) [.ref (a 0), .int (it (F_aboveF v) i 0), .int (nI (i))] 4 [] := by
    intro fu
    induction fu with
    | zero =>
      intro i  hin 
      have hi0 : i = 24 := by omega
      subst hi0
      refine v_iload_n hX dX1_countersAboveZero_4 rfl ?_
      refine v_bipush (x := (24 : Int32)) hX dX1_countersAboveZero_5 (by decide) ?_
      refine v_icmp_ge (tgt := 28) hX dX1_countersAboveZero_7 (by decide) (fun c1 => ?_) (fun c1 => ?_)
      · replace c1 := (nI_leI (a := 24) (b := 24) (by omega) (by omega)).mp c1
        refine v_iload_n hX dX1_countersAboveZero_28 rfl ?_
        exact v_iret hX hr hsz dX1_countersAboveZero_29 rfl rfl (by (first | rfl | (simp only [F_above, F_aboveF, c1, if_true, if_false, reduceIte, Bool.false_eq_true, reduceCtorEq, decide_true, decide_false, Bool.and_true, Bool.and_false, Bool.true_and, Bool.false_and, Bool.or_true, Bool.or_false, Bool.true_or, Bool.false_or, not_true_eq_false, not_false_eq_true, Bool.not_true, Bool.not_false, eq_self, Nat.reduceEqDiff]; done) | (simp only [F_above, F_aboveF, c1, if_true, if_false, reduceIte, Bool.false_eq_true, reduceCtorEq, decide_true, decide_false, Bool.and_true, Bool.and_false, Bool.true_and, Bool.false_and, Bool.or_true, Bool.or_false, Bool.true_or, Bool.false_or, not_true_eq_false, not_false_eq_true, Bool.not_true, Bool.not_false, eq_self, Nat.reduceEqDiff]; rfl) | contradiction | (exfalso; omega))) rfl
      · replace c1 := (not_congr (nI_leI (a := 24) (b := 24) (by omega) (by omega))).mp c1
        first | (exfalso; omega) | exact absurd c1 (by decide) | exact absurd (by decide) c1
    | succ fu ih =>
      intro i  hin 
      refine v_iload_n hX dX1_countersAboveZero_4 rfl ?_
      refine v_bipush (x := (24 : Int32)) hX dX1_countersAboveZero_5 (by decide) ?_
      refine v_icmp_ge (tgt := 28) hX dX1_countersAboveZero_7 (by decide) (fun c2 => ?_) (fun c2 => ?_)
      · replace c2 := (nI_leI (a := 24) (b := i) (by omega) (by omega)).mp c2
        first | (exfalso; omega) | exact absurd c2 (by decide) | exact absurd (by decide) c2
      · replace c2 := (not_congr (nI_leI (a := 24) (b := i) (by omega) (by omega))).mp c2
        refine v_aload_n hX dX1_countersAboveZero_10 rfl ?_
        refine v_get (C := RX1) (T := TX1) (N := 3) (ci := 1) (v := .ref (a 1)) hX in_X1 0 rfl rfl 0 (by decide) fl_9 rfl rfl dX1_countersAboveZero_11 ?_
        refine v_iload_n hX dX1_countersAboveZero_14 rfl ?_
        refine v_iald (z := v.1 (i)) hX 1 rfl (vp_in_nI (by omega : i < 24) (by omega)) (by simp only [nI_clamp (show i < 2 ^ 31 by omega)]) dX1_countersAboveZero_15 ?_
        refine v_if_le (tgt := 22) hX dX1_countersAboveZero_16 (by decide) (fun c3 => ?_) (fun c3 => ?_)
        · refine v_iinc (y := nI (i + 1)) (lv' := [.ref (a 0), .int (it (F_aboveF v) i 0), .int (nI (i + 1))]) hX dX1_countersAboveZero_22 rfl (nI_inc _) (Nat.le_of_ble_eq_true rfl) (Nat.le_of_ble_eq_true rfl) rfl rfl ?_
          refine v_goto (tgt := 4) hX dX1_countersAboveZero_25 (by decide) ?_
          have e4 : it (F_aboveF v) i 0 = it (F_aboveF v) (i + 1) 0 := by first | rfl | (simp only [F_above, F_aboveF, c2, c3, it, if_true, if_false, reduceIte, Bool.false_eq_true, Bool.and_true, Bool.and_false, Bool.true_and, Bool.false_and, not_true_eq_false, not_false_eq_true, eq_self, ne_eq, reduceCtorEq, decide_true, decide_false, Bool.not_true, Bool.not_false]; done) | (simp only [F_above, F_aboveF, c2, c3, it, if_true, if_false, reduceIte, Bool.false_eq_true, Bool.and_true, Bool.and_false, Bool.true_and, Bool.false_and, not_true_eq_false, not_false_eq_true, eq_self, ne_eq, reduceCtorEq, decide_true, decide_false, Bool.not_true, Bool.not_false]; rfl)
          rw [e4]
          exact ih (i + 1)  (by omega) 
        · refine v_iinc (y := (it (F_aboveF v) i 0 + 1)) (lv' := [.ref (a 0), .int ((it (F_aboveF v) i 0 + 1)), .int (nI (i))]) hX dX1_countersAboveZero_19 rfl (rfl) (Nat.le_of_ble_eq_true rfl) (Nat.le_of_ble_eq_true rfl) rfl rfl ?_
          refine v_iinc (y := nI (i + 1)) (lv' := [.ref (a 0), .int ((it (F_aboveF v) i 0 + 1)), .int (nI (i + 1))]) hX dX1_countersAboveZero_22 rfl (nI_inc _) (Nat.le_of_ble_eq_true rfl) (Nat.le_of_ble_eq_true rfl) rfl rfl ?_
          refine v_goto (tgt := 4) hX dX1_countersAboveZero_25 (by decide) ?_
          have e5 : (it (F_aboveF v) i 0 + 1) = it (F_aboveF v) (i + 1) 0 := by first | rfl | (simp only [F_above, F_aboveF, c2, c3, it, if_true, if_false, reduceIte, Bool.false_eq_true, Bool.and_true, Bool.and_false, Bool.true_and, Bool.false_and, not_true_eq_false, not_false_eq_true, eq_self, ne_eq, reduceCtorEq, decide_true, decide_false, Bool.not_true, Bool.not_false]; done) | (simp only [F_above, F_aboveF, c2, c3, it, if_true, if_false, reduceIte, Bool.false_eq_true, Bool.and_true, Bool.and_false, Bool.true_and, Bool.false_and, not_true_eq_false, not_false_eq_true, eq_self, ne_eq, reduceCtorEq, decide_true, decide_false, Bool.not_true, Bool.not_false]; rfl)
          rw [e5]
          exact ih (i + 1)  (by omega) 
  exact loop_4 24 0  (by omega) 
set_option maxHeartbeats 4000000 in
set_option maxRecDepth 100000 in
theorem c_X1_wipe (l : Launch) (E : ET) (a : Nat → Nat) (sz : Nat) (v : FV) : Met l yX1_wipe wsX1_wipe ({ frames := 0, cells := 0, slots := 0, locals := 0 }) (mPc E [.ref (a 0)] sz (wF E a v)) (mQv E (wF E a v) (wF E a (F_wipe v)) sz) 0 0 (va_A (wF E a v) sz) := by
  refine v_start (cc := cX1_wipe) (maxL := 2) (ret := none) (by decide) rfl (Nat.le_of_ble_eq_true rfl) rfl ?_
  intro p e s m args below meth c hsz hr hX
  have hX : Xc p s m args meth c E 2 (va_A (wF E a v) sz) cX1_wipe RX1 wsX1_wipe := hX
  have in_X1 : ∀ w ∈ u_ws RX1 TX1 3, w ∈ wsX1_wipe := by decide +kernel
  have fl_19 : Cond.fieldLink RX1 19 RX1 "bits" "[Z" ∈ wsX1_wipe := by decide +kernel
  have fl_9 : Cond.fieldLink RX1 9 RX1 "counters" "[I" ∈ wsX1_wipe := by decide +kernel
  have fl_15 : Cond.fieldLink RX1 15 RX1 "stuck" "[Z" ∈ wsX1_wipe := by decide +kernel
  refine v_iconst (x := (0 : Int32)) hX dX1_wipe_0 (by decide) ?_
  refine v_istore_n (lv' := [.ref (a 0), .int ((0 : Int32))]) hX dX1_wipe_1 (Nat.le_of_ble_eq_true rfl) (Nat.le_of_ble_eq_true rfl) rfl rfl ?_
  have loop_2 : ∀ (fu i : Nat), i + fu = 24 → V p l e ({ frames := 0, cells := 0, slots := 0, locals := 0 } : Room) s m args below meth c E 2 (va_A (wF E a v) sz) (MQ below (mQv E (wF E a v) (wF E a (F_wipe v)) sz) args s 0 0 (va_A (wF E a v) sz)) (wF E a (it F_w1 i v)) [.ref (a 0), .int (nI (i))] 2 [] := by
    intro fu
    induction fu with
    | zero =>
      intro i  hin 
      have hi0 : i = 24 := by omega
      subst hi0
      refine v_iload_n hX dX1_wipe_2 rfl ?_
      refine v_bipush (x := (24 : Int32)) hX dX1_wipe_3 (by decide) ?_
      refine v_icmp_ge (tgt := 28) hX dX1_wipe_5 (by decide) (fun c1 => ?_) (fun c1 => ?_)
      · replace c1 := (nI_leI (a := 24) (b := 24) (by omega) (by omega)).mp c1
        refine v_iconst (x := (0 : Int32)) hX dX1_wipe_28 (by decide) ?_
        refine v_istore_n (lv' := [.ref (a 0), .int ((0 : Int32))]) hX dX1_wipe_29 (Nat.le_of_ble_eq_true rfl) (Nat.le_of_ble_eq_true rfl) rfl rfl ?_
        have loop_30 : ∀ (fu i : Nat), i + fu = 16 → V p l e ({ frames := 0, cells := 0, slots := 0, locals := 0 } : Room) s m args below meth c E 2 (va_A (wF E a v) sz) (MQ below (mQv E (wF E a v) (wF E a (F_wipe v)) sz) args s 0 0 (va_A (wF E a v) sz)) (wF E a (it F_w2 i (it F_w1 24 v))) [.ref (a 0), .int (nI (i))] 30 [] := by
          intro fu
          induction fu with
          | zero =>
            intro i  hin 
            have hi0 : i = 16 := by omega
            subst hi0
            refine v_iload_n hX dX1_wipe_30 rfl ?_
            refine v_bipush (x := (16 : Int32)) hX dX1_wipe_31 (by decide) ?_
            refine v_icmp_ge (tgt := 49) hX dX1_wipe_33 (by decide) (fun c2 => ?_) (fun c2 => ?_)
            · replace c2 := (nI_leI (a := 16) (b := 16) (by omega) (by omega)).mp c2
              exact v_vret hX hr hsz dX1_wipe_49 rfl rfl (by (first | rfl | (simp only [F_wipe, F_w1, F_w2, c1, c2, if_true, if_false, reduceIte, Bool.false_eq_true, reduceCtorEq, decide_true, decide_false, Bool.and_true, Bool.and_false, Bool.true_and, Bool.false_and, Bool.or_true, Bool.or_false, Bool.true_or, Bool.false_or, not_true_eq_false, not_false_eq_true, Bool.not_true, Bool.not_false, eq_self, Nat.reduceEqDiff]; done) | (simp only [F_wipe, F_w1, F_w2, c1, c2, if_true, if_false, reduceIte, Bool.false_eq_true, reduceCtorEq, decide_true, decide_false, Bool.and_true, Bool.and_false, Bool.true_and, Bool.false_and, Bool.or_true, Bool.or_false, Bool.true_or, Bool.false_or, not_true_eq_false, not_false_eq_true, Bool.not_true, Bool.not_false, eq_self, Nat.reduceEqDiff]; rfl) | contradiction | (exfalso; omega)))
            · replace c2 := (not_congr (nI_leI (a := 16) (b := 16) (by omega) (by omega))).mp c2
              first | (exfalso; omega) | exact absurd c2 (by decide) | exact absurd (by decide) c2
          | succ fu ih =>
            intro i  hin 
            refine v_iload_n hX dX1_wipe_30 rfl ?_
            refine v_bipush (x := (16 : Int32)) hX dX1_wipe_31 (by decide) ?_
            refine v_icmp_ge (tgt := 49) hX dX1_wipe_33 (by decide) (fun c3 => ?_) (fun c3 => ?_)
            · replace c3 := (nI_leI (a := 16) (b := i) (by omega) (by omega)).mp c3
              first | (exfalso; omega) | exact absurd c3 (by decide) | exact absurd (by decide) c3
            · replace c3 := (not_congr (nI_leI (a := 16) (b := i) (by omega) (by omega))).mp c3
              refine v_aload_n hX dX1_wipe_36 rfl ?_
              refine v_get (C := RX1) (T := TX1) (N := 3) (ci := 1) (v := .ref (a 3)) hX in_X1 0 rfl rfl 2 (by decide) fl_19 rfl rfl dX1_wipe_37 ?_
              refine v_iload_n hX dX1_wipe_40 rfl ?_
              refine v_iconst (x := (0 : Int32)) hX dX1_wipe_41 (by decide) ?_
              obtain ⟨v4, hv4⟩ : ∃ z_ : FV, z_ = F_setB (it F_w2 i (it F_w1 24 v)) (i) (false) := ⟨_, rfl⟩
              refine v_zast (ws' := wF E a v4) hX 3 rfl (vp_in_nI (by omega : i < 16) (by omega)) (by rw [hv4]; exact sF_B E a (it F_w2 i (it F_w1 24 v)) (k := i) (by omega) (false)) dX1_wipe_42 ?_
              refine v_iinc (y := nI (i + 1)) (lv' := [.ref (a 0), .int (nI (i + 1))]) hX dX1_wipe_43 rfl (nI_inc _) (Nat.le_of_ble_eq_true rfl) (Nat.le_of_ble_eq_true rfl) rfl rfl ?_
              refine v_goto (tgt := 30) hX dX1_wipe_46 (by decide) ?_
              have e5 : v4 = it F_w2 (i + 1) (it F_w1 24 v) := by subst hv4; first | rfl | (simp only [F_wipe, F_w1, F_w2, c1, c3, it, if_true, if_false, reduceIte, Bool.false_eq_true, Bool.and_true, Bool.and_false, Bool.true_and, Bool.false_and, not_true_eq_false, not_false_eq_true, eq_self, ne_eq, reduceCtorEq, decide_true, decide_false, Bool.not_true, Bool.not_false]; done) | (simp only [F_wipe, F_w1, F_w2, c1, c3, it, if_true, if_false, reduceIte, Bool.false_eq_true, Bool.and_true, Bool.and_false, Bool.true_and, Bool.false_and, not_true_eq_false, not_false_eq_true, eq_self, ne_eq, reduceCtorEq, decide_true, decide_false, Bool.not_true, Bool.not_false]; rfl)
              rw [e5]
              exact ih (i + 1)  (by omega) 
        exact loop_30 16 0  (by omega) 
      · replace c1 := (not_congr (nI_leI (a := 24) (b := 24) (by omega) (by omega))).mp c1
        first | (exfalso; omega) | exact absurd c1 (by decide) | exact absurd (by decide) c1
    | succ fu ih =>
      intro i  hin 
      refine v_iload_n hX dX1_wipe_2 rfl ?_
      refine v_bipush (x := (24 : Int32)) hX dX1_wipe_3 (by decide) ?_
      refine v_icmp_ge (tgt := 28) hX dX1_wipe_5 (by decide) (fun c6 => ?_) (fun c6 => ?_)
      · replace c6 := (nI_leI (a := 24) (b := i) (by omega) (by omega)).mp c6
        first | (exfalso; omega) | exact absurd c6 (by decide) | exact absurd (by decide) c6
      · replace c6 := (not_congr (nI_leI (a := 24) (b := i) (by omega) (by omega))).mp c6
        refine v_aload_n hX dX1_wipe_8 rfl ?_
        refine v_get (C := RX1) (T := TX1) (N := 3) (ci := 1) (v := .ref (a 1)) hX in_X1 0 rfl rfl 0 (by decide) fl_9 rfl rfl dX1_wipe_9 ?_
        refine v_iload_n hX dX1_wipe_12 rfl ?_
        refine v_iconst (x := (0 : Int32)) hX dX1_wipe_13 (by decide) ?_
        obtain ⟨v7, hv7⟩ : ∃ z_ : FV, z_ = F_setC (it F_w1 i v) (i) ((0 : Int32)) := ⟨_, rfl⟩
        refine v_iast (ws' := wF E a v7) hX 1 rfl (vp_in_nI (by omega : i < 24) (by omega)) (by rw [hv7]; exact sF_C E a (it F_w1 i v) (k := i) (by omega) _) dX1_wipe_14 ?_
        refine v_aload_n hX dX1_wipe_15 rfl ?_
        refine v_get (C := RX1) (T := TX1) (N := 3) (ci := 1) (v := .ref (a 2)) hX in_X1 0 rfl rfl 1 (by decide) fl_15 rfl rfl dX1_wipe_16 ?_
        refine v_iload_n hX dX1_wipe_19 rfl ?_
        refine v_iconst (x := (0 : Int32)) hX dX1_wipe_20 (by decide) ?_
        obtain ⟨v8, hv8⟩ : ∃ z_ : FV, z_ = F_setS v7 (i) (false) := ⟨_, rfl⟩
        refine v_zast (ws' := wF E a v8) hX 2 rfl (vp_in_nI (by omega : i < 24) (by omega)) (by rw [hv8]; exact sF_S E a v7 (k := i) (by omega) (false)) dX1_wipe_21 ?_
        refine v_iinc (y := nI (i + 1)) (lv' := [.ref (a 0), .int (nI (i + 1))]) hX dX1_wipe_22 rfl (nI_inc _) (Nat.le_of_ble_eq_true rfl) (Nat.le_of_ble_eq_true rfl) rfl rfl ?_
        refine v_goto (tgt := 2) hX dX1_wipe_25 (by decide) ?_
        have e9 : v8 = it F_w1 (i + 1) v := by subst hv8; subst hv7; first | rfl | (simp only [F_wipe, F_w1, F_w2, c6, it, if_true, if_false, reduceIte, Bool.false_eq_true, Bool.and_true, Bool.and_false, Bool.true_and, Bool.false_and, not_true_eq_false, not_false_eq_true, eq_self, ne_eq, reduceCtorEq, decide_true, decide_false, Bool.not_true, Bool.not_false]; done) | (simp only [F_wipe, F_w1, F_w2, c6, it, if_true, if_false, reduceIte, Bool.false_eq_true, Bool.and_true, Bool.and_false, Bool.true_and, Bool.false_and, not_true_eq_false, not_false_eq_true, eq_self, ne_eq, reduceCtorEq, decide_true, decide_false, Bool.not_true, Bool.not_false]; rfl)
        rw [e9]
        exact ih (i + 1)  (by omega) 
  exact loop_2 24 0  (by omega) 
set_option maxHeartbeats 4000000 in
set_option maxRecDepth 100000 in
theorem c_X5_howManyAreTrue (l : Launch) (E : ET) (a : Nat → Nat) (sz : Nat) (v : Nat × (Nat → Bool)) (hb : v.1 < 2147483648) : Met l yX5_howManyAreTrue wsX5_howManyAreTrue ({ frames := 0, cells := 0, slots := 0, locals := 0 }) (mPc E [.ref (a 0)] sz (wZ E a v)) (mQi E (cntT v.2 v.1) (wZ E a v) (wZ E a v) sz) 0 0 (va_A (wZ E a v) sz) := by
  refine v_start (cc := cX5_howManyAreTrue) (maxL := 6) (ret := (some .int)) (by decide) rfl (Nat.le_of_ble_eq_true rfl) rfl ?_
  intro p e s m args below meth c hsz hr hX
  have hX : Xc p s m args meth c E 6 (va_A (wZ E a v) sz) cX5_howManyAreTrue RX5 wsX5_howManyAreTrue := hX
  refine v_iconst (x := (0 : Int32)) hX dX5_howManyAreTrue_0 (by decide) ?_
  refine v_istore_n (lv' := [.ref (a 0), .int ((0 : Int32))]) hX dX5_howManyAreTrue_1 (Nat.le_of_ble_eq_true rfl) (Nat.le_of_ble_eq_true rfl) rfl rfl ?_
  refine v_aload_n hX dX5_howManyAreTrue_2 rfl ?_
  refine v_astore_n (lv' := [.ref (a 0), .int ((0 : Int32)), .ref (a 0)]) hX dX5_howManyAreTrue_3 (Nat.le_of_ble_eq_true rfl) (Nat.le_of_ble_eq_true rfl) rfl rfl ?_
  refine v_aload_n hX dX5_howManyAreTrue_4 rfl ?_
  refine v_alen (t0 := 1) (z := nI (v.1)) hX 0 rfl rfl rfl dX5_howManyAreTrue_5 ?_
  refine v_istore_n (lv' := [.ref (a 0), .int ((0 : Int32)), .ref (a 0), .int (nI (v.1))]) hX dX5_howManyAreTrue_6 (Nat.le_of_ble_eq_true rfl) (Nat.le_of_ble_eq_true rfl) rfl rfl ?_
  refine v_iconst (x := (0 : Int32)) hX dX5_howManyAreTrue_7 (by decide) ?_
  refine v_istore (lv' := [.ref (a 0), .int ((0 : Int32)), .ref (a 0), .int (nI (v.1)), .int ((0 : Int32))]) hX dX5_howManyAreTrue_8 (Nat.le_of_ble_eq_true rfl) (Nat.le_of_ble_eq_true rfl) rfl rfl ?_
  have loop_10 : ∀ (fu i : Nat), i + fu = v.1 → V p l e ({ frames := 0, cells := 0, slots := 0, locals := 0 } : Room) s m args below meth c E 6 (va_A (wZ E a v) sz) (MQ below (mQi E (cntT v.2 v.1) (wZ E a v) (wZ E a v) sz) args s 0 0 (va_A (wZ E a v) sz)) (wZ E a v) [.ref (a 0), .int (it (cntF v.2) i 0), .ref (a 0), .int (nI (v.1)), .int (nI (i))] 10 [] := by
    intro fu
    induction fu with
    | zero =>
      intro i  hin 
      have hi0 : i = v.1 := by omega
      subst hi0
      refine v_iload hX dX5_howManyAreTrue_10 rfl ?_
      refine v_iload_n hX dX5_howManyAreTrue_12 rfl ?_
      refine v_icmp_ge (tgt := 36) hX dX5_howManyAreTrue_13 (by decide) (fun c1 => ?_) (fun c1 => ?_)
      · replace c1 := (nI_leI (a := v.1) (b := v.1) (by omega) (by omega)).mp c1
        refine v_iload_n hX dX5_howManyAreTrue_36 rfl ?_
        exact v_iret hX hr hsz dX5_howManyAreTrue_37 rfl rfl (by (first | rfl | (simp only [cntT, cntF, c1, if_true, if_false, reduceIte, Bool.false_eq_true, reduceCtorEq, decide_true, decide_false, Bool.and_true, Bool.and_false, Bool.true_and, Bool.false_and, Bool.or_true, Bool.or_false, Bool.true_or, Bool.false_or, not_true_eq_false, not_false_eq_true, Bool.not_true, Bool.not_false, eq_self, Nat.reduceEqDiff]; done) | (simp only [cntT, cntF, c1, if_true, if_false, reduceIte, Bool.false_eq_true, reduceCtorEq, decide_true, decide_false, Bool.and_true, Bool.and_false, Bool.true_and, Bool.false_and, Bool.or_true, Bool.or_false, Bool.true_or, Bool.false_or, not_true_eq_false, not_false_eq_true, Bool.not_true, Bool.not_false, eq_self, Nat.reduceEqDiff]; rfl) | contradiction | (exfalso; omega))) rfl
      · replace c1 := (not_congr (nI_leI (a := v.1) (b := v.1) (by omega) (by omega))).mp c1
        first | (exfalso; omega) | exact absurd c1 (by decide) | exact absurd (by decide) c1
    | succ fu ih =>
      intro i  hin 
      refine v_iload hX dX5_howManyAreTrue_10 rfl ?_
      refine v_iload_n hX dX5_howManyAreTrue_12 rfl ?_
      refine v_icmp_ge (tgt := 36) hX dX5_howManyAreTrue_13 (by decide) (fun c2 => ?_) (fun c2 => ?_)
      · replace c2 := (nI_leI (a := v.1) (b := i) (by omega) (by omega)).mp c2
        first | (exfalso; omega) | exact absurd c2 (by decide) | exact absurd (by decide) c2
      · replace c2 := (not_congr (nI_leI (a := v.1) (b := i) (by omega) (by omega))).mp c2
        refine v_aload_n hX dX5_howManyAreTrue_16 rfl ?_
        refine v_iload hX dX5_howManyAreTrue_17 rfl ?_
        refine v_zald (z := bI (v.2 (i))) hX 0 rfl (vp_in_nI (by omega : i < v.1) (by omega)) (by simp only [nI_clamp (show i < 2 ^ 31 by omega)]) dX5_howManyAreTrue_19 ?_
        refine v_istore (lv' := [.ref (a 0), .int (it (cntF v.2) i 0), .ref (a 0), .int (nI (v.1)), .int (nI (i)), .int (bI (v.2 (i)))]) hX dX5_howManyAreTrue_20 (Nat.le_of_ble_eq_true rfl) (Nat.le_of_ble_eq_true rfl) rfl rfl ?_
        refine v_iload hX dX5_howManyAreTrue_22 rfl ?_
        refine v_if_eq (tgt := 30) hX dX5_howManyAreTrue_24 (by decide) (fun c3 => ?_) (fun c3 => ?_)
        · replace c3 := bI_0.mp c3
          refine v_iinc (y := nI (i + 1)) (lv' := [.ref (a 0), .int (it (cntF v.2) i 0), .ref (a 0), .int (nI (v.1)), .int (nI (i + 1)), .int (bI (v.2 (i)))]) hX dX5_howManyAreTrue_30 rfl (nI_inc _) (Nat.le_of_ble_eq_true rfl) (Nat.le_of_ble_eq_true rfl) rfl rfl ?_
          refine v_goto (tgt := 10) hX dX5_howManyAreTrue_33 (by decide) ?_
          have e4 : it (cntF v.2) i 0 = it (cntF v.2) (i + 1) 0 := by first | rfl | (simp only [cntT, cntF, c2, c3, it, if_true, if_false, reduceIte, Bool.false_eq_true, Bool.and_true, Bool.and_false, Bool.true_and, Bool.false_and, not_true_eq_false, not_false_eq_true, eq_self, ne_eq, reduceCtorEq, decide_true, decide_false, Bool.not_true, Bool.not_false]; done) | (simp only [cntT, cntF, c2, c3, it, if_true, if_false, reduceIte, Bool.false_eq_true, Bool.and_true, Bool.and_false, Bool.true_and, Bool.false_and, not_true_eq_false, not_false_eq_true, eq_self, ne_eq, reduceCtorEq, decide_true, decide_false, Bool.not_true, Bool.not_false]; rfl)
          rw [e4]
          exact v_fewer 5 rfl (ih (i + 1)  (by omega) )
        · replace c3 := bI_n0.mp c3
          refine v_iinc (y := (it (cntF v.2) i 0 + 1)) (lv' := [.ref (a 0), .int ((it (cntF v.2) i 0 + 1)), .ref (a 0), .int (nI (v.1)), .int (nI (i)), .int (bI (v.2 (i)))]) hX dX5_howManyAreTrue_27 rfl (rfl) (Nat.le_of_ble_eq_true rfl) (Nat.le_of_ble_eq_true rfl) rfl rfl ?_
          refine v_iinc (y := nI (i + 1)) (lv' := [.ref (a 0), .int ((it (cntF v.2) i 0 + 1)), .ref (a 0), .int (nI (v.1)), .int (nI (i + 1)), .int (bI (v.2 (i)))]) hX dX5_howManyAreTrue_30 rfl (nI_inc _) (Nat.le_of_ble_eq_true rfl) (Nat.le_of_ble_eq_true rfl) rfl rfl ?_
          refine v_goto (tgt := 10) hX dX5_howManyAreTrue_33 (by decide) ?_
          have e5 : (it (cntF v.2) i 0 + 1) = it (cntF v.2) (i + 1) 0 := by first | rfl | (simp only [cntT, cntF, c2, c3, it, if_true, if_false, reduceIte, Bool.false_eq_true, Bool.and_true, Bool.and_false, Bool.true_and, Bool.false_and, not_true_eq_false, not_false_eq_true, eq_self, ne_eq, reduceCtorEq, decide_true, decide_false, Bool.not_true, Bool.not_false]; done) | (simp only [cntT, cntF, c2, c3, it, if_true, if_false, reduceIte, Bool.false_eq_true, Bool.and_true, Bool.and_false, Bool.true_and, Bool.false_and, not_true_eq_false, not_false_eq_true, eq_self, ne_eq, reduceCtorEq, decide_true, decide_false, Bool.not_true, Bool.not_false]; rfl)
          rw [e5]
          exact v_fewer 5 rfl (ih (i + 1)  (by omega) )
  exact loop_10 v.1 0  (by omega) 
set_option maxHeartbeats 4000000 in
set_option maxRecDepth 100000 in
theorem c_X1_stuckCounters (l : Launch) (E : ET) (a : Nat → Nat) (sz : Nat) (v : FV) : Met l yX1_stuckCounters wsX1_stuckCounters ({ frames := 1, cells := 0, slots := 0, locals := 25 }) (mPc E [.ref (a 0)] sz (wF E a v)) (mQi E (cntT v.2.1 24) (wF E a v) (wF E a v) sz) 0 0 (va_A (wF E a v) sz) := by
  refine v_start (cc := cX1_stuckCounters) (maxL := 1) (ret := (some .int)) (by decide) rfl (Nat.le_of_ble_eq_true rfl) rfl ?_
  intro p e s m args below meth c hsz hr hX
  have hX : Xc p s m args meth c E 1 (va_A (wF E a v) sz) cX1_stuckCounters RX1 wsX1_stuckCounters := hX
  have in_X1 : ∀ w ∈ u_ws RX1 TX1 3, w ∈ wsX1_stuckCounters := by decide +kernel
  have fl_15 : Cond.fieldLink RX1 15 RX1 "stuck" "[Z" ∈ wsX1_stuckCounters := by decide +kernel
  have wd_Cond_static_yX5_howManyAreTrue : Cond.static yX5_howManyAreTrue ∈ wsX1_stuckCounters := by decide +kernel
  have wd_Cond_initialized_RX5 : Cond.initialized RX5 ∈ wsX1_stuckCounters := by decide +kernel
  refine v_aload_n hX dX1_stuckCounters_0 rfl ?_
  refine v_get (C := RX1) (T := TX1) (N := 3) (ci := 1) (v := .ref (a 2)) hX in_X1 0 rfl rfl 1 (by decide) fl_15 rfl rfl dX1_stuckCounters_1 ?_
  refine v_callSNi (r := cntT (24, v.2.1).2 (24, v.2.1).1) (rest := []) (ws' := wF E a v) hX (fun sz => c_X5_howManyAreTrue l E (fun _ => a 2) sz (24, v.2.1) (by first | omega | exact Nat.le_of_ble_eq_true rfl | assumption | decide)) ⟨va_cnB (host := "SnoopFilter") 1 hX.2.2.2.2.1 gX1_stuckCounters_X5_howManyAreTrue_n41 rfl rfl rfl (hX.2.2.2.2.2.2.2.2 _ (by simp [nsts])) (hX.2.2.2.2.1 _ wd_Cond_initialized_RX5) (by decide +kernel) ⟨Nat.le_of_ble_eq_true rfl, Nat.le_of_ble_eq_true rfl⟩, hX.2.2.2.2.1 _ wd_Cond_static_yX5_howManyAreTrue, trivial⟩ ((wF E a v).take 2) ((wF E a v).drop 3) (rfl) (rfl).symm (rfl) rfl rfl (Nat.le_of_ble_eq_true rfl) dX1_stuckCounters_4 ?_
  exact v_iret hX hr hsz dX1_stuckCounters_7 rfl rfl (by (first | rfl | (simp only [if_true, if_false, reduceIte, Bool.false_eq_true, reduceCtorEq, decide_true, decide_false, Bool.and_true, Bool.and_false, Bool.true_and, Bool.false_and, Bool.or_true, Bool.or_false, Bool.true_or, Bool.false_or, not_true_eq_false, not_false_eq_true, Bool.not_true, Bool.not_false, eq_self, Nat.reduceEqDiff]; done) | (simp only [if_true, if_false, reduceIte, Bool.false_eq_true, reduceCtorEq, decide_true, decide_false, Bool.and_true, Bool.and_false, Bool.true_and, Bool.false_and, Bool.or_true, Bool.or_false, Bool.true_or, Bool.false_or, not_true_eq_false, not_false_eq_true, Bool.not_true, Bool.not_false, eq_self, Nat.reduceEqDiff]; rfl) | contradiction | (exfalso; omega))) rfl
set_option maxHeartbeats 4000000 in
set_option maxRecDepth 100000 in
theorem c_X1_bitsThatAreOne (l : Launch) (E : ET) (a : Nat → Nat) (sz : Nat) (v : FV) : Met l yX1_bitsThatAreOne wsX1_bitsThatAreOne ({ frames := 1, cells := 0, slots := 0, locals := 25 }) (mPc E [.ref (a 0)] sz (wF E a v)) (mQi E (cntT v.2.2 16) (wF E a v) (wF E a v) sz) 0 0 (va_A (wF E a v) sz) := by
  refine v_start (cc := cX1_bitsThatAreOne) (maxL := 1) (ret := (some .int)) (by decide) rfl (Nat.le_of_ble_eq_true rfl) rfl ?_
  intro p e s m args below meth c hsz hr hX
  have hX : Xc p s m args meth c E 1 (va_A (wF E a v) sz) cX1_bitsThatAreOne RX1 wsX1_bitsThatAreOne := hX
  have in_X1 : ∀ w ∈ u_ws RX1 TX1 3, w ∈ wsX1_bitsThatAreOne := by decide +kernel
  have fl_19 : Cond.fieldLink RX1 19 RX1 "bits" "[Z" ∈ wsX1_bitsThatAreOne := by decide +kernel
  have wd_Cond_static_yX5_howManyAreTrue : Cond.static yX5_howManyAreTrue ∈ wsX1_bitsThatAreOne := by decide +kernel
  have wd_Cond_initialized_RX5 : Cond.initialized RX5 ∈ wsX1_bitsThatAreOne := by decide +kernel
  refine v_aload_n hX dX1_bitsThatAreOne_0 rfl ?_
  refine v_get (C := RX1) (T := TX1) (N := 3) (ci := 1) (v := .ref (a 3)) hX in_X1 0 rfl rfl 2 (by decide) fl_19 rfl rfl dX1_bitsThatAreOne_1 ?_
  refine v_callSNi (r := cntT (16, v.2.2).2 (16, v.2.2).1) (rest := []) (ws' := wF E a v) hX (fun sz => c_X5_howManyAreTrue l E (fun _ => a 3) sz (16, v.2.2) (by first | omega | exact Nat.le_of_ble_eq_true rfl | assumption | decide)) ⟨va_cnB (host := "SnoopFilter") 1 hX.2.2.2.2.1 gX1_bitsThatAreOne_X5_howManyAreTrue_n41 rfl rfl rfl (hX.2.2.2.2.2.2.2.2 _ (by simp [nsts])) (hX.2.2.2.2.1 _ wd_Cond_initialized_RX5) (by decide +kernel) ⟨Nat.le_of_ble_eq_true rfl, Nat.le_of_ble_eq_true rfl⟩, hX.2.2.2.2.1 _ wd_Cond_static_yX5_howManyAreTrue, trivial⟩ ((wF E a v).take 3) ((wF E a v).drop 4) (rfl) (rfl).symm (rfl) rfl rfl (Nat.le_of_ble_eq_true rfl) dX1_bitsThatAreOne_4 ?_
  exact v_iret hX hr hsz dX1_bitsThatAreOne_7 rfl rfl (by (first | rfl | (simp only [if_true, if_false, reduceIte, Bool.false_eq_true, reduceCtorEq, decide_true, decide_false, Bool.and_true, Bool.and_false, Bool.true_and, Bool.false_and, Bool.or_true, Bool.or_false, Bool.true_or, Bool.false_or, not_true_eq_false, not_false_eq_true, Bool.not_true, Bool.not_false, eq_self, Nat.reduceEqDiff]; done) | (simp only [if_true, if_false, reduceIte, Bool.false_eq_true, reduceCtorEq, decide_true, decide_false, Bool.and_true, Bool.and_false, Bool.true_and, Bool.false_and, Bool.or_true, Bool.or_false, Bool.true_or, Bool.false_or, not_true_eq_false, not_false_eq_true, Bool.not_true, Bool.not_false, eq_self, Nat.reduceEqDiff]; rfl) | contradiction | (exfalso; omega))) rfl
set_option maxHeartbeats 4000000 in
set_option maxRecDepth 100000 in
theorem c_X1_copyFrom (l : Launch) (E : ET) (a b : Nat → Nat) (sz : Nat) (v u : FV) : Met l yX1_copyFrom wsX1_copyFrom ({ frames := 1, cells := 0, slots := 0, locals := 18 }) (mPc E [.ref (a 0), .ref (b 0)] sz (wF E a v ++ wF E b u)) (mQv E (wF E a v ++ wF E b u) (wF E a u ++ wF E b u) sz) 0 0 (va_A (wF E a v ++ wF E b u) sz) := by
  refine v_start (cc := cX1_copyFrom) (maxL := 2) (ret := none) (by decide) rfl (Nat.le_of_ble_eq_true rfl) rfl ?_
  intro p e s m args below meth c hsz hr hX
  have hX : Xc p s m args meth c E 2 (va_A (wF E a v ++ wF E b u) sz) cX1_copyFrom RX1 wsX1_copyFrom := hX
  have in_X1 : ∀ w ∈ u_ws RX1 TX1 3, w ∈ wsX1_copyFrom := by decide +kernel
  have fl_9 : Cond.fieldLink RX1 9 RX1 "counters" "[I" ∈ wsX1_copyFrom := by decide +kernel
  have wd_Cond_methodLink_RX1_45_arraycopyName : Cond.methodLink RX1 45 arraycopyName ∈ wsX1_copyFrom := by decide +kernel
  have wd_Cond_native_arraycopyName : Cond.native arraycopyName ∈ wsX1_copyFrom := by decide +kernel
  have wd_Cond_static_arraycopyName : Cond.static arraycopyName ∈ wsX1_copyFrom := by decide +kernel
  have wd_Cond_initialized_java_lang_System_ : Cond.initialized "java/lang/System" ∈ wsX1_copyFrom := by decide +kernel
  have fl_15 : Cond.fieldLink RX1 15 RX1 "stuck" "[Z" ∈ wsX1_copyFrom := by decide +kernel
  have fl_19 : Cond.fieldLink RX1 19 RX1 "bits" "[Z" ∈ wsX1_copyFrom := by decide +kernel
  refine v_aload_n hX dX1_copyFrom_0 rfl ?_
  refine v_get (C := RX1) (T := TX1) (N := 3) (ci := 1) (v := .ref (b 1)) hX in_X1 4 rfl rfl 0 (by decide) fl_9 rfl rfl dX1_copyFrom_1 ?_
  refine v_iconst (x := (0 : Int32)) hX dX1_copyFrom_4 (by decide) ?_
  refine v_aload_n hX dX1_copyFrom_5 rfl ?_
  refine v_get (C := RX1) (T := TX1) (N := 3) (ci := 1) (v := .ref (a 1)) hX in_X1 0 rfl rfl 0 (by decide) fl_9 rfl rfl dX1_copyFrom_6 ?_
  refine v_iconst (x := (0 : Int32)) hX dX1_copyFrom_9 (by decide) ?_
  refine v_bipush (x := (24 : Int32)) hX dX1_copyFrom_10 (by decide) ?_
  obtain ⟨v1, hv1⟩ : ∃ z_ : FV, z_ = (u.1, v.2.1, v.2.2) := ⟨_, rfl⟩
  refine v_copyAll (ws' := wF E a v1 ++ wF E b u) (ty := .int) hX wd_Cond_methodLink_RX1_45_arraycopyName wd_Cond_native_arraycopyName wd_Cond_static_arraycopyName wd_Cond_initialized_java_lang_System_ 5 1 0 rfl rfl rfl rfl (n := 24) rfl (by decide) (fun _ => rfl) (Nat.le_of_ble_eq_true rfl) (Nat.le_of_ble_eq_true rfl) dX1_copyFrom_12 (by rw [hv1]; rfl) ?_
  refine v_aload_n hX dX1_copyFrom_15 rfl ?_
  refine v_get (C := RX1) (T := TX1) (N := 3) (ci := 1) (v := .ref (b 2)) hX in_X1 4 rfl rfl 1 (by decide) fl_15 rfl rfl dX1_copyFrom_16 ?_
  refine v_iconst (x := (0 : Int32)) hX dX1_copyFrom_19 (by decide) ?_
  refine v_aload_n hX dX1_copyFrom_20 rfl ?_
  refine v_get (C := RX1) (T := TX1) (N := 3) (ci := 1) (v := .ref (a 2)) hX in_X1 0 rfl rfl 1 (by decide) fl_15 rfl rfl dX1_copyFrom_21 ?_
  refine v_iconst (x := (0 : Int32)) hX dX1_copyFrom_24 (by decide) ?_
  refine v_bipush (x := (24 : Int32)) hX dX1_copyFrom_25 (by decide) ?_
  obtain ⟨v2, hv2⟩ : ∃ z_ : FV, z_ = (v1.1, u.2.1, v1.2.2) := ⟨_, rfl⟩
  refine v_copyAll (ws' := wF E a v2 ++ wF E b u) (ty := .boolean) hX wd_Cond_methodLink_RX1_45_arraycopyName wd_Cond_native_arraycopyName wd_Cond_static_arraycopyName wd_Cond_initialized_java_lang_System_ 6 2 1 rfl rfl rfl rfl (n := 24) rfl (by decide) (fun _ => bI_fits _) (Nat.le_of_ble_eq_true rfl) (Nat.le_of_ble_eq_true rfl) dX1_copyFrom_27 (by rw [hv2]; rfl) ?_
  refine v_aload_n hX dX1_copyFrom_30 rfl ?_
  refine v_get (C := RX1) (T := TX1) (N := 3) (ci := 1) (v := .ref (b 3)) hX in_X1 4 rfl rfl 2 (by decide) fl_19 rfl rfl dX1_copyFrom_31 ?_
  refine v_iconst (x := (0 : Int32)) hX dX1_copyFrom_34 (by decide) ?_
  refine v_aload_n hX dX1_copyFrom_35 rfl ?_
  refine v_get (C := RX1) (T := TX1) (N := 3) (ci := 1) (v := .ref (a 3)) hX in_X1 0 rfl rfl 2 (by decide) fl_19 rfl rfl dX1_copyFrom_36 ?_
  refine v_iconst (x := (0 : Int32)) hX dX1_copyFrom_39 (by decide) ?_
  refine v_bipush (x := (16 : Int32)) hX dX1_copyFrom_40 (by decide) ?_
  obtain ⟨v3, hv3⟩ : ∃ z_ : FV, z_ = (v2.1, v2.2.1, u.2.2) := ⟨_, rfl⟩
  refine v_copyAll (ws' := wF E a v3 ++ wF E b u) (ty := .boolean) hX wd_Cond_methodLink_RX1_45_arraycopyName wd_Cond_native_arraycopyName wd_Cond_static_arraycopyName wd_Cond_initialized_java_lang_System_ 7 3 1 rfl rfl rfl rfl (n := 16) rfl (by decide) (fun _ => bI_fits _) (Nat.le_of_ble_eq_true rfl) (Nat.le_of_ble_eq_true rfl) dX1_copyFrom_42 (by rw [hv3]; rfl) ?_
  exact v_vret hX hr hsz dX1_copyFrom_45 rfl rfl (by (subst hv3; subst hv2; subst hv1; first | rfl | (simp only [if_true, if_false, reduceIte, Bool.false_eq_true, reduceCtorEq, decide_true, decide_false, Bool.and_true, Bool.and_false, Bool.true_and, Bool.false_and, Bool.or_true, Bool.or_false, Bool.true_or, Bool.false_or, not_true_eq_false, not_false_eq_true, Bool.not_true, Bool.not_false, eq_self, Nat.reduceEqDiff]; done) | (simp only [if_true, if_false, reduceIte, Bool.false_eq_true, reduceCtorEq, decide_true, decide_false, Bool.and_true, Bool.and_false, Bool.true_and, Bool.false_and, Bool.or_true, Bool.or_false, Bool.true_or, Bool.false_or, not_true_eq_false, not_false_eq_true, Bool.not_true, Bool.not_false, eq_self, Nat.reduceEqDiff]; rfl) | contradiction | (exfalso; omega)))
