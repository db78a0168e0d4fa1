/-! ===== what the methods do, in words: cores ===== -/
def K_holds (v : KV) (n : Fin 256) : Bool := decide (v.1 (n.val % 8) = some n)
def K_hd (v : KV) (n : Fin 256) : Bool := K_holds v n && v.2.2.1 (n.val % 8)
def K_fill (v : KV) (n : Fin 256) (x : Int32) (b : Bool) : KV := K_setD (K_setV (K_setL v (n.val % 8) (some n)) (n.val % 8) x) (n.val % 8) b
def K_empty (v : KV) (p : Nat) : KV := K_setD (K_setL v p none) p false
def K_release (v : KV) (n : Fin 256) : KV := K_empty (K_setF v (F_remove v.2.2.2.2 n.val)) (n.val % 8)
def K_may (v : KV) (n : Fin 256) : Bool := F_may v.2.2.2.2 n.val
def K_tick (v : KV) (t : Nat) : KV := K_setT v t (v.2.2.2.1 t + 1)
def K_reach (v : KV) (n : Fin 256) : KV := if K_may v n = true then (if K_holds (K_tick v 2) n = true then K_tick v 2 else K_tick (K_tick v 2) 3) else K_tick v 4
def K_heldF (v : KV) : Nat → Int32 → Int32 := fun i x => if v.1 i = none then x else x + 1
def K_held (v : KV) : Int32 := it (K_heldF v) 8 0
def K_dirties (v : KV) : Int32 := cntT v.2.2.1 8
def K_nothing (v : KV) : Bool := decide (K_held v = 0) && (decide (F_above v.2.2.2.2 = 0) && decide (cntT v.2.2.2.2.2.2 16 = 0))
set_option maxHeartbeats 4000000 in
set_option maxRecDepth 100000 in
theorem c_X0_holds (l : Launch) (E : ET) (a : Nat → Nat) (sz : Nat) (v : KV) (n : Fin 256) : Met l yX0_holds wsX0_holds ({ frames := 1, cells := 0, slots := 0, locals := 20 }) (mPc E [.ref (a 0), .int (nI (n).val)] sz (wK E a v)) (mQi E (bI (K_holds v n)) (wK E a v) (wK E a v) sz) 0 0 (va_A (wK E a v) sz) := by
  refine v_start (cc := cX0_holds) (maxL := 2) (ret := (some .boolean)) (by decide) rfl (Nat.le_of_ble_eq_true rfl) rfl ?_
  intro p e s m args below meth c hsz hr hX
  have hX : Xc p s m args meth c E 2 (va_A (wK E a v) sz) cX0_holds RX0 wsX0_holds := hX
  have in_X0 : ∀ w ∈ u_ws RX0 TX0 5, w ∈ wsX0_holds := by decide +kernel
  have fl_9 : Cond.fieldLink RX0 9 RX0 "lines" "[I" ∈ wsX0_holds := by decide +kernel
  have hlt_n := n.isLt
  refine v_aload_n hX dX0_holds_0 rfl ?_
  refine v_get (C := RX0) (T := TX0) (N := 5) (ci := 0) (v := .ref (a 1)) hX in_X0 0 rfl rfl 0 (by decide) fl_9 rfl rfl dX0_holds_1 ?_
  refine v_iload_n hX dX0_holds_4 rfl ?_
  refine v_callSi (r := nI (((n).val) % 8)) (rest := [.ref (a 1)]) (ws' := wK E a v) hX (fun sz => c_X0_placeOf l E sz ((n).val) (by first | omega | exact Nat.le_of_ble_eq_true rfl | assumption | decide)) (va_cwS 1 hX.2.2.2.2.1 gX0_holds_X0_placeOf rfl rfl rfl (by decide +kernel) ⟨Nat.le_of_ble_eq_true rfl, Nat.le_of_ble_eq_true rfl⟩) ([]) (wK E a v) (rfl) rfl (rfl) rfl rfl (Nat.le_of_ble_eq_true rfl) dX0_holds_5 ?_
  refine v_iald (z := encL (v.1 (((n).val) % 8))) hX 1 rfl (vp_in_nI (by omega : ((n).val) % 8 < 8) (by omega)) (by simp only [nI_clamp (show ((n).val) % 8 < 2 ^ 31 by omega)]) dX0_holds_8 ?_
  refine v_iload_n hX dX0_holds_9 rfl ?_
  refine v_icmp_ne (tgt := 17) hX dX0_holds_10 (by decide) (fun c1 => ?_) (fun c1 => ?_)
  · replace c1 := (not_congr encL_eq).mp c1
    refine v_iconst (x := (0 : Int32)) hX dX0_holds_17 (by decide) ?_
    exact v_zret hX hr hsz dX0_holds_18 rfl rfl (bI_narrow (false)) (congrArg bI (by (first | rfl | (simp only [K_holds, c1, if_true, if_false, reduceIte, Bool.false_eq_true, reduceCtorEq, decide_true, decide_false, Bool.and_true, Bool.and_false, Bool.true_and, Bool.false_and, Bool.or_true, Bool.or_false, Bool.true_or, Bool.false_or, not_true_eq_false, not_false_eq_true, Bool.not_true, Bool.not_false, eq_self, Nat.reduceEqDiff]; done) | (simp only [K_holds, c1, if_true, if_false, reduceIte, Bool.false_eq_true, reduceCtorEq, decide_true, decide_false, Bool.and_true, Bool.and_false, Bool.true_and, Bool.false_and, Bool.or_true, Bool.or_false, Bool.true_or, Bool.false_or, not_true_eq_false, not_false_eq_true, Bool.not_true, Bool.not_false, eq_self, Nat.reduceEqDiff]; rfl) | contradiction | (exfalso; omega)) : false = K_holds v n)) rfl
  · replace c1 := encL_eq.mp c1
    refine v_iconst (x := (1 : Int32)) hX dX0_holds_13 (by decide) ?_
    refine v_goto (tgt := 18) hX dX0_holds_14 (by decide) ?_
    exact v_zret hX hr hsz dX0_holds_18 rfl rfl (bI_narrow (true)) (congrArg bI (by (first | rfl | (simp only [K_holds, c1, if_true, if_false, reduceIte, Bool.false_eq_true, reduceCtorEq, decide_true, decide_false, Bool.and_true, Bool.and_false, Bool.true_and, Bool.false_and, Bool.or_true, Bool.or_false, Bool.true_or, Bool.false_or, not_true_eq_false, not_false_eq_true, Bool.not_true, Bool.not_false, eq_self, Nat.reduceEqDiff]; done) | (simp only [K_holds, c1, if_true, if_false, reduceIte, Bool.false_eq_true, reduceCtorEq, decide_true, decide_false, Bool.and_true, Bool.and_false, Bool.true_and, Bool.false_and, Bool.or_true, Bool.or_false, Bool.true_or, Bool.false_or, not_true_eq_false, not_false_eq_true, Bool.not_true, Bool.not_false, eq_self, Nat.reduceEqDiff]; rfl) | contradiction | (exfalso; omega)) : true = K_holds v n)) rfl
set_option maxHeartbeats 4000000 in
set_option maxRecDepth 100000 in
theorem c_X0_holdsDirty (l : Launch) (E : ET) (a : Nat → Nat) (sz : Nat) (v : KV) (n : Fin 256) : Met l yX0_holdsDirty wsX0_holdsDirty ({ frames := 2, cells := 0, slots := 0, locals := 41 }) (mPc E [.ref (a 0), .int (nI (n).val)] sz (wK E a v)) (mQi E (bI (K_hd v n)) (wK E a v) (wK E a v) sz) 0 0 (va_A (wK E a v) sz) := by
  refine v_start (cc := cX0_holdsDirty) (maxL := 2) (ret := (some .boolean)) (by decide) rfl (Nat.le_of_ble_eq_true rfl) rfl ?_
  intro p e s m args below meth c hsz hr hX
  have hX : Xc p s m args meth c E 2 (va_A (wK E a v) sz) cX0_holdsDirty RX0 wsX0_holdsDirty := hX
  have in_X0 : ∀ w ∈ u_ws RX0 TX0 5, w ∈ wsX0_holdsDirty := by decide +kernel
  have fl_18 : Cond.fieldLink RX0 18 RX0 "dirty" "[Z" ∈ wsX0_holdsDirty := by decide +kernel
  have hlt_n := n.isLt
  refine v_aload_n hX dX0_holdsDirty_0 rfl ?_
  refine v_iload_n hX dX0_holdsDirty_1 rfl ?_
  refine v_callVi (r := bI (K_holds v n)) (rest := []) (ws' := wK E a v) hX (fun sz => c_X0_holds l E a sz v n) (cwV 1 hX.2.2.2.2.1 gX0_holdsDirty_X0_holds rfl rfl rfl (by decide +kernel) ⟨Nat.le_of_ble_eq_true rfl, Nat.le_of_ble_eq_true rfl⟩) ([]) ([]) ((List.append_nil _).symm) ((List.append_nil _).symm).symm (wK_fst E a _ _) (ci := 0) (q0 := 0) rfl rfl rfl rfl rfl (Nat.le_of_ble_eq_true rfl) dX0_holdsDirty_2 ?_
  refine v_if_eq (tgt := 24) hX dX0_holdsDirty_5 (by decide) (fun c1 => ?_) (fun c1 => ?_)
  · replace c1 := bI_0.mp c1
    refine v_iconst (x := (0 : Int32)) hX dX0_holdsDirty_24 (by decide) ?_
    exact v_zret hX hr hsz dX0_holdsDirty_25 rfl rfl (bI_narrow (false)) (congrArg bI (by (first | rfl | (simp only [K_hd, c1, if_true, if_false, reduceIte, Bool.false_eq_true, reduceCtorEq, decide_true, decide_false, Bool.and_true, Bool.and_false, Bool.true_and, Bool.false_and, Bool.or_true, Bool.or_false, Bool.true_or, Bool.false_or, not_true_eq_false, not_false_eq_true, Bool.not_true, Bool.not_false, eq_self, Nat.reduceEqDiff]; done) | (simp only [K_hd, c1, if_true, if_false, reduceIte, Bool.false_eq_true, reduceCtorEq, decide_true, decide_false, Bool.and_true, Bool.and_false, Bool.true_and, Bool.false_and, Bool.or_true, Bool.or_false, Bool.true_or, Bool.false_or, not_true_eq_false, not_false_eq_true, Bool.not_true, Bool.not_false, eq_self, Nat.reduceEqDiff]; rfl) | contradiction | (exfalso; omega)) : false = K_hd v n)) rfl
  · replace c1 := bI_n0.mp c1
    refine v_aload_n hX dX0_holdsDirty_8 rfl ?_
    refine v_get (C := RX0) (T := TX0) (N := 5) (ci := 0) (v := .ref (a 3)) hX in_X0 0 rfl rfl 2 (by decide) fl_18 rfl rfl dX0_holdsDirty_9 ?_
    refine v_iload_n hX dX0_holdsDirty_12 rfl ?_
    refine v_callSi (r := nI (((n).val) % 8)) (rest := [.ref (a 3)]) (ws' := wK E a v) hX (fun sz => c_X0_placeOf l E sz ((n).val) (by first | omega | exact Nat.le_of_ble_eq_true rfl | assumption | decide)) (va_cwS 1 hX.2.2.2.2.1 gX0_holdsDirty_X0_placeOf rfl rfl rfl (by decide +kernel) ⟨Nat.le_of_ble_eq_true rfl, Nat.le_of_ble_eq_true rfl⟩) ([]) (wK E a v) (rfl) rfl (rfl) rfl rfl (Nat.le_of_ble_eq_true rfl) dX0_holdsDirty_13 ?_
    refine v_zald (z := bI (v.2.2.1 (((n).val) % 8))) hX 3 rfl (vp_in_nI (by omega : ((n).val) % 8 < 8) (by omega)) (by simp only [nI_clamp (show ((n).val) % 8 < 2 ^ 31 by omega)]) dX0_holdsDirty_16 ?_
    refine v_if_eq (tgt := 24) hX dX0_holdsDirty_17 (by decide) (fun c2 => ?_) (fun c2 => ?_)
    · replace c2 := bI_0.mp c2
      refine v_iconst (x := (0 : Int32)) hX dX0_holdsDirty_24 (by decide) ?_
      exact v_zret hX hr hsz dX0_holdsDirty_25 rfl rfl (bI_narrow (false)) (congrArg bI (by (first | rfl | (simp only [K_hd, c1, c2, if_true, if_false, reduceIte, Bool.false_eq_true, reduceCtorEq, decide_true, decide_false, Bool.and_true, Bool.and_false, Bool.true_and, Bool.false_and, Bool.or_true, Bool.or_false, Bool.true_or, Bool.false_or, not_true_eq_false, not_false_eq_true, Bool.not_true, Bool.not_false, eq_self, Nat.reduceEqDiff]; done) | (simp only [K_hd, c1, c2, if_true, if_false, reduceIte, Bool.false_eq_true, reduceCtorEq, decide_true, decide_false, Bool.and_true, Bool.and_false, Bool.true_and, Bool.false_and, Bool.or_true, Bool.or_false, Bool.true_or, Bool.false_or, not_true_eq_false, not_false_eq_true, Bool.not_true, Bool.not_false, eq_self, Nat.reduceEqDiff]; rfl) | contradiction | (exfalso; omega)) : false = K_hd v n)) rfl
    · replace c2 := bI_n0.mp c2
      refine v_iconst (x := (1 : Int32)) hX dX0_holdsDirty_20 (by decide) ?_
      refine v_goto (tgt := 25) hX dX0_holdsDirty_21 (by decide) ?_
      exact v_zret hX hr hsz dX0_holdsDirty_25 rfl rfl (bI_narrow (true)) (congrArg bI (by (first | rfl | (simp only [K_hd, c1, c2, if_true, if_false, reduceIte, Bool.false_eq_true, reduceCtorEq, decide_true, decide_false, Bool.and_true, Bool.and_false, Bool.true_and, Bool.false_and, Bool.or_true, Bool.or_false, Bool.true_or, Bool.false_or, not_true_eq_false, not_false_eq_true, Bool.not_true, Bool.not_false, eq_self, Nat.reduceEqDiff]; done) | (simp only [K_hd, c1, c2, if_true, if_false, reduceIte, Bool.false_eq_true, reduceCtorEq, decide_true, decide_false, Bool.and_true, Bool.and_false, Bool.true_and, Bool.false_and, Bool.or_true, Bool.or_false, Bool.true_or, Bool.false_or, not_true_eq_false, not_false_eq_true, Bool.not_true, Bool.not_false, eq_self, Nat.reduceEqDiff]; rfl) | contradiction | (exfalso; omega)) : true = K_hd v n)) rfl
set_option maxHeartbeats 4000000 in
set_option maxRecDepth 100000 in
theorem c_X0_fill (l : Launch) (E : ET) (a : Nat → Nat) (sz : Nat) (v : KV) (n : Fin 256) (x : Int32) (b : Bool) : Met l yX0_fill wsX0_fill ({ frames := 1, cells := 0, slots := 0, locals := 20 }) (mPc E [.ref (a 0), .int (nI (n).val), .int (x), .int (bI (b))] sz (wK E a v)) (mQv E (wK E a v) (wK E a (K_fill v n x b)) sz) 0 0 (va_A (wK E a v) sz) := by
  refine v_start (cc := cX0_fill) (maxL := 5) (ret := none) (by decide) rfl (Nat.le_of_ble_eq_true rfl) rfl ?_
  intro p e s m args below meth c hsz hr hX
  have hX : Xc p s m args meth c E 5 (va_A (wK E a v) sz) cX0_fill RX0 wsX0_fill := hX
  have in_X0 : ∀ w ∈ u_ws RX0 TX0 5, w ∈ wsX0_fill := by decide +kernel
  have fl_9 : Cond.fieldLink RX0 9 RX0 "lines" "[I" ∈ wsX0_fill := by decide +kernel
  have fl_15 : Cond.fieldLink RX0 15 RX0 "values" "[I" ∈ wsX0_fill := by decide +kernel
  have fl_18 : Cond.fieldLink RX0 18 RX0 "dirty" "[Z" ∈ wsX0_fill := by decide +kernel
  have hlt_n := n.isLt
  refine v_iload_n hX dX0_fill_0 rfl ?_
  refine v_callSi (r := nI (((n).val) % 8)) (rest := []) (ws' := wK E a v) hX (fun sz => c_X0_placeOf l E sz ((n).val) (by first | omega | exact Nat.le_of_ble_eq_true rfl | assumption | decide)) (va_cwS 1 hX.2.2.2.2.1 gX0_fill_X0_placeOf rfl rfl rfl (by decide +kernel) ⟨Nat.le_of_ble_eq_true rfl, Nat.le_of_ble_eq_true rfl⟩) ([]) (wK E a v) (rfl) rfl (rfl) rfl rfl (Nat.le_of_ble_eq_true rfl) dX0_fill_1 ?_
  refine v_istore (lv' := [.ref (a 0), .int (nI (n).val), .int (x), .int (bI (b)), .int (nI (((n).val) % 8))]) hX dX0_fill_4 (Nat.le_of_ble_eq_true rfl) (Nat.le_of_ble_eq_true rfl) rfl rfl ?_
  refine v_aload_n hX dX0_fill_6 rfl ?_
  refine v_get (C := RX0) (T := TX0) (N := 5) (ci := 0) (v := .ref (a 1)) hX in_X0 0 rfl rfl 0 (by decide) fl_9 rfl rfl dX0_fill_7 ?_
  refine v_iload hX dX0_fill_10 rfl ?_
  refine v_iload_n hX dX0_fill_12 rfl ?_
  obtain ⟨v1, hv1⟩ : ∃ z_ : KV, z_ = K_setL v (((n).val) % 8) (some n) := ⟨_, rfl⟩
  refine v_iast (ws' := wK E a v1) hX 1 rfl (vp_in_nI (by omega : ((n).val) % 8 < 8) (by omega)) (by rw [hv1]; exact sK_L E a v (k := ((n).val) % 8) (by omega) (some n)) dX0_fill_13 ?_
  refine v_aload_n hX dX0_fill_14 rfl ?_
  refine v_get (C := RX0) (T := TX0) (N := 5) (ci := 0) (v := .ref (a 2)) hX in_X0 0 rfl rfl 1 (by decide) fl_15 rfl rfl dX0_fill_15 ?_
  refine v_iload hX dX0_fill_18 rfl ?_
  refine v_iload_n hX dX0_fill_20 rfl ?_
  obtain ⟨v2, hv2⟩ : ∃ z_ : KV, z_ = K_setV v1 (((n).val) % 8) (x) := ⟨_, rfl⟩
  refine v_iast (ws' := wK E a v2) hX 2 rfl (vp_in_nI (by omega : ((n).val) % 8 < 8) (by omega)) (by rw [hv2]; exact sK_V E a v1 (k := ((n).val) % 8) (by omega) _) dX0_fill_21 ?_
  refine v_aload_n hX dX0_fill_22 rfl ?_
  refine v_get (C := RX0) (T := TX0) (N := 5) (ci := 0) (v := .ref (a 3)) hX in_X0 0 rfl rfl 2 (by decide) fl_18 rfl rfl dX0_fill_23 ?_
  refine v_iload hX dX0_fill_26 rfl ?_
  refine v_iload_n hX dX0_fill_28 rfl ?_
  obtain ⟨v3, hv3⟩ : ∃ z_ : KV, z_ = K_setD v2 (((n).val) % 8) (b) := ⟨_, rfl⟩
  refine v_zast (ws' := wK E a v3) hX 3 rfl (vp_in_nI (by omega : ((n).val) % 8 < 8) (by omega)) (by rw [hv3]; exact sK_D E a v2 (k := ((n).val) % 8) (by omega) (b)) dX0_fill_29 ?_
  exact v_vret hX hr hsz dX0_fill_30 rfl rfl (by (subst hv3; subst hv2; subst hv1; first | rfl | (simp only [K_fill, if_true, if_false, reduceIte, Bool.false_eq_true, reduceCtorEq, decide_true, decide_false, Bool.and_true, Bool.and_false, Bool.true_and, Bool.false_and, Bool.or_true, Bool.or_false, Bool.true_or, Bool.false_or, not_true_eq_false, not_false_eq_true, Bool.not_true, Bool.not_false, eq_self, Nat.reduceEqDiff]; done) | (simp only [K_fill, if_true, if_false, reduceIte, Bool.false_eq_true, reduceCtorEq, decide_true, decide_false, Bool.and_true, Bool.and_false, Bool.true_and, Bool.false_and, Bool.or_true, Bool.or_false, Bool.true_or, Bool.false_or, not_true_eq_false, not_false_eq_true, Bool.not_true, Bool.not_false, eq_self, Nat.reduceEqDiff]; rfl) | contradiction | (exfalso; omega)))
set_option maxHeartbeats 4000000 in
set_option maxRecDepth 100000 in
theorem c_X0_empty (l : Launch) (E : ET) (a : Nat → Nat) (sz : Nat) (v : KV) (pl : Nat) (hpl : pl < 8) : Met l yX0_empty wsX0_empty ({ frames := 0, cells := 0, slots := 0, locals := 0 }) (mPc E [.ref (a 0), .int (nI (pl))] sz (wK E a v)) (mQv E (wK E a v) (wK E a (K_empty v pl)) sz) 0 0 (va_A (wK E a v) sz) := by
  refine v_start (cc := cX0_empty) (maxL := 2) (ret := none) (by decide) rfl (Nat.le_of_ble_eq_true rfl) rfl ?_
  intro p e s m args below meth c hsz hr hX
  have hX : Xc p s m args meth c E 2 (va_A (wK E a v) sz) cX0_empty RX0 wsX0_empty := hX
  have in_X0 : ∀ w ∈ u_ws RX0 TX0 5, w ∈ wsX0_empty := by decide +kernel
  have fl_9 : Cond.fieldLink RX0 9 RX0 "lines" "[I" ∈ wsX0_empty := by decide +kernel
  have fl_18 : Cond.fieldLink RX0 18 RX0 "dirty" "[Z" ∈ wsX0_empty := by decide +kernel
  refine v_aload_n hX dX0_empty_0 rfl ?_
  refine v_get (C := RX0) (T := TX0) (N := 5) (ci := 0) (v := .ref (a 1)) hX in_X0 0 rfl rfl 0 (by decide) fl_9 rfl rfl dX0_empty_1 ?_
  refine v_iload_n hX dX0_empty_4 rfl ?_
  refine v_iconst (x := (-1 : Int32)) hX dX0_empty_5 (by decide) ?_
  obtain ⟨v1, hv1⟩ : ∃ z_ : KV, z_ = K_setL v (pl) (none) := ⟨_, rfl⟩
  refine v_iast (ws' := wK E a v1) hX 1 rfl (vp_in_nI (by omega : pl < 8) (by omega)) (by rw [hv1]; exact sK_L E a v (k := pl) (by omega) (none)) dX0_empty_6 ?_
  refine v_aload_n hX dX0_empty_7 rfl ?_
  refine v_get (C := RX0) (T := TX0) (N := 5) (ci := 0) (v := .ref (a 3)) hX in_X0 0 rfl rfl 2 (by decide) fl_18 rfl rfl dX0_empty_8 ?_
  refine v_iload_n hX dX0_empty_11 rfl ?_
  refine v_iconst (x := (0 : Int32)) hX dX0_empty_12 (by decide) ?_
  obtain ⟨v2, hv2⟩ : ∃ z_ : KV, z_ = K_setD v1 (pl) (false) := ⟨_, rfl⟩
  refine v_zast (ws' := wK E a v2) hX 3 rfl (vp_in_nI (by omega : pl < 8) (by omega)) (by rw [hv2]; exact sK_D E a v1 (k := pl) (by omega) (false)) dX0_empty_13 ?_
  exact v_vret hX hr hsz dX0_empty_14 rfl rfl (by (subst hv2; subst hv1; first | rfl | (simp only [K_empty, if_true, if_false, reduceIte, Bool.false_eq_true, reduceCtorEq, decide_true, decide_false, Bool.and_true, Bool.and_false, Bool.true_and, Bool.false_and, Bool.or_true, Bool.or_false, Bool.true_or, Bool.false_or, not_true_eq_false, not_false_eq_true, Bool.not_true, Bool.not_false, eq_self, Nat.reduceEqDiff]; done) | (simp only [K_empty, if_true, if_false, reduceIte, Bool.false_eq_true, reduceCtorEq, decide_true, decide_false, Bool.and_true, Bool.and_false, Bool.true_and, Bool.false_and, Bool.or_true, Bool.or_false, Bool.true_or, Bool.false_or, not_true_eq_false, not_false_eq_true, Bool.not_true, Bool.not_false, eq_self, Nat.reduceEqDiff]; rfl) | contradiction | (exfalso; omega)))
set_option maxHeartbeats 4000000 in
set_option maxRecDepth 100000 in
theorem c_X0_release (l : Launch) (E : ET) (a : Nat → Nat) (sz : Nat) (v : KV) (n : Fin 256) : Met l yX0_release wsX0_release ({ frames := 2, cells := 0, slots := 0, locals := 42 }) (mPc E [.ref (a 0), .int (nI (n).val)] sz (wK E a v)) (mQv E (wK E a v) (wK E a (K_release v n)) sz) 0 0 (va_A (wK E a v) sz) := by
  refine v_start (cc := cX0_release) (maxL := 2) (ret := none) (by decide) rfl (Nat.le_of_ble_eq_true rfl) rfl ?_
  intro p e s m args below meth c hsz hr hX
  have hX : Xc p s m args meth c E 2 (va_A (wK E a v) sz) cX0_release RX0 wsX0_release := hX
  have in_X0 : ∀ w ∈ u_ws RX0 TX0 5, w ∈ wsX0_release := by decide +kernel
  have fl_28 : Cond.fieldLink RX0 28 RX0 "filter" "LSnoopFilter$Filter;" ∈ wsX0_release := by decide +kernel
  have hlt_n := n.isLt
  refine v_aload_n hX dX0_release_0 rfl ?_
  refine v_get (C := RX0) (T := TX0) (N := 5) (ci := 0) (v := .ref (a 5)) hX in_X0 0 rfl rfl 4 (by decide) fl_28 rfl rfl dX0_release_1 ?_
  refine v_iload_n hX dX0_release_4 rfl ?_
  obtain ⟨v1, hv1⟩ : ∃ z_ : KV, z_ = K_setF v (F_remove v.2.2.2.2 ((n).val)) := ⟨_, rfl⟩
  refine v_callVv (rest := []) (ws' := wK E a v1) hX (fun sz => c_X1_remove l E (fA a) sz v.2.2.2.2 ((n).val) (by first | omega | exact Nat.le_of_ble_eq_true rfl | assumption | decide)) (cwV 1 hX.2.2.2.2.1 gX0_release_X1_remove rfl rfl rfl (by decide +kernel) ⟨Nat.le_of_ble_eq_true rfl, Nat.le_of_ble_eq_true rfl⟩) (w5 E a v) ([]) (rfl) (by rw [hv1]; exact rfl) (wF_fst E (fA a) _ _) (ci := 1) (q0 := 0) rfl rfl rfl rfl rfl (Nat.le_of_ble_eq_true rfl) dX0_release_5 ?_
  refine v_aload_n hX dX0_release_8 rfl ?_
  refine v_iload_n hX dX0_release_9 rfl ?_
  refine v_callSi (r := nI (((n).val) % 8)) (rest := [.ref (a 0)]) (ws' := wK E a v1) hX (fun sz => c_X0_placeOf l E sz ((n).val) (by first | omega | exact Nat.le_of_ble_eq_true rfl | assumption | decide)) (va_cwS 1 hX.2.2.2.2.1 gX0_release_X0_placeOf rfl rfl rfl (by decide +kernel) ⟨Nat.le_of_ble_eq_true rfl, Nat.le_of_ble_eq_true rfl⟩) ([]) (wK E a v1) (rfl) rfl (rfl) rfl rfl (Nat.le_of_ble_eq_true rfl) dX0_release_10 ?_
  obtain ⟨v2, hv2⟩ : ∃ z_ : KV, z_ = K_empty v1 (((n).val) % 8) := ⟨_, rfl⟩
  refine v_callVv (rest := []) (ws' := wK E a v2) hX (fun sz => c_X0_empty l E a sz v1 (((n).val) % 8) (by first | omega | exact Nat.le_of_ble_eq_true rfl | assumption | decide)) (cwV 1 hX.2.2.2.2.1 gX0_release_X0_empty rfl rfl rfl (by decide +kernel) ⟨Nat.le_of_ble_eq_true rfl, Nat.le_of_ble_eq_true rfl⟩) ([]) ([]) ((List.append_nil _).symm) (by rw [hv2]; exact List.append_nil _) (wK_fst E a _ _) (ci := 0) (q0 := 0) rfl rfl rfl rfl rfl (Nat.le_of_ble_eq_true rfl) dX0_release_13 ?_
  exact v_vret hX hr hsz dX0_release_16 rfl rfl (by (subst hv2; subst hv1; first | rfl | (simp only [K_release, if_true, if_false, reduceIte, Bool.false_eq_true, reduceCtorEq, decide_true, decide_false, Bool.and_true, Bool.and_false, Bool.true_and, Bool.false_and, Bool.or_true, Bool.or_false, Bool.true_or, Bool.false_or, not_true_eq_false, not_false_eq_true, Bool.not_true, Bool.not_false, eq_self, Nat.reduceEqDiff]; done) | (simp only [K_release, if_true, if_false, reduceIte, Bool.false_eq_true, reduceCtorEq, decide_true, decide_false, Bool.and_true, Bool.and_false, Bool.true_and, Bool.false_and, Bool.or_true, Bool.or_false, Bool.true_or, Bool.false_or, not_true_eq_false, not_false_eq_true, Bool.not_true, Bool.not_false, eq_self, Nat.reduceEqDiff]; rfl) | contradiction | (exfalso; omega)))
set_option maxHeartbeats 4000000 in
set_option maxRecDepth 100000 in
theorem c_X0_isReachedBySnoop (l : Launch) (E : ET) (a : Nat → Nat) (sz : Nat) (v : KV) (n : Fin 256) : Met l yX0_isReachedBySnoop wsX0_isReachedBySnoop ({ frames := 2, cells := 0, slots := 0, locals := 42 }) (mPc E [.ref (a 0), .int (nI (n).val)] sz (wK E a v)) (mQi E (bI (K_may v n)) (wK E a v) (wK E a (K_reach v n)) sz) 0 0 (va_A (wK E a v) sz) := by
  refine v_start (cc := cX0_isReachedBySnoop) (maxL := 2) (ret := (some .boolean)) (by decide) rfl (Nat.le_of_ble_eq_true rfl) rfl ?_
  intro p e s m args below meth c hsz hr hX
  have hX : Xc p s m args meth c E 2 (va_A (wK E a v) sz) cX0_isReachedBySnoop RX0 wsX0_isReachedBySnoop := hX
  have in_X0 : ∀ w ∈ u_ws RX0 TX0 5, w ∈ wsX0_isReachedBySnoop := by decide +kernel
  have fl_28 : Cond.fieldLink RX0 28 RX0 "filter" "LSnoopFilter$Filter;" ∈ wsX0_isReachedBySnoop := by decide +kernel
  have fl_22 : Cond.fieldLink RX0 22 RX0 "tallies" "[I" ∈ wsX0_isReachedBySnoop := by decide +kernel
  have hlt_n := n.isLt
  refine v_aload_n hX dX0_isReachedBySnoop_0 rfl ?_
  refine v_get (C := RX0) (T := TX0) (N := 5) (ci := 0) (v := .ref (a 5)) hX in_X0 0 rfl rfl 4 (by decide) fl_28 rfl rfl dX0_isReachedBySnoop_1 ?_
  refine v_iload_n hX dX0_isReachedBySnoop_4 rfl ?_
  refine v_callVi (r := bI (F_may v.2.2.2.2 ((n).val))) (rest := []) (ws' := wK E a v) hX (fun sz => c_X1_mayHave l E (fA a) sz v.2.2.2.2 ((n).val) (by first | omega | exact Nat.le_of_ble_eq_true rfl | assumption | decide)) (cwV 1 hX.2.2.2.2.1 gX0_isReachedBySnoop_X1_mayHave rfl rfl rfl (by decide +kernel) ⟨Nat.le_of_ble_eq_true rfl, Nat.le_of_ble_eq_true rfl⟩) (w5 E a v) ([]) (rfl) (rfl).symm (wF_fst E (fA a) _ _) (ci := 1) (q0 := 0) rfl rfl rfl rfl rfl (Nat.le_of_ble_eq_true rfl) dX0_isReachedBySnoop_5 ?_
  refine v_if_ne (tgt := 23) hX dX0_isReachedBySnoop_8 (by decide) (fun c1 => ?_) (fun c1 => ?_)
  · replace c1 := bI_n0.mp c1
    refine v_aload_n hX dX0_isReachedBySnoop_23 rfl ?_
    refine v_get (C := RX0) (T := TX0) (N := 5) (ci := 0) (v := .ref (a 4)) hX in_X0 0 rfl rfl 3 (by decide) fl_22 rfl rfl dX0_isReachedBySnoop_24 ?_
    refine v_iconst (x := (2 : Int32)) hX dX0_isReachedBySnoop_27 (by decide) ?_
    refine v_dup2 hX dX0_isReachedBySnoop_28 rfl rfl ?_
    refine v_iald (z := v.2.2.2.1 (2)) hX 4 rfl (vp_in_nI (by omega : 2 < 6) (by omega)) rfl dX0_isReachedBySnoop_29 ?_
    refine v_iconst (x := (1 : Int32)) hX dX0_isReachedBySnoop_30 (by decide) ?_
    refine v_iadd (z := (v.2.2.2.1 (2) + (1 : Int32))) hX dX0_isReachedBySnoop_31 (rfl) ?_
    obtain ⟨v2, hv2⟩ : ∃ z_ : KV, z_ = K_setT v (2) ((v.2.2.2.1 (2) + (1 : Int32))) := ⟨_, rfl⟩
    refine v_iast (ws' := wK E a v2) hX 4 rfl (vp_in_nI (by omega : 2 < 6) (by omega)) (by rw [hv2]; exact sK_T E a v (k := 2) (by omega) _) dX0_isReachedBySnoop_32 ?_
    refine v_aload_n hX dX0_isReachedBySnoop_33 rfl ?_
    refine v_iload_n hX dX0_isReachedBySnoop_34 rfl ?_
    refine v_callVi (r := bI (K_holds v2 n)) (rest := []) (ws' := wK E a v2) hX (fun sz => c_X0_holds l E a sz v2 n) (cwV 1 hX.2.2.2.2.1 gX0_isReachedBySnoop_X0_holds rfl rfl rfl (by decide +kernel) ⟨Nat.le_of_ble_eq_true rfl, Nat.le_of_ble_eq_true rfl⟩) ([]) ([]) ((List.append_nil _).symm) ((List.append_nil _).symm).symm (wK_fst E a _ _) (ci := 0) (q0 := 0) rfl rfl rfl rfl rfl (Nat.le_of_ble_eq_true rfl) dX0_isReachedBySnoop_35 ?_
    refine v_if_ne (tgt := 51) hX dX0_isReachedBySnoop_38 (by decide) (fun c3 => ?_) (fun c3 => ?_)
    · replace c3 := bI_n0.mp c3
      refine v_iconst (x := (1 : Int32)) hX dX0_isReachedBySnoop_51 (by decide) ?_
      exact v_zret hX hr hsz dX0_isReachedBySnoop_52 rfl rfl (bI_narrow (true)) (congrArg bI (by (subst hv2; first | rfl | (simp only [K_reach, K_may, K_tick, c1, c3, if_true, if_false, reduceIte, Bool.false_eq_true, reduceCtorEq, decide_true, decide_false, Bool.and_true, Bool.and_false, Bool.true_and, Bool.false_and, Bool.or_true, Bool.or_false, Bool.true_or, Bool.false_or, not_true_eq_false, not_false_eq_true, Bool.not_true, Bool.not_false, eq_self, Nat.reduceEqDiff]; done) | (simp only [K_reach, K_may, K_tick, c1, c3, if_true, if_false, reduceIte, Bool.false_eq_true, reduceCtorEq, decide_true, decide_false, Bool.and_true, Bool.and_false, Bool.true_and, Bool.false_and, Bool.or_true, Bool.or_false, Bool.true_or, Bool.false_or, not_true_eq_false, not_false_eq_true, Bool.not_true, Bool.not_false, eq_self, Nat.reduceEqDiff]; rfl) | contradiction | (exfalso; omega)) : true = K_may v n)) (by (subst hv2; first | rfl | (simp only [K_reach, K_may, K_tick, c1, c3, if_true, if_false, reduceIte, Bool.false_eq_true, reduceCtorEq, decide_true, decide_false, Bool.and_true, Bool.and_false, Bool.true_and, Bool.false_and, Bool.or_true, Bool.or_false, Bool.true_or, Bool.false_or, not_true_eq_false, not_false_eq_true, Bool.not_true, Bool.not_false, eq_self, Nat.reduceEqDiff]; done) | (simp only [K_reach, K_may, K_tick, c1, c3, if_true, if_false, reduceIte, Bool.false_eq_true, reduceCtorEq, decide_true, decide_false, Bool.and_true, Bool.and_false, Bool.true_and, Bool.false_and, Bool.or_true, Bool.or_false, Bool.true_or, Bool.false_or, not_true_eq_false, not_false_eq_true, Bool.not_true, Bool.not_false, eq_self, Nat.reduceEqDiff]; rfl) | contradiction | (exfalso; omega)))
    · replace c3 := bI_0.mp c3
      refine v_aload_n hX dX0_isReachedBySnoop_41 rfl ?_
      refine v_get (C := RX0) (T := TX0) (N := 5) (ci := 0) (v := .ref (a 4)) hX in_X0 0 rfl rfl 3 (by decide) fl_22 rfl rfl dX0_isReachedBySnoop_42 ?_
      refine v_iconst (x := (3 : Int32)) hX dX0_isReachedBySnoop_45 (by decide) ?_
      refine v_dup2 hX dX0_isReachedBySnoop_46 rfl rfl ?_
      refine v_iald (z := v2.2.2.2.1 (3)) hX 4 rfl (vp_in_nI (by omega : 3 < 6) (by omega)) rfl dX0_isReachedBySnoop_47 ?_
      refine v_iconst (x := (1 : Int32)) hX dX0_isReachedBySnoop_48 (by decide) ?_
      refine v_iadd (z := (v2.2.2.2.1 (3) + (1 : Int32))) hX dX0_isReachedBySnoop_49 (rfl) ?_
      obtain ⟨v4, hv4⟩ : ∃ z_ : KV, z_ = K_setT v2 (3) ((v2.2.2.2.1 (3) + (1 : Int32))) := ⟨_, rfl⟩
      refine v_iast (ws' := wK E a v4) hX 4 rfl (vp_in_nI (by omega : 3 < 6) (by omega)) (by rw [hv4]; exact sK_T E a v2 (k := 3) (by omega) _) dX0_isReachedBySnoop_50 ?_
      refine v_iconst (x := (1 : Int32)) hX dX0_isReachedBySnoop_51 (by decide) ?_
      exact v_zret hX hr hsz dX0_isReachedBySnoop_52 rfl rfl (bI_narrow (true)) (congrArg bI (by (subst hv4; subst hv2; first | rfl | (simp only [K_reach, K_may, K_tick, c1, c3, if_true, if_false, reduceIte, Bool.false_eq_true, reduceCtorEq, decide_true, decide_false, Bool.and_true, Bool.and_false, Bool.true_and, Bool.false_and, Bool.or_true, Bool.or_false, Bool.true_or, Bool.false_or, not_true_eq_false, not_false_eq_true, Bool.not_true, Bool.not_false, eq_self, Nat.reduceEqDiff]; done) | (simp only [K_reach, K_may, K_tick, c1, c3, if_true, if_false, reduceIte, Bool.false_eq_true, reduceCtorEq, decide_true, decide_false, Bool.and_true, Bool.and_false, Bool.true_and, Bool.false_and, Bool.or_true, Bool.or_false, Bool.true_or, Bool.false_or, not_true_eq_false, not_false_eq_true, Bool.not_true, Bool.not_false, eq_self, Nat.reduceEqDiff]; rfl) | contradiction | (exfalso; omega)) : true = K_may v n)) (by (subst hv4; subst hv2; first | rfl | (simp only [K_reach, K_may, K_tick, c1, c3, if_true, if_false, reduceIte, Bool.false_eq_true, reduceCtorEq, decide_true, decide_false, Bool.and_true, Bool.and_false, Bool.true_and, Bool.false_and, Bool.or_true, Bool.or_false, Bool.true_or, Bool.false_or, not_true_eq_false, not_false_eq_true, Bool.not_true, Bool.not_false, eq_self, Nat.reduceEqDiff]; done) | (simp only [K_reach, K_may, K_tick, c1, c3, if_true, if_false, reduceIte, Bool.false_eq_true, reduceCtorEq, decide_true, decide_false, Bool.and_true, Bool.and_false, Bool.true_and, Bool.false_and, Bool.or_true, Bool.or_false, Bool.true_or, Bool.false_or, not_true_eq_false, not_false_eq_true, Bool.not_true, Bool.not_false, eq_self, Nat.reduceEqDiff]; rfl) | contradiction | (exfalso; omega)))
  · replace c1 := bI_0.mp c1
    refine v_aload_n hX dX0_isReachedBySnoop_11 rfl ?_
    refine v_get (C := RX0) (T := TX0) (N := 5) (ci := 0) (v := .ref (a 4)) hX in_X0 0 rfl rfl 3 (by decide) fl_22 rfl rfl dX0_isReachedBySnoop_12 ?_
    refine v_iconst (x := (4 : Int32)) hX dX0_isReachedBySnoop_15 (by decide) ?_
    refine v_dup2 hX dX0_isReachedBySnoop_16 rfl rfl ?_
    refine v_iald (z := v.2.2.2.1 (4)) hX 4 rfl (vp_in_nI (by omega : 4 < 6) (by omega)) rfl dX0_isReachedBySnoop_17 ?_
    refine v_iconst (x := (1 : Int32)) hX dX0_isReachedBySnoop_18 (by decide) ?_
    refine v_iadd (z := (v.2.2.2.1 (4) + (1 : Int32))) hX dX0_isReachedBySnoop_19 (rfl) ?_
    obtain ⟨v5, hv5⟩ : ∃ z_ : KV, z_ = K_setT v (4) ((v.2.2.2.1 (4) + (1 : Int32))) := ⟨_, rfl⟩
    refine v_iast (ws' := wK E a v5) hX 4 rfl (vp_in_nI (by omega : 4 < 6) (by omega)) (by rw [hv5]; exact sK_T E a v (k := 4) (by omega) _) dX0_isReachedBySnoop_20 ?_
    refine v_iconst (x := (0 : Int32)) hX dX0_isReachedBySnoop_21 (by decide) ?_
    exact v_zret hX hr hsz dX0_isReachedBySnoop_22 rfl rfl (bI_narrow (false)) (congrArg bI (by (subst hv5; first | rfl | (simp only [K_reach, K_may, K_tick, c1, if_true, if_false, reduceIte, Bool.false_eq_true, reduceCtorEq, decide_true, decide_false, Bool.and_true, Bool.and_false, Bool.true_and, Bool.false_and, Bool.or_true, Bool.or_false, Bool.true_or, Bool.false_or, not_true_eq_false, not_false_eq_true, Bool.not_true, Bool.not_false, eq_self, Nat.reduceEqDiff]; done) | (simp only [K_reach, K_may, K_tick, c1, if_true, if_false, reduceIte, Bool.false_eq_true, reduceCtorEq, decide_true, decide_false, Bool.and_true, Bool.and_false, Bool.true_and, Bool.false_and, Bool.or_true, Bool.or_false, Bool.true_or, Bool.false_or, not_true_eq_false, not_false_eq_true, Bool.not_true, Bool.not_false, eq_self, Nat.reduceEqDiff]; rfl) | contradiction | (exfalso; omega)) : false = K_may v n)) (by (subst hv5; first | rfl | (simp only [K_reach, K_may, K_tick, c1, if_true, if_false, reduceIte, Bool.false_eq_true, reduceCtorEq, decide_true, decide_false, Bool.and_true, Bool.and_false, Bool.true_and, Bool.false_and, Bool.or_true, Bool.or_false, Bool.true_or, Bool.false_or, not_true_eq_false, not_false_eq_true, Bool.not_true, Bool.not_false, eq_self, Nat.reduceEqDiff]; done) | (simp only [K_reach, K_may, K_tick, c1, if_true, if_false, reduceIte, Bool.false_eq_true, reduceCtorEq, decide_true, decide_false, Bool.and_true, Bool.and_false, Bool.true_and, Bool.false_and, Bool.or_true, Bool.or_false, Bool.true_or, Bool.false_or, not_true_eq_false, not_false_eq_true, Bool.not_true, Bool.not_false, eq_self, Nat.reduceEqDiff]; rfl) | contradiction | (exfalso; omega)))
set_option maxHeartbeats 4000000 in
set_option maxRecDepth 100000 in
theorem c_X0_heldLines (l : Launch) (E : ET) (a : Nat → Nat) (sz : Nat) (v : KV) : Met l yX0_heldLines wsX0_heldLines ({ frames := 0, cells := 0, slots := 0, locals := 0 }) (mPc E [.ref (a 0)] sz (wK E a v)) (mQi E (K_held v) (wK E a v) (wK E a v) sz) 0 0 (va_A (wK E a v) sz) := by
  refine v_start (cc := cX0_heldLines) (maxL := 3) (ret := (some .int)) (by decide) rfl (Nat.le_of_ble_eq_true rfl) rfl ?_
  intro p e s m args below meth c hsz hr hX
  have hX : Xc p s m args meth c E 3 (va_A (wK E a v) sz) cX0_heldLines RX0 wsX0_heldLines := hX
  have in_X0 : ∀ w ∈ u_ws RX0 TX0 5, w ∈ wsX0_heldLines := by decide +kernel
  have fl_9 : Cond.fieldLink RX0 9 RX0 "lines" "[I" ∈ wsX0_heldLines := by decide +kernel
  refine v_iconst (x := (0 : Int32)) hX dX0_heldLines_0 (by decide) ?_
  refine v_istore_n (lv' := [.ref (a 0), .int ((0 : Int32))]) hX dX0_heldLines_1 (Nat.le_of_ble_eq_true rfl) (Nat.le_of_ble_eq_true rfl) rfl rfl ?_
  refine v_iconst (x := (0 : Int32)) hX dX0_heldLines_2 (by decide) ?_
  refine v_istore_n (lv' := [.ref (a 0), .int ((0 : Int32)), .int ((0 : Int32))]) hX dX0_heldLines_3 (Nat.le_of_ble_eq_true rfl) (Nat.le_of_ble_eq_true rfl) rfl rfl ?_
  have loop_4 : ∀ (fu i : Nat), i + fu = 8 → V p l e ({ frames := 0, cells := 0, slots := 0, locals := 0 } : Room) s m args below meth c E 3 (va_A (wK E a v) sz) (MQ below (mQi E (K_held v) (wK E a v) (wK E a v) sz) args s 0 0 (va_A (wK E a v) sz)) (wK E a v) [.ref (a 0), .int (it (K_heldF v) i 0), .int (nI (i))] 4 [] := by
    intro fu
    induction fu with
    | zero =>
      intro i  hin 
      have hi0 : i = 8 := by omega
      subst hi0
      refine v_iload_n hX dX0_heldLines_4 rfl ?_
      refine v_bipush (x := (8 : Int32)) hX dX0_heldLines_5 (by decide) ?_
      refine v_icmp_ge (tgt := 29) hX dX0_heldLines_7 (by decide) (fun c1 => ?_) (fun c1 => ?_)
      · replace c1 := (nI_leI (a := 8) (b := 8) (by omega) (by omega)).mp c1
        refine v_iload_n hX dX0_heldLines_29 rfl ?_
        exact v_iret hX hr hsz dX0_heldLines_30 rfl rfl (by (first | rfl | (simp only [K_held, K_heldF, c1, if_true, if_false, reduceIte, Bool.false_eq_true, reduceCtorEq, decide_true, decide_false, Bool.and_true, Bool.and_false, Bool.true_and, Bool.false_and, Bool.or_true, Bool.or_false, Bool.true_or, Bool.false_or, not_true_eq_false, not_false_eq_true, Bool.not_true, Bool.not_false, eq_self, Nat.reduceEqDiff]; done) | (simp only [K_held, K_heldF, c1, if_true, if_false, reduceIte, Bool.false_eq_true, reduceCtorEq, decide_true, decide_false, Bool.and_true, Bool.and_false, Bool.true_and, Bool.false_and, Bool.or_true, Bool.or_false, Bool.true_or, Bool.false_or, not_true_eq_false, not_false_eq_true, Bool.not_true, Bool.not_false, eq_self, Nat.reduceEqDiff]; rfl) | contradiction | (exfalso; omega))) rfl
      · replace c1 := (not_congr (nI_leI (a := 8) (b := 8) (by omega) (by omega))).mp c1
        first | (exfalso; omega) | exact absurd c1 (by decide) | exact absurd (by decide) c1
    | succ fu ih =>
      intro i  hin 
      refine v_iload_n hX dX0_heldLines_4 rfl ?_
      refine v_bipush (x := (8 : Int32)) hX dX0_heldLines_5 (by decide) ?_
      refine v_icmp_ge (tgt := 29) hX dX0_heldLines_7 (by decide) (fun c2 => ?_) (fun c2 => ?_)
      · replace c2 := (nI_leI (a := 8) (b := i) (by omega) (by omega)).mp c2
        first | (exfalso; omega) | exact absurd c2 (by decide) | exact absurd (by decide) c2
      · replace c2 := (not_congr (nI_leI (a := 8) (b := i) (by omega) (by omega))).mp c2
        refine v_aload_n hX dX0_heldLines_10 rfl ?_
        refine v_get (C := RX0) (T := TX0) (N := 5) (ci := 0) (v := .ref (a 1)) hX in_X0 0 rfl rfl 0 (by decide) fl_9 rfl rfl dX0_heldLines_11 ?_
        refine v_iload_n hX dX0_heldLines_14 rfl ?_
        refine v_iald (z := encL (v.1 (i))) hX 1 rfl (vp_in_nI (by omega : i < 8) (by omega)) (by simp only [nI_clamp (show i < 2 ^ 31 by omega)]) dX0_heldLines_15 ?_
        refine v_iconst (x := (-1 : Int32)) hX dX0_heldLines_16 (by decide) ?_
        refine v_icmp_eq (tgt := 23) hX dX0_heldLines_17 (by decide) (fun c3 => ?_) (fun c3 => ?_)
        · replace c3 := encL_m1.mp c3
          refine v_iinc (y := nI (i + 1)) (lv' := [.ref (a 0), .int (it (K_heldF v) i 0), .int (nI (i + 1))]) hX dX0_heldLines_23 rfl (nI_inc _) (Nat.le_of_ble_eq_true rfl) (Nat.le_of_ble_eq_true rfl) rfl rfl ?_
          refine v_goto (tgt := 4) hX dX0_heldLines_26 (by decide) ?_
          have e4 : it (K_heldF v) i 0 = it (K_heldF v) (i + 1) 0 := by first | rfl | (simp only [K_held, K_heldF, c2, c3, it, if_true, if_false, reduceIte, Bool.false_eq_true, Bool.and_true, Bool.and_false, Bool.true_and, Bool.false_and, not_true_eq_false, not_false_eq_true, eq_self, ne_eq, reduceCtorEq, decide_true, decide_false, Bool.not_true, Bool.not_false]; done) | (simp only [K_held, K_heldF, c2, c3, it, if_true, if_false, reduceIte, Bool.false_eq_true, Bool.and_true, Bool.and_false, Bool.true_and, Bool.false_and, not_true_eq_false, not_false_eq_true, eq_self, ne_eq, reduceCtorEq, decide_true, decide_false, Bool.not_true, Bool.not_false]; rfl)
          rw [e4]
          exact ih (i + 1)  (by omega) 
        · obtain ⟨n5, c3⟩ := encL_ex c3
          have hn5 := n5.isLt
          try rw [show encL (v.1 (i)) = nI (n5).val from by rw [c3]; rfl]
          refine v_iinc (y := (it (K_heldF v) i 0 + 1)) (lv' := [.ref (a 0), .int ((it (K_heldF v) i 0 + 1)), .int (nI (i))]) hX dX0_heldLines_20 rfl (rfl) (Nat.le_of_ble_eq_true rfl) (Nat.le_of_ble_eq_true rfl) rfl rfl ?_
          refine v_iinc (y := nI (i + 1)) (lv' := [.ref (a 0), .int ((it (K_heldF v) i 0 + 1)), .int (nI (i + 1))]) hX dX0_heldLines_23 rfl (nI_inc _) (Nat.le_of_ble_eq_true rfl) (Nat.le_of_ble_eq_true rfl) rfl rfl ?_
          refine v_goto (tgt := 4) hX dX0_heldLines_26 (by decide) ?_
          have e6 : (it (K_heldF v) i 0 + 1) = it (K_heldF v) (i + 1) 0 := by first | rfl | (simp only [K_held, K_heldF, c2, c3, it, if_true, if_false, reduceIte, Bool.false_eq_true, Bool.and_true, Bool.and_false, Bool.true_and, Bool.false_and, not_true_eq_false, not_false_eq_true, eq_self, ne_eq, reduceCtorEq, decide_true, decide_false, Bool.not_true, Bool.not_false]; done) | (simp only [K_held, K_heldF, c2, c3, it, if_true, if_false, reduceIte, Bool.false_eq_true, Bool.and_true, Bool.and_false, Bool.true_and, Bool.false_and, not_true_eq_false, not_false_eq_true, eq_self, ne_eq, reduceCtorEq, decide_true, decide_false, Bool.not_true, Bool.not_false]; rfl)
          rw [e6]
          exact ih (i + 1)  (by omega) 
  exact loop_4 8 0  (by omega) 
set_option maxHeartbeats 4000000 in
set_option maxRecDepth 100000 in
theorem c_X0_dirtyLines (l : Launch) (E : ET) (a : Nat → Nat) (sz : Nat) (v : KV) : Met l yX0_dirtyLines wsX0_dirtyLines ({ frames := 1, cells := 0, slots := 0, locals := 25 }) (mPc E [.ref (a 0)] sz (wK E a v)) (mQi E (K_dirties v) (wK E a v) (wK E a v) sz) 0 0 (va_A (wK E a v) sz) := by
  refine v_start (cc := cX0_dirtyLines) (maxL := 1) (ret := (some .int)) (by decide) rfl (Nat.le_of_ble_eq_true rfl) rfl ?_
  intro p e s m args below meth c hsz hr hX
  have hX : Xc p s m args meth c E 1 (va_A (wK E a v) sz) cX0_dirtyLines RX0 wsX0_dirtyLines := hX
  have in_X0 : ∀ w ∈ u_ws RX0 TX0 5, w ∈ wsX0_dirtyLines := by decide +kernel
  have fl_18 : Cond.fieldLink RX0 18 RX0 "dirty" "[Z" ∈ wsX0_dirtyLines := by decide +kernel
  have wd_Cond_static_yX5_howManyAreTrue : Cond.static yX5_howManyAreTrue ∈ wsX0_dirtyLines := by decide +kernel
  have wd_Cond_initialized_RX5 : Cond.initialized RX5 ∈ wsX0_dirtyLines := by decide +kernel
  refine v_aload_n hX dX0_dirtyLines_0 rfl ?_
  refine v_get (C := RX0) (T := TX0) (N := 5) (ci := 0) (v := .ref (a 3)) hX in_X0 0 rfl rfl 2 (by decide) fl_18 rfl rfl dX0_dirtyLines_1 ?_
  refine v_callSNi (r := cntT (8, v.2.2.1).2 (8, v.2.2.1).1) (rest := []) (ws' := wK E a v) hX (fun sz => c_X5_howManyAreTrue l E (fun _ => a 3) sz (8, v.2.2.1) (by first | omega | exact Nat.le_of_ble_eq_true rfl | assumption | decide)) ⟨va_cnB (host := "SnoopFilter") 1 hX.2.2.2.2.1 gX0_dirtyLines_X5_howManyAreTrue_n50 rfl rfl rfl (hX.2.2.2.2.2.2.2.2 _ (by simp [nsts])) (hX.2.2.2.2.1 _ wd_Cond_initialized_RX5) (by decide +kernel) ⟨Nat.le_of_ble_eq_true rfl, Nat.le_of_ble_eq_true rfl⟩, hX.2.2.2.2.1 _ wd_Cond_static_yX5_howManyAreTrue, trivial⟩ ((wK E a v).take 3) ((wK E a v).drop 4) (rfl) (rfl).symm (rfl) rfl rfl (Nat.le_of_ble_eq_true rfl) dX0_dirtyLines_4 ?_
  exact v_iret hX hr hsz dX0_dirtyLines_7 rfl rfl (by (first | rfl | (simp only [K_dirties, if_true, if_false, reduceIte, Bool.false_eq_true, reduceCtorEq, decide_true, decide_false, Bool.and_true, Bool.and_false, Bool.true_and, Bool.false_and, Bool.or_true, Bool.or_false, Bool.true_or, Bool.false_or, not_true_eq_false, not_false_eq_true, Bool.not_true, Bool.not_false, eq_self, Nat.reduceEqDiff]; done) | (simp only [K_dirties, if_true, if_false, reduceIte, Bool.false_eq_true, reduceCtorEq, decide_true, decide_false, Bool.and_true, Bool.and_false, Bool.true_and, Bool.false_and, Bool.or_true, Bool.or_false, Bool.true_or, Bool.false_or, not_true_eq_false, not_false_eq_true, Bool.not_true, Bool.not_false, eq_self, Nat.reduceEqDiff]; rfl) | contradiction | (exfalso; omega))) rfl
set_option maxHeartbeats 4000000 in
set_option maxRecDepth 100000 in
theorem c_X0_hasNothingToForget (l : Launch) (E : ET) (a : Nat → Nat) (sz : Nat) (v : KV) : Met l yX0_hasNothingToForget wsX0_hasNothingToForget ({ frames := 2, cells := 0, slots := 0, locals := 45 }) (mPc E [.ref (a 0)] sz (wK E a v)) (mQi E (bI (K_nothing v)) (wK E a v) (wK E a v) sz) 0 0 (va_A (wK E a v) sz) := by
  refine v_start (cc := cX0_hasNothingToForget) (maxL := 1) (ret := (some .boolean)) (by decide) rfl (Nat.le_of_ble_eq_true rfl) rfl ?_
  intro p e s m args below meth c hsz hr hX
  have hX : Xc p s m args meth c E 1 (va_A (wK E a v) sz) cX0_hasNothingToForget RX0 wsX0_hasNothingToForget := hX
  have in_X0 : ∀ w ∈ u_ws RX0 TX0 5, w ∈ wsX0_hasNothingToForget := by decide +kernel
  have fl_28 : Cond.fieldLink RX0 28 RX0 "filter" "LSnoopFilter$Filter;" ∈ wsX0_hasNothingToForget := by decide +kernel
  refine v_aload_n hX dX0_hasNothingToForget_0 rfl ?_
  refine v_callVi (r := K_held v) (rest := []) (ws' := wK E a v) hX (fun sz => c_X0_heldLines l E a sz v ) (cwV 0 hX.2.2.2.2.1 gX0_hasNothingToForget_X0_heldLines rfl rfl rfl (by decide +kernel) ⟨Nat.le_of_ble_eq_true rfl, Nat.le_of_ble_eq_true rfl⟩) ([]) ([]) ((List.append_nil _).symm) ((List.append_nil _).symm).symm (wK_fst E a _ _) (ci := 0) (q0 := 0) rfl rfl rfl rfl rfl (Nat.le_of_ble_eq_true rfl) dX0_hasNothingToForget_1 ?_
  refine v_if_ne (tgt := 31) hX dX0_hasNothingToForget_4 (by decide) (fun c1 => ?_) (fun c1 => ?_)
  · refine v_iconst (x := (0 : Int32)) hX dX0_hasNothingToForget_31 (by decide) ?_
    exact v_zret hX hr hsz dX0_hasNothingToForget_32 rfl rfl (bI_narrow (false)) (congrArg bI (by (first | rfl | (simp only [K_nothing, c1, if_true, if_false, reduceIte, Bool.false_eq_true, reduceCtorEq, decide_true, decide_false, Bool.and_true, Bool.and_false, Bool.true_and, Bool.false_and, Bool.or_true, Bool.or_false, Bool.true_or, Bool.false_or, not_true_eq_false, not_false_eq_true, Bool.not_true, Bool.not_false, eq_self, Nat.reduceEqDiff]; done) | (simp only [K_nothing, c1, if_true, if_false, reduceIte, Bool.false_eq_true, reduceCtorEq, decide_true, decide_false, Bool.and_true, Bool.and_false, Bool.true_and, Bool.false_and, Bool.or_true, Bool.or_false, Bool.true_or, Bool.false_or, not_true_eq_false, not_false_eq_true, Bool.not_true, Bool.not_false, eq_self, Nat.reduceEqDiff]; rfl) | contradiction | (exfalso; omega)) : false = K_nothing v)) rfl
  · have c1t := eq_true c1
    refine v_aload_n hX dX0_hasNothingToForget_7 rfl ?_
    refine v_get (C := RX0) (T := TX0) (N := 5) (ci := 0) (v := .ref (a 5)) hX in_X0 0 rfl rfl 4 (by decide) fl_28 rfl rfl dX0_hasNothingToForget_8 ?_
    refine v_callVi (r := F_above v.2.2.2.2) (rest := []) (ws' := wK E a v) hX (fun sz => c_X1_countersAboveZero l E (fA a) sz v.2.2.2.2 ) (cwV 0 hX.2.2.2.2.1 gX0_hasNothingToForget_X1_countersAboveZero rfl rfl rfl (by decide +kernel) ⟨Nat.le_of_ble_eq_true rfl, Nat.le_of_ble_eq_true rfl⟩) (w5 E a v) ([]) (rfl) (rfl).symm (wF_fst E (fA a) _ _) (ci := 1) (q0 := 0) rfl rfl rfl rfl rfl (Nat.le_of_ble_eq_true rfl) dX0_hasNothingToForget_11 ?_
    refine v_if_ne (tgt := 31) hX dX0_hasNothingToForget_14 (by decide) (fun c2 => ?_) (fun c2 => ?_)
    · refine v_iconst (x := (0 : Int32)) hX dX0_hasNothingToForget_31 (by decide) ?_
      exact v_zret hX hr hsz dX0_hasNothingToForget_32 rfl rfl (bI_narrow (false)) (congrArg bI (by (first | rfl | (simp only [K_nothing, c1t, c2, if_true, if_false, reduceIte, Bool.false_eq_true, reduceCtorEq, decide_true, decide_false, Bool.and_true, Bool.and_false, Bool.true_and, Bool.false_and, Bool.or_true, Bool.or_false, Bool.true_or, Bool.false_or, not_true_eq_false, not_false_eq_true, Bool.not_true, Bool.not_false, eq_self, Nat.reduceEqDiff]; done) | (simp only [K_nothing, c1t, c2, if_true, if_false, reduceIte, Bool.false_eq_true, reduceCtorEq, decide_true, decide_false, Bool.and_true, Bool.and_false, Bool.true_and, Bool.false_and, Bool.or_true, Bool.or_false, Bool.true_or, Bool.false_or, not_true_eq_false, not_false_eq_true, Bool.not_true, Bool.not_false, eq_self, Nat.reduceEqDiff]; rfl) | contradiction | (exfalso; omega)) : false = K_nothing v)) rfl
    · have c2t := eq_true c2
      refine v_aload_n hX dX0_hasNothingToForget_17 rfl ?_
      refine v_get (C := RX0) (T := TX0) (N := 5) (ci := 0) (v := .ref (a 5)) hX in_X0 0 rfl rfl 4 (by decide) fl_28 rfl rfl dX0_hasNothingToForget_18 ?_
      refine v_callVi (r := cntT v.2.2.2.2.2.2 16) (rest := []) (ws' := wK E a v) hX (fun sz => c_X1_bitsThatAreOne l E (fA a) sz v.2.2.2.2 ) (cwV 0 hX.2.2.2.2.1 gX0_hasNothingToForget_X1_bitsThatAreOne rfl rfl rfl (by decide +kernel) ⟨Nat.le_of_ble_eq_true rfl, Nat.le_of_ble_eq_true rfl⟩) (w5 E a v) ([]) (rfl) (rfl).symm (wF_fst E (fA a) _ _) (ci := 1) (q0 := 0) rfl rfl rfl rfl rfl (Nat.le_of_ble_eq_true rfl) dX0_hasNothingToForget_21 ?_
      refine v_if_ne (tgt := 31) hX dX0_hasNothingToForget_24 (by decide) (fun c3 => ?_) (fun c3 => ?_)
      · refine v_iconst (x := (0 : Int32)) hX dX0_hasNothingToForget_31 (by decide) ?_
        exact v_zret hX hr hsz dX0_hasNothingToForget_32 rfl rfl (bI_narrow (false)) (congrArg bI (by (first | rfl | (simp only [K_nothing, c1t, c2t, c3, if_true, if_false, reduceIte, Bool.false_eq_true, reduceCtorEq, decide_true, decide_false, Bool.and_true, Bool.and_false, Bool.true_and, Bool.false_and, Bool.or_true, Bool.or_false, Bool.true_or, Bool.false_or, not_true_eq_false, not_false_eq_true, Bool.not_true, Bool.not_false, eq_self, Nat.reduceEqDiff]; done) | (simp only [K_nothing, c1t, c2t, c3, if_true, if_false, reduceIte, Bool.false_eq_true, reduceCtorEq, decide_true, decide_false, Bool.and_true, Bool.and_false, Bool.true_and, Bool.false_and, Bool.or_true, Bool.or_false, Bool.true_or, Bool.false_or, not_true_eq_false, not_false_eq_true, Bool.not_true, Bool.not_false, eq_self, Nat.reduceEqDiff]; rfl) | contradiction | (exfalso; omega)) : false = K_nothing v)) rfl
      · have c3t := eq_true c3
        refine v_iconst (x := (1 : Int32)) hX dX0_hasNothingToForget_27 (by decide) ?_
        refine v_goto (tgt := 32) hX dX0_hasNothingToForget_28 (by decide) ?_
        exact v_zret hX hr hsz dX0_hasNothingToForget_32 rfl rfl (bI_narrow (true)) (congrArg bI (by (first | rfl | (simp only [K_nothing, c1t, c2t, c3t, if_true, if_false, reduceIte, Bool.false_eq_true, reduceCtorEq, decide_true, decide_false, Bool.and_true, Bool.and_false, Bool.true_and, Bool.false_and, Bool.or_true, Bool.or_false, Bool.true_or, Bool.false_or, not_true_eq_false, not_false_eq_true, Bool.not_true, Bool.not_false, eq_self, Nat.reduceEqDiff]; done) | (simp only [K_nothing, c1t, c2t, c3t, if_true, if_false, reduceIte, Bool.false_eq_true, reduceCtorEq, decide_true, decide_false, Bool.and_true, Bool.and_false, Bool.true_and, Bool.false_and, Bool.or_true, Bool.or_false, Bool.true_or, Bool.false_or, not_true_eq_false, not_false_eq_true, Bool.not_true, Bool.not_false, eq_self, Nat.reduceEqDiff]; rfl) | contradiction | (exfalso; omega)) : true = K_nothing v)) rfl
set_option maxHeartbeats 4000000 in
set_option maxRecDepth 100000 in
theorem c_X0_copyFrom (l : Launch) (E : ET) (a b : Nat → Nat) (sz : Nat) (v u : KV) : Met l yX0_copyFrom wsX0_copyFrom ({ frames := 2, cells := 0, slots := 0, locals := 39 }) (mPc E [.ref (a 0), .ref (b 0)] sz (wK E a v ++ wK E b u)) (mQv E (wK E a v ++ wK E b u) (wK E a u ++ wK E b u) sz) 0 0 (va_A (wK E a v ++ wK E b u) sz) := by
  refine v_start (cc := cX0_copyFrom) (maxL := 2) (ret := none) (by decide) rfl (Nat.le_of_ble_eq_true rfl) rfl ?_
  intro p e s m args below meth c hsz hr hX
  have hX : Xc p s m args meth c E 2 (va_A (wK E a v ++ wK E b u) sz) cX0_copyFrom RX0 wsX0_copyFrom := hX
  have in_X0 : ∀ w ∈ u_ws RX0 TX0 5, w ∈ wsX0_copyFrom := by decide +kernel
  have fl_9 : Cond.fieldLink RX0 9 RX0 "lines" "[I" ∈ wsX0_copyFrom := by decide +kernel
  have wd_Cond_methodLink_RX0_64_arraycopyName : Cond.methodLink RX0 64 arraycopyName ∈ wsX0_copyFrom := by decide +kernel
  have wd_Cond_native_arraycopyName : Cond.native arraycopyName ∈ wsX0_copyFrom := by decide +kernel
  have wd_Cond_static_arraycopyName : Cond.static arraycopyName ∈ wsX0_copyFrom := by decide +kernel
  have wd_Cond_initialized_java_lang_System_ : Cond.initialized "java/lang/System" ∈ wsX0_copyFrom := by decide +kernel
  have fl_15 : Cond.fieldLink RX0 15 RX0 "values" "[I" ∈ wsX0_copyFrom := by decide +kernel
  have fl_18 : Cond.fieldLink RX0 18 RX0 "dirty" "[Z" ∈ wsX0_copyFrom := by decide +kernel
  have fl_22 : Cond.fieldLink RX0 22 RX0 "tallies" "[I" ∈ wsX0_copyFrom := by decide +kernel
  have fl_28 : Cond.fieldLink RX0 28 RX0 "filter" "LSnoopFilter$Filter;" ∈ wsX0_copyFrom := by decide +kernel
  refine v_aload_n hX dX0_copyFrom_0 rfl ?_
  refine v_get (C := RX0) (T := TX0) (N := 5) (ci := 0) (v := .ref (b 1)) hX in_X0 9 rfl rfl 0 (by decide) fl_9 rfl rfl dX0_copyFrom_1 ?_
  refine v_iconst (x := (0 : Int32)) hX dX0_copyFrom_4 (by decide) ?_
  refine v_aload_n hX dX0_copyFrom_5 rfl ?_
  refine v_get (C := RX0) (T := TX0) (N := 5) (ci := 0) (v := .ref (a 1)) hX in_X0 0 rfl rfl 0 (by decide) fl_9 rfl rfl dX0_copyFrom_6 ?_
  refine v_iconst (x := (0 : Int32)) hX dX0_copyFrom_9 (by decide) ?_
  refine v_bipush (x := (8 : Int32)) hX dX0_copyFrom_10 (by decide) ?_
  obtain ⟨v1, hv1⟩ : ∃ z_ : KV, z_ = (u.1, v.2.1, v.2.2.1, v.2.2.2.1, v.2.2.2.2) := ⟨_, rfl⟩
  refine v_copyAll (ws' := wK E a v1 ++ wK E b u) (ty := .int) hX wd_Cond_methodLink_RX0_64_arraycopyName wd_Cond_native_arraycopyName wd_Cond_static_arraycopyName wd_Cond_initialized_java_lang_System_ 10 1 0 rfl rfl rfl rfl (n := 8) rfl (by decide) (fun _ => rfl) (Nat.le_of_ble_eq_true rfl) (Nat.le_of_ble_eq_true rfl) dX0_copyFrom_12 (by rw [hv1]; rfl) ?_
  refine v_aload_n hX dX0_copyFrom_15 rfl ?_
  refine v_get (C := RX0) (T := TX0) (N := 5) (ci := 0) (v := .ref (b 2)) hX in_X0 9 rfl rfl 1 (by decide) fl_15 rfl rfl dX0_copyFrom_16 ?_
  refine v_iconst (x := (0 : Int32)) hX dX0_copyFrom_19 (by decide) ?_
  refine v_aload_n hX dX0_copyFrom_20 rfl ?_
  refine v_get (C := RX0) (T := TX0) (N := 5) (ci := 0) (v := .ref (a 2)) hX in_X0 0 rfl rfl 1 (by decide) fl_15 rfl rfl dX0_copyFrom_21 ?_
  refine v_iconst (x := (0 : Int32)) hX dX0_copyFrom_24 (by decide) ?_
  refine v_bipush (x := (8 : Int32)) hX dX0_copyFrom_25 (by decide) ?_
  obtain ⟨v2, hv2⟩ : ∃ z_ : KV, z_ = (v1.1, u.2.1, v1.2.2.1, v1.2.2.2.1, v1.2.2.2.2) := ⟨_, rfl⟩
  refine v_copyAll (ws' := wK E a v2 ++ wK E b u) (ty := .int) hX wd_Cond_methodLink_RX0_64_arraycopyName wd_Cond_native_arraycopyName wd_Cond_static_arraycopyName wd_Cond_initialized_java_lang_System_ 11 2 0 rfl rfl rfl rfl (n := 8) rfl (by decide) (fun _ => rfl) (Nat.le_of_ble_eq_true rfl) (Nat.le_of_ble_eq_true rfl) dX0_copyFrom_27 (by rw [hv2]; rfl) ?_
  refine v_aload_n hX dX0_copyFrom_30 rfl ?_
  refine v_get (C := RX0) (T := TX0) (N := 5) (ci := 0) (v := .ref (b 3)) hX in_X0 9 rfl rfl 2 (by decide) fl_18 rfl rfl dX0_copyFrom_31 ?_
  refine v_iconst (x := (0 : Int32)) hX dX0_copyFrom_34 (by decide) ?_
  refine v_aload_n hX dX0_copyFrom_35 rfl ?_
  refine v_get (C := RX0) (T := TX0) (N := 5) (ci := 0) (v := .ref (a 3)) hX in_X0 0 rfl rfl 2 (by decide) fl_18 rfl rfl dX0_copyFrom_36 ?_
  refine v_iconst (x := (0 : Int32)) hX dX0_copyFrom_39 (by decide) ?_
  refine v_bipush (x := (8 : Int32)) hX dX0_copyFrom_40 (by decide) ?_
  obtain ⟨v3, hv3⟩ : ∃ z_ : KV, z_ = (v2.1, v2.2.1, u.2.2.1, v2.2.2.2.1, v2.2.2.2.2) := ⟨_, rfl⟩
  refine v_copyAll (ws' := wK E a v3 ++ wK E b u) (ty := .boolean) hX wd_Cond_methodLink_RX0_64_arraycopyName wd_Cond_native_arraycopyName wd_Cond_static_arraycopyName wd_Cond_initialized_java_lang_System_ 12 3 1 rfl rfl rfl rfl (n := 8) rfl (by decide) (fun _ => bI_fits _) (Nat.le_of_ble_eq_true rfl) (Nat.le_of_ble_eq_true rfl) dX0_copyFrom_42 (by rw [hv3]; rfl) ?_
  refine v_aload_n hX dX0_copyFrom_45 rfl ?_
  refine v_get (C := RX0) (T := TX0) (N := 5) (ci := 0) (v := .ref (b 4)) hX in_X0 9 rfl rfl 3 (by decide) fl_22 rfl rfl dX0_copyFrom_46 ?_
  refine v_iconst (x := (0 : Int32)) hX dX0_copyFrom_49 (by decide) ?_
  refine v_aload_n hX dX0_copyFrom_50 rfl ?_
  refine v_get (C := RX0) (T := TX0) (N := 5) (ci := 0) (v := .ref (a 4)) hX in_X0 0 rfl rfl 3 (by decide) fl_22 rfl rfl dX0_copyFrom_51 ?_
  refine v_iconst (x := (0 : Int32)) hX dX0_copyFrom_54 (by decide) ?_
  refine v_bipush (x := (6 : Int32)) hX dX0_copyFrom_55 (by decide) ?_
  obtain ⟨v4, hv4⟩ : ∃ z_ : KV, z_ = (v3.1, v3.2.1, v3.2.2.1, u.2.2.2.1, v3.2.2.2.2) := ⟨_, rfl⟩
  refine v_copyAll (ws' := wK E a v4 ++ wK E b u) (ty := .int) hX wd_Cond_methodLink_RX0_64_arraycopyName wd_Cond_native_arraycopyName wd_Cond_static_arraycopyName wd_Cond_initialized_java_lang_System_ 13 4 0 rfl rfl rfl rfl (n := 6) rfl (by decide) (fun _ => rfl) (Nat.le_of_ble_eq_true rfl) (Nat.le_of_ble_eq_true rfl) dX0_copyFrom_57 (by rw [hv4]; rfl) ?_
  refine v_aload_n hX dX0_copyFrom_60 rfl ?_
  refine v_get (C := RX0) (T := TX0) (N := 5) (ci := 0) (v := .ref (a 5)) hX in_X0 0 rfl rfl 4 (by decide) fl_28 rfl rfl dX0_copyFrom_61 ?_
  refine v_aload_n hX dX0_copyFrom_64 rfl ?_
  refine v_get (C := RX0) (T := TX0) (N := 5) (ci := 0) (v := .ref (b 5)) hX in_X0 9 rfl rfl 4 (by decide) fl_28 rfl rfl dX0_copyFrom_65 ?_
  obtain ⟨v5, hv5⟩ : ∃ z_ : KV, z_ = (v4.1, v4.2.1, v4.2.2.1, v4.2.2.2.1, u.2.2.2.2) := ⟨_, rfl⟩
  refine v_callVv2 (rest := []) (ws' := wK E a v5 ++ wK E b u) hX (fun sz => c_X1_copyFrom l E (fA a) (fA b) sz v4.2.2.2.2 u.2.2.2.2) (cwV 1 hX.2.2.2.2.1 gX0_copyFrom_X1_copyFrom rfl rfl rfl (by decide +kernel) ⟨Nat.le_of_ble_eq_true rfl, Nat.le_of_ble_eq_true rfl⟩) (w5 E a v4) (w5 E b u) [] rfl (by rw [hv5]; rfl) (wF_fst E (fA a) _ _) (ci := 1) (q0 := 0) rfl rfl rfl rfl rfl (Nat.le_of_ble_eq_true rfl) dX0_copyFrom_68 ?_
  exact v_vret hX hr hsz dX0_copyFrom_71 rfl rfl (by (subst hv5; subst hv4; subst hv3; subst hv2; subst hv1; first | rfl | (simp only [if_true, if_false, reduceIte, Bool.false_eq_true, reduceCtorEq, decide_true, decide_false, Bool.and_true, Bool.and_false, Bool.true_and, Bool.false_and, Bool.or_true, Bool.or_false, Bool.true_or, Bool.false_or, not_true_eq_false, not_false_eq_true, Bool.not_true, Bool.not_false, eq_self, Nat.reduceEqDiff]; done) | (simp only [if_true, if_false, reduceIte, Bool.false_eq_true, reduceCtorEq, decide_true, decide_false, Bool.and_true, Bool.and_false, Bool.true_and, Bool.false_and, Bool.or_true, Bool.or_false, Bool.true_or, Bool.false_or, not_true_eq_false, not_false_eq_true, Bool.not_true, Bool.not_false, eq_self, Nat.reduceEqDiff]; rfl) | contradiction | (exfalso; omega)))
