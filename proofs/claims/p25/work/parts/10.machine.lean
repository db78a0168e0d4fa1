/-! ===== what the methods do, in words: machines ===== -/
def M_tick (v : MV) (o t : Nat) : MV := M_setK v o (K_tick (v.2.1 o) t)
def M_clean (v : MV) (o pl : Nat) (n : Fin 256) : MV := M_setK (M_setMem v n.val ((v.2.1 o).2.1 pl)) o (K_setD ((M_setMem v n.val ((v.2.1 o).2.1 pl)).2.1 o) pl false)
def M_wb (v : MV) (o pl : Nat) : MV := match (v.2.1 o).1 pl with
  | none => v
  | some n => if (v.2.1 o).2.2.1 pl = true then M_setBack (M_clean v o pl n) ((M_clean v o pl n).2.2.2.2.1 + 1) else v
def M_rel (v : MV) (o : Nat) (n : Fin 256) : MV := M_setK v o (K_release (v.2.1 o) n)
def M_vac (v : MV) (o pl : Nat) : MV := match (v.2.1 o).1 pl with
  | none => v
  | some n => M_rel (M_wb v o pl) o n
def M_emp (v : MV) (o pl : Nat) : MV := M_setK v o (K_empty (v.2.1 o) pl)
def M_faF (o : Nat) (kept : Option (Fin 256)) : Nat → MV × Int32 → MV × Int32 := fun i u => match (u.1.2.1 o).1 i with
  | none => u
  | some n => if kept = some n then u else (M_emp (M_wb u.1 o i) o i, u.2 + 1)
def M_wipe (v : MV) (o : Nat) : MV := M_setK v o (K_setF (v.2.1 o) (F_wipe (v.2.1 o).2.2.2.2))
def M_fa (v : MV) (o : Nat) (kept : Option (Fin 256)) : MV × Int32 := (M_tick (M_wipe (it (M_faF o kept) 8 (v, 0)).1 o) o 5, (it (M_faF o kept) 8 (v, 0)).2)
def M_add (v : MV) (o : Nat) (n : Fin 256) : MV := M_setK v o (K_setF (v.2.1 o) (F_add (v.2.1 o).2.2.2.2 n.val v.2.2.1))
def M_fill (v : MV) (o : Nat) (n : Fin 256) (x : Int32) (b : Bool) : MV := M_setK v o (K_fill (v.2.1 o) n x b)
def M_begin (v : MV) (o : Nat) (n : Fin 256) (x : Int32) (b : Bool) : MV :=
  if F_above ((M_add (M_fill v o n x b) o n).2.1 o).2.2.2.2 < (M_add (M_fill v o n x b) o n).2.2.2.1 then M_add (M_fill v o n x b) o n
  else M_add (M_fa (M_add (M_fill v o n x b) o n) o (some n)).1 o n
def M_reach (v : MV) (o : Nat) (n : Fin 256) : MV := M_setK v o (K_reach (v.2.1 o) n)
def M_readF (r : Nat) (n : Fin 256) : Nat → MV → MV := fun i u => if i = r then u else if K_may (u.2.1 i) n = true then (if K_holds ((M_reach u i n).2.1 i) n = true then M_wb (M_reach u i n) i (n.val % 8) else M_reach u i n) else M_reach u i n
def M_miss (v : MV) (r : Nat) (n : Fin 256) : MV := it (M_readF r n) 4 (M_tick v r 1)
def M_read (v : MV) (r : Nat) (n : Fin 256) : MV × Int32 := if K_holds (v.2.1 r) n = true then (M_tick v r 0, ((M_tick v r 0).2.1 r).2.1 (n.val % 8))
  else (M_begin (M_vac (M_miss v r n) r (n.val % 8)) r n ((M_miss v r n).1 n.val) false, (M_miss v r n).1 n.val)
def M_takeF (r : Nat) (n : Fin 256) : Nat → MV × Int32 → MV × Int32 := fun i u => if i = r then u else if K_may (u.1.2.1 i) n = true then (if K_holds ((M_reach u.1 i n).2.1 i) n = true then (M_rel (M_reach u.1 i n) i n, u.2 + 1) else (M_reach u.1 i n, u.2 + 1)) else (M_reach u.1 i n, u.2)
def M_take (v : MV) (r : Nat) (n : Fin 256) : MV × Int32 := it (M_takeF r n) 4 (v, 0)
def M_own (v : MV) (r : Nat) (n : Fin 256) : MV × Int32 := if K_hd ((M_setWr v (v.2.2.2.2.2 + 1)).2.1 r) n = true then (M_setWr v (v.2.2.2.2.2 + 1), 0) else M_take (M_setWr v (v.2.2.2.2.2 + 1)) r n
def M_write (v : MV) (r : Nat) (n : Fin 256) (x : Int32) : MV × Int32 := if K_holds ((M_own v r n).1.2.1 r) n = true then (M_fill (M_own v r n).1 r n x true, (M_own v r n).2)
  else (M_begin (M_vac (M_own v r n).1 r (n.val % 8)) r n x true, (M_own v r n).2)
def M_drop (v : MV) (r : Nat) (n : Fin 256) : MV × Int32 := if K_holds (v.2.1 r) n = true then (M_vac v r (n.val % 8), if K_hd (v.2.1 r) n = true then 1 else 0) else (v, -4)
def M_forget (v : MV) (r : Nat) : MV × Int32 := if K_nothing (v.2.1 r) = true then (v, -5) else M_fa v r none
def fstS (f : Nat → Option Int32) : Nat → Option Int32
  | 0 => none
  | n + 1 => match fstS f n with
    | some x => some x
    | none => f n
theorem fstS_stay (f : Nat → Option Int32) {i : Nat} {x : Int32} (h : fstS f i = none) (hx : f i = some x) : ∀ k, fstS f (i + 1 + k) = some x
  | 0 => by simp [fstS, h, hx]
  | k + 1 => by
    have := fstS_stay f h hx k
    rw [← Nat.add_assoc]
    simp [fstS, this]
theorem fstS_at (f : Nat → Option Int32) {i n : Nat} {x : Int32} (h : fstS f i = none) (hx : f i = some x) (hn : i < n) : fstS f n = some x := by
  have := fstS_stay f h hx (n - (i + 1))
  rwa [show i + 1 + (n - (i + 1)) = n from by omega] at this
theorem fstS_no (f : Nat → Option Int32) {i : Nat} (h : fstS f i = none) (hx : f i = none) : fstS f (i + 1) = none := by simp [fstS, h, hx]
def M_vfrF (v : MV) (n : Fin 256) : Nat → Option Int32 := fun i => if K_holds (v.2.1 i) n = true then some ((v.2.1 i).2.1 (n.val % 8)) else none
def M_vfr (v : MV) (n : Fin 256) : Int32 := match fstS (M_vfrF v n) 4 with
  | some x => x
  | none => v.1 n.val
def M_holdersF (v : MV) (n : Fin 256) : Nat → Int32 → Int32 := fun i x => if K_holds (v.2.1 i) n = true then x ||| ((1 : Int32) <<< (nI i &&& 31)) else x
def M_holders (v : MV) (n : Fin 256) : Int32 := it (M_holdersF v n) 4 0
def M_maysF (v : MV) (n : Fin 256) : Nat → Int32 → Int32 := fun i x => if F_may (v.2.1 i).2.2.2.2 n.val = true then x ||| ((1 : Int32) <<< (nI i &&& 31)) else x
def M_mays (v : MV) (n : Fin 256) : Int32 := it (M_maysF v n) 4 0
def M_sumF (v : MV) (t : Nat) : Nat → Int32 → Int32 := fun i x => x + (v.2.1 i).2.2.2.1 t
def M_sum (v : MV) (t : Nat) : Int32 := it (M_sumF v t) 4 0
def M_heldF (v : MV) : Nat → Int32 → Int32 := fun i x => x + K_held (v.2.1 i)
def M_held (v : MV) : Int32 := it (M_heldF v) 4 0
def M_dirtyF (v : MV) : Nat → Int32 → Int32 := fun i x => x + K_dirties (v.2.1 i)
def M_dirty (v : MV) : Int32 := it (M_dirtyF v) 4 0
def M_cpF (u : MV) : Nat → MV → MV := fun i w => M_setK w i (u.2.1 i)
def M_mem (u v : MV) : MV := (u.1, v.2.1, v.2.2.1, v.2.2.2.1, v.2.2.2.2.1, v.2.2.2.2.2)
set_option maxHeartbeats 4000000 in
set_option maxRecDepth 100000 in
theorem c_X3_writeBack (l : Launch) (E : ET) (a : Nat → Nat) (sz : Nat) (v : MV) (o : Nat) (ho : o < 4) (pl : Nat) (hpl : pl < 8) : Met l yX3_writeBack wsX3_writeBack ({ frames := 0, cells := 0, slots := 0, locals := 0 }) (mPc E [.ref (a 0), .ref (a (3 + 9 * o)), .int (nI (pl))] sz (wM E a v)) (mQv E (wM E a v) (wM E a (M_wb v o pl)) sz) 0 0 (va_A (wM E a v) sz) := by
  refine v_start (cc := cX3_writeBack) (maxL := 4) (ret := none) (by decide) rfl (Nat.le_of_ble_eq_true rfl) rfl ?_
  intro p e s m args below meth c hsz hr hX
  have hX : Xc p s m args meth c E 4 (va_A (wM E a v) sz) cX3_writeBack RX3 wsX3_writeBack := hX
  have in_X0 : ∀ w ∈ u_ws RX0 TX0 5, w ∈ wsX3_writeBack := by decide +kernel
  have fl_97 : Cond.fieldLink RX3 97 RX0 "lines" "[I" ∈ wsX3_writeBack := by decide +kernel
  have fl_106 : Cond.fieldLink RX3 106 RX0 "dirty" "[Z" ∈ wsX3_writeBack := by decide +kernel
  have in_X3 : ∀ w ∈ u_ws RX3 TX3 6, w ∈ wsX3_writeBack := by decide +kernel
  have fl_9 : Cond.fieldLink RX3 9 RX3 "memory" "[I" ∈ wsX3_writeBack := by decide +kernel
  have fl_40 : Cond.fieldLink RX3 40 RX0 "values" "[I" ∈ wsX3_writeBack := by decide +kernel
  have fl_110 : Cond.fieldLink RX3 110 RX3 "writtenBack" "I" ∈ wsX3_writeBack := by decide +kernel
  refine v_aload_n hX dX3_writeBack_0 rfl ?_
  refine v_get (C := RX0) (T := TX0) (N := 5) (ci := 0) (v := .ref ((kA a o) 1)) hX in_X0 _ (mAt E a v (by omega : o < 4) 0 rfl) rfl 0 (by decide) fl_97 rfl rfl dX3_writeBack_1 ?_
  refine v_iload_n hX dX3_writeBack_4 rfl ?_
  refine v_iald (z := encL ((v.2.1 o).1 (pl))) hX _ (mAt E a v (by omega : o < 4) 1 rfl) (vp_in_nI (by omega : pl < 8) (by omega)) (by simp only [nI_clamp (show pl < 2 ^ 31 by omega)]) dX3_writeBack_5 ?_
  refine v_istore_n (lv' := [.ref (a 0), .ref (a (3 + 9 * o)), .int (nI (pl)), .int (encL ((v.2.1 o).1 (pl)))]) hX dX3_writeBack_6 (Nat.le_of_ble_eq_true rfl) (Nat.le_of_ble_eq_true rfl) rfl rfl ?_
  refine v_iload_n hX dX3_writeBack_7 rfl ?_
  refine v_iconst (x := (-1 : Int32)) hX dX3_writeBack_8 (by decide) ?_
  refine v_icmp_eq (tgt := 50) hX dX3_writeBack_9 (by decide) (fun c1 => ?_) (fun c1 => ?_)
  · replace c1 := encL_m1.mp c1
    exact v_vret hX hr hsz dX3_writeBack_50 rfl rfl (by (first | rfl | (simp only [M_wb, M_clean, c1, if_true, if_false, reduceIte, Bool.false_eq_true, reduceCtorEq, decide_true, decide_false, Bool.and_true, Bool.and_false, Bool.true_and, Bool.false_and, Bool.or_true, Bool.or_false, Bool.true_or, Bool.false_or, not_true_eq_false, not_false_eq_true, Bool.not_true, Bool.not_false, eq_self, Nat.reduceEqDiff]; done) | (simp only [M_wb, M_clean, c1, if_true, if_false, reduceIte, Bool.false_eq_true, reduceCtorEq, decide_true, decide_false, Bool.and_true, Bool.and_false, Bool.true_and, Bool.false_and, Bool.or_true, Bool.or_false, Bool.true_or, Bool.false_or, not_true_eq_false, not_false_eq_true, Bool.not_true, Bool.not_false, eq_self, Nat.reduceEqDiff]; rfl) | contradiction | (exfalso; omega)))
  · obtain ⟨n2, c1⟩ := encL_ex c1
    have hn2 := n2.isLt
    try rw [show encL ((v.2.1 o).1 (pl)) = nI (n2).val from by rw [c1]; rfl]
    refine v_aload_n hX dX3_writeBack_12 rfl ?_
    refine v_get (C := RX0) (T := TX0) (N := 5) (ci := 0) (v := .ref ((kA a o) 3)) hX in_X0 _ (mAt E a v (by omega : o < 4) 0 rfl) rfl 2 (by decide) fl_106 rfl rfl dX3_writeBack_13 ?_
    refine v_iload_n hX dX3_writeBack_16 rfl ?_
    refine v_zald (z := bI ((v.2.1 o).2.2.1 (pl))) hX _ (mAt E a v (by omega : o < 4) 3 rfl) (vp_in_nI (by omega : pl < 8) (by omega)) (by simp only [nI_clamp (show pl < 2 ^ 31 by omega)]) dX3_writeBack_17 ?_
    refine v_if_eq (tgt := 50) hX dX3_writeBack_18 (by decide) (fun c3 => ?_) (fun c3 => ?_)
    · replace c3 := bI_0.mp c3
      exact v_vret hX hr hsz dX3_writeBack_50 rfl rfl (by (first | rfl | (simp only [M_wb, M_clean, c1, c3, if_true, if_false, reduceIte, Bool.false_eq_true, reduceCtorEq, decide_true, decide_false, Bool.and_true, Bool.and_false, Bool.true_and, Bool.false_and, Bool.or_true, Bool.or_false, Bool.true_or, Bool.false_or, not_true_eq_false, not_false_eq_true, Bool.not_true, Bool.not_false, eq_self, Nat.reduceEqDiff]; done) | (simp only [M_wb, M_clean, c1, c3, if_true, if_false, reduceIte, Bool.false_eq_true, reduceCtorEq, decide_true, decide_false, Bool.and_true, Bool.and_false, Bool.true_and, Bool.false_and, Bool.or_true, Bool.or_false, Bool.true_or, Bool.false_or, not_true_eq_false, not_false_eq_true, Bool.not_true, Bool.not_false, eq_self, Nat.reduceEqDiff]; rfl) | contradiction | (exfalso; omega)))
    · replace c3 := bI_n0.mp c3
      refine v_aload_n hX dX3_writeBack_21 rfl ?_
      refine v_get (C := RX3) (T := TX3) (N := 6) (ci := 3) (v := .ref (a 1)) hX in_X3 0 rfl rfl 0 (by decide) fl_9 rfl rfl dX3_writeBack_22 ?_
      refine v_iload_n hX dX3_writeBack_25 rfl ?_
      refine v_aload_n hX dX3_writeBack_26 rfl ?_
      refine v_get (C := RX0) (T := TX0) (N := 5) (ci := 0) (v := .ref ((kA a o) 2)) hX in_X0 _ (mAt E a v (by omega : o < 4) 0 rfl) rfl 1 (by decide) fl_40 rfl rfl dX3_writeBack_27 ?_
      refine v_iload_n hX dX3_writeBack_30 rfl ?_
      refine v_iald (z := (v.2.1 o).2.1 (pl)) hX _ (mAt E a v (by omega : o < 4) 2 rfl) (vp_in_nI (by omega : pl < 8) (by omega)) (by simp only [nI_clamp (show pl < 2 ^ 31 by omega)]) dX3_writeBack_31 ?_
      obtain ⟨v4, hv4⟩ : ∃ z_ : MV, z_ = M_setMem v ((n2).val) ((v.2.1 o).2.1 (pl)) := ⟨_, rfl⟩
      refine v_iast (ws' := wM E a v4) hX 1 rfl (vp_in_nI (by omega : (n2).val < 256) (by omega)) (by rw [hv4]; exact sM_mem E a v (k := (n2).val) (by omega) _) dX3_writeBack_32 ?_
      refine v_aload_n hX dX3_writeBack_33 rfl ?_
      refine v_get (C := RX0) (T := TX0) (N := 5) (ci := 0) (v := .ref ((kA a o) 3)) hX in_X0 _ (mAt E a v4 (by omega : o < 4) 0 rfl) rfl 2 (by decide) fl_106 rfl rfl dX3_writeBack_34 ?_
      refine v_iload_n hX dX3_writeBack_37 rfl ?_
      refine v_iconst (x := (0 : Int32)) hX dX3_writeBack_38 (by decide) ?_
      obtain ⟨v5, hv5⟩ : ∃ z_ : MV, z_ = M_setK v4 o (K_setD (v4.2.1 o) (pl) (false)) := ⟨_, rfl⟩
      refine v_zast (ws' := wM E a v5) hX _ (mAt E a v4 (by omega : o < 4) 3 rfl) (vp_in_nI (by omega : pl < 8) (by omega)) (by rw [hv5]; exact mSt E a v4 (by omega : o < 4) 3 (by decide) (sK_D E (kA a o) (v4.2.1 o) (k := pl) (by omega) (false))) dX3_writeBack_39 ?_
      refine v_aload_n hX dX3_writeBack_40 rfl ?_
      refine v_dup hX dX3_writeBack_41 rfl ?_
      refine v_get (C := RX3) (T := TX3) (N := 6) (ci := 3) (v := .int (v5.2.2.2.2.1)) hX in_X3 0 rfl rfl 4 (by decide) fl_110 rfl rfl dX3_writeBack_42 ?_
      refine v_iconst (x := (1 : Int32)) hX dX3_writeBack_45 (by decide) ?_
      refine v_iadd (z := (v5.2.2.2.2.1 + (1 : Int32))) hX dX3_writeBack_46 (rfl) ?_
      obtain ⟨v6, hv6⟩ : ∃ z_ : MV, z_ = M_setBack v5 ((v5.2.2.2.2.1 + (1 : Int32))) := ⟨_, rfl⟩
      refine v_put (C := RX3) (T := TX3) (N := 6) (ci := 3) (v := .int ((v5.2.2.2.2.1 + (1 : Int32)))) (ty := .int) (ws' := wM E a v6) hX in_X3 tyX3 tyX3_ok nmX3 0 rfl rfl 4 (by decide) fl_110 rfl rfl (by decide +kernel) (rfl) (rfl) (Nat.le_of_ble_eq_true rfl) dX3_writeBack_47 (by rw [hv6]; exact rfl) ?_
      exact v_vret hX hr hsz dX3_writeBack_50 rfl rfl (by (subst hv6; subst hv5; subst hv4; first | rfl | (simp only [M_wb, M_clean, c1, c3, if_true, if_false, reduceIte, Bool.false_eq_true, reduceCtorEq, decide_true, decide_false, Bool.and_true, Bool.and_false, Bool.true_and, Bool.false_and, Bool.or_true, Bool.or_false, Bool.true_or, Bool.false_or, not_true_eq_false, not_false_eq_true, Bool.not_true, Bool.not_false, eq_self, Nat.reduceEqDiff]; done) | (simp only [M_wb, M_clean, c1, c3, if_true, if_false, reduceIte, Bool.false_eq_true, reduceCtorEq, decide_true, decide_false, Bool.and_true, Bool.and_false, Bool.true_and, Bool.false_and, Bool.or_true, Bool.or_false, Bool.true_or, Bool.false_or, not_true_eq_false, not_false_eq_true, Bool.not_true, Bool.not_false, eq_self, Nat.reduceEqDiff]; rfl) | contradiction | (exfalso; omega)))
set_option maxHeartbeats 4000000 in
set_option maxRecDepth 100000 in
theorem c_X3_vacate (l : Launch) (E : ET) (a : Nat → Nat) (sz : Nat) (v : MV) (o : Nat) (ho : o < 4) (pl : Nat) (hpl : pl < 8) : Met l yX3_vacate wsX3_vacate ({ frames := 3, cells := 0, slots := 0, locals := 63 }) (mPc E [.ref (a 0), .ref (a (3 + 9 * o)), .int (nI (pl))] sz (wM E a v)) (mQv E (wM E a v) (wM E a (M_vac v o pl)) sz) 0 0 (va_A (wM E a v) sz) := by
  refine v_start (cc := cX3_vacate) (maxL := 4) (ret := none) (by decide) rfl (Nat.le_of_ble_eq_true rfl) rfl ?_
  intro p e s m args below meth c hsz hr hX
  have hX : Xc p s m args meth c E 4 (va_A (wM E a v) sz) cX3_vacate RX3 wsX3_vacate := hX
  have in_X0 : ∀ w ∈ u_ws RX0 TX0 5, w ∈ wsX3_vacate := by decide +kernel
  have fl_97 : Cond.fieldLink RX3 97 RX0 "lines" "[I" ∈ wsX3_vacate := by decide +kernel
  refine v_aload_n hX dX3_vacate_0 rfl ?_
  refine v_get (C := RX0) (T := TX0) (N := 5) (ci := 0) (v := .ref ((kA a o) 1)) hX in_X0 _ (mAt E a v (by omega : o < 4) 0 rfl) rfl 0 (by decide) fl_97 rfl rfl dX3_vacate_1 ?_
  refine v_iload_n hX dX3_vacate_4 rfl ?_
  refine v_iald (z := encL ((v.2.1 o).1 (pl))) hX _ (mAt E a v (by omega : o < 4) 1 rfl) (vp_in_nI (by omega : pl < 8) (by omega)) (by simp only [nI_clamp (show pl < 2 ^ 31 by omega)]) dX3_vacate_5 ?_
  refine v_istore_n (lv' := [.ref (a 0), .ref (a (3 + 9 * o)), .int (nI (pl)), .int (encL ((v.2.1 o).1 (pl)))]) hX dX3_vacate_6 (Nat.le_of_ble_eq_true rfl) (Nat.le_of_ble_eq_true rfl) rfl rfl ?_
  refine v_iload_n hX dX3_vacate_7 rfl ?_
  refine v_iconst (x := (-1 : Int32)) hX dX3_vacate_8 (by decide) ?_
  refine v_icmp_eq (tgt := 23) hX dX3_vacate_9 (by decide) (fun c1 => ?_) (fun c1 => ?_)
  · replace c1 := encL_m1.mp c1
    exact v_vret hX hr hsz dX3_vacate_23 rfl rfl (by (first | rfl | (simp only [M_vac, M_rel, c1, if_true, if_false, reduceIte, Bool.false_eq_true, reduceCtorEq, decide_true, decide_false, Bool.and_true, Bool.and_false, Bool.true_and, Bool.false_and, Bool.or_true, Bool.or_false, Bool.true_or, Bool.false_or, not_true_eq_false, not_false_eq_true, Bool.not_true, Bool.not_false, eq_self, Nat.reduceEqDiff]; done) | (simp only [M_vac, M_rel, c1, if_true, if_false, reduceIte, Bool.false_eq_true, reduceCtorEq, decide_true, decide_false, Bool.and_true, Bool.and_false, Bool.true_and, Bool.false_and, Bool.or_true, Bool.or_false, Bool.true_or, Bool.false_or, not_true_eq_false, not_false_eq_true, Bool.not_true, Bool.not_false, eq_self, Nat.reduceEqDiff]; rfl) | contradiction | (exfalso; omega)))
  · obtain ⟨n2, c1⟩ := encL_ex c1
    have hn2 := n2.isLt
    try rw [show encL ((v.2.1 o).1 (pl)) = nI (n2).val from by rw [c1]; rfl]
    refine v_aload_n hX dX3_vacate_12 rfl ?_
    refine v_aload_n hX dX3_vacate_13 rfl ?_
    refine v_iload_n hX dX3_vacate_14 rfl ?_
    obtain ⟨v3, hv3⟩ : ∃ z_ : MV, z_ = M_wb v o pl := ⟨_, rfl⟩
    refine v_callVv (rest := []) (ws' := wM E a v3) hX (fun sz => c_X3_writeBack l E a sz v o (by first | omega | exact Nat.le_of_ble_eq_true rfl | assumption | decide) pl (by first | omega | exact Nat.le_of_ble_eq_true rfl | assumption | decide)) (cwV 2 hX.2.2.2.2.1 gX3_vacate_X3_writeBack rfl rfl rfl (by decide +kernel) ⟨Nat.le_of_ble_eq_true rfl, Nat.le_of_ble_eq_true rfl⟩) ([]) ([]) ((List.append_nil _).symm) (by rw [hv3]; exact List.append_nil _) (wM_fst E a _ _) (ci := 3) (q0 := 0) rfl rfl rfl rfl rfl (Nat.le_of_ble_eq_true rfl) dX3_vacate_15 ?_
    refine v_aload_n hX dX3_vacate_18 rfl ?_
    refine v_iload_n hX dX3_vacate_19 rfl ?_
    obtain ⟨v4, hv4⟩ : ∃ z_ : MV, z_ = M_setK v3 o (K_release (v3.2.1 o) n2) := ⟨_, rfl⟩
    refine v_callVv (rest := []) (ws' := wM E a v4) hX (fun sz => c_X0_release l E (kA a o) sz (v3.2.1 o) n2) (cwV 1 hX.2.2.2.2.1 gX3_vacate_X0_release rfl rfl rfl (by decide +kernel) ⟨Nat.le_of_ble_eq_true rfl, Nat.le_of_ble_eq_true rfl⟩) (mPre E a v3 o) (mPost E a v3 o) (wM_cut E a v3 (by omega : o < 4)) (by rw [hv4]; exact wM_put E a v3 (by omega : o < 4) _) (wK_fst E (kA a o) _ _) (ci := 0) (q0 := 0) rfl rfl rfl rfl rfl (Nat.le_of_ble_eq_true rfl) dX3_vacate_20 ?_
    exact v_vret hX hr hsz dX3_vacate_23 rfl rfl (by (subst hv4; subst hv3; first | rfl | (simp only [M_vac, M_rel, c1, if_true, if_false, reduceIte, Bool.false_eq_true, reduceCtorEq, decide_true, decide_false, Bool.and_true, Bool.and_false, Bool.true_and, Bool.false_and, Bool.or_true, Bool.or_false, Bool.true_or, Bool.false_or, not_true_eq_false, not_false_eq_true, Bool.not_true, Bool.not_false, eq_self, Nat.reduceEqDiff]; done) | (simp only [M_vac, M_rel, c1, if_true, if_false, reduceIte, Bool.false_eq_true, reduceCtorEq, decide_true, decide_false, Bool.and_true, Bool.and_false, Bool.true_and, Bool.false_and, Bool.or_true, Bool.or_false, Bool.true_or, Bool.false_or, not_true_eq_false, not_false_eq_true, Bool.not_true, Bool.not_false, eq_self, Nat.reduceEqDiff]; rfl) | contradiction | (exfalso; omega)))
set_option maxHeartbeats 4000000 in
set_option maxRecDepth 100000 in
theorem c_X3_forgetAllBut (l : Launch) (E : ET) (a : Nat → Nat) (sz : Nat) (v : MV) (o : Nat) (ho : o < 4) (kept : Option (Fin 256)) : Met l yX3_forgetAllBut wsX3_forgetAllBut ({ frames := 1, cells := 0, slots := 0, locals := 23 }) (mPc E [.ref (a 0), .ref (a (3 + 9 * o)), .int (encL (kept))] sz (wM E a v)) (mQi E ((M_fa v o kept).2) (wM E a v) (wM E a ((M_fa v o kept).1)) sz) 0 0 (va_A (wM E a v) sz) := by
  refine v_start (cc := cX3_forgetAllBut) (maxL := 6) (ret := (some .int)) (by decide) rfl (Nat.le_of_ble_eq_true rfl) rfl ?_
  intro p e s m args below meth c hsz hr hX
  have hX : Xc p s m args meth c E 6 (va_A (wM E a v) sz) cX3_forgetAllBut RX3 wsX3_forgetAllBut := hX
  have in_X0 : ∀ w ∈ u_ws RX0 TX0 5, w ∈ wsX3_forgetAllBut := by decide +kernel
  have fl_83 : Cond.fieldLink RX3 83 RX0 "filter" "LSnoopFilter$Filter;" ∈ wsX3_forgetAllBut := by decide +kernel
  have fl_37 : Cond.fieldLink RX3 37 RX0 "tallies" "[I" ∈ wsX3_forgetAllBut := by decide +kernel
  have fl_97 : Cond.fieldLink RX3 97 RX0 "lines" "[I" ∈ wsX3_forgetAllBut := by decide +kernel
  refine v_iconst (x := (0 : Int32)) hX dX3_forgetAllBut_0 (by decide) ?_
  refine v_istore_n (lv' := [.ref (a 0), .ref (a (3 + 9 * o)), .int (encL (kept)), .int ((0 : Int32))]) hX dX3_forgetAllBut_1 (Nat.le_of_ble_eq_true rfl) (Nat.le_of_ble_eq_true rfl) rfl rfl ?_
  refine v_iconst (x := (0 : Int32)) hX dX3_forgetAllBut_2 (by decide) ?_
  refine v_istore (lv' := [.ref (a 0), .ref (a (3 + 9 * o)), .int (encL (kept)), .int ((0 : Int32)), .int ((0 : Int32))]) hX dX3_forgetAllBut_3 (Nat.le_of_ble_eq_true rfl) (Nat.le_of_ble_eq_true rfl) rfl rfl ?_
  have loop_5 : ∀ (fu i : Nat), i + fu = 8 → V p l e ({ frames := 1, cells := 0, slots := 0, locals := 23 } : Room) s m args below meth c E 6 (va_A (wM E a v) sz) (MQ below (mQi E ((M_fa v o kept).2) (wM E a v) (wM E a ((M_fa v o kept).1)) sz) args s 0 0 (va_A (wM E a v) sz)) (wM E a ((it (M_faF o kept) i (v, 0)).1)) [.ref (a 0), .ref (a (3 + 9 * o)), .int (encL (kept)), .int ((it (M_faF o kept) i (v, 0)).2), .int (nI (i))] 5 [] := by
    intro fu
    induction fu with
    | zero =>
      intro i  hin 
      have hi0 : i = 8 := by omega
      subst hi0
      refine v_iload hX dX3_forgetAllBut_5 rfl ?_
      refine v_bipush (x := (8 : Int32)) hX dX3_forgetAllBut_7 (by decide) ?_
      refine v_icmp_ge (tgt := 55) hX dX3_forgetAllBut_9 (by decide) (fun c1 => ?_) (fun c1 => ?_)
      · replace c1 := (nI_leI (a := 8) (b := 8) (by omega) (by omega)).mp c1
        refine v_aload_n hX dX3_forgetAllBut_55 rfl ?_
        refine v_get (C := RX0) (T := TX0) (N := 5) (ci := 0) (v := .ref ((kA a o) 5)) hX in_X0 _ (mAt E a ((it (M_faF o kept) 8 (v, 0)).1) (by omega : o < 4) 0 rfl) rfl 4 (by decide) fl_83 rfl rfl dX3_forgetAllBut_56 ?_
        obtain ⟨v2, hv2⟩ : ∃ z_ : MV, z_ = M_setK ((it (M_faF o kept) 8 (v, 0)).1) o (K_setF (((it (M_faF o kept) 8 (v, 0)).1).2.1 o) (F_wipe ((((it (M_faF o kept) 8 (v, 0)).1).2.1 o).2.2.2.2))) := ⟨_, rfl⟩
        refine v_callVv (rest := []) (ws' := wM E a v2) hX (fun sz => c_X1_wipe l E (fA (kA a o)) sz ((((it (M_faF o kept) 8 (v, 0)).1).2.1 o).2.2.2.2) ) (cwV 0 hX.2.2.2.2.1 gX3_forgetAllBut_X1_wipe rfl rfl rfl (by decide +kernel) ⟨Nat.le_of_ble_eq_true rfl, Nat.le_of_ble_eq_true rfl⟩) (fPre E a ((it (M_faF o kept) 8 (v, 0)).1) o) (mPost E a ((it (M_faF o kept) 8 (v, 0)).1) o) (wM_cutF E a ((it (M_faF o kept) 8 (v, 0)).1) (by omega : o < 4)) (by rw [hv2]; exact wM_putF E a ((it (M_faF o kept) 8 (v, 0)).1) (by omega : o < 4) _) (wF_fst E (fA (kA a o)) _ _) (ci := 1) (q0 := 0) rfl rfl rfl rfl rfl (Nat.le_of_ble_eq_true rfl) dX3_forgetAllBut_59 ?_
        refine v_aload_n hX dX3_forgetAllBut_62 rfl ?_
        refine v_get (C := RX0) (T := TX0) (N := 5) (ci := 0) (v := .ref ((kA a o) 4)) hX in_X0 _ (mAt E a v2 (by omega : o < 4) 0 rfl) rfl 3 (by decide) fl_37 rfl rfl dX3_forgetAllBut_63 ?_
        refine v_iconst (x := (5 : Int32)) hX dX3_forgetAllBut_66 (by decide) ?_
        refine v_dup2 hX dX3_forgetAllBut_67 rfl rfl ?_
        refine v_iald (z := (v2.2.1 o).2.2.2.1 (5)) hX _ (mAt E a v2 (by omega : o < 4) 4 rfl) (vp_in_nI (by omega : 5 < 6) (by omega)) rfl dX3_forgetAllBut_68 ?_
        refine v_iconst (x := (1 : Int32)) hX dX3_forgetAllBut_69 (by decide) ?_
        refine v_iadd (z := ((v2.2.1 o).2.2.2.1 (5) + (1 : Int32))) hX dX3_forgetAllBut_70 (rfl) ?_
        obtain ⟨v3, hv3⟩ : ∃ z_ : MV, z_ = M_setK v2 o (K_setT (v2.2.1 o) (5) (((v2.2.1 o).2.2.2.1 (5) + (1 : Int32)))) := ⟨_, rfl⟩
        refine v_iast (ws' := wM E a v3) hX _ (mAt E a v2 (by omega : o < 4) 4 rfl) (vp_in_nI (by omega : 5 < 6) (by omega)) (by rw [hv3]; exact mSt E a v2 (by omega : o < 4) 4 (by decide) (sK_T E (kA a o) (v2.2.1 o) (k := 5) (by omega) _)) dX3_forgetAllBut_71 ?_
        refine v_iload_n hX dX3_forgetAllBut_72 rfl ?_
        exact v_iret hX hr hsz dX3_forgetAllBut_73 rfl rfl (by (subst hv3; subst hv2; first | rfl | (simp only [M_fa, M_tick, K_tick, M_wipe, c1, if_true, if_false, reduceIte, Bool.false_eq_true, reduceCtorEq, decide_true, decide_false, Bool.and_true, Bool.and_false, Bool.true_and, Bool.false_and, Bool.or_true, Bool.or_false, Bool.true_or, Bool.false_or, not_true_eq_false, not_false_eq_true, Bool.not_true, Bool.not_false, eq_self, Nat.reduceEqDiff]; done) | (simp only [M_fa, M_tick, K_tick, M_wipe, c1, if_true, if_false, reduceIte, Bool.false_eq_true, reduceCtorEq, decide_true, decide_false, Bool.and_true, Bool.and_false, Bool.true_and, Bool.false_and, Bool.or_true, Bool.or_false, Bool.true_or, Bool.false_or, not_true_eq_false, not_false_eq_true, Bool.not_true, Bool.not_false, eq_self, Nat.reduceEqDiff]; rfl) | contradiction | (exfalso; omega))) (by (subst hv3; subst hv2; first | rfl | (simp only [M_fa, M_tick, K_tick, M_wipe, c1, if_true, if_false, reduceIte, Bool.false_eq_true, reduceCtorEq, decide_true, decide_false, Bool.and_true, Bool.and_false, Bool.true_and, Bool.false_and, Bool.or_true, Bool.or_false, Bool.true_or, Bool.false_or, not_true_eq_false, not_false_eq_true, Bool.not_true, Bool.not_false, eq_self, Nat.reduceEqDiff]; done) | (simp only [M_fa, M_tick, K_tick, M_wipe, c1, if_true, if_false, reduceIte, Bool.false_eq_true, reduceCtorEq, decide_true, decide_false, Bool.and_true, Bool.and_false, Bool.true_and, Bool.false_and, Bool.or_true, Bool.or_false, Bool.true_or, Bool.false_or, not_true_eq_false, not_false_eq_true, Bool.not_true, Bool.not_false, eq_self, Nat.reduceEqDiff]; rfl) | contradiction | (exfalso; omega)))
      · replace c1 := (not_congr (nI_leI (a := 8) (b := 8) (by omega) (by omega))).mp c1
        first | (exfalso; omega) | exact absurd c1 (by decide) | exact absurd (by decide) c1
    | succ fu ih =>
      intro i  hin 
      refine v_iload hX dX3_forgetAllBut_5 rfl ?_
      refine v_bipush (x := (8 : Int32)) hX dX3_forgetAllBut_7 (by decide) ?_
      refine v_icmp_ge (tgt := 55) hX dX3_forgetAllBut_9 (by decide) (fun c4 => ?_) (fun c4 => ?_)
      · replace c4 := (nI_leI (a := 8) (b := i) (by omega) (by omega)).mp c4
        first | (exfalso; omega) | exact absurd c4 (by decide) | exact absurd (by decide) c4
      · replace c4 := (not_congr (nI_leI (a := 8) (b := i) (by omega) (by omega))).mp c4
        refine v_aload_n hX dX3_forgetAllBut_12 rfl ?_
        refine v_get (C := RX0) (T := TX0) (N := 5) (ci := 0) (v := .ref ((kA a o) 1)) hX in_X0 _ (mAt E a ((it (M_faF o kept) i (v, 0)).1) (by omega : o < 4) 0 rfl) rfl 0 (by decide) fl_97 rfl rfl dX3_forgetAllBut_13 ?_
        refine v_iload hX dX3_forgetAllBut_16 rfl ?_
        refine v_iald (z := encL ((((it (M_faF o kept) i (v, 0)).1).2.1 o).1 (i))) hX _ (mAt E a ((it (M_faF o kept) i (v, 0)).1) (by omega : o < 4) 1 rfl) (vp_in_nI (by omega : i < 8) (by omega)) (by simp only [nI_clamp (show i < 2 ^ 31 by omega)]) dX3_forgetAllBut_18 ?_
        refine v_istore (lv' := [.ref (a 0), .ref (a (3 + 9 * o)), .int (encL (kept)), .int ((it (M_faF o kept) i (v, 0)).2), .int (nI (i)), .int (encL ((((it (M_faF o kept) i (v, 0)).1).2.1 o).1 (i)))]) hX dX3_forgetAllBut_19 (Nat.le_of_ble_eq_true rfl) (Nat.le_of_ble_eq_true rfl) rfl rfl ?_
        refine v_iload hX dX3_forgetAllBut_21 rfl ?_
        refine v_iconst (x := (-1 : Int32)) hX dX3_forgetAllBut_23 (by decide) ?_
        refine v_icmp_eq (tgt := 49) hX dX3_forgetAllBut_24 (by decide) (fun c5 => ?_) (fun c5 => ?_)
        · replace c5 := encL_m1.mp c5
          refine v_iinc (y := nI (i + 1)) (lv' := [.ref (a 0), .ref (a (3 + 9 * o)), .int (encL (kept)), .int ((it (M_faF o kept) i (v, 0)).2), .int (nI (i + 1)), .int (encL ((((it (M_faF o kept) i (v, 0)).1).2.1 o).1 (i)))]) hX dX3_forgetAllBut_49 rfl (nI_inc _) (Nat.le_of_ble_eq_true rfl) (Nat.le_of_ble_eq_true rfl) rfl rfl ?_
          refine v_goto (tgt := 5) hX dX3_forgetAllBut_52 (by decide) ?_
          have e6 : (it (M_faF o kept) i (v, 0)).2 = (it (M_faF o kept) (i + 1) (v, 0)).2 := by first | rfl | (simp only [M_faF, M_emp, c4, c5, it, if_true, if_false, reduceIte, Bool.false_eq_true, Bool.and_true, Bool.and_false, Bool.true_and, Bool.false_and, not_true_eq_false, not_false_eq_true, eq_self, ne_eq, reduceCtorEq, decide_true, decide_false, Bool.not_true, Bool.not_false]; done) | (simp only [M_faF, M_emp, c4, c5, it, if_true, if_false, reduceIte, Bool.false_eq_true, Bool.and_true, Bool.and_false, Bool.true_and, Bool.false_and, not_true_eq_false, not_false_eq_true, eq_self, ne_eq, reduceCtorEq, decide_true, decide_false, Bool.not_true, Bool.not_false]; rfl)
          rw [e6]
          have e7 : (it (M_faF o kept) i (v, 0)).1 = (it (M_faF o kept) (i + 1) (v, 0)).1 := by first | rfl | (simp only [M_faF, M_emp, c4, c5, it, if_true, if_false, reduceIte, Bool.false_eq_true, Bool.and_true, Bool.and_false, Bool.true_and, Bool.false_and, not_true_eq_false, not_false_eq_true, eq_self, ne_eq, reduceCtorEq, decide_true, decide_false, Bool.not_true, Bool.not_false]; done) | (simp only [M_faF, M_emp, c4, c5, it, if_true, if_false, reduceIte, Bool.false_eq_true, Bool.and_true, Bool.and_false, Bool.true_and, Bool.false_and, not_true_eq_false, not_false_eq_true, eq_self, ne_eq, reduceCtorEq, decide_true, decide_false, Bool.not_true, Bool.not_false]; rfl)
          rw [e7]
          exact v_fewer 5 rfl (ih (i + 1)  (by omega) )
        · obtain ⟨n8, c5⟩ := encL_ex c5
          have hn8 := n8.isLt
          try rw [show encL ((((it (M_faF o kept) i (v, 0)).1).2.1 o).1 (i)) = nI (n8).val from by rw [c5]; rfl]
          refine v_iload hX dX3_forgetAllBut_27 rfl ?_
          refine v_iload_n hX dX3_forgetAllBut_29 rfl ?_
          refine v_icmp_eq (tgt := 49) hX dX3_forgetAllBut_30 (by decide) (fun c9 => ?_) (fun c9 => ?_)
          · replace c9 := eq_true (encL_eq.mp c9.symm)
            refine v_iinc (y := nI (i + 1)) (lv' := [.ref (a 0), .ref (a (3 + 9 * o)), .int (encL (kept)), .int ((it (M_faF o kept) i (v, 0)).2), .int (nI (i + 1)), .int (nI (n8).val)]) hX dX3_forgetAllBut_49 rfl (nI_inc _) (Nat.le_of_ble_eq_true rfl) (Nat.le_of_ble_eq_true rfl) rfl rfl ?_
            refine v_goto (tgt := 5) hX dX3_forgetAllBut_52 (by decide) ?_
            have e10 : (it (M_faF o kept) i (v, 0)).2 = (it (M_faF o kept) (i + 1) (v, 0)).2 := by first | rfl | (simp only [M_faF, M_emp, c4, c5, c9, it, if_true, if_false, reduceIte, Bool.false_eq_true, Bool.and_true, Bool.and_false, Bool.true_and, Bool.false_and, not_true_eq_false, not_false_eq_true, eq_self, ne_eq, reduceCtorEq, decide_true, decide_false, Bool.not_true, Bool.not_false]; done) | (simp only [M_faF, M_emp, c4, c5, c9, it, if_true, if_false, reduceIte, Bool.false_eq_true, Bool.and_true, Bool.and_false, Bool.true_and, Bool.false_and, not_true_eq_false, not_false_eq_true, eq_self, ne_eq, reduceCtorEq, decide_true, decide_false, Bool.not_true, Bool.not_false]; rfl)
            rw [e10]
            have e11 : (it (M_faF o kept) i (v, 0)).1 = (it (M_faF o kept) (i + 1) (v, 0)).1 := by first | rfl | (simp only [M_faF, M_emp, c4, c5, c9, it, if_true, if_false, reduceIte, Bool.false_eq_true, Bool.and_true, Bool.and_false, Bool.true_and, Bool.false_and, not_true_eq_false, not_false_eq_true, eq_self, ne_eq, reduceCtorEq, decide_true, decide_false, Bool.not_true, Bool.not_false]; done) | (simp only [M_faF, M_emp, c4, c5, c9, it, if_true, if_false, reduceIte, Bool.false_eq_true, Bool.and_true, Bool.and_false, Bool.true_and, Bool.false_and, not_true_eq_false, not_false_eq_true, eq_self, ne_eq, reduceCtorEq, decide_true, decide_false, Bool.not_true, Bool.not_false]; rfl)
            rw [e11]
            exact v_fewer 5 rfl (ih (i + 1)  (by omega) )
          · replace c9 : ¬ kept = some n8 := fun q => c9 (encL_eq.mpr q).symm
            refine v_aload_n hX dX3_forgetAllBut_33 rfl ?_
            refine v_aload_n hX dX3_forgetAllBut_34 rfl ?_
            refine v_iload hX dX3_forgetAllBut_35 rfl ?_
            obtain ⟨v12, hv12⟩ : ∃ z_ : MV, z_ = M_wb ((it (M_faF o kept) i (v, 0)).1) o i := ⟨_, rfl⟩
            refine v_callVv (rest := []) (ws' := wM E a v12) hX (fun sz => c_X3_writeBack l E a sz ((it (M_faF o kept) i (v, 0)).1) o (by first | omega | exact Nat.le_of_ble_eq_true rfl | assumption | decide) i (by first | omega | exact Nat.le_of_ble_eq_true rfl | assumption | decide)) (cwV 2 hX.2.2.2.2.1 gX3_forgetAllBut_X3_writeBack rfl rfl rfl (by decide +kernel) ⟨Nat.le_of_ble_eq_true rfl, Nat.le_of_ble_eq_true rfl⟩) ([]) ([]) ((List.append_nil _).symm) (by rw [hv12]; exact List.append_nil _) (wM_fst E a _ _) (ci := 3) (q0 := 0) rfl rfl rfl rfl rfl (Nat.le_of_ble_eq_true rfl) dX3_forgetAllBut_37 ?_
            refine v_aload_n hX dX3_forgetAllBut_40 rfl ?_
            refine v_iload hX dX3_forgetAllBut_41 rfl ?_
            obtain ⟨v13, hv13⟩ : ∃ z_ : MV, z_ = M_setK v12 o (K_empty (v12.2.1 o) i) := ⟨_, rfl⟩
            refine v_callVv (rest := []) (ws' := wM E a v13) hX (fun sz => c_X0_empty l E (kA a o) sz (v12.2.1 o) i (by first | omega | exact Nat.le_of_ble_eq_true rfl | assumption | decide)) (cwV 1 hX.2.2.2.2.1 gX3_forgetAllBut_X0_empty rfl rfl rfl (by decide +kernel) ⟨Nat.le_of_ble_eq_true rfl, Nat.le_of_ble_eq_true rfl⟩) (mPre E a v12 o) (mPost E a v12 o) (wM_cut E a v12 (by omega : o < 4)) (by rw [hv13]; exact wM_put E a v12 (by omega : o < 4) _) (wK_fst E (kA a o) _ _) (ci := 0) (q0 := 0) rfl rfl rfl rfl rfl (Nat.le_of_ble_eq_true rfl) dX3_forgetAllBut_43 ?_
            refine v_iinc (y := ((it (M_faF o kept) i (v, 0)).2 + 1)) (lv' := [.ref (a 0), .ref (a (3 + 9 * o)), .int (encL (kept)), .int (((it (M_faF o kept) i (v, 0)).2 + 1)), .int (nI (i)), .int (nI (n8).val)]) hX dX3_forgetAllBut_46 rfl (rfl) (Nat.le_of_ble_eq_true rfl) (Nat.le_of_ble_eq_true rfl) rfl rfl ?_
            refine v_iinc (y := nI (i + 1)) (lv' := [.ref (a 0), .ref (a (3 + 9 * o)), .int (encL (kept)), .int (((it (M_faF o kept) i (v, 0)).2 + 1)), .int (nI (i + 1)), .int (nI (n8).val)]) hX dX3_forgetAllBut_49 rfl (nI_inc _) (Nat.le_of_ble_eq_true rfl) (Nat.le_of_ble_eq_true rfl) rfl rfl ?_
            refine v_goto (tgt := 5) hX dX3_forgetAllBut_52 (by decide) ?_
            have e14 : ((it (M_faF o kept) i (v, 0)).2 + 1) = (it (M_faF o kept) (i + 1) (v, 0)).2 := by subst hv13; subst hv12; first | rfl | (simp only [M_faF, M_emp, c4, c5, c9, it, if_true, if_false, reduceIte, Bool.false_eq_true, Bool.and_true, Bool.and_false, Bool.true_and, Bool.false_and, not_true_eq_false, not_false_eq_true, eq_self, ne_eq, reduceCtorEq, decide_true, decide_false, Bool.not_true, Bool.not_false]; done) | (simp only [M_faF, M_emp, c4, c5, c9, it, if_true, if_false, reduceIte, Bool.false_eq_true, Bool.and_true, Bool.and_false, Bool.true_and, Bool.false_and, not_true_eq_false, not_false_eq_true, eq_self, ne_eq, reduceCtorEq, decide_true, decide_false, Bool.not_true, Bool.not_false]; rfl)
            rw [e14]
            have e15 : v13 = (it (M_faF o kept) (i + 1) (v, 0)).1 := by subst hv13; subst hv12; first | rfl | (simp only [M_faF, M_emp, c4, c5, c9, it, if_true, if_false, reduceIte, Bool.false_eq_true, Bool.and_true, Bool.and_false, Bool.true_and, Bool.false_and, not_true_eq_false, not_false_eq_true, eq_self, ne_eq, reduceCtorEq, decide_true, decide_false, Bool.not_true, Bool.not_false]; done) | (simp only [M_faF, M_emp, c4, c5, c9, it, if_true, if_false, reduceIte, Bool.false_eq_true, Bool.and_true, Bool.and_false, Bool.true_and, Bool.false_and, not_true_eq_false, not_false_eq_true, eq_self, ne_eq, reduceCtorEq, decide_true, decide_false, Bool.not_true, Bool.not_false]; rfl)
            rw [e15]
            exact v_fewer 5 rfl (ih (i + 1)  (by omega) )
  exact loop_5 8 0  (by omega) 
set_option maxHeartbeats 4000000 in
set_option maxRecDepth 100000 in
theorem c_X3_beginToHold (l : Launch) (E : ET) (a : Nat → Nat) (sz : Nat) (v : MV) (o : Nat) (ho : o < 4) (n : Fin 256) (x : Int32) (b : Bool) : Met l yX3_beginToHold wsX3_beginToHold ({ frames := 2, cells := 0, slots := 0, locals := 48 }) (mPc E [.ref (a 0), .ref (a (3 + 9 * o)), .int (nI (n).val), .int (x), .int (bI (b))] sz (wM E a v)) (mQv E (wM E a v) (wM E a (M_begin v o n x b)) sz) 0 0 (va_A (wM E a v) sz) := by
  refine v_start (cc := cX3_beginToHold) (maxL := 5) (ret := none) (by decide) rfl (Nat.le_of_ble_eq_true rfl) rfl ?_
  intro p e s m args below meth c hsz hr hX
  have hX : Xc p s m args meth c E 5 (va_A (wM E a v) sz) cX3_beginToHold RX3 wsX3_beginToHold := hX
  have in_X0 : ∀ w ∈ u_ws RX0 TX0 5, w ∈ wsX3_beginToHold := by decide +kernel
  have fl_83 : Cond.fieldLink RX3 83 RX0 "filter" "LSnoopFilter$Filter;" ∈ wsX3_beginToHold := by decide +kernel
  have in_X3 : ∀ w ∈ u_ws RX3 TX3 6, w ∈ wsX3_beginToHold := by decide +kernel
  have fl_21 : Cond.fieldLink RX3 21 RX3 "limit" "I" ∈ wsX3_beginToHold := by decide +kernel
  have fl_25 : Cond.fieldLink RX3 25 RX3 "fullFrom" "I" ∈ wsX3_beginToHold := by decide +kernel
  have hlt_n := n.isLt
  refine v_aload_n hX dX3_beginToHold_0 rfl ?_
  refine v_iload_n hX dX3_beginToHold_1 rfl ?_
  refine v_iload_n hX dX3_beginToHold_2 rfl ?_
  refine v_iload hX dX3_beginToHold_3 rfl ?_
  obtain ⟨v1, hv1⟩ : ∃ z_ : MV, z_ = M_setK v o (K_fill (v.2.1 o) n x b) := ⟨_, rfl⟩
  refine v_callVv (rest := []) (ws' := wM E a v1) hX (fun sz => c_X0_fill l E (kA a o) sz (v.2.1 o) n x b) (cwV 3 hX.2.2.2.2.1 gX3_beginToHold_X0_fill rfl rfl rfl (by decide +kernel) ⟨Nat.le_of_ble_eq_true rfl, Nat.le_of_ble_eq_true rfl⟩) (mPre E a v o) (mPost E a v o) (wM_cut E a v (by omega : o < 4)) (by rw [hv1]; exact wM_put E a v (by omega : o < 4) _) (wK_fst E (kA a o) _ _) (ci := 0) (q0 := 0) rfl rfl rfl rfl rfl (Nat.le_of_ble_eq_true rfl) dX3_beginToHold_5 ?_
  refine v_aload_n hX dX3_beginToHold_8 rfl ?_
  refine v_get (C := RX0) (T := TX0) (N := 5) (ci := 0) (v := .ref ((kA a o) 5)) hX in_X0 _ (mAt E a v1 (by omega : o < 4) 0 rfl) rfl 4 (by decide) fl_83 rfl rfl dX3_beginToHold_9 ?_
  refine v_iload_n hX dX3_beginToHold_12 rfl ?_
  refine v_aload_n hX dX3_beginToHold_13 rfl ?_
  refine v_get (C := RX3) (T := TX3) (N := 6) (ci := 3) (v := .int (v1.2.2.1)) hX in_X3 0 rfl rfl 2 (by decide) fl_21 rfl rfl dX3_beginToHold_14 ?_
  obtain ⟨v2, hv2⟩ : ∃ z_ : MV, z_ = M_setK v1 o (K_setF (v1.2.1 o) (F_add ((v1.2.1 o).2.2.2.2) ((n).val) v1.2.2.1)) := ⟨_, rfl⟩
  refine v_callVv (rest := []) (ws' := wM E a v2) hX (fun sz => c_X1_add l E (fA (kA a o)) sz ((v1.2.1 o).2.2.2.2) ((n).val) (by first | omega | exact Nat.le_of_ble_eq_true rfl | assumption | decide) v1.2.2.1) (cwV 2 hX.2.2.2.2.1 gX3_beginToHold_X1_add rfl rfl rfl (by decide +kernel) ⟨Nat.le_of_ble_eq_true rfl, Nat.le_of_ble_eq_true rfl⟩) (fPre E a v1 o) (mPost E a v1 o) (wM_cutF E a v1 (by omega : o < 4)) (by rw [hv2]; exact wM_putF E a v1 (by omega : o < 4) _) (wF_fst E (fA (kA a o)) _ _) (ci := 1) (q0 := 0) rfl rfl rfl rfl rfl (Nat.le_of_ble_eq_true rfl) dX3_beginToHold_17 ?_
  refine v_aload_n hX dX3_beginToHold_20 rfl ?_
  refine v_get (C := RX0) (T := TX0) (N := 5) (ci := 0) (v := .ref ((kA a o) 5)) hX in_X0 _ (mAt E a v2 (by omega : o < 4) 0 rfl) rfl 4 (by decide) fl_83 rfl rfl dX3_beginToHold_21 ?_
  refine v_callVi (r := F_above ((v2.2.1 o).2.2.2.2)) (rest := []) (ws' := wM E a v2) hX (fun sz => c_X1_countersAboveZero l E (fA (kA a o)) sz ((v2.2.1 o).2.2.2.2) ) (cwV 0 hX.2.2.2.2.1 gX3_beginToHold_X1_countersAboveZero rfl rfl rfl (by decide +kernel) ⟨Nat.le_of_ble_eq_true rfl, Nat.le_of_ble_eq_true rfl⟩) (fPre E a v2 o) (mPost E a v2 o) (wM_cutF E a v2 (by omega : o < 4)) (wM_cutF E a v2 (by omega : o < 4)).symm (wF_fst E (fA (kA a o)) _ _) (ci := 1) (q0 := 0) rfl rfl rfl rfl rfl (Nat.le_of_ble_eq_true rfl) dX3_beginToHold_24 ?_
  refine v_aload_n hX dX3_beginToHold_27 rfl ?_
  refine v_get (C := RX3) (T := TX3) (N := 6) (ci := 3) (v := .int (v2.2.2.2.1)) hX in_X3 0 rfl rfl 3 (by decide) fl_25 rfl rfl dX3_beginToHold_28 ?_
  refine v_icmp_lt (tgt := 53) hX dX3_beginToHold_31 (by decide) (fun c3 => ?_) (fun c3 => ?_)
  · exact v_vret hX hr hsz dX3_beginToHold_53 rfl rfl (by (subst hv2; subst hv1; first | rfl | (simp only [M_begin, M_add, M_fill, c3, if_true, if_false, reduceIte, Bool.false_eq_true, reduceCtorEq, decide_true, decide_false, Bool.and_true, Bool.and_false, Bool.true_and, Bool.false_and, Bool.or_true, Bool.or_false, Bool.true_or, Bool.false_or, not_true_eq_false, not_false_eq_true, Bool.not_true, Bool.not_false, eq_self, Nat.reduceEqDiff]; done) | (simp only [M_begin, M_add, M_fill, c3, if_true, if_false, reduceIte, Bool.false_eq_true, reduceCtorEq, decide_true, decide_false, Bool.and_true, Bool.and_false, Bool.true_and, Bool.false_and, Bool.or_true, Bool.or_false, Bool.true_or, Bool.false_or, not_true_eq_false, not_false_eq_true, Bool.not_true, Bool.not_false, eq_self, Nat.reduceEqDiff]; rfl) | contradiction | (exfalso; omega)))
  · refine v_aload_n hX dX3_beginToHold_34 rfl ?_
    refine v_aload_n hX dX3_beginToHold_35 rfl ?_
    refine v_iload_n hX dX3_beginToHold_36 rfl ?_
    obtain ⟨v4, hv4⟩ : ∃ z_ : MV, z_ = (M_fa v2 o (some n)).1 := ⟨_, rfl⟩
    refine v_callVi (r := (M_fa v2 o (some n)).2) (rest := []) (ws' := wM E a v4) hX (fun sz => c_X3_forgetAllBut l E a sz v2 o (by first | omega | exact Nat.le_of_ble_eq_true rfl | assumption | decide) (some n)) (cwV 2 hX.2.2.2.2.1 gX3_beginToHold_X3_forgetAllBut rfl rfl rfl (by decide +kernel) ⟨Nat.le_of_ble_eq_true rfl, Nat.le_of_ble_eq_true rfl⟩) ([]) ([]) ((List.append_nil _).symm) (by rw [hv4]; exact List.append_nil _) (wM_fst E a _ _) (ci := 3) (q0 := 0) rfl rfl rfl rfl rfl (Nat.le_of_ble_eq_true rfl) dX3_beginToHold_37 ?_
    refine v_pop hX dX3_beginToHold_40 rfl ?_
    refine v_aload_n hX dX3_beginToHold_41 rfl ?_
    refine v_get (C := RX0) (T := TX0) (N := 5) (ci := 0) (v := .ref ((kA a o) 5)) hX in_X0 _ (mAt E a v4 (by omega : o < 4) 0 rfl) rfl 4 (by decide) fl_83 rfl rfl dX3_beginToHold_42 ?_
    refine v_iload_n hX dX3_beginToHold_45 rfl ?_
    refine v_aload_n hX dX3_beginToHold_46 rfl ?_
    refine v_get (C := RX3) (T := TX3) (N := 6) (ci := 3) (v := .int (v4.2.2.1)) hX in_X3 0 rfl rfl 2 (by decide) fl_21 rfl rfl dX3_beginToHold_47 ?_
    obtain ⟨v5, hv5⟩ : ∃ z_ : MV, z_ = M_setK v4 o (K_setF (v4.2.1 o) (F_add ((v4.2.1 o).2.2.2.2) ((n).val) v4.2.2.1)) := ⟨_, rfl⟩
    refine v_callVv (rest := []) (ws' := wM E a v5) hX (fun sz => c_X1_add l E (fA (kA a o)) sz ((v4.2.1 o).2.2.2.2) ((n).val) (by first | omega | exact Nat.le_of_ble_eq_true rfl | assumption | decide) v4.2.2.1) (cwV 2 hX.2.2.2.2.1 gX3_beginToHold_X1_add rfl rfl rfl (by decide +kernel) ⟨Nat.le_of_ble_eq_true rfl, Nat.le_of_ble_eq_true rfl⟩) (fPre E a v4 o) (mPost E a v4 o) (wM_cutF E a v4 (by omega : o < 4)) (by rw [hv5]; exact wM_putF E a v4 (by omega : o < 4) _) (wF_fst E (fA (kA a o)) _ _) (ci := 1) (q0 := 0) rfl rfl rfl rfl rfl (Nat.le_of_ble_eq_true rfl) dX3_beginToHold_50 ?_
    exact v_vret hX hr hsz dX3_beginToHold_53 rfl rfl (by (subst hv5; subst hv4; subst hv2; subst hv1; first | rfl | (simp only [M_begin, M_add, M_fill, c3, if_true, if_false, reduceIte, Bool.false_eq_true, reduceCtorEq, decide_true, decide_false, Bool.and_true, Bool.and_false, Bool.true_and, Bool.false_and, Bool.or_true, Bool.or_false, Bool.true_or, Bool.false_or, not_true_eq_false, not_false_eq_true, Bool.not_true, Bool.not_false, eq_self, Nat.reduceEqDiff]; done) | (simp only [M_begin, M_add, M_fill, c3, if_true, if_false, reduceIte, Bool.false_eq_true, reduceCtorEq, decide_true, decide_false, Bool.and_true, Bool.and_false, Bool.true_and, Bool.false_and, Bool.or_true, Bool.or_false, Bool.true_or, Bool.false_or, not_true_eq_false, not_false_eq_true, Bool.not_true, Bool.not_false, eq_self, Nat.reduceEqDiff]; rfl) | contradiction | (exfalso; omega)))
set_option maxHeartbeats 4000000 in
set_option maxRecDepth 100000 in
theorem c_X3_readLine (l : Launch) (E : ET) (a : Nat → Nat) (sz : Nat) (v : MV) (r : Nat) (hro : r < 4) (n : Fin 256) : Met l yX3_readLine wsX3_readLine ({ frames := 4, cells := 0, slots := 0, locals := 86 }) (mPc E [.ref (a 0), .int (nI (r)), .int (nI (n).val)] sz (wM E a v)) (mQi E ((M_read v r n).2) (wM E a v) (wM E a ((M_read v r n).1)) sz) 0 0 (va_A (wM E a v) sz) := by
  refine v_start (cc := cX3_readLine) (maxL := 7) (ret := (some .int)) (by decide) rfl (Nat.le_of_ble_eq_true rfl) rfl ?_
  intro p e s m args below meth c hsz hr hX
  have hX : Xc p s m args meth c E 7 (va_A (wM E a v) sz) cX3_readLine RX3 wsX3_readLine := hX
  have in_X3 : ∀ w ∈ u_ws RX3 TX3 6, w ∈ wsX3_readLine := by decide +kernel
  have fl_17 : Cond.fieldLink RX3 17 RX3 "cores" "[LSnoopFilter$Core;" ∈ wsX3_readLine := by decide +kernel
  have in_X0 : ∀ w ∈ u_ws RX0 TX0 5, w ∈ wsX3_readLine := by decide +kernel
  have fl_37 : Cond.fieldLink RX3 37 RX0 "tallies" "[I" ∈ wsX3_readLine := by decide +kernel
  have fl_9 : Cond.fieldLink RX3 9 RX3 "memory" "[I" ∈ wsX3_readLine := by decide +kernel
  have fl_40 : Cond.fieldLink RX3 40 RX0 "values" "[I" ∈ wsX3_readLine := by decide +kernel
  have hlt_n := n.isLt
  refine v_aload_n hX dX3_readLine_0 rfl ?_
  refine v_get (C := RX3) (T := TX3) (N := 6) (ci := 3) (v := .ref (a 2)) hX in_X3 0 rfl rfl 1 (by decide) fl_17 rfl rfl dX3_readLine_1 ?_
  refine v_iload_n hX dX3_readLine_4 rfl ?_
  refine v_aaldK (b := a (3 + 9 * (r))) hX 2 rfl (vp_in_nI (by omega : r < 4) (by omega)) (by simp only [nI_clamp (show r < 2 ^ 31 by omega)]) dX3_readLine_5 ?_
  refine v_astore_n (lv' := [.ref (a 0), .int (nI (r)), .int (nI (n).val), .ref (a (3 + 9 * (r)))]) hX dX3_readLine_6 (Nat.le_of_ble_eq_true rfl) (Nat.le_of_ble_eq_true rfl) rfl rfl ?_
  refine v_iload_n hX dX3_readLine_7 rfl ?_
  refine v_callSi (r := nI (((n).val) % 8)) (rest := []) (ws' := wM E a v) hX (fun sz => c_X0_placeOf l E sz ((n).val) (by first | omega | exact Nat.le_of_ble_eq_true rfl | assumption | decide)) (va_cwS 1 hX.2.2.2.2.1 gX3_readLine_X0_placeOf rfl rfl rfl (by decide +kernel) ⟨Nat.le_of_ble_eq_true rfl, Nat.le_of_ble_eq_true rfl⟩) ([]) (wM E a v) (rfl) rfl (rfl) rfl rfl (Nat.le_of_ble_eq_true rfl) dX3_readLine_8 ?_
  refine v_istore (lv' := [.ref (a 0), .int (nI (r)), .int (nI (n).val), .ref (a (3 + 9 * (r))), .int (nI (((n).val) % 8))]) hX dX3_readLine_11 (Nat.le_of_ble_eq_true rfl) (Nat.le_of_ble_eq_true rfl) rfl rfl ?_
  refine v_aload_n hX dX3_readLine_13 rfl ?_
  refine v_iload_n hX dX3_readLine_14 rfl ?_
  refine v_callVi (r := bI (K_holds (v.2.1 r) n)) (rest := []) (ws' := wM E a v) hX (fun sz => c_X0_holds l E (kA a r) sz (v.2.1 r) n) (cwV 1 hX.2.2.2.2.1 gX3_readLine_X0_holds rfl rfl rfl (by decide +kernel) ⟨Nat.le_of_ble_eq_true rfl, Nat.le_of_ble_eq_true rfl⟩) (mPre E a v r) (mPost E a v r) (wM_cut E a v (by omega : r < 4)) (wM_cut E a v (by omega : r < 4)).symm (wK_fst E (kA a r) _ _) (ci := 0) (q0 := 0) rfl rfl rfl rfl rfl (Nat.le_of_ble_eq_true rfl) dX3_readLine_15 ?_
  refine v_if_eq (tgt := 39) hX dX3_readLine_18 (by decide) (fun c1 => ?_) (fun c1 => ?_)
  · replace c1 := bI_0.mp c1
    refine v_aload_n hX dX3_readLine_39 rfl ?_
    refine v_get (C := RX0) (T := TX0) (N := 5) (ci := 0) (v := .ref ((kA a r) 4)) hX in_X0 _ (mAt E a v (by omega : r < 4) 0 rfl) rfl 3 (by decide) fl_37 rfl rfl dX3_readLine_40 ?_
    refine v_iconst (x := (1 : Int32)) hX dX3_readLine_43 (by decide) ?_
    refine v_dup2 hX dX3_readLine_44 rfl rfl ?_
    refine v_iald (z := (v.2.1 r).2.2.2.1 (1)) hX _ (mAt E a v (by omega : r < 4) 4 rfl) (vp_in_nI (by omega : 1 < 6) (by omega)) rfl dX3_readLine_45 ?_
    refine v_iconst (x := (1 : Int32)) hX dX3_readLine_46 (by decide) ?_
    refine v_iadd (z := ((v.2.1 r).2.2.2.1 (1) + (1 : Int32))) hX dX3_readLine_47 (rfl) ?_
    obtain ⟨v2, hv2⟩ : ∃ z_ : MV, z_ = M_setK v r (K_setT (v.2.1 r) (1) (((v.2.1 r).2.2.2.1 (1) + (1 : Int32)))) := ⟨_, rfl⟩
    refine v_iast (ws' := wM E a v2) hX _ (mAt E a v (by omega : r < 4) 4 rfl) (vp_in_nI (by omega : 1 < 6) (by omega)) (by rw [hv2]; exact mSt E a v (by omega : r < 4) 4 (by decide) (sK_T E (kA a r) (v.2.1 r) (k := 1) (by omega) _)) dX3_readLine_48 ?_
    refine v_iconst (x := (0 : Int32)) hX dX3_readLine_49 (by decide) ?_
    refine v_istore (lv' := [.ref (a 0), .int (nI (r)), .int (nI (n).val), .ref (a (3 + 9 * (r))), .int (nI (((n).val) % 8)), .int ((0 : Int32))]) hX dX3_readLine_50 (Nat.le_of_ble_eq_true rfl) (Nat.le_of_ble_eq_true rfl) rfl rfl ?_
    have loop_52 : ∀ (fu i : Nat), i + fu = 4 → V p l e ({ frames := 4, cells := 0, slots := 0, locals := 86 } : Room) s m args below meth c E 7 (va_A (wM E a v) sz) (MQ below (mQi E ((M_read v r n).2) (wM E a v) (wM E a ((M_read v r n).1)) sz) args s 0 0 (va_A (wM E a v) sz)) (wM E a (it (M_readF r n) i (M_tick v r 1))) [.ref (a 0), .int (nI (r)), .int (nI (n).val), .ref (a (3 + 9 * (r))), .int (nI (((n).val) % 8)), .int (nI (i))] 52 [] := by
      intro fu
      induction fu with
      | zero =>
        intro i  hin 
        have hi0 : i = 4 := by omega
        subst hi0
        refine v_iload hX dX3_readLine_52 rfl ?_
        refine v_iconst (x := (4 : Int32)) hX dX3_readLine_54 (by decide) ?_
        refine v_icmp_ge (tgt := 105) hX dX3_readLine_55 (by decide) (fun c3 => ?_) (fun c3 => ?_)
        · replace c3 := (nI_leI (a := 4) (b := 4) (by omega) (by omega)).mp c3
          refine v_aload_n hX dX3_readLine_105 rfl ?_
          refine v_get (C := RX3) (T := TX3) (N := 6) (ci := 3) (v := .ref (a 1)) hX in_X3 0 rfl rfl 0 (by decide) fl_9 rfl rfl dX3_readLine_106 ?_
          refine v_iload_n hX dX3_readLine_109 rfl ?_
          refine v_iald (z := (it (M_readF r n) 4 (M_tick v r 1)).1 ((n).val)) hX 1 rfl (vp_in_nI (by omega : (n).val < 256) (by omega)) (by simp only [nI_clamp (show (n).val < 2 ^ 31 by omega)]) dX3_readLine_110 ?_
          refine v_istore (lv' := [.ref (a 0), .int (nI (r)), .int (nI (n).val), .ref (a (3 + 9 * (r))), .int (nI (((n).val) % 8)), .int ((it (M_readF r n) 4 (M_tick v r 1)).1 ((n).val))]) hX dX3_readLine_111 (Nat.le_of_ble_eq_true rfl) (Nat.le_of_ble_eq_true rfl) rfl rfl ?_
          refine v_aload_n hX dX3_readLine_113 rfl ?_
          refine v_aload_n hX dX3_readLine_114 rfl ?_
          refine v_iload hX dX3_readLine_115 rfl ?_
          obtain ⟨v4, hv4⟩ : ∃ z_ : MV, z_ = M_vac (it (M_readF r n) 4 (M_tick v r 1)) r (((n).val) % 8) := ⟨_, rfl⟩
          refine v_callVv (rest := []) (ws' := wM E a v4) hX (fun sz => c_X3_vacate l E a sz (it (M_readF r n) 4 (M_tick v r 1)) r (by first | omega | exact Nat.le_of_ble_eq_true rfl | assumption | decide) (((n).val) % 8) (by first | omega | exact Nat.le_of_ble_eq_true rfl | assumption | decide)) (cwV 2 hX.2.2.2.2.1 gX3_readLine_X3_vacate rfl rfl rfl (by decide +kernel) ⟨Nat.le_of_ble_eq_true rfl, Nat.le_of_ble_eq_true rfl⟩) ([]) ([]) ((List.append_nil _).symm) (by rw [hv4]; exact List.append_nil _) (wM_fst E a _ _) (ci := 3) (q0 := 0) rfl rfl rfl rfl rfl (Nat.le_of_ble_eq_true rfl) dX3_readLine_117 ?_
          refine v_aload_n hX dX3_readLine_120 rfl ?_
          refine v_aload_n hX dX3_readLine_121 rfl ?_
          refine v_iload_n hX dX3_readLine_122 rfl ?_
          refine v_iload hX dX3_readLine_123 rfl ?_
          refine v_iconst (x := (0 : Int32)) hX dX3_readLine_125 (by decide) ?_
          obtain ⟨v5, hv5⟩ : ∃ z_ : MV, z_ = M_begin v4 r n ((it (M_readF r n) 4 (M_tick v r 1)).1 ((n).val)) false := ⟨_, rfl⟩
          refine v_callVv (rest := []) (ws' := wM E a v5) hX (fun sz => c_X3_beginToHold l E a sz v4 r (by first | omega | exact Nat.le_of_ble_eq_true rfl | assumption | decide) n ((it (M_readF r n) 4 (M_tick v r 1)).1 ((n).val)) false) (cwV 4 hX.2.2.2.2.1 gX3_readLine_X3_beginToHold rfl rfl rfl (by decide +kernel) ⟨Nat.le_of_ble_eq_true rfl, Nat.le_of_ble_eq_true rfl⟩) ([]) ([]) ((List.append_nil _).symm) (by rw [hv5]; exact List.append_nil _) (wM_fst E a _ _) (ci := 3) (q0 := 0) rfl rfl rfl rfl rfl (Nat.le_of_ble_eq_true rfl) dX3_readLine_126 ?_
          refine v_iload hX dX3_readLine_129 rfl ?_
          exact v_iret hX hr hsz dX3_readLine_131 rfl rfl (by (subst hv5; subst hv4; subst hv2; first | rfl | (simp only [M_read, M_tick, K_tick, M_miss, c1, c3, if_true, if_false, reduceIte, Bool.false_eq_true, reduceCtorEq, decide_true, decide_false, Bool.and_true, Bool.and_false, Bool.true_and, Bool.false_and, Bool.or_true, Bool.or_false, Bool.true_or, Bool.false_or, not_true_eq_false, not_false_eq_true, Bool.not_true, Bool.not_false, eq_self, Nat.reduceEqDiff]; done) | (simp only [M_read, M_tick, K_tick, M_miss, c1, c3, if_true, if_false, reduceIte, Bool.false_eq_true, reduceCtorEq, decide_true, decide_false, Bool.and_true, Bool.and_false, Bool.true_and, Bool.false_and, Bool.or_true, Bool.or_false, Bool.true_or, Bool.false_or, not_true_eq_false, not_false_eq_true, Bool.not_true, Bool.not_false, eq_self, Nat.reduceEqDiff]; rfl) | contradiction | (exfalso; omega))) (by (subst hv5; subst hv4; subst hv2; first | rfl | (simp only [M_read, M_tick, K_tick, M_miss, c1, c3, if_true, if_false, reduceIte, Bool.false_eq_true, reduceCtorEq, decide_true, decide_false, Bool.and_true, Bool.and_false, Bool.true_and, Bool.false_and, Bool.or_true, Bool.or_false, Bool.true_or, Bool.false_or, not_true_eq_false, not_false_eq_true, Bool.not_true, Bool.not_false, eq_self, Nat.reduceEqDiff]; done) | (simp only [M_read, M_tick, K_tick, M_miss, c1, c3, if_true, if_false, reduceIte, Bool.false_eq_true, reduceCtorEq, decide_true, decide_false, Bool.and_true, Bool.and_false, Bool.true_and, Bool.false_and, Bool.or_true, Bool.or_false, Bool.true_or, Bool.false_or, not_true_eq_false, not_false_eq_true, Bool.not_true, Bool.not_false, eq_self, Nat.reduceEqDiff]; rfl) | contradiction | (exfalso; omega)))
        · replace c3 := (not_congr (nI_leI (a := 4) (b := 4) (by omega) (by omega))).mp c3
          first | (exfalso; omega) | exact absurd c3 (by decide) | exact absurd (by decide) c3
      | succ fu ih =>
        intro i  hin 
        refine v_iload hX dX3_readLine_52 rfl ?_
        refine v_iconst (x := (4 : Int32)) hX dX3_readLine_54 (by decide) ?_
        refine v_icmp_ge (tgt := 105) hX dX3_readLine_55 (by decide) (fun c6 => ?_) (fun c6 => ?_)
        · replace c6 := (nI_leI (a := 4) (b := i) (by omega) (by omega)).mp c6
          first | (exfalso; omega) | exact absurd c6 (by decide) | exact absurd (by decide) c6
        · replace c6 := (not_congr (nI_leI (a := 4) (b := i) (by omega) (by omega))).mp c6
          refine v_aload_n hX dX3_readLine_58 rfl ?_
          refine v_get (C := RX3) (T := TX3) (N := 6) (ci := 3) (v := .ref (a 2)) hX in_X3 0 rfl rfl 1 (by decide) fl_17 rfl rfl dX3_readLine_59 ?_
          refine v_iload hX dX3_readLine_62 rfl ?_
          refine v_aaldK (b := a (3 + 9 * (i))) hX 2 rfl (vp_in_nI (by omega : i < 4) (by omega)) (by simp only [nI_clamp (show i < 2 ^ 31 by omega)]) dX3_readLine_64 ?_
          refine v_astore (lv' := [.ref (a 0), .int (nI (r)), .int (nI (n).val), .ref (a (3 + 9 * (r))), .int (nI (((n).val) % 8)), .int (nI (i)), .ref (a (3 + 9 * (i)))]) hX dX3_readLine_65 (Nat.le_of_ble_eq_true rfl) (Nat.le_of_ble_eq_true rfl) rfl rfl ?_
          refine v_iload hX dX3_readLine_67 rfl ?_
          refine v_iload_n hX dX3_readLine_69 rfl ?_
          refine v_icmp_eq (tgt := 99) hX dX3_readLine_70 (by decide) (fun c7 => ?_) (fun c7 => ?_)
          · replace c7 := (nI_eq (a := i) (b := r) (by omega) (by omega)).mp c7
            have c7t := eq_true c7
            refine v_iinc (y := nI (i + 1)) (lv' := [.ref (a 0), .int (nI (r)), .int (nI (n).val), .ref (a (3 + 9 * (r))), .int (nI (((n).val) % 8)), .int (nI (i + 1)), .ref (a (3 + 9 * (i)))]) hX dX3_readLine_99 rfl (nI_inc _) (Nat.le_of_ble_eq_true rfl) (Nat.le_of_ble_eq_true rfl) rfl rfl ?_
            refine v_goto (tgt := 52) hX dX3_readLine_102 (by decide) ?_
            have e8 : it (M_readF r n) i (M_tick v r 1) = it (M_readF r n) (i + 1) (M_tick v r 1) := by subst hv2; first | rfl | (simp only [M_readF, M_reach, c1, c6, c7t, it, if_true, if_false, reduceIte, Bool.false_eq_true, Bool.and_true, Bool.and_false, Bool.true_and, Bool.false_and, not_true_eq_false, not_false_eq_true, eq_self, ne_eq, reduceCtorEq, decide_true, decide_false, Bool.not_true, Bool.not_false]; done) | (simp only [M_readF, M_reach, c1, c6, c7t, it, if_true, if_false, reduceIte, Bool.false_eq_true, Bool.and_true, Bool.and_false, Bool.true_and, Bool.false_and, not_true_eq_false, not_false_eq_true, eq_self, ne_eq, reduceCtorEq, decide_true, decide_false, Bool.not_true, Bool.not_false]; rfl)
            rw [e8]
            exact v_fewer 6 rfl (ih (i + 1)  (by omega) )
          · replace c7 := (not_congr (nI_eq (a := i) (b := r) (by omega) (by omega))).mp c7
            refine v_aload hX dX3_readLine_73 rfl ?_
            refine v_iload_n hX dX3_readLine_75 rfl ?_
            obtain ⟨v9, hv9⟩ : ∃ z_ : MV, z_ = M_setK (it (M_readF r n) i (M_tick v r 1)) i (K_reach ((it (M_readF r n) i (M_tick v r 1)).2.1 i) n) := ⟨_, rfl⟩
            refine v_callVi (r := bI (K_may ((it (M_readF r n) i (M_tick v r 1)).2.1 i) n)) (rest := []) (ws' := wM E a v9) hX (fun sz => c_X0_isReachedBySnoop l E (kA a i) sz ((it (M_readF r n) i (M_tick v r 1)).2.1 i) n) (cwV 1 hX.2.2.2.2.1 gX3_readLine_X0_isReachedBySnoop rfl rfl rfl (by decide +kernel) ⟨Nat.le_of_ble_eq_true rfl, Nat.le_of_ble_eq_true rfl⟩) (mPre E a (it (M_readF r n) i (M_tick v r 1)) i) (mPost E a (it (M_readF r n) i (M_tick v r 1)) i) (wM_cut E a (it (M_readF r n) i (M_tick v r 1)) (by omega : i < 4)) (by rw [hv9]; exact wM_put E a (it (M_readF r n) i (M_tick v r 1)) (by omega : i < 4) _) (wK_fst E (kA a i) _ _) (ci := 0) (q0 := 0) rfl rfl rfl rfl rfl (Nat.le_of_ble_eq_true rfl) dX3_readLine_76 ?_
            refine v_if_eq (tgt := 99) hX dX3_readLine_79 (by decide) (fun c10 => ?_) (fun c10 => ?_)
            · replace c10 := bI_0.mp c10
              refine v_iinc (y := nI (i + 1)) (lv' := [.ref (a 0), .int (nI (r)), .int (nI (n).val), .ref (a (3 + 9 * (r))), .int (nI (((n).val) % 8)), .int (nI (i + 1)), .ref (a (3 + 9 * (i)))]) hX dX3_readLine_99 rfl (nI_inc _) (Nat.le_of_ble_eq_true rfl) (Nat.le_of_ble_eq_true rfl) rfl rfl ?_
              refine v_goto (tgt := 52) hX dX3_readLine_102 (by decide) ?_
              have e11 : v9 = it (M_readF r n) (i + 1) (M_tick v r 1) := by subst hv9; subst hv2; first | rfl | (simp only [M_readF, M_reach, c1, c6, c7, c10, it, if_true, if_false, reduceIte, Bool.false_eq_true, Bool.and_true, Bool.and_false, Bool.true_and, Bool.false_and, not_true_eq_false, not_false_eq_true, eq_self, ne_eq, reduceCtorEq, decide_true, decide_false, Bool.not_true, Bool.not_false]; done) | (simp only [M_readF, M_reach, c1, c6, c7, c10, it, if_true, if_false, reduceIte, Bool.false_eq_true, Bool.and_true, Bool.and_false, Bool.true_and, Bool.false_and, not_true_eq_false, not_false_eq_true, eq_self, ne_eq, reduceCtorEq, decide_true, decide_false, Bool.not_true, Bool.not_false]; rfl)
              rw [e11]
              exact v_fewer 6 rfl (ih (i + 1)  (by omega) )
            · replace c10 := bI_n0.mp c10
              refine v_aload hX dX3_readLine_82 rfl ?_
              refine v_iload_n hX dX3_readLine_84 rfl ?_
              refine v_callVi (r := bI (K_holds (v9.2.1 i) n)) (rest := []) (ws' := wM E a v9) hX (fun sz => c_X0_holds l E (kA a i) sz (v9.2.1 i) n) (cwV 1 hX.2.2.2.2.1 gX3_readLine_X0_holds rfl rfl rfl (by decide +kernel) ⟨Nat.le_of_ble_eq_true rfl, Nat.le_of_ble_eq_true rfl⟩) (mPre E a v9 i) (mPost E a v9 i) (wM_cut E a v9 (by omega : i < 4)) (wM_cut E a v9 (by omega : i < 4)).symm (wK_fst E (kA a i) _ _) (ci := 0) (q0 := 0) rfl rfl rfl rfl rfl (Nat.le_of_ble_eq_true rfl) dX3_readLine_85 ?_
              refine v_if_eq (tgt := 99) hX dX3_readLine_88 (by decide) (fun c12 => ?_) (fun c12 => ?_)
              · replace c12 := bI_0.mp c12
                refine v_iinc (y := nI (i + 1)) (lv' := [.ref (a 0), .int (nI (r)), .int (nI (n).val), .ref (a (3 + 9 * (r))), .int (nI (((n).val) % 8)), .int (nI (i + 1)), .ref (a (3 + 9 * (i)))]) hX dX3_readLine_99 rfl (nI_inc _) (Nat.le_of_ble_eq_true rfl) (Nat.le_of_ble_eq_true rfl) rfl rfl ?_
                refine v_goto (tgt := 52) hX dX3_readLine_102 (by decide) ?_
                have e13 : v9 = it (M_readF r n) (i + 1) (M_tick v r 1) := by subst hv9; subst hv2; first | rfl | (simp only [M_readF, M_reach, c1, c6, c7, c10, c12, it, if_true, if_false, reduceIte, Bool.false_eq_true, Bool.and_true, Bool.and_false, Bool.true_and, Bool.false_and, not_true_eq_false, not_false_eq_true, eq_self, ne_eq, reduceCtorEq, decide_true, decide_false, Bool.not_true, Bool.not_false]; done) | (simp only [M_readF, M_reach, c1, c6, c7, c10, c12, it, if_true, if_false, reduceIte, Bool.false_eq_true, Bool.and_true, Bool.and_false, Bool.true_and, Bool.false_and, not_true_eq_false, not_false_eq_true, eq_self, ne_eq, reduceCtorEq, decide_true, decide_false, Bool.not_true, Bool.not_false]; rfl)
                rw [e13]
                exact v_fewer 6 rfl (ih (i + 1)  (by omega) )
              · replace c12 := bI_n0.mp c12
                refine v_aload_n hX dX3_readLine_91 rfl ?_
                refine v_aload hX dX3_readLine_92 rfl ?_
                refine v_iload hX dX3_readLine_94 rfl ?_
                obtain ⟨v14, hv14⟩ : ∃ z_ : MV, z_ = M_wb v9 i (((n).val) % 8) := ⟨_, rfl⟩
                refine v_callVv (rest := []) (ws' := wM E a v14) hX (fun sz => c_X3_writeBack l E a sz v9 i (by first | omega | exact Nat.le_of_ble_eq_true rfl | assumption | decide) (((n).val) % 8) (by first | omega | exact Nat.le_of_ble_eq_true rfl | assumption | decide)) (cwV 2 hX.2.2.2.2.1 gX3_readLine_X3_writeBack rfl rfl rfl (by decide +kernel) ⟨Nat.le_of_ble_eq_true rfl, Nat.le_of_ble_eq_true rfl⟩) ([]) ([]) ((List.append_nil _).symm) (by rw [hv14]; exact List.append_nil _) (wM_fst E a _ _) (ci := 3) (q0 := 0) rfl rfl rfl rfl rfl (Nat.le_of_ble_eq_true rfl) dX3_readLine_96 ?_
                refine v_iinc (y := nI (i + 1)) (lv' := [.ref (a 0), .int (nI (r)), .int (nI (n).val), .ref (a (3 + 9 * (r))), .int (nI (((n).val) % 8)), .int (nI (i + 1)), .ref (a (3 + 9 * (i)))]) hX dX3_readLine_99 rfl (nI_inc _) (Nat.le_of_ble_eq_true rfl) (Nat.le_of_ble_eq_true rfl) rfl rfl ?_
                refine v_goto (tgt := 52) hX dX3_readLine_102 (by decide) ?_
                have e15 : v14 = it (M_readF r n) (i + 1) (M_tick v r 1) := by subst hv14; subst hv9; subst hv2; first | rfl | (simp only [M_readF, M_reach, c1, c6, c7, c10, c12, it, if_true, if_false, reduceIte, Bool.false_eq_true, Bool.and_true, Bool.and_false, Bool.true_and, Bool.false_and, not_true_eq_false, not_false_eq_true, eq_self, ne_eq, reduceCtorEq, decide_true, decide_false, Bool.not_true, Bool.not_false]; done) | (simp only [M_readF, M_reach, c1, c6, c7, c10, c12, it, if_true, if_false, reduceIte, Bool.false_eq_true, Bool.and_true, Bool.and_false, Bool.true_and, Bool.false_and, not_true_eq_false, not_false_eq_true, eq_self, ne_eq, reduceCtorEq, decide_true, decide_false, Bool.not_true, Bool.not_false]; rfl)
                rw [e15]
                exact v_fewer 6 rfl (ih (i + 1)  (by omega) )
    subst hv2
    exact loop_52 4 0  (by omega) 
  · replace c1 := bI_n0.mp c1
    refine v_aload_n hX dX3_readLine_21 rfl ?_
    refine v_get (C := RX0) (T := TX0) (N := 5) (ci := 0) (v := .ref ((kA a r) 4)) hX in_X0 _ (mAt E a v (by omega : r < 4) 0 rfl) rfl 3 (by decide) fl_37 rfl rfl dX3_readLine_22 ?_
    refine v_iconst (x := (0 : Int32)) hX dX3_readLine_25 (by decide) ?_
    refine v_dup2 hX dX3_readLine_26 rfl rfl ?_
    refine v_iald (z := (v.2.1 r).2.2.2.1 (0)) hX _ (mAt E a v (by omega : r < 4) 4 rfl) (vp_in_nI (by omega : 0 < 6) (by omega)) rfl dX3_readLine_27 ?_
    refine v_iconst (x := (1 : Int32)) hX dX3_readLine_28 (by decide) ?_
    refine v_iadd (z := ((v.2.1 r).2.2.2.1 (0) + (1 : Int32))) hX dX3_readLine_29 (rfl) ?_
    obtain ⟨v16, hv16⟩ : ∃ z_ : MV, z_ = M_setK v r (K_setT (v.2.1 r) (0) (((v.2.1 r).2.2.2.1 (0) + (1 : Int32)))) := ⟨_, rfl⟩
    refine v_iast (ws' := wM E a v16) hX _ (mAt E a v (by omega : r < 4) 4 rfl) (vp_in_nI (by omega : 0 < 6) (by omega)) (by rw [hv16]; exact mSt E a v (by omega : r < 4) 4 (by decide) (sK_T E (kA a r) (v.2.1 r) (k := 0) (by omega) _)) dX3_readLine_30 ?_
    refine v_aload_n hX dX3_readLine_31 rfl ?_
    refine v_get (C := RX0) (T := TX0) (N := 5) (ci := 0) (v := .ref ((kA a r) 2)) hX in_X0 _ (mAt E a v16 (by omega : r < 4) 0 rfl) rfl 1 (by decide) fl_40 rfl rfl dX3_readLine_32 ?_
    refine v_iload hX dX3_readLine_35 rfl ?_
    refine v_iald (z := (v16.2.1 r).2.1 (((n).val) % 8)) hX _ (mAt E a v16 (by omega : r < 4) 2 rfl) (vp_in_nI (by omega : ((n).val) % 8 < 8) (by omega)) (by simp only [nI_clamp (show ((n).val) % 8 < 2 ^ 31 by omega)]) dX3_readLine_37 ?_
    exact v_iret hX hr hsz dX3_readLine_38 rfl rfl (by (subst hv16; first | rfl | (simp only [M_read, M_tick, K_tick, M_miss, c1, if_true, if_false, reduceIte, Bool.false_eq_true, reduceCtorEq, decide_true, decide_false, Bool.and_true, Bool.and_false, Bool.true_and, Bool.false_and, Bool.or_true, Bool.or_false, Bool.true_or, Bool.false_or, not_true_eq_false, not_false_eq_true, Bool.not_true, Bool.not_false, eq_self, Nat.reduceEqDiff]; done) | (simp only [M_read, M_tick, K_tick, M_miss, c1, if_true, if_false, reduceIte, Bool.false_eq_true, reduceCtorEq, decide_true, decide_false, Bool.and_true, Bool.and_false, Bool.true_and, Bool.false_and, Bool.or_true, Bool.or_false, Bool.true_or, Bool.false_or, not_true_eq_false, not_false_eq_true, Bool.not_true, Bool.not_false, eq_self, Nat.reduceEqDiff]; rfl) | contradiction | (exfalso; omega))) (by (subst hv16; first | rfl | (simp only [M_read, M_tick, K_tick, M_miss, c1, if_true, if_false, reduceIte, Bool.false_eq_true, reduceCtorEq, decide_true, decide_false, Bool.and_true, Bool.and_false, Bool.true_and, Bool.false_and, Bool.or_true, Bool.or_false, Bool.true_or, Bool.false_or, not_true_eq_false, not_false_eq_true, Bool.not_true, Bool.not_false, eq_self, Nat.reduceEqDiff]; done) | (simp only [M_read, M_tick, K_tick, M_miss, c1, if_true, if_false, reduceIte, Bool.false_eq_true, reduceCtorEq, decide_true, decide_false, Bool.and_true, Bool.and_false, Bool.true_and, Bool.false_and, Bool.or_true, Bool.or_false, Bool.true_or, Bool.false_or, not_true_eq_false, not_false_eq_true, Bool.not_true, Bool.not_false, eq_self, Nat.reduceEqDiff]; rfl) | contradiction | (exfalso; omega)))
set_option maxHeartbeats 4000000 in
set_option maxRecDepth 100000 in
theorem c_X3_takeFromOthers (l : Launch) (E : ET) (a : Nat → Nat) (sz : Nat) (v : MV) (r : Nat) (hro : r < 4) (n : Fin 256) : Met l yX3_takeFromOthers wsX3_takeFromOthers ({ frames := 3, cells := 0, slots := 0, locals := 63 }) (mPc E [.ref (a 0), .int (nI (r)), .int (nI (n).val)] sz (wM E a v)) (mQi E ((M_take v r n).2) (wM E a v) (wM E a ((M_take v r n).1)) sz) 0 0 (va_A (wM E a v) sz) := by
  refine v_start (cc := cX3_takeFromOthers) (maxL := 6) (ret := (some .int)) (by decide) rfl (Nat.le_of_ble_eq_true rfl) rfl ?_
  intro p e s m args below meth c hsz hr hX
  have hX : Xc p s m args meth c E 6 (va_A (wM E a v) sz) cX3_takeFromOthers RX3 wsX3_takeFromOthers := hX
  have in_X3 : ∀ w ∈ u_ws RX3 TX3 6, w ∈ wsX3_takeFromOthers := by decide +kernel
  have fl_17 : Cond.fieldLink RX3 17 RX3 "cores" "[LSnoopFilter$Core;" ∈ wsX3_takeFromOthers := by decide +kernel
  have hlt_n := n.isLt
  refine v_iconst (x := (0 : Int32)) hX dX3_takeFromOthers_0 (by decide) ?_
  refine v_istore_n (lv' := [.ref (a 0), .int (nI (r)), .int (nI (n).val), .int ((0 : Int32))]) hX dX3_takeFromOthers_1 (Nat.le_of_ble_eq_true rfl) (Nat.le_of_ble_eq_true rfl) rfl rfl ?_
  refine v_iconst (x := (0 : Int32)) hX dX3_takeFromOthers_2 (by decide) ?_
  refine v_istore (lv' := [.ref (a 0), .int (nI (r)), .int (nI (n).val), .int ((0 : Int32)), .int ((0 : Int32))]) hX dX3_takeFromOthers_3 (Nat.le_of_ble_eq_true rfl) (Nat.le_of_ble_eq_true rfl) rfl rfl ?_
  have loop_5 : ∀ (fu i : Nat), i + fu = 4 → V p l e ({ frames := 3, cells := 0, slots := 0, locals := 63 } : Room) s m args below meth c E 6 (va_A (wM E a v) sz) (MQ below (mQi E ((M_take v r n).2) (wM E a v) (wM E a ((M_take v r n).1)) sz) args s 0 0 (va_A (wM E a v) sz)) (wM E a ((it (M_takeF r n) i (v, 0)).1)) [.ref (a 0), .int (nI (r)), .int (nI (n).val), .int ((it (M_takeF r n) i (v, 0)).2), .int (nI (i))] 5 [] := by
    intro fu
    induction fu with
    | zero =>
      intro i  hin 
      have hi0 : i = 4 := by omega
      subst hi0
      refine v_iload hX dX3_takeFromOthers_5 rfl ?_
      refine v_iconst (x := (4 : Int32)) hX dX3_takeFromOthers_7 (by decide) ?_
      refine v_icmp_ge (tgt := 59) hX dX3_takeFromOthers_8 (by decide) (fun c1 => ?_) (fun c1 => ?_)
      · replace c1 := (nI_leI (a := 4) (b := 4) (by omega) (by omega)).mp c1
        refine v_iload_n hX dX3_takeFromOthers_59 rfl ?_
        exact v_iret hX hr hsz dX3_takeFromOthers_60 rfl rfl (by (first | rfl | (simp only [M_take, c1, if_true, if_false, reduceIte, Bool.false_eq_true, reduceCtorEq, decide_true, decide_false, Bool.and_true, Bool.and_false, Bool.true_and, Bool.false_and, Bool.or_true, Bool.or_false, Bool.true_or, Bool.false_or, not_true_eq_false, not_false_eq_true, Bool.not_true, Bool.not_false, eq_self, Nat.reduceEqDiff]; done) | (simp only [M_take, c1, if_true, if_false, reduceIte, Bool.false_eq_true, reduceCtorEq, decide_true, decide_false, Bool.and_true, Bool.and_false, Bool.true_and, Bool.false_and, Bool.or_true, Bool.or_false, Bool.true_or, Bool.false_or, not_true_eq_false, not_false_eq_true, Bool.not_true, Bool.not_false, eq_self, Nat.reduceEqDiff]; rfl) | contradiction | (exfalso; omega))) (by (first | rfl | (simp only [M_take, c1, if_true, if_false, reduceIte, Bool.false_eq_true, reduceCtorEq, decide_true, decide_false, Bool.and_true, Bool.and_false, Bool.true_and, Bool.false_and, Bool.or_true, Bool.or_false, Bool.true_or, Bool.false_or, not_true_eq_false, not_false_eq_true, Bool.not_true, Bool.not_false, eq_self, Nat.reduceEqDiff]; done) | (simp only [M_take, c1, if_true, if_false, reduceIte, Bool.false_eq_true, reduceCtorEq, decide_true, decide_false, Bool.and_true, Bool.and_false, Bool.true_and, Bool.false_and, Bool.or_true, Bool.or_false, Bool.true_or, Bool.false_or, not_true_eq_false, not_false_eq_true, Bool.not_true, Bool.not_false, eq_self, Nat.reduceEqDiff]; rfl) | contradiction | (exfalso; omega)))
      · replace c1 := (not_congr (nI_leI (a := 4) (b := 4) (by omega) (by omega))).mp c1
        first | (exfalso; omega) | exact absurd c1 (by decide) | exact absurd (by decide) c1
    | succ fu ih =>
      intro i  hin 
      refine v_iload hX dX3_takeFromOthers_5 rfl ?_
      refine v_iconst (x := (4 : Int32)) hX dX3_takeFromOthers_7 (by decide) ?_
      refine v_icmp_ge (tgt := 59) hX dX3_takeFromOthers_8 (by decide) (fun c2 => ?_) (fun c2 => ?_)
      · replace c2 := (nI_leI (a := 4) (b := i) (by omega) (by omega)).mp c2
        first | (exfalso; omega) | exact absurd c2 (by decide) | exact absurd (by decide) c2
      · replace c2 := (not_congr (nI_leI (a := 4) (b := i) (by omega) (by omega))).mp c2
        refine v_aload_n hX dX3_takeFromOthers_11 rfl ?_
        refine v_get (C := RX3) (T := TX3) (N := 6) (ci := 3) (v := .ref (a 2)) hX in_X3 0 rfl rfl 1 (by decide) fl_17 rfl rfl dX3_takeFromOthers_12 ?_
        refine v_iload hX dX3_takeFromOthers_15 rfl ?_
        refine v_aaldK (b := a (3 + 9 * (i))) hX 2 rfl (vp_in_nI (by omega : i < 4) (by omega)) (by simp only [nI_clamp (show i < 2 ^ 31 by omega)]) dX3_takeFromOthers_17 ?_
        refine v_astore (lv' := [.ref (a 0), .int (nI (r)), .int (nI (n).val), .int ((it (M_takeF r n) i (v, 0)).2), .int (nI (i)), .ref (a (3 + 9 * (i)))]) hX dX3_takeFromOthers_18 (Nat.le_of_ble_eq_true rfl) (Nat.le_of_ble_eq_true rfl) rfl rfl ?_
        refine v_iload hX dX3_takeFromOthers_20 rfl ?_
        refine v_iload_n hX dX3_takeFromOthers_22 rfl ?_
        refine v_icmp_eq (tgt := 53) hX dX3_takeFromOthers_23 (by decide) (fun c3 => ?_) (fun c3 => ?_)
        · replace c3 := (nI_eq (a := i) (b := r) (by omega) (by omega)).mp c3
          have c3t := eq_true c3
          refine v_iinc (y := nI (i + 1)) (lv' := [.ref (a 0), .int (nI (r)), .int (nI (n).val), .int ((it (M_takeF r n) i (v, 0)).2), .int (nI (i + 1)), .ref (a (3 + 9 * (i)))]) hX dX3_takeFromOthers_53 rfl (nI_inc _) (Nat.le_of_ble_eq_true rfl) (Nat.le_of_ble_eq_true rfl) rfl rfl ?_
          refine v_goto (tgt := 5) hX dX3_takeFromOthers_56 (by decide) ?_
          have e4 : (it (M_takeF r n) i (v, 0)).2 = (it (M_takeF r n) (i + 1) (v, 0)).2 := by first | rfl | (simp only [M_takeF, M_reach, M_rel, c2, c3t, it, if_true, if_false, reduceIte, Bool.false_eq_true, Bool.and_true, Bool.and_false, Bool.true_and, Bool.false_and, not_true_eq_false, not_false_eq_true, eq_self, ne_eq, reduceCtorEq, decide_true, decide_false, Bool.not_true, Bool.not_false]; done) | (simp only [M_takeF, M_reach, M_rel, c2, c3t, it, if_true, if_false, reduceIte, Bool.false_eq_true, Bool.and_true, Bool.and_false, Bool.true_and, Bool.false_and, not_true_eq_false, not_false_eq_true, eq_self, ne_eq, reduceCtorEq, decide_true, decide_false, Bool.not_true, Bool.not_false]; rfl)
          rw [e4]
          have e5 : (it (M_takeF r n) i (v, 0)).1 = (it (M_takeF r n) (i + 1) (v, 0)).1 := by first | rfl | (simp only [M_takeF, M_reach, M_rel, c2, c3t, it, if_true, if_false, reduceIte, Bool.false_eq_true, Bool.and_true, Bool.and_false, Bool.true_and, Bool.false_and, not_true_eq_false, not_false_eq_true, eq_self, ne_eq, reduceCtorEq, decide_true, decide_false, Bool.not_true, Bool.not_false]; done) | (simp only [M_takeF, M_reach, M_rel, c2, c3t, it, if_true, if_false, reduceIte, Bool.false_eq_true, Bool.and_true, Bool.and_false, Bool.true_and, Bool.false_and, not_true_eq_false, not_false_eq_true, eq_self, ne_eq, reduceCtorEq, decide_true, decide_false, Bool.not_true, Bool.not_false]; rfl)
          rw [e5]
          exact v_fewer 5 rfl (ih (i + 1)  (by omega) )
        · replace c3 := (not_congr (nI_eq (a := i) (b := r) (by omega) (by omega))).mp c3
          refine v_aload hX dX3_takeFromOthers_26 rfl ?_
          refine v_iload_n hX dX3_takeFromOthers_28 rfl ?_
          obtain ⟨v6, hv6⟩ : ∃ z_ : MV, z_ = M_setK ((it (M_takeF r n) i (v, 0)).1) i (K_reach (((it (M_takeF r n) i (v, 0)).1).2.1 i) n) := ⟨_, rfl⟩
          refine v_callVi (r := bI (K_may (((it (M_takeF r n) i (v, 0)).1).2.1 i) n)) (rest := []) (ws' := wM E a v6) hX (fun sz => c_X0_isReachedBySnoop l E (kA a i) sz (((it (M_takeF r n) i (v, 0)).1).2.1 i) n) (cwV 1 hX.2.2.2.2.1 gX3_takeFromOthers_X0_isReachedBySnoop rfl rfl rfl (by decide +kernel) ⟨Nat.le_of_ble_eq_true rfl, Nat.le_of_ble_eq_true rfl⟩) (mPre E a ((it (M_takeF r n) i (v, 0)).1) i) (mPost E a ((it (M_takeF r n) i (v, 0)).1) i) (wM_cut E a ((it (M_takeF r n) i (v, 0)).1) (by omega : i < 4)) (by rw [hv6]; exact wM_put E a ((it (M_takeF r n) i (v, 0)).1) (by omega : i < 4) _) (wK_fst E (kA a i) _ _) (ci := 0) (q0 := 0) rfl rfl rfl rfl rfl (Nat.le_of_ble_eq_true rfl) dX3_takeFromOthers_29 ?_
          refine v_if_eq (tgt := 53) hX dX3_takeFromOthers_32 (by decide) (fun c7 => ?_) (fun c7 => ?_)
          · replace c7 := bI_0.mp c7
            refine v_iinc (y := nI (i + 1)) (lv' := [.ref (a 0), .int (nI (r)), .int (nI (n).val), .int ((it (M_takeF r n) i (v, 0)).2), .int (nI (i + 1)), .ref (a (3 + 9 * (i)))]) hX dX3_takeFromOthers_53 rfl (nI_inc _) (Nat.le_of_ble_eq_true rfl) (Nat.le_of_ble_eq_true rfl) rfl rfl ?_
            refine v_goto (tgt := 5) hX dX3_takeFromOthers_56 (by decide) ?_
            have e8 : (it (M_takeF r n) i (v, 0)).2 = (it (M_takeF r n) (i + 1) (v, 0)).2 := by subst hv6; first | rfl | (simp only [M_takeF, M_reach, M_rel, c2, c3, c7, it, if_true, if_false, reduceIte, Bool.false_eq_true, Bool.and_true, Bool.and_false, Bool.true_and, Bool.false_and, not_true_eq_false, not_false_eq_true, eq_self, ne_eq, reduceCtorEq, decide_true, decide_false, Bool.not_true, Bool.not_false]; done) | (simp only [M_takeF, M_reach, M_rel, c2, c3, c7, it, if_true, if_false, reduceIte, Bool.false_eq_true, Bool.and_true, Bool.and_false, Bool.true_and, Bool.false_and, not_true_eq_false, not_false_eq_true, eq_self, ne_eq, reduceCtorEq, decide_true, decide_false, Bool.not_true, Bool.not_false]; rfl)
            rw [e8]
            have e9 : v6 = (it (M_takeF r n) (i + 1) (v, 0)).1 := by subst hv6; first | rfl | (simp only [M_takeF, M_reach, M_rel, c2, c3, c7, it, if_true, if_false, reduceIte, Bool.false_eq_true, Bool.and_true, Bool.and_false, Bool.true_and, Bool.false_and, not_true_eq_false, not_false_eq_true, eq_self, ne_eq, reduceCtorEq, decide_true, decide_false, Bool.not_true, Bool.not_false]; done) | (simp only [M_takeF, M_reach, M_rel, c2, c3, c7, it, if_true, if_false, reduceIte, Bool.false_eq_true, Bool.and_true, Bool.and_false, Bool.true_and, Bool.false_and, not_true_eq_false, not_false_eq_true, eq_self, ne_eq, reduceCtorEq, decide_true, decide_false, Bool.not_true, Bool.not_false]; rfl)
            rw [e9]
            exact v_fewer 5 rfl (ih (i + 1)  (by omega) )
          · replace c7 := bI_n0.mp c7
            refine v_iinc (y := ((it (M_takeF r n) i (v, 0)).2 + 1)) (lv' := [.ref (a 0), .int (nI (r)), .int (nI (n).val), .int (((it (M_takeF r n) i (v, 0)).2 + 1)), .int (nI (i)), .ref (a (3 + 9 * (i)))]) hX dX3_takeFromOthers_35 rfl (rfl) (Nat.le_of_ble_eq_true rfl) (Nat.le_of_ble_eq_true rfl) rfl rfl ?_
            refine v_aload hX dX3_takeFromOthers_38 rfl ?_
            refine v_iload_n hX dX3_takeFromOthers_40 rfl ?_
            refine v_callVi (r := bI (K_holds (v6.2.1 i) n)) (rest := []) (ws' := wM E a v6) hX (fun sz => c_X0_holds l E (kA a i) sz (v6.2.1 i) n) (cwV 1 hX.2.2.2.2.1 gX3_takeFromOthers_X0_holds rfl rfl rfl (by decide +kernel) ⟨Nat.le_of_ble_eq_true rfl, Nat.le_of_ble_eq_true rfl⟩) (mPre E a v6 i) (mPost E a v6 i) (wM_cut E a v6 (by omega : i < 4)) (wM_cut E a v6 (by omega : i < 4)).symm (wK_fst E (kA a i) _ _) (ci := 0) (q0 := 0) rfl rfl rfl rfl rfl (Nat.le_of_ble_eq_true rfl) dX3_takeFromOthers_41 ?_
            refine v_if_eq (tgt := 53) hX dX3_takeFromOthers_44 (by decide) (fun c10 => ?_) (fun c10 => ?_)
            · replace c10 := bI_0.mp c10
              refine v_iinc (y := nI (i + 1)) (lv' := [.ref (a 0), .int (nI (r)), .int (nI (n).val), .int (((it (M_takeF r n) i (v, 0)).2 + 1)), .int (nI (i + 1)), .ref (a (3 + 9 * (i)))]) hX dX3_takeFromOthers_53 rfl (nI_inc _) (Nat.le_of_ble_eq_true rfl) (Nat.le_of_ble_eq_true rfl) rfl rfl ?_
              refine v_goto (tgt := 5) hX dX3_takeFromOthers_56 (by decide) ?_
              have e11 : ((it (M_takeF r n) i (v, 0)).2 + 1) = (it (M_takeF r n) (i + 1) (v, 0)).2 := by subst hv6; first | rfl | (simp only [M_takeF, M_reach, M_rel, c2, c3, c7, c10, it, if_true, if_false, reduceIte, Bool.false_eq_true, Bool.and_true, Bool.and_false, Bool.true_and, Bool.false_and, not_true_eq_false, not_false_eq_true, eq_self, ne_eq, reduceCtorEq, decide_true, decide_false, Bool.not_true, Bool.not_false]; done) | (simp only [M_takeF, M_reach, M_rel, c2, c3, c7, c10, it, if_true, if_false, reduceIte, Bool.false_eq_true, Bool.and_true, Bool.and_false, Bool.true_and, Bool.false_and, not_true_eq_false, not_false_eq_true, eq_self, ne_eq, reduceCtorEq, decide_true, decide_false, Bool.not_true, Bool.not_false]; rfl)
              rw [e11]
              have e12 : v6 = (it (M_takeF r n) (i + 1) (v, 0)).1 := by subst hv6; first | rfl | (simp only [M_takeF, M_reach, M_rel, c2, c3, c7, c10, it, if_true, if_false, reduceIte, Bool.false_eq_true, Bool.and_true, Bool.and_false, Bool.true_and, Bool.false_and, not_true_eq_false, not_false_eq_true, eq_self, ne_eq, reduceCtorEq, decide_true, decide_false, Bool.not_true, Bool.not_false]; done) | (simp only [M_takeF, M_reach, M_rel, c2, c3, c7, c10, it, if_true, if_false, reduceIte, Bool.false_eq_true, Bool.and_true, Bool.and_false, Bool.true_and, Bool.false_and, not_true_eq_false, not_false_eq_true, eq_self, ne_eq, reduceCtorEq, decide_true, decide_false, Bool.not_true, Bool.not_false]; rfl)
              rw [e12]
              exact v_fewer 5 rfl (ih (i + 1)  (by omega) )
            · replace c10 := bI_n0.mp c10
              refine v_aload hX dX3_takeFromOthers_47 rfl ?_
              refine v_iload_n hX dX3_takeFromOthers_49 rfl ?_
              obtain ⟨v13, hv13⟩ : ∃ z_ : MV, z_ = M_setK v6 i (K_release (v6.2.1 i) n) := ⟨_, rfl⟩
              refine v_callVv (rest := []) (ws' := wM E a v13) hX (fun sz => c_X0_release l E (kA a i) sz (v6.2.1 i) n) (cwV 1 hX.2.2.2.2.1 gX3_takeFromOthers_X0_release rfl rfl rfl (by decide +kernel) ⟨Nat.le_of_ble_eq_true rfl, Nat.le_of_ble_eq_true rfl⟩) (mPre E a v6 i) (mPost E a v6 i) (wM_cut E a v6 (by omega : i < 4)) (by rw [hv13]; exact wM_put E a v6 (by omega : i < 4) _) (wK_fst E (kA a i) _ _) (ci := 0) (q0 := 0) rfl rfl rfl rfl rfl (Nat.le_of_ble_eq_true rfl) dX3_takeFromOthers_50 ?_
              refine v_iinc (y := nI (i + 1)) (lv' := [.ref (a 0), .int (nI (r)), .int (nI (n).val), .int (((it (M_takeF r n) i (v, 0)).2 + 1)), .int (nI (i + 1)), .ref (a (3 + 9 * (i)))]) hX dX3_takeFromOthers_53 rfl (nI_inc _) (Nat.le_of_ble_eq_true rfl) (Nat.le_of_ble_eq_true rfl) rfl rfl ?_
              refine v_goto (tgt := 5) hX dX3_takeFromOthers_56 (by decide) ?_
              have e14 : ((it (M_takeF r n) i (v, 0)).2 + 1) = (it (M_takeF r n) (i + 1) (v, 0)).2 := by subst hv13; subst hv6; first | rfl | (simp only [M_takeF, M_reach, M_rel, c2, c3, c7, c10, it, if_true, if_false, reduceIte, Bool.false_eq_true, Bool.and_true, Bool.and_false, Bool.true_and, Bool.false_and, not_true_eq_false, not_false_eq_true, eq_self, ne_eq, reduceCtorEq, decide_true, decide_false, Bool.not_true, Bool.not_false]; done) | (simp only [M_takeF, M_reach, M_rel, c2, c3, c7, c10, it, if_true, if_false, reduceIte, Bool.false_eq_true, Bool.and_true, Bool.and_false, Bool.true_and, Bool.false_and, not_true_eq_false, not_false_eq_true, eq_self, ne_eq, reduceCtorEq, decide_true, decide_false, Bool.not_true, Bool.not_false]; rfl)
              rw [e14]
              have e15 : v13 = (it (M_takeF r n) (i + 1) (v, 0)).1 := by subst hv13; subst hv6; first | rfl | (simp only [M_takeF, M_reach, M_rel, c2, c3, c7, c10, it, if_true, if_false, reduceIte, Bool.false_eq_true, Bool.and_true, Bool.and_false, Bool.true_and, Bool.false_and, not_true_eq_false, not_false_eq_true, eq_self, ne_eq, reduceCtorEq, decide_true, decide_false, Bool.not_true, Bool.not_false]; done) | (simp only [M_takeF, M_reach, M_rel, c2, c3, c7, c10, it, if_true, if_false, reduceIte, Bool.false_eq_true, Bool.and_true, Bool.and_false, Bool.true_and, Bool.false_and, not_true_eq_false, not_false_eq_true, eq_self, ne_eq, reduceCtorEq, decide_true, decide_false, Bool.not_true, Bool.not_false]; rfl)
              rw [e15]
              exact v_fewer 5 rfl (ih (i + 1)  (by omega) )
  exact loop_5 4 0  (by omega) 
set_option maxHeartbeats 4000000 in
set_option maxRecDepth 100000 in
theorem c_X3_writeLine (l : Launch) (E : ET) (a : Nat → Nat) (sz : Nat) (v : MV) (r : Nat) (hro : r < 4) (n : Fin 256) (x : Int32) : Met l yX3_writeLine wsX3_writeLine ({ frames := 4, cells := 0, slots := 0, locals := 88 }) (mPc E [.ref (a 0), .int (nI (r)), .int (nI (n).val), .int (x)] sz (wM E a v)) (mQi E ((M_write v r n x).2) (wM E a v) (wM E a ((M_write v r n x).1)) sz) 0 0 (va_A (wM E a v) sz) := by
  refine v_start (cc := cX3_writeLine) (maxL := 6) (ret := (some .int)) (by decide) rfl (Nat.le_of_ble_eq_true rfl) rfl ?_
  intro p e s m args below meth c hsz hr hX
  have hX : Xc p s m args meth c E 6 (va_A (wM E a v) sz) cX3_writeLine RX3 wsX3_writeLine := hX
  have in_X3 : ∀ w ∈ u_ws RX3 TX3 6, w ∈ wsX3_writeLine := by decide +kernel
  have fl_17 : Cond.fieldLink RX3 17 RX3 "cores" "[LSnoopFilter$Core;" ∈ wsX3_writeLine := by decide +kernel
  have fl_57 : Cond.fieldLink RX3 57 RX3 "writings" "I" ∈ wsX3_writeLine := by decide +kernel
  have hlt_n := n.isLt
  refine v_aload_n hX dX3_writeLine_0 rfl ?_
  refine v_get (C := RX3) (T := TX3) (N := 6) (ci := 3) (v := .ref (a 2)) hX in_X3 0 rfl rfl 1 (by decide) fl_17 rfl rfl dX3_writeLine_1 ?_
  refine v_iload_n hX dX3_writeLine_4 rfl ?_
  refine v_aaldK (b := a (3 + 9 * (r))) hX 2 rfl (vp_in_nI (by omega : r < 4) (by omega)) (by simp only [nI_clamp (show r < 2 ^ 31 by omega)]) dX3_writeLine_5 ?_
  refine v_astore (lv' := [.ref (a 0), .int (nI (r)), .int (nI (n).val), .int (x), .ref (a (3 + 9 * (r)))]) hX dX3_writeLine_6 (Nat.le_of_ble_eq_true rfl) (Nat.le_of_ble_eq_true rfl) rfl rfl ?_
  refine v_aload_n hX dX3_writeLine_8 rfl ?_
  refine v_dup hX dX3_writeLine_9 rfl ?_
  refine v_get (C := RX3) (T := TX3) (N := 6) (ci := 3) (v := .int (v.2.2.2.2.2)) hX in_X3 0 rfl rfl 5 (by decide) fl_57 rfl rfl dX3_writeLine_10 ?_
  refine v_iconst (x := (1 : Int32)) hX dX3_writeLine_13 (by decide) ?_
  refine v_iadd (z := (v.2.2.2.2.2 + (1 : Int32))) hX dX3_writeLine_14 (rfl) ?_
  obtain ⟨v1, hv1⟩ : ∃ z_ : MV, z_ = M_setWr v ((v.2.2.2.2.2 + (1 : Int32))) := ⟨_, rfl⟩
  refine v_put (C := RX3) (T := TX3) (N := 6) (ci := 3) (v := .int ((v.2.2.2.2.2 + (1 : Int32)))) (ty := .int) (ws' := wM E a v1) hX in_X3 tyX3 tyX3_ok nmX3 0 rfl rfl 5 (by decide) fl_57 rfl rfl (by decide +kernel) (rfl) (rfl) (Nat.le_of_ble_eq_true rfl) dX3_writeLine_15 (by rw [hv1]; exact rfl) ?_
  refine v_aload hX dX3_writeLine_18 rfl ?_
  refine v_iload_n hX dX3_writeLine_20 rfl ?_
  refine v_callVi (r := bI (K_hd (v1.2.1 r) n)) (rest := []) (ws' := wM E a v1) hX (fun sz => c_X0_holdsDirty l E (kA a r) sz (v1.2.1 r) n) (cwV 1 hX.2.2.2.2.1 gX3_writeLine_X0_holdsDirty rfl rfl rfl (by decide +kernel) ⟨Nat.le_of_ble_eq_true rfl, Nat.le_of_ble_eq_true rfl⟩) (mPre E a v1 r) (mPost E a v1 r) (wM_cut E a v1 (by omega : r < 4)) (wM_cut E a v1 (by omega : r < 4)).symm (wK_fst E (kA a r) _ _) (ci := 0) (q0 := 0) rfl rfl rfl rfl rfl (Nat.le_of_ble_eq_true rfl) dX3_writeLine_21 ?_
  refine v_if_eq (tgt := 31) hX dX3_writeLine_24 (by decide) (fun c2 => ?_) (fun c2 => ?_)
  · replace c2 := bI_0.mp c2
    refine v_aload_n hX dX3_writeLine_31 rfl ?_
    refine v_iload_n hX dX3_writeLine_32 rfl ?_
    refine v_iload_n hX dX3_writeLine_33 rfl ?_
    obtain ⟨v3, hv3⟩ : ∃ z_ : MV, z_ = (M_take v1 r n).1 := ⟨_, rfl⟩
    refine v_callVi (r := (M_take v1 r n).2) (rest := []) (ws' := wM E a v3) hX (fun sz => c_X3_takeFromOthers l E a sz v1 r (by first | omega | exact Nat.le_of_ble_eq_true rfl | assumption | decide) n) (cwV 2 hX.2.2.2.2.1 gX3_writeLine_X3_takeFromOthers rfl rfl rfl (by decide +kernel) ⟨Nat.le_of_ble_eq_true rfl, Nat.le_of_ble_eq_true rfl⟩) ([]) ([]) ((List.append_nil _).symm) (by rw [hv3]; exact List.append_nil _) (wM_fst E a _ _) (ci := 3) (q0 := 0) rfl rfl rfl rfl rfl (Nat.le_of_ble_eq_true rfl) dX3_writeLine_34 ?_
    refine v_istore (lv' := [.ref (a 0), .int (nI (r)), .int (nI (n).val), .int (x), .ref (a (3 + 9 * (r))), .int ((M_take v1 r n).2)]) hX dX3_writeLine_37 (Nat.le_of_ble_eq_true rfl) (Nat.le_of_ble_eq_true rfl) rfl rfl ?_
    refine v_aload hX dX3_writeLine_39 rfl ?_
    refine v_iload_n hX dX3_writeLine_41 rfl ?_
    refine v_callVi (r := bI (K_holds (v3.2.1 r) n)) (rest := []) (ws' := wM E a v3) hX (fun sz => c_X0_holds l E (kA a r) sz (v3.2.1 r) n) (cwV 1 hX.2.2.2.2.1 gX3_writeLine_X0_holds rfl rfl rfl (by decide +kernel) ⟨Nat.le_of_ble_eq_true rfl, Nat.le_of_ble_eq_true rfl⟩) (mPre E a v3 r) (mPost E a v3 r) (wM_cut E a v3 (by omega : r < 4)) (wM_cut E a v3 (by omega : r < 4)).symm (wK_fst E (kA a r) _ _) (ci := 0) (q0 := 0) rfl rfl rfl rfl rfl (Nat.le_of_ble_eq_true rfl) dX3_writeLine_42 ?_
    refine v_if_eq (tgt := 59) hX dX3_writeLine_45 (by decide) (fun c4 => ?_) (fun c4 => ?_)
    · replace c4 := bI_0.mp c4
      refine v_aload_n hX dX3_writeLine_59 rfl ?_
      refine v_aload hX dX3_writeLine_60 rfl ?_
      refine v_iload_n hX dX3_writeLine_62 rfl ?_
      refine v_callSi (r := nI (((n).val) % 8)) (rest := [.ref (a (3 + 9 * (r))), .ref (a 0)]) (ws' := wM E a v3) hX (fun sz => c_X0_placeOf l E sz ((n).val) (by first | omega | exact Nat.le_of_ble_eq_true rfl | assumption | decide)) (va_cwS 1 hX.2.2.2.2.1 gX3_writeLine_X0_placeOf rfl rfl rfl (by decide +kernel) ⟨Nat.le_of_ble_eq_true rfl, Nat.le_of_ble_eq_true rfl⟩) ([]) (wM E a v3) (rfl) rfl (rfl) rfl rfl (Nat.le_of_ble_eq_true rfl) dX3_writeLine_63 ?_
      obtain ⟨v5, hv5⟩ : ∃ z_ : MV, z_ = M_vac v3 r (((n).val) % 8) := ⟨_, rfl⟩
      refine v_callVv (rest := []) (ws' := wM E a v5) hX (fun sz => c_X3_vacate l E a sz v3 r (by first | omega | exact Nat.le_of_ble_eq_true rfl | assumption | decide) (((n).val) % 8) (by first | omega | exact Nat.le_of_ble_eq_true rfl | assumption | decide)) (cwV 2 hX.2.2.2.2.1 gX3_writeLine_X3_vacate rfl rfl rfl (by decide +kernel) ⟨Nat.le_of_ble_eq_true rfl, Nat.le_of_ble_eq_true rfl⟩) ([]) ([]) ((List.append_nil _).symm) (by rw [hv5]; exact List.append_nil _) (wM_fst E a _ _) (ci := 3) (q0 := 0) rfl rfl rfl rfl rfl (Nat.le_of_ble_eq_true rfl) dX3_writeLine_66 ?_
      refine v_aload_n hX dX3_writeLine_69 rfl ?_
      refine v_aload hX dX3_writeLine_70 rfl ?_
      refine v_iload_n hX dX3_writeLine_72 rfl ?_
      refine v_iload_n hX dX3_writeLine_73 rfl ?_
      refine v_iconst (x := (1 : Int32)) hX dX3_writeLine_74 (by decide) ?_
      obtain ⟨v6, hv6⟩ : ∃ z_ : MV, z_ = M_begin v5 r n x true := ⟨_, rfl⟩
      refine v_callVv (rest := []) (ws' := wM E a v6) hX (fun sz => c_X3_beginToHold l E a sz v5 r (by first | omega | exact Nat.le_of_ble_eq_true rfl | assumption | decide) n x true) (cwV 4 hX.2.2.2.2.1 gX3_writeLine_X3_beginToHold rfl rfl rfl (by decide +kernel) ⟨Nat.le_of_ble_eq_true rfl, Nat.le_of_ble_eq_true rfl⟩) ([]) ([]) ((List.append_nil _).symm) (by rw [hv6]; exact List.append_nil _) (wM_fst E a _ _) (ci := 3) (q0 := 0) rfl rfl rfl rfl rfl (Nat.le_of_ble_eq_true rfl) dX3_writeLine_75 ?_
      refine v_iload hX dX3_writeLine_78 rfl ?_
      exact v_iret hX hr hsz dX3_writeLine_80 rfl rfl (by (subst hv6; subst hv5; subst hv3; subst hv1; first | rfl | (simp only [M_write, M_own, M_fill, c2, c4, if_true, if_false, reduceIte, Bool.false_eq_true, reduceCtorEq, decide_true, decide_false, Bool.and_true, Bool.and_false, Bool.true_and, Bool.false_and, Bool.or_true, Bool.or_false, Bool.true_or, Bool.false_or, not_true_eq_false, not_false_eq_true, Bool.not_true, Bool.not_false, eq_self, Nat.reduceEqDiff]; done) | (simp only [M_write, M_own, M_fill, c2, c4, if_true, if_false, reduceIte, Bool.false_eq_true, reduceCtorEq, decide_true, decide_false, Bool.and_true, Bool.and_false, Bool.true_and, Bool.false_and, Bool.or_true, Bool.or_false, Bool.true_or, Bool.false_or, not_true_eq_false, not_false_eq_true, Bool.not_true, Bool.not_false, eq_self, Nat.reduceEqDiff]; rfl) | contradiction | (exfalso; omega))) (by (subst hv6; subst hv5; subst hv3; subst hv1; first | rfl | (simp only [M_write, M_own, M_fill, c2, c4, if_true, if_false, reduceIte, Bool.false_eq_true, reduceCtorEq, decide_true, decide_false, Bool.and_true, Bool.and_false, Bool.true_and, Bool.false_and, Bool.or_true, Bool.or_false, Bool.true_or, Bool.false_or, not_true_eq_false, not_false_eq_true, Bool.not_true, Bool.not_false, eq_self, Nat.reduceEqDiff]; done) | (simp only [M_write, M_own, M_fill, c2, c4, if_true, if_false, reduceIte, Bool.false_eq_true, reduceCtorEq, decide_true, decide_false, Bool.and_true, Bool.and_false, Bool.true_and, Bool.false_and, Bool.or_true, Bool.or_false, Bool.true_or, Bool.false_or, not_true_eq_false, not_false_eq_true, Bool.not_true, Bool.not_false, eq_self, Nat.reduceEqDiff]; rfl) | contradiction | (exfalso; omega)))
    · replace c4 := bI_n0.mp c4
      refine v_aload hX dX3_writeLine_48 rfl ?_
      refine v_iload_n hX dX3_writeLine_50 rfl ?_
      refine v_iload_n hX dX3_writeLine_51 rfl ?_
      refine v_iconst (x := (1 : Int32)) hX dX3_writeLine_52 (by decide) ?_
      obtain ⟨v7, hv7⟩ : ∃ z_ : MV, z_ = M_setK v3 r (K_fill (v3.2.1 r) n x true) := ⟨_, rfl⟩
      refine v_callVv (rest := []) (ws' := wM E a v7) hX (fun sz => c_X0_fill l E (kA a r) sz (v3.2.1 r) n x true) (cwV 3 hX.2.2.2.2.1 gX3_writeLine_X0_fill rfl rfl rfl (by decide +kernel) ⟨Nat.le_of_ble_eq_true rfl, Nat.le_of_ble_eq_true rfl⟩) (mPre E a v3 r) (mPost E a v3 r) (wM_cut E a v3 (by omega : r < 4)) (by rw [hv7]; exact wM_put E a v3 (by omega : r < 4) _) (wK_fst E (kA a r) _ _) (ci := 0) (q0 := 0) rfl rfl rfl rfl rfl (Nat.le_of_ble_eq_true rfl) dX3_writeLine_53 ?_
      refine v_goto (tgt := 78) hX dX3_writeLine_56 (by decide) ?_
      refine v_iload hX dX3_writeLine_78 rfl ?_
      exact v_iret hX hr hsz dX3_writeLine_80 rfl rfl (by (subst hv7; subst hv3; subst hv1; first | rfl | (simp only [M_write, M_own, M_fill, c2, c4, if_true, if_false, reduceIte, Bool.false_eq_true, reduceCtorEq, decide_true, decide_false, Bool.and_true, Bool.and_false, Bool.true_and, Bool.false_and, Bool.or_true, Bool.or_false, Bool.true_or, Bool.false_or, not_true_eq_false, not_false_eq_true, Bool.not_true, Bool.not_false, eq_self, Nat.reduceEqDiff]; done) | (simp only [M_write, M_own, M_fill, c2, c4, if_true, if_false, reduceIte, Bool.false_eq_true, reduceCtorEq, decide_true, decide_false, Bool.and_true, Bool.and_false, Bool.true_and, Bool.false_and, Bool.or_true, Bool.or_false, Bool.true_or, Bool.false_or, not_true_eq_false, not_false_eq_true, Bool.not_true, Bool.not_false, eq_self, Nat.reduceEqDiff]; rfl) | contradiction | (exfalso; omega))) (by (subst hv7; subst hv3; subst hv1; first | rfl | (simp only [M_write, M_own, M_fill, c2, c4, if_true, if_false, reduceIte, Bool.false_eq_true, reduceCtorEq, decide_true, decide_false, Bool.and_true, Bool.and_false, Bool.true_and, Bool.false_and, Bool.or_true, Bool.or_false, Bool.true_or, Bool.false_or, not_true_eq_false, not_false_eq_true, Bool.not_true, Bool.not_false, eq_self, Nat.reduceEqDiff]; done) | (simp only [M_write, M_own, M_fill, c2, c4, if_true, if_false, reduceIte, Bool.false_eq_true, reduceCtorEq, decide_true, decide_false, Bool.and_true, Bool.and_false, Bool.true_and, Bool.false_and, Bool.or_true, Bool.or_false, Bool.true_or, Bool.false_or, not_true_eq_false, not_false_eq_true, Bool.not_true, Bool.not_false, eq_self, Nat.reduceEqDiff]; rfl) | contradiction | (exfalso; omega)))
  · replace c2 := bI_n0.mp c2
    refine v_iconst (x := (0 : Int32)) hX dX3_writeLine_27 (by decide) ?_
    refine v_goto (tgt := 37) hX dX3_writeLine_28 (by decide) ?_
    refine v_istore (lv' := [.ref (a 0), .int (nI (r)), .int (nI (n).val), .int (x), .ref (a (3 + 9 * (r))), .int ((0 : Int32))]) hX dX3_writeLine_37 (Nat.le_of_ble_eq_true rfl) (Nat.le_of_ble_eq_true rfl) rfl rfl ?_
    refine v_aload hX dX3_writeLine_39 rfl ?_
    refine v_iload_n hX dX3_writeLine_41 rfl ?_
    refine v_callVi (r := bI (K_holds (v1.2.1 r) n)) (rest := []) (ws' := wM E a v1) hX (fun sz => c_X0_holds l E (kA a r) sz (v1.2.1 r) n) (cwV 1 hX.2.2.2.2.1 gX3_writeLine_X0_holds rfl rfl rfl (by decide +kernel) ⟨Nat.le_of_ble_eq_true rfl, Nat.le_of_ble_eq_true rfl⟩) (mPre E a v1 r) (mPost E a v1 r) (wM_cut E a v1 (by omega : r < 4)) (wM_cut E a v1 (by omega : r < 4)).symm (wK_fst E (kA a r) _ _) (ci := 0) (q0 := 0) rfl rfl rfl rfl rfl (Nat.le_of_ble_eq_true rfl) dX3_writeLine_42 ?_
    refine v_if_eq (tgt := 59) hX dX3_writeLine_45 (by decide) (fun c8 => ?_) (fun c8 => ?_)
    · replace c8 := bI_0.mp c8
      refine v_aload_n hX dX3_writeLine_59 rfl ?_
      refine v_aload hX dX3_writeLine_60 rfl ?_
      refine v_iload_n hX dX3_writeLine_62 rfl ?_
      refine v_callSi (r := nI (((n).val) % 8)) (rest := [.ref (a (3 + 9 * (r))), .ref (a 0)]) (ws' := wM E a v1) hX (fun sz => c_X0_placeOf l E sz ((n).val) (by first | omega | exact Nat.le_of_ble_eq_true rfl | assumption | decide)) (va_cwS 1 hX.2.2.2.2.1 gX3_writeLine_X0_placeOf rfl rfl rfl (by decide +kernel) ⟨Nat.le_of_ble_eq_true rfl, Nat.le_of_ble_eq_true rfl⟩) ([]) (wM E a v1) (rfl) rfl (rfl) rfl rfl (Nat.le_of_ble_eq_true rfl) dX3_writeLine_63 ?_
      obtain ⟨v9, hv9⟩ : ∃ z_ : MV, z_ = M_vac v1 r (((n).val) % 8) := ⟨_, rfl⟩
      refine v_callVv (rest := []) (ws' := wM E a v9) hX (fun sz => c_X3_vacate l E a sz v1 r (by first | omega | exact Nat.le_of_ble_eq_true rfl | assumption | decide) (((n).val) % 8) (by first | omega | exact Nat.le_of_ble_eq_true rfl | assumption | decide)) (cwV 2 hX.2.2.2.2.1 gX3_writeLine_X3_vacate rfl rfl rfl (by decide +kernel) ⟨Nat.le_of_ble_eq_true rfl, Nat.le_of_ble_eq_true rfl⟩) ([]) ([]) ((List.append_nil _).symm) (by rw [hv9]; exact List.append_nil _) (wM_fst E a _ _) (ci := 3) (q0 := 0) rfl rfl rfl rfl rfl (Nat.le_of_ble_eq_true rfl) dX3_writeLine_66 ?_
      refine v_aload_n hX dX3_writeLine_69 rfl ?_
      refine v_aload hX dX3_writeLine_70 rfl ?_
      refine v_iload_n hX dX3_writeLine_72 rfl ?_
      refine v_iload_n hX dX3_writeLine_73 rfl ?_
      refine v_iconst (x := (1 : Int32)) hX dX3_writeLine_74 (by decide) ?_
      obtain ⟨v10, hv10⟩ : ∃ z_ : MV, z_ = M_begin v9 r n x true := ⟨_, rfl⟩
      refine v_callVv (rest := []) (ws' := wM E a v10) hX (fun sz => c_X3_beginToHold l E a sz v9 r (by first | omega | exact Nat.le_of_ble_eq_true rfl | assumption | decide) n x true) (cwV 4 hX.2.2.2.2.1 gX3_writeLine_X3_beginToHold rfl rfl rfl (by decide +kernel) ⟨Nat.le_of_ble_eq_true rfl, Nat.le_of_ble_eq_true rfl⟩) ([]) ([]) ((List.append_nil _).symm) (by rw [hv10]; exact List.append_nil _) (wM_fst E a _ _) (ci := 3) (q0 := 0) rfl rfl rfl rfl rfl (Nat.le_of_ble_eq_true rfl) dX3_writeLine_75 ?_
      refine v_iload hX dX3_writeLine_78 rfl ?_
      exact v_iret hX hr hsz dX3_writeLine_80 rfl rfl (by (subst hv10; subst hv9; subst hv1; first | rfl | (simp only [M_write, M_own, M_fill, c2, c8, if_true, if_false, reduceIte, Bool.false_eq_true, reduceCtorEq, decide_true, decide_false, Bool.and_true, Bool.and_false, Bool.true_and, Bool.false_and, Bool.or_true, Bool.or_false, Bool.true_or, Bool.false_or, not_true_eq_false, not_false_eq_true, Bool.not_true, Bool.not_false, eq_self, Nat.reduceEqDiff]; done) | (simp only [M_write, M_own, M_fill, c2, c8, if_true, if_false, reduceIte, Bool.false_eq_true, reduceCtorEq, decide_true, decide_false, Bool.and_true, Bool.and_false, Bool.true_and, Bool.false_and, Bool.or_true, Bool.or_false, Bool.true_or, Bool.false_or, not_true_eq_false, not_false_eq_true, Bool.not_true, Bool.not_false, eq_self, Nat.reduceEqDiff]; rfl) | contradiction | (exfalso; omega))) (by (subst hv10; subst hv9; subst hv1; first | rfl | (simp only [M_write, M_own, M_fill, c2, c8, if_true, if_false, reduceIte, Bool.false_eq_true, reduceCtorEq, decide_true, decide_false, Bool.and_true, Bool.and_false, Bool.true_and, Bool.false_and, Bool.or_true, Bool.or_false, Bool.true_or, Bool.false_or, not_true_eq_false, not_false_eq_true, Bool.not_true, Bool.not_false, eq_self, Nat.reduceEqDiff]; done) | (simp only [M_write, M_own, M_fill, c2, c8, if_true, if_false, reduceIte, Bool.false_eq_true, reduceCtorEq, decide_true, decide_false, Bool.and_true, Bool.and_false, Bool.true_and, Bool.false_and, Bool.or_true, Bool.or_false, Bool.true_or, Bool.false_or, not_true_eq_false, not_false_eq_true, Bool.not_true, Bool.not_false, eq_self, Nat.reduceEqDiff]; rfl) | contradiction | (exfalso; omega)))
    · replace c8 := bI_n0.mp c8
      refine v_aload hX dX3_writeLine_48 rfl ?_
      refine v_iload_n hX dX3_writeLine_50 rfl ?_
      refine v_iload_n hX dX3_writeLine_51 rfl ?_
      refine v_iconst (x := (1 : Int32)) hX dX3_writeLine_52 (by decide) ?_
      obtain ⟨v11, hv11⟩ : ∃ z_ : MV, z_ = M_setK v1 r (K_fill (v1.2.1 r) n x true) := ⟨_, rfl⟩
      refine v_callVv (rest := []) (ws' := wM E a v11) hX (fun sz => c_X0_fill l E (kA a r) sz (v1.2.1 r) n x true) (cwV 3 hX.2.2.2.2.1 gX3_writeLine_X0_fill rfl rfl rfl (by decide +kernel) ⟨Nat.le_of_ble_eq_true rfl, Nat.le_of_ble_eq_true rfl⟩) (mPre E a v1 r) (mPost E a v1 r) (wM_cut E a v1 (by omega : r < 4)) (by rw [hv11]; exact wM_put E a v1 (by omega : r < 4) _) (wK_fst E (kA a r) _ _) (ci := 0) (q0 := 0) rfl rfl rfl rfl rfl (Nat.le_of_ble_eq_true rfl) dX3_writeLine_53 ?_
      refine v_goto (tgt := 78) hX dX3_writeLine_56 (by decide) ?_
      refine v_iload hX dX3_writeLine_78 rfl ?_
      exact v_iret hX hr hsz dX3_writeLine_80 rfl rfl (by (subst hv11; subst hv1; first | rfl | (simp only [M_write, M_own, M_fill, c2, c8, if_true, if_false, reduceIte, Bool.false_eq_true, reduceCtorEq, decide_true, decide_false, Bool.and_true, Bool.and_false, Bool.true_and, Bool.false_and, Bool.or_true, Bool.or_false, Bool.true_or, Bool.false_or, not_true_eq_false, not_false_eq_true, Bool.not_true, Bool.not_false, eq_self, Nat.reduceEqDiff]; done) | (simp only [M_write, M_own, M_fill, c2, c8, if_true, if_false, reduceIte, Bool.false_eq_true, reduceCtorEq, decide_true, decide_false, Bool.and_true, Bool.and_false, Bool.true_and, Bool.false_and, Bool.or_true, Bool.or_false, Bool.true_or, Bool.false_or, not_true_eq_false, not_false_eq_true, Bool.not_true, Bool.not_false, eq_self, Nat.reduceEqDiff]; rfl) | contradiction | (exfalso; omega))) (by (subst hv11; subst hv1; first | rfl | (simp only [M_write, M_own, M_fill, c2, c8, if_true, if_false, reduceIte, Bool.false_eq_true, reduceCtorEq, decide_true, decide_false, Bool.and_true, Bool.and_false, Bool.true_and, Bool.false_and, Bool.or_true, Bool.or_false, Bool.true_or, Bool.false_or, not_true_eq_false, not_false_eq_true, Bool.not_true, Bool.not_false, eq_self, Nat.reduceEqDiff]; done) | (simp only [M_write, M_own, M_fill, c2, c8, if_true, if_false, reduceIte, Bool.false_eq_true, reduceCtorEq, decide_true, decide_false, Bool.and_true, Bool.and_false, Bool.true_and, Bool.false_and, Bool.or_true, Bool.or_false, Bool.true_or, Bool.false_or, not_true_eq_false, not_false_eq_true, Bool.not_true, Bool.not_false, eq_self, Nat.reduceEqDiff]; rfl) | contradiction | (exfalso; omega)))
set_option maxHeartbeats 4000000 in
set_option maxRecDepth 100000 in
theorem c_X3_dropLine (l : Launch) (E : ET) (a : Nat → Nat) (sz : Nat) (v : MV) (r : Nat) (hro : r < 4) (n : Fin 256) : Met l yX3_dropLine wsX3_dropLine ({ frames := 4, cells := 0, slots := 0, locals := 86 }) (mPc E [.ref (a 0), .int (nI (r)), .int (nI (n).val)] sz (wM E a v)) (mQi E ((M_drop v r n).2) (wM E a v) (wM E a ((M_drop v r n).1)) sz) 0 0 (va_A (wM E a v) sz) := by
  refine v_start (cc := cX3_dropLine) (maxL := 5) (ret := (some .int)) (by decide) rfl (Nat.le_of_ble_eq_true rfl) rfl ?_
  intro p e s m args below meth c hsz hr hX
  have hX : Xc p s m args meth c E 5 (va_A (wM E a v) sz) cX3_dropLine RX3 wsX3_dropLine := hX
  have in_X3 : ∀ w ∈ u_ws RX3 TX3 6, w ∈ wsX3_dropLine := by decide +kernel
  have fl_17 : Cond.fieldLink RX3 17 RX3 "cores" "[LSnoopFilter$Core;" ∈ wsX3_dropLine := by decide +kernel
  have hlt_n := n.isLt
  refine v_aload_n hX dX3_dropLine_0 rfl ?_
  refine v_get (C := RX3) (T := TX3) (N := 6) (ci := 3) (v := .ref (a 2)) hX in_X3 0 rfl rfl 1 (by decide) fl_17 rfl rfl dX3_dropLine_1 ?_
  refine v_iload_n hX dX3_dropLine_4 rfl ?_
  refine v_aaldK (b := a (3 + 9 * (r))) hX 2 rfl (vp_in_nI (by omega : r < 4) (by omega)) (by simp only [nI_clamp (show r < 2 ^ 31 by omega)]) dX3_dropLine_5 ?_
  refine v_astore_n (lv' := [.ref (a 0), .int (nI (r)), .int (nI (n).val), .ref (a (3 + 9 * (r)))]) hX dX3_dropLine_6 (Nat.le_of_ble_eq_true rfl) (Nat.le_of_ble_eq_true rfl) rfl rfl ?_
  refine v_aload_n hX dX3_dropLine_7 rfl ?_
  refine v_iload_n hX dX3_dropLine_8 rfl ?_
  refine v_callVi (r := bI (K_holds (v.2.1 r) n)) (rest := []) (ws' := wM E a v) hX (fun sz => c_X0_holds l E (kA a r) sz (v.2.1 r) n) (cwV 1 hX.2.2.2.2.1 gX3_dropLine_X0_holds rfl rfl rfl (by decide +kernel) ⟨Nat.le_of_ble_eq_true rfl, Nat.le_of_ble_eq_true rfl⟩) (mPre E a v r) (mPost E a v r) (wM_cut E a v (by omega : r < 4)) (wM_cut E a v (by omega : r < 4)).symm (wK_fst E (kA a r) _ _) (ci := 0) (q0 := 0) rfl rfl rfl rfl rfl (Nat.le_of_ble_eq_true rfl) dX3_dropLine_9 ?_
  refine v_if_ne (tgt := 18) hX dX3_dropLine_12 (by decide) (fun c1 => ?_) (fun c1 => ?_)
  · replace c1 := bI_n0.mp c1
    refine v_aload_n hX dX3_dropLine_18 rfl ?_
    refine v_iload_n hX dX3_dropLine_19 rfl ?_
    refine v_callVi (r := bI (K_hd (v.2.1 r) n)) (rest := []) (ws' := wM E a v) hX (fun sz => c_X0_holdsDirty l E (kA a r) sz (v.2.1 r) n) (cwV 1 hX.2.2.2.2.1 gX3_dropLine_X0_holdsDirty rfl rfl rfl (by decide +kernel) ⟨Nat.le_of_ble_eq_true rfl, Nat.le_of_ble_eq_true rfl⟩) (mPre E a v r) (mPost E a v r) (wM_cut E a v (by omega : r < 4)) (wM_cut E a v (by omega : r < 4)).symm (wK_fst E (kA a r) _ _) (ci := 0) (q0 := 0) rfl rfl rfl rfl rfl (Nat.le_of_ble_eq_true rfl) dX3_dropLine_20 ?_
    refine v_if_eq (tgt := 30) hX dX3_dropLine_23 (by decide) (fun c2 => ?_) (fun c2 => ?_)
    · replace c2 := bI_0.mp c2
      refine v_iconst (x := (0 : Int32)) hX dX3_dropLine_30 (by decide) ?_
      refine v_istore (lv' := [.ref (a 0), .int (nI (r)), .int (nI (n).val), .ref (a (3 + 9 * (r))), .int ((0 : Int32))]) hX dX3_dropLine_31 (Nat.le_of_ble_eq_true rfl) (Nat.le_of_ble_eq_true rfl) rfl rfl ?_
      refine v_aload_n hX dX3_dropLine_33 rfl ?_
      refine v_aload_n hX dX3_dropLine_34 rfl ?_
      refine v_iload_n hX dX3_dropLine_35 rfl ?_
      refine v_callSi (r := nI (((n).val) % 8)) (rest := [.ref (a (3 + 9 * (r))), .ref (a 0)]) (ws' := wM E a v) hX (fun sz => c_X0_placeOf l E sz ((n).val) (by first | omega | exact Nat.le_of_ble_eq_true rfl | assumption | decide)) (va_cwS 1 hX.2.2.2.2.1 gX3_dropLine_X0_placeOf rfl rfl rfl (by decide +kernel) ⟨Nat.le_of_ble_eq_true rfl, Nat.le_of_ble_eq_true rfl⟩) ([]) (wM E a v) (rfl) rfl (rfl) rfl rfl (Nat.le_of_ble_eq_true rfl) dX3_dropLine_36 ?_
      obtain ⟨v3, hv3⟩ : ∃ z_ : MV, z_ = M_vac v r (((n).val) % 8) := ⟨_, rfl⟩
      refine v_callVv (rest := []) (ws' := wM E a v3) hX (fun sz => c_X3_vacate l E a sz v r (by first | omega | exact Nat.le_of_ble_eq_true rfl | assumption | decide) (((n).val) % 8) (by first | omega | exact Nat.le_of_ble_eq_true rfl | assumption | decide)) (cwV 2 hX.2.2.2.2.1 gX3_dropLine_X3_vacate rfl rfl rfl (by decide +kernel) ⟨Nat.le_of_ble_eq_true rfl, Nat.le_of_ble_eq_true rfl⟩) ([]) ([]) ((List.append_nil _).symm) (by rw [hv3]; exact List.append_nil _) (wM_fst E a _ _) (ci := 3) (q0 := 0) rfl rfl rfl rfl rfl (Nat.le_of_ble_eq_true rfl) dX3_dropLine_39 ?_
      refine v_iload hX dX3_dropLine_42 rfl ?_
      exact v_iret hX hr hsz dX3_dropLine_44 rfl rfl (by (subst hv3; first | rfl | (simp only [M_drop, c1, c2, if_true, if_false, reduceIte, Bool.false_eq_true, reduceCtorEq, decide_true, decide_false, Bool.and_true, Bool.and_false, Bool.true_and, Bool.false_and, Bool.or_true, Bool.or_false, Bool.true_or, Bool.false_or, not_true_eq_false, not_false_eq_true, Bool.not_true, Bool.not_false, eq_self, Nat.reduceEqDiff]; done) | (simp only [M_drop, c1, c2, if_true, if_false, reduceIte, Bool.false_eq_true, reduceCtorEq, decide_true, decide_false, Bool.and_true, Bool.and_false, Bool.true_and, Bool.false_and, Bool.or_true, Bool.or_false, Bool.true_or, Bool.false_or, not_true_eq_false, not_false_eq_true, Bool.not_true, Bool.not_false, eq_self, Nat.reduceEqDiff]; rfl) | contradiction | (exfalso; omega))) (by (subst hv3; first | rfl | (simp only [M_drop, c1, c2, if_true, if_false, reduceIte, Bool.false_eq_true, reduceCtorEq, decide_true, decide_false, Bool.and_true, Bool.and_false, Bool.true_and, Bool.false_and, Bool.or_true, Bool.or_false, Bool.true_or, Bool.false_or, not_true_eq_false, not_false_eq_true, Bool.not_true, Bool.not_false, eq_self, Nat.reduceEqDiff]; done) | (simp only [M_drop, c1, c2, if_true, if_false, reduceIte, Bool.false_eq_true, reduceCtorEq, decide_true, decide_false, Bool.and_true, Bool.and_false, Bool.true_and, Bool.false_and, Bool.or_true, Bool.or_false, Bool.true_or, Bool.false_or, not_true_eq_false, not_false_eq_true, Bool.not_true, Bool.not_false, eq_self, Nat.reduceEqDiff]; rfl) | contradiction | (exfalso; omega)))
    · replace c2 := bI_n0.mp c2
      refine v_iconst (x := (1 : Int32)) hX dX3_dropLine_26 (by decide) ?_
      refine v_goto (tgt := 31) hX dX3_dropLine_27 (by decide) ?_
      refine v_istore (lv' := [.ref (a 0), .int (nI (r)), .int (nI (n).val), .ref (a (3 + 9 * (r))), .int ((1 : Int32))]) hX dX3_dropLine_31 (Nat.le_of_ble_eq_true rfl) (Nat.le_of_ble_eq_true rfl) rfl rfl ?_
      refine v_aload_n hX dX3_dropLine_33 rfl ?_
      refine v_aload_n hX dX3_dropLine_34 rfl ?_
      refine v_iload_n hX dX3_dropLine_35 rfl ?_
      refine v_callSi (r := nI (((n).val) % 8)) (rest := [.ref (a (3 + 9 * (r))), .ref (a 0)]) (ws' := wM E a v) hX (fun sz => c_X0_placeOf l E sz ((n).val) (by first | omega | exact Nat.le_of_ble_eq_true rfl | assumption | decide)) (va_cwS 1 hX.2.2.2.2.1 gX3_dropLine_X0_placeOf rfl rfl rfl (by decide +kernel) ⟨Nat.le_of_ble_eq_true rfl, Nat.le_of_ble_eq_true rfl⟩) ([]) (wM E a v) (rfl) rfl (rfl) rfl rfl (Nat.le_of_ble_eq_true rfl) dX3_dropLine_36 ?_
      obtain ⟨v4, hv4⟩ : ∃ z_ : MV, z_ = M_vac v r (((n).val) % 8) := ⟨_, rfl⟩
      refine v_callVv (rest := []) (ws' := wM E a v4) hX (fun sz => c_X3_vacate l E a sz v r (by first | omega | exact Nat.le_of_ble_eq_true rfl | assumption | decide) (((n).val) % 8) (by first | omega | exact Nat.le_of_ble_eq_true rfl | assumption | decide)) (cwV 2 hX.2.2.2.2.1 gX3_dropLine_X3_vacate rfl rfl rfl (by decide +kernel) ⟨Nat.le_of_ble_eq_true rfl, Nat.le_of_ble_eq_true rfl⟩) ([]) ([]) ((List.append_nil _).symm) (by rw [hv4]; exact List.append_nil _) (wM_fst E a _ _) (ci := 3) (q0 := 0) rfl rfl rfl rfl rfl (Nat.le_of_ble_eq_true rfl) dX3_dropLine_39 ?_
      refine v_iload hX dX3_dropLine_42 rfl ?_
      exact v_iret hX hr hsz dX3_dropLine_44 rfl rfl (by (subst hv4; first | rfl | (simp only [M_drop, c1, c2, if_true, if_false, reduceIte, Bool.false_eq_true, reduceCtorEq, decide_true, decide_false, Bool.and_true, Bool.and_false, Bool.true_and, Bool.false_and, Bool.or_true, Bool.or_false, Bool.true_or, Bool.false_or, not_true_eq_false, not_false_eq_true, Bool.not_true, Bool.not_false, eq_self, Nat.reduceEqDiff]; done) | (simp only [M_drop, c1, c2, if_true, if_false, reduceIte, Bool.false_eq_true, reduceCtorEq, decide_true, decide_false, Bool.and_true, Bool.and_false, Bool.true_and, Bool.false_and, Bool.or_true, Bool.or_false, Bool.true_or, Bool.false_or, not_true_eq_false, not_false_eq_true, Bool.not_true, Bool.not_false, eq_self, Nat.reduceEqDiff]; rfl) | contradiction | (exfalso; omega))) (by (subst hv4; first | rfl | (simp only [M_drop, c1, c2, if_true, if_false, reduceIte, Bool.false_eq_true, reduceCtorEq, decide_true, decide_false, Bool.and_true, Bool.and_false, Bool.true_and, Bool.false_and, Bool.or_true, Bool.or_false, Bool.true_or, Bool.false_or, not_true_eq_false, not_false_eq_true, Bool.not_true, Bool.not_false, eq_self, Nat.reduceEqDiff]; done) | (simp only [M_drop, c1, c2, if_true, if_false, reduceIte, Bool.false_eq_true, reduceCtorEq, decide_true, decide_false, Bool.and_true, Bool.and_false, Bool.true_and, Bool.false_and, Bool.or_true, Bool.or_false, Bool.true_or, Bool.false_or, not_true_eq_false, not_false_eq_true, Bool.not_true, Bool.not_false, eq_self, Nat.reduceEqDiff]; rfl) | contradiction | (exfalso; omega)))
  · replace c1 := bI_0.mp c1
    refine v_bipush (x := (-4 : Int32)) hX dX3_dropLine_15 (by decide) ?_
    exact v_iret hX hr hsz dX3_dropLine_17 rfl rfl (by (first | rfl | (simp only [M_drop, c1, if_true, if_false, reduceIte, Bool.false_eq_true, reduceCtorEq, decide_true, decide_false, Bool.and_true, Bool.and_false, Bool.true_and, Bool.false_and, Bool.or_true, Bool.or_false, Bool.true_or, Bool.false_or, not_true_eq_false, not_false_eq_true, Bool.not_true, Bool.not_false, eq_self, Nat.reduceEqDiff]; done) | (simp only [M_drop, c1, if_true, if_false, reduceIte, Bool.false_eq_true, reduceCtorEq, decide_true, decide_false, Bool.and_true, Bool.and_false, Bool.true_and, Bool.false_and, Bool.or_true, Bool.or_false, Bool.true_or, Bool.false_or, not_true_eq_false, not_false_eq_true, Bool.not_true, Bool.not_false, eq_self, Nat.reduceEqDiff]; rfl) | contradiction | (exfalso; omega))) (by (first | rfl | (simp only [M_drop, c1, if_true, if_false, reduceIte, Bool.false_eq_true, reduceCtorEq, decide_true, decide_false, Bool.and_true, Bool.and_false, Bool.true_and, Bool.false_and, Bool.or_true, Bool.or_false, Bool.true_or, Bool.false_or, not_true_eq_false, not_false_eq_true, Bool.not_true, Bool.not_false, eq_self, Nat.reduceEqDiff]; done) | (simp only [M_drop, c1, if_true, if_false, reduceIte, Bool.false_eq_true, reduceCtorEq, decide_true, decide_false, Bool.and_true, Bool.and_false, Bool.true_and, Bool.false_and, Bool.or_true, Bool.or_false, Bool.true_or, Bool.false_or, not_true_eq_false, not_false_eq_true, Bool.not_true, Bool.not_false, eq_self, Nat.reduceEqDiff]; rfl) | contradiction | (exfalso; omega)))
set_option maxHeartbeats 4000000 in
set_option maxRecDepth 100000 in
theorem c_X3_forgetOnPurpose (l : Launch) (E : ET) (a : Nat → Nat) (sz : Nat) (v : MV) (r : Nat) (hro : r < 4) : Met l yX3_forgetOnPurpose wsX3_forgetOnPurpose ({ frames := 3, cells := 0, slots := 0, locals := 65 }) (mPc E [.ref (a 0), .int (nI (r))] sz (wM E a v)) (mQi E ((M_forget v r).2) (wM E a v) (wM E a ((M_forget v r).1)) sz) 0 0 (va_A (wM E a v) sz) := by
  refine v_start (cc := cX3_forgetOnPurpose) (maxL := 3) (ret := (some .int)) (by decide) rfl (Nat.le_of_ble_eq_true rfl) rfl ?_
  intro p e s m args below meth c hsz hr hX
  have hX : Xc p s m args meth c E 3 (va_A (wM E a v) sz) cX3_forgetOnPurpose RX3 wsX3_forgetOnPurpose := hX
  have in_X3 : ∀ w ∈ u_ws RX3 TX3 6, w ∈ wsX3_forgetOnPurpose := by decide +kernel
  have fl_17 : Cond.fieldLink RX3 17 RX3 "cores" "[LSnoopFilter$Core;" ∈ wsX3_forgetOnPurpose := by decide +kernel
  refine v_aload_n hX dX3_forgetOnPurpose_0 rfl ?_
  refine v_get (C := RX3) (T := TX3) (N := 6) (ci := 3) (v := .ref (a 2)) hX in_X3 0 rfl rfl 1 (by decide) fl_17 rfl rfl dX3_forgetOnPurpose_1 ?_
  refine v_iload_n hX dX3_forgetOnPurpose_4 rfl ?_
  refine v_aaldK (b := a (3 + 9 * (r))) hX 2 rfl (vp_in_nI (by omega : r < 4) (by omega)) (by simp only [nI_clamp (show r < 2 ^ 31 by omega)]) dX3_forgetOnPurpose_5 ?_
  refine v_astore_n (lv' := [.ref (a 0), .int (nI (r)), .ref (a (3 + 9 * (r)))]) hX dX3_forgetOnPurpose_6 (Nat.le_of_ble_eq_true rfl) (Nat.le_of_ble_eq_true rfl) rfl rfl ?_
  refine v_aload_n hX dX3_forgetOnPurpose_7 rfl ?_
  refine v_callVi (r := bI (K_nothing (v.2.1 r))) (rest := []) (ws' := wM E a v) hX (fun sz => c_X0_hasNothingToForget l E (kA a r) sz (v.2.1 r) ) (cwV 0 hX.2.2.2.2.1 gX3_forgetOnPurpose_X0_hasNothingToForget rfl rfl rfl (by decide +kernel) ⟨Nat.le_of_ble_eq_true rfl, Nat.le_of_ble_eq_true rfl⟩) (mPre E a v r) (mPost E a v r) (wM_cut E a v (by omega : r < 4)) (wM_cut E a v (by omega : r < 4)).symm (wK_fst E (kA a r) _ _) (ci := 0) (q0 := 0) rfl rfl rfl rfl rfl (Nat.le_of_ble_eq_true rfl) dX3_forgetOnPurpose_8 ?_
  refine v_if_eq (tgt := 19) hX dX3_forgetOnPurpose_11 (by decide) (fun c1 => ?_) (fun c1 => ?_)
  · replace c1 := bI_0.mp c1
    refine v_aload_n hX dX3_forgetOnPurpose_19 rfl ?_
    refine v_aload_n hX dX3_forgetOnPurpose_20 rfl ?_
    refine v_iconst (x := (-1 : Int32)) hX dX3_forgetOnPurpose_21 (by decide) ?_
    obtain ⟨v2, hv2⟩ : ∃ z_ : MV, z_ = (M_fa v r none).1 := ⟨_, rfl⟩
    refine v_callVi (r := (M_fa v r none).2) (rest := []) (ws' := wM E a v2) hX (fun sz => c_X3_forgetAllBut l E a sz v r (by first | omega | exact Nat.le_of_ble_eq_true rfl | assumption | decide) none) (cwV 2 hX.2.2.2.2.1 gX3_forgetOnPurpose_X3_forgetAllBut rfl rfl rfl (by decide +kernel) ⟨Nat.le_of_ble_eq_true rfl, Nat.le_of_ble_eq_true rfl⟩) ([]) ([]) ((List.append_nil _).symm) (by rw [hv2]; exact List.append_nil _) (wM_fst E a _ _) (ci := 3) (q0 := 0) rfl rfl rfl rfl rfl (Nat.le_of_ble_eq_true rfl) dX3_forgetOnPurpose_22 ?_
    exact v_iret hX hr hsz dX3_forgetOnPurpose_25 rfl rfl (by (subst hv2; first | rfl | (simp only [M_forget, c1, if_true, if_false, reduceIte, Bool.false_eq_true, reduceCtorEq, decide_true, decide_false, Bool.and_true, Bool.and_false, Bool.true_and, Bool.false_and, Bool.or_true, Bool.or_false, Bool.true_or, Bool.false_or, not_true_eq_false, not_false_eq_true, Bool.not_true, Bool.not_false, eq_self, Nat.reduceEqDiff]; done) | (simp only [M_forget, c1, if_true, if_false, reduceIte, Bool.false_eq_true, reduceCtorEq, decide_true, decide_false, Bool.and_true, Bool.and_false, Bool.true_and, Bool.false_and, Bool.or_true, Bool.or_false, Bool.true_or, Bool.false_or, not_true_eq_false, not_false_eq_true, Bool.not_true, Bool.not_false, eq_self, Nat.reduceEqDiff]; rfl) | contradiction | (exfalso; omega))) (by (subst hv2; first | rfl | (simp only [M_forget, c1, if_true, if_false, reduceIte, Bool.false_eq_true, reduceCtorEq, decide_true, decide_false, Bool.and_true, Bool.and_false, Bool.true_and, Bool.false_and, Bool.or_true, Bool.or_false, Bool.true_or, Bool.false_or, not_true_eq_false, not_false_eq_true, Bool.not_true, Bool.not_false, eq_self, Nat.reduceEqDiff]; done) | (simp only [M_forget, c1, if_true, if_false, reduceIte, Bool.false_eq_true, reduceCtorEq, decide_true, decide_false, Bool.and_true, Bool.and_false, Bool.true_and, Bool.false_and, Bool.or_true, Bool.or_false, Bool.true_or, Bool.false_or, not_true_eq_false, not_false_eq_true, Bool.not_true, Bool.not_false, eq_self, Nat.reduceEqDiff]; rfl) | contradiction | (exfalso; omega)))
  · replace c1 := bI_n0.mp c1
    refine v_bipush (x := (-5 : Int32)) hX dX3_forgetOnPurpose_14 (by decide) ?_
    refine v_goto (tgt := 25) hX dX3_forgetOnPurpose_16 (by decide) ?_
    exact v_iret hX hr hsz dX3_forgetOnPurpose_25 rfl rfl (by (first | rfl | (simp only [M_forget, c1, if_true, if_false, reduceIte, Bool.false_eq_true, reduceCtorEq, decide_true, decide_false, Bool.and_true, Bool.and_false, Bool.true_and, Bool.false_and, Bool.or_true, Bool.or_false, Bool.true_or, Bool.false_or, not_true_eq_false, not_false_eq_true, Bool.not_true, Bool.not_false, eq_self, Nat.reduceEqDiff]; done) | (simp only [M_forget, c1, if_true, if_false, reduceIte, Bool.false_eq_true, reduceCtorEq, decide_true, decide_false, Bool.and_true, Bool.and_false, Bool.true_and, Bool.false_and, Bool.or_true, Bool.or_false, Bool.true_or, Bool.false_or, not_true_eq_false, not_false_eq_true, Bool.not_true, Bool.not_false, eq_self, Nat.reduceEqDiff]; rfl) | contradiction | (exfalso; omega))) (by (first | rfl | (simp only [M_forget, c1, if_true, if_false, reduceIte, Bool.false_eq_true, reduceCtorEq, decide_true, decide_false, Bool.and_true, Bool.and_false, Bool.true_and, Bool.false_and, Bool.or_true, Bool.or_false, Bool.true_or, Bool.false_or, not_true_eq_false, not_false_eq_true, Bool.not_true, Bool.not_false, eq_self, Nat.reduceEqDiff]; done) | (simp only [M_forget, c1, if_true, if_false, reduceIte, Bool.false_eq_true, reduceCtorEq, decide_true, decide_false, Bool.and_true, Bool.and_false, Bool.true_and, Bool.false_and, Bool.or_true, Bool.or_false, Bool.true_or, Bool.false_or, not_true_eq_false, not_false_eq_true, Bool.not_true, Bool.not_false, eq_self, Nat.reduceEqDiff]; rfl) | contradiction | (exfalso; omega)))
set_option maxHeartbeats 4000000 in
set_option maxRecDepth 100000 in
theorem c_X3_valueForReader (l : Launch) (E : ET) (a : Nat → Nat) (sz : Nat) (v : MV) (n : Fin 256) : Met l yX3_valueForReader wsX3_valueForReader ({ frames := 2, cells := 0, slots := 0, locals := 41 }) (mPc E [.ref (a 0), .int (nI (n).val)] sz (wM E a v)) (mQi E (M_vfr v n) (wM E a v) (wM E a v) sz) 0 0 (va_A (wM E a v) sz) := by
  refine v_start (cc := cX3_valueForReader) (maxL := 3) (ret := (some .int)) (by decide) rfl (Nat.le_of_ble_eq_true rfl) rfl ?_
  intro p e s m args below meth c hsz hr hX
  have hX : Xc p s m args meth c E 3 (va_A (wM E a v) sz) cX3_valueForReader RX3 wsX3_valueForReader := hX
  have in_X3 : ∀ w ∈ u_ws RX3 TX3 6, w ∈ wsX3_valueForReader := by decide +kernel
  have fl_9 : Cond.fieldLink RX3 9 RX3 "memory" "[I" ∈ wsX3_valueForReader := by decide +kernel
  have fl_17 : Cond.fieldLink RX3 17 RX3 "cores" "[LSnoopFilter$Core;" ∈ wsX3_valueForReader := by decide +kernel
  have in_X0 : ∀ w ∈ u_ws RX0 TX0 5, w ∈ wsX3_valueForReader := by decide +kernel
  have fl_40 : Cond.fieldLink RX3 40 RX0 "values" "[I" ∈ wsX3_valueForReader := by decide +kernel
  have hlt_n := n.isLt
  refine v_iconst (x := (0 : Int32)) hX dX3_valueForReader_0 (by decide) ?_
  refine v_istore_n (lv' := [.ref (a 0), .int (nI (n).val), .int ((0 : Int32))]) hX dX3_valueForReader_1 (Nat.le_of_ble_eq_true rfl) (Nat.le_of_ble_eq_true rfl) rfl rfl ?_
  have loop_2 : ∀ (fu i : Nat), i + fu = 4 → fstS (M_vfrF v n) i = none → V p l e ({ frames := 2, cells := 0, slots := 0, locals := 41 } : Room) s m args below meth c E 3 (va_A (wM E a v) sz) (MQ below (mQi E (M_vfr v n) (wM E a v) (wM E a v) sz) args s 0 0 (va_A (wM E a v) sz)) (wM E a v) [.ref (a 0), .int (nI (n).val), .int (nI (i))] 2 [] := by
    intro fu
    induction fu with
    | zero =>
      intro i  hin inv0
      have hi0 : i = 4 := by omega
      subst hi0
      refine v_iload_n hX dX3_valueForReader_2 rfl ?_
      refine v_iconst (x := (4 : Int32)) hX dX3_valueForReader_3 (by decide) ?_
      refine v_icmp_ge (tgt := 41) hX dX3_valueForReader_4 (by decide) (fun c1 => ?_) (fun c1 => ?_)
      · replace c1 := (nI_leI (a := 4) (b := 4) (by omega) (by omega)).mp c1
        refine v_aload_n hX dX3_valueForReader_41 rfl ?_
        refine v_get (C := RX3) (T := TX3) (N := 6) (ci := 3) (v := .ref (a 1)) hX in_X3 0 rfl rfl 0 (by decide) fl_9 rfl rfl dX3_valueForReader_42 ?_
        refine v_iload_n hX dX3_valueForReader_45 rfl ?_
        refine v_iald (z := v.1 ((n).val)) hX 1 rfl (vp_in_nI (by omega : (n).val < 256) (by omega)) (by simp only [nI_clamp (show (n).val < 2 ^ 31 by omega)]) dX3_valueForReader_46 ?_
        exact v_iret hX hr hsz dX3_valueForReader_47 rfl rfl (by (first | rfl | (simp only [M_vfr, inv0, c1, if_true, if_false, reduceIte, Bool.false_eq_true, reduceCtorEq, decide_true, decide_false, Bool.and_true, Bool.and_false, Bool.true_and, Bool.false_and, Bool.or_true, Bool.or_false, Bool.true_or, Bool.false_or, not_true_eq_false, not_false_eq_true, Bool.not_true, Bool.not_false, eq_self, Nat.reduceEqDiff]; done) | (simp only [M_vfr, inv0, c1, if_true, if_false, reduceIte, Bool.false_eq_true, reduceCtorEq, decide_true, decide_false, Bool.and_true, Bool.and_false, Bool.true_and, Bool.false_and, Bool.or_true, Bool.or_false, Bool.true_or, Bool.false_or, not_true_eq_false, not_false_eq_true, Bool.not_true, Bool.not_false, eq_self, Nat.reduceEqDiff]; rfl) | contradiction | (exfalso; omega))) rfl
      · replace c1 := (not_congr (nI_leI (a := 4) (b := 4) (by omega) (by omega))).mp c1
        first | (exfalso; omega) | exact absurd c1 (by decide) | exact absurd (by decide) c1
    | succ fu ih =>
      intro i  hin inv0
      refine v_iload_n hX dX3_valueForReader_2 rfl ?_
      refine v_iconst (x := (4 : Int32)) hX dX3_valueForReader_3 (by decide) ?_
      refine v_icmp_ge (tgt := 41) hX dX3_valueForReader_4 (by decide) (fun c2 => ?_) (fun c2 => ?_)
      · replace c2 := (nI_leI (a := 4) (b := i) (by omega) (by omega)).mp c2
        first | (exfalso; omega) | exact absurd c2 (by decide) | exact absurd (by decide) c2
      · replace c2 := (not_congr (nI_leI (a := 4) (b := i) (by omega) (by omega))).mp c2
        refine v_aload_n hX dX3_valueForReader_7 rfl ?_
        refine v_get (C := RX3) (T := TX3) (N := 6) (ci := 3) (v := .ref (a 2)) hX in_X3 0 rfl rfl 1 (by decide) fl_17 rfl rfl dX3_valueForReader_8 ?_
        refine v_iload_n hX dX3_valueForReader_11 rfl ?_
        refine v_aaldK (b := a (3 + 9 * (i))) hX 2 rfl (vp_in_nI (by omega : i < 4) (by omega)) (by simp only [nI_clamp (show i < 2 ^ 31 by omega)]) dX3_valueForReader_12 ?_
        refine v_iload_n hX dX3_valueForReader_13 rfl ?_
        refine v_callVi (r := bI (K_holds (v.2.1 i) n)) (rest := []) (ws' := wM E a v) hX (fun sz => c_X0_holds l E (kA a i) sz (v.2.1 i) n) (cwV 1 hX.2.2.2.2.1 gX3_valueForReader_X0_holds rfl rfl rfl (by decide +kernel) ⟨Nat.le_of_ble_eq_true rfl, Nat.le_of_ble_eq_true rfl⟩) (mPre E a v i) (mPost E a v i) (wM_cut E a v (by omega : i < 4)) (wM_cut E a v (by omega : i < 4)).symm (wK_fst E (kA a i) _ _) (ci := 0) (q0 := 0) rfl rfl rfl rfl rfl (Nat.le_of_ble_eq_true rfl) dX3_valueForReader_14 ?_
        refine v_if_eq (tgt := 35) hX dX3_valueForReader_17 (by decide) (fun c3 => ?_) (fun c3 => ?_)
        · replace c3 := bI_0.mp c3
          refine v_iinc (y := nI (i + 1)) (lv' := [.ref (a 0), .int (nI (n).val), .int (nI (i + 1))]) hX dX3_valueForReader_35 rfl (nI_inc _) (Nat.le_of_ble_eq_true rfl) (Nat.le_of_ble_eq_true rfl) rfl rfl ?_
          refine v_goto (tgt := 2) hX dX3_valueForReader_38 (by decide) ?_
          exact ih (i + 1)  (by omega) (fstS_no _ inv0 (by simp only [M_vfrF, c3, if_true, if_false, reduceIte, Bool.false_eq_true, reduceCtorEq]))
        · replace c3 := bI_n0.mp c3
          refine v_aload_n hX dX3_valueForReader_20 rfl ?_
          refine v_get (C := RX3) (T := TX3) (N := 6) (ci := 3) (v := .ref (a 2)) hX in_X3 0 rfl rfl 1 (by decide) fl_17 rfl rfl dX3_valueForReader_21 ?_
          refine v_iload_n hX dX3_valueForReader_24 rfl ?_
          refine v_aaldK (b := a (3 + 9 * (i))) hX 2 rfl (vp_in_nI (by omega : i < 4) (by omega)) (by simp only [nI_clamp (show i < 2 ^ 31 by omega)]) dX3_valueForReader_25 ?_
          refine v_get (C := RX0) (T := TX0) (N := 5) (ci := 0) (v := .ref ((kA a i) 2)) hX in_X0 _ (mAt E a v (by omega : i < 4) 0 rfl) rfl 1 (by decide) fl_40 rfl rfl dX3_valueForReader_26 ?_
          refine v_iload_n hX dX3_valueForReader_29 rfl ?_
          refine v_callSi (r := nI (((n).val) % 8)) (rest := [.ref ((kA a i) 2)]) (ws' := wM E a v) hX (fun sz => c_X0_placeOf l E sz ((n).val) (by first | omega | exact Nat.le_of_ble_eq_true rfl | assumption | decide)) (va_cwS 1 hX.2.2.2.2.1 gX3_valueForReader_X0_placeOf rfl rfl rfl (by decide +kernel) ⟨Nat.le_of_ble_eq_true rfl, Nat.le_of_ble_eq_true rfl⟩) ([]) (wM E a v) (rfl) rfl (rfl) rfl rfl (Nat.le_of_ble_eq_true rfl) dX3_valueForReader_30 ?_
          refine v_iald (z := (v.2.1 i).2.1 (((n).val) % 8)) hX _ (mAt E a v (by omega : i < 4) 2 rfl) (vp_in_nI (by omega : ((n).val) % 8 < 8) (by omega)) (by simp only [nI_clamp (show ((n).val) % 8 < 2 ^ 31 by omega)]) dX3_valueForReader_33 ?_
          exact v_iret hX hr hsz dX3_valueForReader_34 rfl rfl (by (simp only [M_vfr, fstS_at (M_vfrF v n) inv0 (n := 4) (x := (v.2.1 i).2.1 (n.val % 8)) (by simp only [M_vfrF, c3, if_true, if_false, reduceIte, Bool.false_eq_true, reduceCtorEq]) (by omega)])) rfl
  exact loop_2 4 0  (by omega) rfl
set_option maxHeartbeats 4000000 in
set_option maxRecDepth 100000 in
theorem c_X3_holdersOf (l : Launch) (E : ET) (a : Nat → Nat) (sz : Nat) (v : MV) (n : Fin 256) : Met l yX3_holdersOf wsX3_holdersOf ({ frames := 2, cells := 0, slots := 0, locals := 41 }) (mPc E [.ref (a 0), .int (nI (n).val)] sz (wM E a v)) (mQi E (M_holders v n) (wM E a v) (wM E a v) sz) 0 0 (va_A (wM E a v) sz) := by
  refine v_start (cc := cX3_holdersOf) (maxL := 4) (ret := (some .int)) (by decide) rfl (Nat.le_of_ble_eq_true rfl) rfl ?_
  intro p e s m args below meth c hsz hr hX
  have hX : Xc p s m args meth c E 4 (va_A (wM E a v) sz) cX3_holdersOf RX3 wsX3_holdersOf := hX
  have in_X3 : ∀ w ∈ u_ws RX3 TX3 6, w ∈ wsX3_holdersOf := by decide +kernel
  have fl_17 : Cond.fieldLink RX3 17 RX3 "cores" "[LSnoopFilter$Core;" ∈ wsX3_holdersOf := by decide +kernel
  have hlt_n := n.isLt
  refine v_iconst (x := (0 : Int32)) hX dX3_holdersOf_0 (by decide) ?_
  refine v_istore_n (lv' := [.ref (a 0), .int (nI (n).val), .int ((0 : Int32))]) hX dX3_holdersOf_1 (Nat.le_of_ble_eq_true rfl) (Nat.le_of_ble_eq_true rfl) rfl rfl ?_
  refine v_iconst (x := (0 : Int32)) hX dX3_holdersOf_2 (by decide) ?_
  refine v_istore_n (lv' := [.ref (a 0), .int (nI (n).val), .int ((0 : Int32)), .int ((0 : Int32))]) hX dX3_holdersOf_3 (Nat.le_of_ble_eq_true rfl) (Nat.le_of_ble_eq_true rfl) rfl rfl ?_
  have loop_4 : ∀ (fu i : Nat), i + fu = 4 → V p l e ({ frames := 2, cells := 0, slots := 0, locals := 41 } : Room) s m args below meth c E 4 (va_A (wM E a v) sz) (MQ below (mQi E (M_holders v n) (wM E a v) (wM E a v) sz) args s 0 0 (va_A (wM E a v) sz)) (wM E a v) [.ref (a 0), .int (nI (n).val), .int (it (M_holdersF v n) i 0), .int (nI (i))] 4 [] := by
    intro fu
    induction fu with
    | zero =>
      intro i  hin 
      have hi0 : i = 4 := by omega
      subst hi0
      refine v_iload_n hX dX3_holdersOf_4 rfl ?_
      refine v_iconst (x := (4 : Int32)) hX dX3_holdersOf_5 (by decide) ?_
      refine v_icmp_ge (tgt := 34) hX dX3_holdersOf_6 (by decide) (fun c1 => ?_) (fun c1 => ?_)
      · replace c1 := (nI_leI (a := 4) (b := 4) (by omega) (by omega)).mp c1
        refine v_iload_n hX dX3_holdersOf_34 rfl ?_
        exact v_iret hX hr hsz dX3_holdersOf_35 rfl rfl (by (first | rfl | (simp only [M_holders, c1, if_true, if_false, reduceIte, Bool.false_eq_true, reduceCtorEq, decide_true, decide_false, Bool.and_true, Bool.and_false, Bool.true_and, Bool.false_and, Bool.or_true, Bool.or_false, Bool.true_or, Bool.false_or, not_true_eq_false, not_false_eq_true, Bool.not_true, Bool.not_false, eq_self, Nat.reduceEqDiff]; done) | (simp only [M_holders, c1, if_true, if_false, reduceIte, Bool.false_eq_true, reduceCtorEq, decide_true, decide_false, Bool.and_true, Bool.and_false, Bool.true_and, Bool.false_and, Bool.or_true, Bool.or_false, Bool.true_or, Bool.false_or, not_true_eq_false, not_false_eq_true, Bool.not_true, Bool.not_false, eq_self, Nat.reduceEqDiff]; rfl) | contradiction | (exfalso; omega))) rfl
      · replace c1 := (not_congr (nI_leI (a := 4) (b := 4) (by omega) (by omega))).mp c1
        first | (exfalso; omega) | exact absurd c1 (by decide) | exact absurd (by decide) c1
    | succ fu ih =>
      intro i  hin 
      refine v_iload_n hX dX3_holdersOf_4 rfl ?_
      refine v_iconst (x := (4 : Int32)) hX dX3_holdersOf_5 (by decide) ?_
      refine v_icmp_ge (tgt := 34) hX dX3_holdersOf_6 (by decide) (fun c2 => ?_) (fun c2 => ?_)
      · replace c2 := (nI_leI (a := 4) (b := i) (by omega) (by omega)).mp c2
        first | (exfalso; omega) | exact absurd c2 (by decide) | exact absurd (by decide) c2
      · replace c2 := (not_congr (nI_leI (a := 4) (b := i) (by omega) (by omega))).mp c2
        refine v_aload_n hX dX3_holdersOf_9 rfl ?_
        refine v_get (C := RX3) (T := TX3) (N := 6) (ci := 3) (v := .ref (a 2)) hX in_X3 0 rfl rfl 1 (by decide) fl_17 rfl rfl dX3_holdersOf_10 ?_
        refine v_iload_n hX dX3_holdersOf_13 rfl ?_
        refine v_aaldK (b := a (3 + 9 * (i))) hX 2 rfl (vp_in_nI (by omega : i < 4) (by omega)) (by simp only [nI_clamp (show i < 2 ^ 31 by omega)]) dX3_holdersOf_14 ?_
        refine v_iload_n hX dX3_holdersOf_15 rfl ?_
        refine v_callVi (r := bI (K_holds (v.2.1 i) n)) (rest := []) (ws' := wM E a v) hX (fun sz => c_X0_holds l E (kA a i) sz (v.2.1 i) n) (cwV 1 hX.2.2.2.2.1 gX3_holdersOf_X0_holds rfl rfl rfl (by decide +kernel) ⟨Nat.le_of_ble_eq_true rfl, Nat.le_of_ble_eq_true rfl⟩) (mPre E a v i) (mPost E a v i) (wM_cut E a v (by omega : i < 4)) (wM_cut E a v (by omega : i < 4)).symm (wK_fst E (kA a i) _ _) (ci := 0) (q0 := 0) rfl rfl rfl rfl rfl (Nat.le_of_ble_eq_true rfl) dX3_holdersOf_16 ?_
        refine v_if_eq (tgt := 28) hX dX3_holdersOf_19 (by decide) (fun c3 => ?_) (fun c3 => ?_)
        · replace c3 := bI_0.mp c3
          refine v_iinc (y := nI (i + 1)) (lv' := [.ref (a 0), .int (nI (n).val), .int (it (M_holdersF v n) i 0), .int (nI (i + 1))]) hX dX3_holdersOf_28 rfl (nI_inc _) (Nat.le_of_ble_eq_true rfl) (Nat.le_of_ble_eq_true rfl) rfl rfl ?_
          refine v_goto (tgt := 4) hX dX3_holdersOf_31 (by decide) ?_
          have e4 : it (M_holdersF v n) i 0 = it (M_holdersF v n) (i + 1) 0 := by first | rfl | (simp only [M_holdersF, c2, c3, it, if_true, if_false, reduceIte, Bool.false_eq_true, Bool.and_true, Bool.and_false, Bool.true_and, Bool.false_and, not_true_eq_false, not_false_eq_true, eq_self, ne_eq, reduceCtorEq, decide_true, decide_false, Bool.not_true, Bool.not_false]; done) | (simp only [M_holdersF, c2, c3, it, if_true, if_false, reduceIte, Bool.false_eq_true, Bool.and_true, Bool.and_false, Bool.true_and, Bool.false_and, not_true_eq_false, not_false_eq_true, eq_self, ne_eq, reduceCtorEq, decide_true, decide_false, Bool.not_true, Bool.not_false]; rfl)
          rw [e4]
          exact ih (i + 1)  (by omega) 
        · replace c3 := bI_n0.mp c3
          refine v_iload_n hX dX3_holdersOf_22 rfl ?_
          refine v_iconst (x := (1 : Int32)) hX dX3_holdersOf_23 (by decide) ?_
          refine v_iload_n hX dX3_holdersOf_24 rfl ?_
          refine v_ishl (z := ((1 : Int32) <<< (nI (i) &&& 31))) hX dX3_holdersOf_25 (rfl) ?_
          refine v_ior (z := (it (M_holdersF v n) i 0 ||| ((1 : Int32) <<< (nI (i) &&& 31)))) hX dX3_holdersOf_26 (rfl) ?_
          refine v_istore_n (lv' := [.ref (a 0), .int (nI (n).val), .int ((it (M_holdersF v n) i 0 ||| ((1 : Int32) <<< (nI (i) &&& 31)))), .int (nI (i))]) hX dX3_holdersOf_27 (Nat.le_of_ble_eq_true rfl) (Nat.le_of_ble_eq_true rfl) rfl rfl ?_
          refine v_iinc (y := nI (i + 1)) (lv' := [.ref (a 0), .int (nI (n).val), .int ((it (M_holdersF v n) i 0 ||| ((1 : Int32) <<< (nI (i) &&& 31)))), .int (nI (i + 1))]) hX dX3_holdersOf_28 rfl (nI_inc _) (Nat.le_of_ble_eq_true rfl) (Nat.le_of_ble_eq_true rfl) rfl rfl ?_
          refine v_goto (tgt := 4) hX dX3_holdersOf_31 (by decide) ?_
          have e5 : (it (M_holdersF v n) i 0 ||| ((1 : Int32) <<< (nI (i) &&& 31))) = it (M_holdersF v n) (i + 1) 0 := by first | rfl | (simp only [M_holdersF, c2, c3, it, if_true, if_false, reduceIte, Bool.false_eq_true, Bool.and_true, Bool.and_false, Bool.true_and, Bool.false_and, not_true_eq_false, not_false_eq_true, eq_self, ne_eq, reduceCtorEq, decide_true, decide_false, Bool.not_true, Bool.not_false]; done) | (simp only [M_holdersF, c2, c3, it, if_true, if_false, reduceIte, Bool.false_eq_true, Bool.and_true, Bool.and_false, Bool.true_and, Bool.false_and, not_true_eq_false, not_false_eq_true, eq_self, ne_eq, reduceCtorEq, decide_true, decide_false, Bool.not_true, Bool.not_false]; rfl)
          rw [e5]
          exact ih (i + 1)  (by omega) 
  exact loop_4 4 0  (by omega) 
set_option maxHeartbeats 4000000 in
set_option maxRecDepth 100000 in
theorem c_X3_coresThatMayHave (l : Launch) (E : ET) (a : Nat → Nat) (sz : Nat) (v : MV) (n : Fin 256) : Met l yX3_coresThatMayHave wsX3_coresThatMayHave ({ frames := 2, cells := 0, slots := 0, locals := 42 }) (mPc E [.ref (a 0), .int (nI (n).val)] sz (wM E a v)) (mQi E (M_mays v n) (wM E a v) (wM E a v) sz) 0 0 (va_A (wM E a v) sz) := by
  refine v_start (cc := cX3_coresThatMayHave) (maxL := 4) (ret := (some .int)) (by decide) rfl (Nat.le_of_ble_eq_true rfl) rfl ?_
  intro p e s m args below meth c hsz hr hX
  have hX : Xc p s m args meth c E 4 (va_A (wM E a v) sz) cX3_coresThatMayHave RX3 wsX3_coresThatMayHave := hX
  have in_X3 : ∀ w ∈ u_ws RX3 TX3 6, w ∈ wsX3_coresThatMayHave := by decide +kernel
  have fl_17 : Cond.fieldLink RX3 17 RX3 "cores" "[LSnoopFilter$Core;" ∈ wsX3_coresThatMayHave := by decide +kernel
  have in_X0 : ∀ w ∈ u_ws RX0 TX0 5, w ∈ wsX3_coresThatMayHave := by decide +kernel
  have fl_83 : Cond.fieldLink RX3 83 RX0 "filter" "LSnoopFilter$Filter;" ∈ wsX3_coresThatMayHave := by decide +kernel
  have hlt_n := n.isLt
  refine v_iconst (x := (0 : Int32)) hX dX3_coresThatMayHave_0 (by decide) ?_
  refine v_istore_n (lv' := [.ref (a 0), .int (nI (n).val), .int ((0 : Int32))]) hX dX3_coresThatMayHave_1 (Nat.le_of_ble_eq_true rfl) (Nat.le_of_ble_eq_true rfl) rfl rfl ?_
  refine v_iconst (x := (0 : Int32)) hX dX3_coresThatMayHave_2 (by decide) ?_
  refine v_istore_n (lv' := [.ref (a 0), .int (nI (n).val), .int ((0 : Int32)), .int ((0 : Int32))]) hX dX3_coresThatMayHave_3 (Nat.le_of_ble_eq_true rfl) (Nat.le_of_ble_eq_true rfl) rfl rfl ?_
  have loop_4 : ∀ (fu i : Nat), i + fu = 4 → V p l e ({ frames := 2, cells := 0, slots := 0, locals := 42 } : Room) s m args below meth c E 4 (va_A (wM E a v) sz) (MQ below (mQi E (M_mays v n) (wM E a v) (wM E a v) sz) args s 0 0 (va_A (wM E a v) sz)) (wM E a v) [.ref (a 0), .int (nI (n).val), .int (it (M_maysF v n) i 0), .int (nI (i))] 4 [] := by
    intro fu
    induction fu with
    | zero =>
      intro i  hin 
      have hi0 : i = 4 := by omega
      subst hi0
      refine v_iload_n hX dX3_coresThatMayHave_4 rfl ?_
      refine v_iconst (x := (4 : Int32)) hX dX3_coresThatMayHave_5 (by decide) ?_
      refine v_icmp_ge (tgt := 37) hX dX3_coresThatMayHave_6 (by decide) (fun c1 => ?_) (fun c1 => ?_)
      · replace c1 := (nI_leI (a := 4) (b := 4) (by omega) (by omega)).mp c1
        refine v_iload_n hX dX3_coresThatMayHave_37 rfl ?_
        exact v_iret hX hr hsz dX3_coresThatMayHave_38 rfl rfl (by (first | rfl | (simp only [M_mays, c1, if_true, if_false, reduceIte, Bool.false_eq_true, reduceCtorEq, decide_true, decide_false, Bool.and_true, Bool.and_false, Bool.true_and, Bool.false_and, Bool.or_true, Bool.or_false, Bool.true_or, Bool.false_or, not_true_eq_false, not_false_eq_true, Bool.not_true, Bool.not_false, eq_self, Nat.reduceEqDiff]; done) | (simp only [M_mays, c1, if_true, if_false, reduceIte, Bool.false_eq_true, reduceCtorEq, decide_true, decide_false, Bool.and_true, Bool.and_false, Bool.true_and, Bool.false_and, Bool.or_true, Bool.or_false, Bool.true_or, Bool.false_or, not_true_eq_false, not_false_eq_true, Bool.not_true, Bool.not_false, eq_self, Nat.reduceEqDiff]; rfl) | contradiction | (exfalso; omega))) rfl
      · replace c1 := (not_congr (nI_leI (a := 4) (b := 4) (by omega) (by omega))).mp c1
        first | (exfalso; omega) | exact absurd c1 (by decide) | exact absurd (by decide) c1
    | succ fu ih =>
      intro i  hin 
      refine v_iload_n hX dX3_coresThatMayHave_4 rfl ?_
      refine v_iconst (x := (4 : Int32)) hX dX3_coresThatMayHave_5 (by decide) ?_
      refine v_icmp_ge (tgt := 37) hX dX3_coresThatMayHave_6 (by decide) (fun c2 => ?_) (fun c2 => ?_)
      · replace c2 := (nI_leI (a := 4) (b := i) (by omega) (by omega)).mp c2
        first | (exfalso; omega) | exact absurd c2 (by decide) | exact absurd (by decide) c2
      · replace c2 := (not_congr (nI_leI (a := 4) (b := i) (by omega) (by omega))).mp c2
        refine v_aload_n hX dX3_coresThatMayHave_9 rfl ?_
        refine v_get (C := RX3) (T := TX3) (N := 6) (ci := 3) (v := .ref (a 2)) hX in_X3 0 rfl rfl 1 (by decide) fl_17 rfl rfl dX3_coresThatMayHave_10 ?_
        refine v_iload_n hX dX3_coresThatMayHave_13 rfl ?_
        refine v_aaldK (b := a (3 + 9 * (i))) hX 2 rfl (vp_in_nI (by omega : i < 4) (by omega)) (by simp only [nI_clamp (show i < 2 ^ 31 by omega)]) dX3_coresThatMayHave_14 ?_
        refine v_get (C := RX0) (T := TX0) (N := 5) (ci := 0) (v := .ref ((kA a i) 5)) hX in_X0 _ (mAt E a v (by omega : i < 4) 0 rfl) rfl 4 (by decide) fl_83 rfl rfl dX3_coresThatMayHave_15 ?_
        refine v_iload_n hX dX3_coresThatMayHave_18 rfl ?_
        refine v_callVi (r := bI (F_may ((v.2.1 i).2.2.2.2) ((n).val))) (rest := []) (ws' := wM E a v) hX (fun sz => c_X1_mayHave l E (fA (kA a i)) sz ((v.2.1 i).2.2.2.2) ((n).val) (by first | omega | exact Nat.le_of_ble_eq_true rfl | assumption | decide)) (cwV 1 hX.2.2.2.2.1 gX3_coresThatMayHave_X1_mayHave rfl rfl rfl (by decide +kernel) ⟨Nat.le_of_ble_eq_true rfl, Nat.le_of_ble_eq_true rfl⟩) (fPre E a v i) (mPost E a v i) (wM_cutF E a v (by omega : i < 4)) (wM_cutF E a v (by omega : i < 4)).symm (wF_fst E (fA (kA a i)) _ _) (ci := 1) (q0 := 0) rfl rfl rfl rfl rfl (Nat.le_of_ble_eq_true rfl) dX3_coresThatMayHave_19 ?_
        refine v_if_eq (tgt := 31) hX dX3_coresThatMayHave_22 (by decide) (fun c3 => ?_) (fun c3 => ?_)
        · replace c3 := bI_0.mp c3
          refine v_iinc (y := nI (i + 1)) (lv' := [.ref (a 0), .int (nI (n).val), .int (it (M_maysF v n) i 0), .int (nI (i + 1))]) hX dX3_coresThatMayHave_31 rfl (nI_inc _) (Nat.le_of_ble_eq_true rfl) (Nat.le_of_ble_eq_true rfl) rfl rfl ?_
          refine v_goto (tgt := 4) hX dX3_coresThatMayHave_34 (by decide) ?_
          have e4 : it (M_maysF v n) i 0 = it (M_maysF v n) (i + 1) 0 := by first | rfl | (simp only [M_maysF, c2, c3, it, if_true, if_false, reduceIte, Bool.false_eq_true, Bool.and_true, Bool.and_false, Bool.true_and, Bool.false_and, not_true_eq_false, not_false_eq_true, eq_self, ne_eq, reduceCtorEq, decide_true, decide_false, Bool.not_true, Bool.not_false]; done) | (simp only [M_maysF, c2, c3, it, if_true, if_false, reduceIte, Bool.false_eq_true, Bool.and_true, Bool.and_false, Bool.true_and, Bool.false_and, not_true_eq_false, not_false_eq_true, eq_self, ne_eq, reduceCtorEq, decide_true, decide_false, Bool.not_true, Bool.not_false]; rfl)
          rw [e4]
          exact ih (i + 1)  (by omega) 
        · replace c3 := bI_n0.mp c3
          refine v_iload_n hX dX3_coresThatMayHave_25 rfl ?_
          refine v_iconst (x := (1 : Int32)) hX dX3_coresThatMayHave_26 (by decide) ?_
          refine v_iload_n hX dX3_coresThatMayHave_27 rfl ?_
          refine v_ishl (z := ((1 : Int32) <<< (nI (i) &&& 31))) hX dX3_coresThatMayHave_28 (rfl) ?_
          refine v_ior (z := (it (M_maysF v n) i 0 ||| ((1 : Int32) <<< (nI (i) &&& 31)))) hX dX3_coresThatMayHave_29 (rfl) ?_
          refine v_istore_n (lv' := [.ref (a 0), .int (nI (n).val), .int ((it (M_maysF v n) i 0 ||| ((1 : Int32) <<< (nI (i) &&& 31)))), .int (nI (i))]) hX dX3_coresThatMayHave_30 (Nat.le_of_ble_eq_true rfl) (Nat.le_of_ble_eq_true rfl) rfl rfl ?_
          refine v_iinc (y := nI (i + 1)) (lv' := [.ref (a 0), .int (nI (n).val), .int ((it (M_maysF v n) i 0 ||| ((1 : Int32) <<< (nI (i) &&& 31)))), .int (nI (i + 1))]) hX dX3_coresThatMayHave_31 rfl (nI_inc _) (Nat.le_of_ble_eq_true rfl) (Nat.le_of_ble_eq_true rfl) rfl rfl ?_
          refine v_goto (tgt := 4) hX dX3_coresThatMayHave_34 (by decide) ?_
          have e5 : (it (M_maysF v n) i 0 ||| ((1 : Int32) <<< (nI (i) &&& 31))) = it (M_maysF v n) (i + 1) 0 := by first | rfl | (simp only [M_maysF, c2, c3, it, if_true, if_false, reduceIte, Bool.false_eq_true, Bool.and_true, Bool.and_false, Bool.true_and, Bool.false_and, not_true_eq_false, not_false_eq_true, eq_self, ne_eq, reduceCtorEq, decide_true, decide_false, Bool.not_true, Bool.not_false]; done) | (simp only [M_maysF, c2, c3, it, if_true, if_false, reduceIte, Bool.false_eq_true, Bool.and_true, Bool.and_false, Bool.true_and, Bool.false_and, not_true_eq_false, not_false_eq_true, eq_self, ne_eq, reduceCtorEq, decide_true, decide_false, Bool.not_true, Bool.not_false]; rfl)
          rw [e5]
          exact ih (i + 1)  (by omega) 
  exact loop_4 4 0  (by omega) 
set_option maxHeartbeats 4000000 in
set_option maxRecDepth 100000 in
theorem c_X3_sumOf (l : Launch) (E : ET) (a : Nat → Nat) (sz : Nat) (v : MV) (t : Nat) (ht : t < 6) : Met l yX3_sumOf wsX3_sumOf ({ frames := 0, cells := 0, slots := 0, locals := 0 }) (mPc E [.ref (a 0), .int (nI (t))] sz (wM E a v)) (mQi E (M_sum v t) (wM E a v) (wM E a v) sz) 0 0 (va_A (wM E a v) sz) := by
  refine v_start (cc := cX3_sumOf) (maxL := 4) (ret := (some .int)) (by decide) rfl (Nat.le_of_ble_eq_true rfl) rfl ?_
  intro p e s m args below meth c hsz hr hX
  have hX : Xc p s m args meth c E 4 (va_A (wM E a v) sz) cX3_sumOf RX3 wsX3_sumOf := hX
  have in_X3 : ∀ w ∈ u_ws RX3 TX3 6, w ∈ wsX3_sumOf := by decide +kernel
  have fl_17 : Cond.fieldLink RX3 17 RX3 "cores" "[LSnoopFilter$Core;" ∈ wsX3_sumOf := by decide +kernel
  have in_X0 : ∀ w ∈ u_ws RX0 TX0 5, w ∈ wsX3_sumOf := by decide +kernel
  have fl_37 : Cond.fieldLink RX3 37 RX0 "tallies" "[I" ∈ wsX3_sumOf := by decide +kernel
  refine v_iconst (x := (0 : Int32)) hX dX3_sumOf_0 (by decide) ?_
  refine v_istore_n (lv' := [.ref (a 0), .int (nI (t)), .int ((0 : Int32))]) hX dX3_sumOf_1 (Nat.le_of_ble_eq_true rfl) (Nat.le_of_ble_eq_true rfl) rfl rfl ?_
  refine v_iconst (x := (0 : Int32)) hX dX3_sumOf_2 (by decide) ?_
  refine v_istore_n (lv' := [.ref (a 0), .int (nI (t)), .int ((0 : Int32)), .int ((0 : Int32))]) hX dX3_sumOf_3 (Nat.le_of_ble_eq_true rfl) (Nat.le_of_ble_eq_true rfl) rfl rfl ?_
  have loop_4 : ∀ (fu i : Nat), i + fu = 4 → V p l e ({ frames := 0, cells := 0, slots := 0, locals := 0 } : Room) s m args below meth c E 4 (va_A (wM E a v) sz) (MQ below (mQi E (M_sum v t) (wM E a v) (wM E a v) sz) args s 0 0 (va_A (wM E a v) sz)) (wM E a v) [.ref (a 0), .int (nI (t)), .int (it (M_sumF v t) i 0), .int (nI (i))] 4 [] := by
    intro fu
    induction fu with
    | zero =>
      intro i  hin 
      have hi0 : i = 4 := by omega
      subst hi0
      refine v_iload_n hX dX3_sumOf_4 rfl ?_
      refine v_iconst (x := (4 : Int32)) hX dX3_sumOf_5 (by decide) ?_
      refine v_icmp_ge (tgt := 29) hX dX3_sumOf_6 (by decide) (fun c1 => ?_) (fun c1 => ?_)
      · replace c1 := (nI_leI (a := 4) (b := 4) (by omega) (by omega)).mp c1
        refine v_iload_n hX dX3_sumOf_29 rfl ?_
        exact v_iret hX hr hsz dX3_sumOf_30 rfl rfl (by (first | rfl | (simp only [M_sum, c1, if_true, if_false, reduceIte, Bool.false_eq_true, reduceCtorEq, decide_true, decide_false, Bool.and_true, Bool.and_false, Bool.true_and, Bool.false_and, Bool.or_true, Bool.or_false, Bool.true_or, Bool.false_or, not_true_eq_false, not_false_eq_true, Bool.not_true, Bool.not_false, eq_self, Nat.reduceEqDiff]; done) | (simp only [M_sum, c1, if_true, if_false, reduceIte, Bool.false_eq_true, reduceCtorEq, decide_true, decide_false, Bool.and_true, Bool.and_false, Bool.true_and, Bool.false_and, Bool.or_true, Bool.or_false, Bool.true_or, Bool.false_or, not_true_eq_false, not_false_eq_true, Bool.not_true, Bool.not_false, eq_self, Nat.reduceEqDiff]; rfl) | contradiction | (exfalso; omega))) rfl
      · replace c1 := (not_congr (nI_leI (a := 4) (b := 4) (by omega) (by omega))).mp c1
        first | (exfalso; omega) | exact absurd c1 (by decide) | exact absurd (by decide) c1
    | succ fu ih =>
      intro i  hin 
      refine v_iload_n hX dX3_sumOf_4 rfl ?_
      refine v_iconst (x := (4 : Int32)) hX dX3_sumOf_5 (by decide) ?_
      refine v_icmp_ge (tgt := 29) hX dX3_sumOf_6 (by decide) (fun c2 => ?_) (fun c2 => ?_)
      · replace c2 := (nI_leI (a := 4) (b := i) (by omega) (by omega)).mp c2
        first | (exfalso; omega) | exact absurd c2 (by decide) | exact absurd (by decide) c2
      · replace c2 := (not_congr (nI_leI (a := 4) (b := i) (by omega) (by omega))).mp c2
        refine v_iload_n hX dX3_sumOf_9 rfl ?_
        refine v_aload_n hX dX3_sumOf_10 rfl ?_
        refine v_get (C := RX3) (T := TX3) (N := 6) (ci := 3) (v := .ref (a 2)) hX in_X3 0 rfl rfl 1 (by decide) fl_17 rfl rfl dX3_sumOf_11 ?_
        refine v_iload_n hX dX3_sumOf_14 rfl ?_
        refine v_aaldK (b := a (3 + 9 * (i))) hX 2 rfl (vp_in_nI (by omega : i < 4) (by omega)) (by simp only [nI_clamp (show i < 2 ^ 31 by omega)]) dX3_sumOf_15 ?_
        refine v_get (C := RX0) (T := TX0) (N := 5) (ci := 0) (v := .ref ((kA a i) 4)) hX in_X0 _ (mAt E a v (by omega : i < 4) 0 rfl) rfl 3 (by decide) fl_37 rfl rfl dX3_sumOf_16 ?_
        refine v_iload_n hX dX3_sumOf_19 rfl ?_
        refine v_iald (z := (v.2.1 i).2.2.2.1 (t)) hX _ (mAt E a v (by omega : i < 4) 4 rfl) (vp_in_nI (by omega : t < 6) (by omega)) (by simp only [nI_clamp (show t < 2 ^ 31 by omega)]) dX3_sumOf_20 ?_
        refine v_iadd (z := (it (M_sumF v t) i 0 + (v.2.1 i).2.2.2.1 (t))) hX dX3_sumOf_21 (rfl) ?_
        refine v_istore_n (lv' := [.ref (a 0), .int (nI (t)), .int ((it (M_sumF v t) i 0 + (v.2.1 i).2.2.2.1 (t))), .int (nI (i))]) hX dX3_sumOf_22 (Nat.le_of_ble_eq_true rfl) (Nat.le_of_ble_eq_true rfl) rfl rfl ?_
        refine v_iinc (y := nI (i + 1)) (lv' := [.ref (a 0), .int (nI (t)), .int ((it (M_sumF v t) i 0 + (v.2.1 i).2.2.2.1 (t))), .int (nI (i + 1))]) hX dX3_sumOf_23 rfl (nI_inc _) (Nat.le_of_ble_eq_true rfl) (Nat.le_of_ble_eq_true rfl) rfl rfl ?_
        refine v_goto (tgt := 4) hX dX3_sumOf_26 (by decide) ?_
        have e3 : (it (M_sumF v t) i 0 + (v.2.1 i).2.2.2.1 (t)) = it (M_sumF v t) (i + 1) 0 := by first | rfl | (simp only [M_sumF, c2, it, if_true, if_false, reduceIte, Bool.false_eq_true, Bool.and_true, Bool.and_false, Bool.true_and, Bool.false_and, not_true_eq_false, not_false_eq_true, eq_self, ne_eq, reduceCtorEq, decide_true, decide_false, Bool.not_true, Bool.not_false]; done) | (simp only [M_sumF, c2, it, if_true, if_false, reduceIte, Bool.false_eq_true, Bool.and_true, Bool.and_false, Bool.true_and, Bool.false_and, not_true_eq_false, not_false_eq_true, eq_self, ne_eq, reduceCtorEq, decide_true, decide_false, Bool.not_true, Bool.not_false]; rfl)
        rw [e3]
        exact ih (i + 1)  (by omega) 
  exact loop_4 4 0  (by omega) 
set_option maxHeartbeats 4000000 in
set_option maxRecDepth 100000 in
theorem c_X3_heldByAll (l : Launch) (E : ET) (a : Nat → Nat) (sz : Nat) (v : MV) : Met l yX3_heldByAll wsX3_heldByAll ({ frames := 1, cells := 0, slots := 0, locals := 22 }) (mPc E [.ref (a 0)] sz (wM E a v)) (mQi E (M_held v) (wM E a v) (wM E a v) sz) 0 0 (va_A (wM E a v) sz) := by
  refine v_start (cc := cX3_heldByAll) (maxL := 3) (ret := (some .int)) (by decide) rfl (Nat.le_of_ble_eq_true rfl) rfl ?_
  intro p e s m args below meth c hsz hr hX
  have hX : Xc p s m args meth c E 3 (va_A (wM E a v) sz) cX3_heldByAll RX3 wsX3_heldByAll := hX
  have in_X3 : ∀ w ∈ u_ws RX3 TX3 6, w ∈ wsX3_heldByAll := by decide +kernel
  have fl_17 : Cond.fieldLink RX3 17 RX3 "cores" "[LSnoopFilter$Core;" ∈ wsX3_heldByAll := by decide +kernel
  refine v_iconst (x := (0 : Int32)) hX dX3_heldByAll_0 (by decide) ?_
  refine v_istore_n (lv' := [.ref (a 0), .int ((0 : Int32))]) hX dX3_heldByAll_1 (Nat.le_of_ble_eq_true rfl) (Nat.le_of_ble_eq_true rfl) rfl rfl ?_
  refine v_iconst (x := (0 : Int32)) hX dX3_heldByAll_2 (by decide) ?_
  refine v_istore_n (lv' := [.ref (a 0), .int ((0 : Int32)), .int ((0 : Int32))]) hX dX3_heldByAll_3 (Nat.le_of_ble_eq_true rfl) (Nat.le_of_ble_eq_true rfl) rfl rfl ?_
  have loop_4 : ∀ (fu i : Nat), i + fu = 4 → V p l e ({ frames := 1, cells := 0, slots := 0, locals := 22 } : Room) s m args below meth c E 3 (va_A (wM E a v) sz) (MQ below (mQi E (M_held v) (wM E a v) (wM E a v) sz) args s 0 0 (va_A (wM E a v) sz)) (wM E a v) [.ref (a 0), .int (it (M_heldF v) i 0), .int (nI (i))] 4 [] := by
    intro fu
    induction fu with
    | zero =>
      intro i  hin 
      have hi0 : i = 4 := by omega
      subst hi0
      refine v_iload_n hX dX3_heldByAll_4 rfl ?_
      refine v_iconst (x := (4 : Int32)) hX dX3_heldByAll_5 (by decide) ?_
      refine v_icmp_ge (tgt := 27) hX dX3_heldByAll_6 (by decide) (fun c1 => ?_) (fun c1 => ?_)
      · replace c1 := (nI_leI (a := 4) (b := 4) (by omega) (by omega)).mp c1
        refine v_iload_n hX dX3_heldByAll_27 rfl ?_
        exact v_iret hX hr hsz dX3_heldByAll_28 rfl rfl (by (first | rfl | (simp only [M_held, c1, if_true, if_false, reduceIte, Bool.false_eq_true, reduceCtorEq, decide_true, decide_false, Bool.and_true, Bool.and_false, Bool.true_and, Bool.false_and, Bool.or_true, Bool.or_false, Bool.true_or, Bool.false_or, not_true_eq_false, not_false_eq_true, Bool.not_true, Bool.not_false, eq_self, Nat.reduceEqDiff]; done) | (simp only [M_held, c1, if_true, if_false, reduceIte, Bool.false_eq_true, reduceCtorEq, decide_true, decide_false, Bool.and_true, Bool.and_false, Bool.true_and, Bool.false_and, Bool.or_true, Bool.or_false, Bool.true_or, Bool.false_or, not_true_eq_false, not_false_eq_true, Bool.not_true, Bool.not_false, eq_self, Nat.reduceEqDiff]; rfl) | contradiction | (exfalso; omega))) rfl
      · replace c1 := (not_congr (nI_leI (a := 4) (b := 4) (by omega) (by omega))).mp c1
        first | (exfalso; omega) | exact absurd c1 (by decide) | exact absurd (by decide) c1
    | succ fu ih =>
      intro i  hin 
      refine v_iload_n hX dX3_heldByAll_4 rfl ?_
      refine v_iconst (x := (4 : Int32)) hX dX3_heldByAll_5 (by decide) ?_
      refine v_icmp_ge (tgt := 27) hX dX3_heldByAll_6 (by decide) (fun c2 => ?_) (fun c2 => ?_)
      · replace c2 := (nI_leI (a := 4) (b := i) (by omega) (by omega)).mp c2
        first | (exfalso; omega) | exact absurd c2 (by decide) | exact absurd (by decide) c2
      · replace c2 := (not_congr (nI_leI (a := 4) (b := i) (by omega) (by omega))).mp c2
        refine v_iload_n hX dX3_heldByAll_9 rfl ?_
        refine v_aload_n hX dX3_heldByAll_10 rfl ?_
        refine v_get (C := RX3) (T := TX3) (N := 6) (ci := 3) (v := .ref (a 2)) hX in_X3 0 rfl rfl 1 (by decide) fl_17 rfl rfl dX3_heldByAll_11 ?_
        refine v_iload_n hX dX3_heldByAll_14 rfl ?_
        refine v_aaldK (b := a (3 + 9 * (i))) hX 2 rfl (vp_in_nI (by omega : i < 4) (by omega)) (by simp only [nI_clamp (show i < 2 ^ 31 by omega)]) dX3_heldByAll_15 ?_
        refine v_callVi (r := K_held (v.2.1 i)) (rest := [.int (it (M_heldF v) i 0)]) (ws' := wM E a v) hX (fun sz => c_X0_heldLines l E (kA a i) sz (v.2.1 i) ) (cwV 0 hX.2.2.2.2.1 gX3_heldByAll_X0_heldLines rfl rfl rfl (by decide +kernel) ⟨Nat.le_of_ble_eq_true rfl, Nat.le_of_ble_eq_true rfl⟩) (mPre E a v i) (mPost E a v i) (wM_cut E a v (by omega : i < 4)) (wM_cut E a v (by omega : i < 4)).symm (wK_fst E (kA a i) _ _) (ci := 0) (q0 := 0) rfl rfl rfl rfl rfl (Nat.le_of_ble_eq_true rfl) dX3_heldByAll_16 ?_
        refine v_iadd (z := (it (M_heldF v) i 0 + K_held (v.2.1 i))) hX dX3_heldByAll_19 (rfl) ?_
        refine v_istore_n (lv' := [.ref (a 0), .int ((it (M_heldF v) i 0 + K_held (v.2.1 i))), .int (nI (i))]) hX dX3_heldByAll_20 (Nat.le_of_ble_eq_true rfl) (Nat.le_of_ble_eq_true rfl) rfl rfl ?_
        refine v_iinc (y := nI (i + 1)) (lv' := [.ref (a 0), .int ((it (M_heldF v) i 0 + K_held (v.2.1 i))), .int (nI (i + 1))]) hX dX3_heldByAll_21 rfl (nI_inc _) (Nat.le_of_ble_eq_true rfl) (Nat.le_of_ble_eq_true rfl) rfl rfl ?_
        refine v_goto (tgt := 4) hX dX3_heldByAll_24 (by decide) ?_
        have e3 : (it (M_heldF v) i 0 + K_held (v.2.1 i)) = it (M_heldF v) (i + 1) 0 := by first | rfl | (simp only [M_heldF, c2, it, if_true, if_false, reduceIte, Bool.false_eq_true, Bool.and_true, Bool.and_false, Bool.true_and, Bool.false_and, not_true_eq_false, not_false_eq_true, eq_self, ne_eq, reduceCtorEq, decide_true, decide_false, Bool.not_true, Bool.not_false]; done) | (simp only [M_heldF, c2, it, if_true, if_false, reduceIte, Bool.false_eq_true, Bool.and_true, Bool.and_false, Bool.true_and, Bool.false_and, not_true_eq_false, not_false_eq_true, eq_self, ne_eq, reduceCtorEq, decide_true, decide_false, Bool.not_true, Bool.not_false]; rfl)
        rw [e3]
        exact ih (i + 1)  (by omega) 
  exact loop_4 4 0  (by omega) 
set_option maxHeartbeats 4000000 in
set_option maxRecDepth 100000 in
theorem c_X3_dirtyOfAll (l : Launch) (E : ET) (a : Nat → Nat) (sz : Nat) (v : MV) : Met l yX3_dirtyOfAll wsX3_dirtyOfAll ({ frames := 2, cells := 0, slots := 0, locals := 45 }) (mPc E [.ref (a 0)] sz (wM E a v)) (mQi E (M_dirty v) (wM E a v) (wM E a v) sz) 0 0 (va_A (wM E a v) sz) := by
  refine v_start (cc := cX3_dirtyOfAll) (maxL := 3) (ret := (some .int)) (by decide) rfl (Nat.le_of_ble_eq_true rfl) rfl ?_
  intro p e s m args below meth c hsz hr hX
  have hX : Xc p s m args meth c E 3 (va_A (wM E a v) sz) cX3_dirtyOfAll RX3 wsX3_dirtyOfAll := hX
  have in_X3 : ∀ w ∈ u_ws RX3 TX3 6, w ∈ wsX3_dirtyOfAll := by decide +kernel
  have fl_17 : Cond.fieldLink RX3 17 RX3 "cores" "[LSnoopFilter$Core;" ∈ wsX3_dirtyOfAll := by decide +kernel
  refine v_iconst (x := (0 : Int32)) hX dX3_dirtyOfAll_0 (by decide) ?_
  refine v_istore_n (lv' := [.ref (a 0), .int ((0 : Int32))]) hX dX3_dirtyOfAll_1 (Nat.le_of_ble_eq_true rfl) (Nat.le_of_ble_eq_true rfl) rfl rfl ?_
  refine v_iconst (x := (0 : Int32)) hX dX3_dirtyOfAll_2 (by decide) ?_
  refine v_istore_n (lv' := [.ref (a 0), .int ((0 : Int32)), .int ((0 : Int32))]) hX dX3_dirtyOfAll_3 (Nat.le_of_ble_eq_true rfl) (Nat.le_of_ble_eq_true rfl) rfl rfl ?_
  have loop_4 : ∀ (fu i : Nat), i + fu = 4 → V p l e ({ frames := 2, cells := 0, slots := 0, locals := 45 } : Room) s m args below meth c E 3 (va_A (wM E a v) sz) (MQ below (mQi E (M_dirty v) (wM E a v) (wM E a v) sz) args s 0 0 (va_A (wM E a v) sz)) (wM E a v) [.ref (a 0), .int (it (M_dirtyF v) i 0), .int (nI (i))] 4 [] := by
    intro fu
    induction fu with
    | zero =>
      intro i  hin 
      have hi0 : i = 4 := by omega
      subst hi0
      refine v_iload_n hX dX3_dirtyOfAll_4 rfl ?_
      refine v_iconst (x := (4 : Int32)) hX dX3_dirtyOfAll_5 (by decide) ?_
      refine v_icmp_ge (tgt := 27) hX dX3_dirtyOfAll_6 (by decide) (fun c1 => ?_) (fun c1 => ?_)
      · replace c1 := (nI_leI (a := 4) (b := 4) (by omega) (by omega)).mp c1
        refine v_iload_n hX dX3_dirtyOfAll_27 rfl ?_
        exact v_iret hX hr hsz dX3_dirtyOfAll_28 rfl rfl (by (first | rfl | (simp only [M_dirty, c1, if_true, if_false, reduceIte, Bool.false_eq_true, reduceCtorEq, decide_true, decide_false, Bool.and_true, Bool.and_false, Bool.true_and, Bool.false_and, Bool.or_true, Bool.or_false, Bool.true_or, Bool.false_or, not_true_eq_false, not_false_eq_true, Bool.not_true, Bool.not_false, eq_self, Nat.reduceEqDiff]; done) | (simp only [M_dirty, c1, if_true, if_false, reduceIte, Bool.false_eq_true, reduceCtorEq, decide_true, decide_false, Bool.and_true, Bool.and_false, Bool.true_and, Bool.false_and, Bool.or_true, Bool.or_false, Bool.true_or, Bool.false_or, not_true_eq_false, not_false_eq_true, Bool.not_true, Bool.not_false, eq_self, Nat.reduceEqDiff]; rfl) | contradiction | (exfalso; omega))) rfl
      · replace c1 := (not_congr (nI_leI (a := 4) (b := 4) (by omega) (by omega))).mp c1
        first | (exfalso; omega) | exact absurd c1 (by decide) | exact absurd (by decide) c1
    | succ fu ih =>
      intro i  hin 
      refine v_iload_n hX dX3_dirtyOfAll_4 rfl ?_
      refine v_iconst (x := (4 : Int32)) hX dX3_dirtyOfAll_5 (by decide) ?_
      refine v_icmp_ge (tgt := 27) hX dX3_dirtyOfAll_6 (by decide) (fun c2 => ?_) (fun c2 => ?_)
      · replace c2 := (nI_leI (a := 4) (b := i) (by omega) (by omega)).mp c2
        first | (exfalso; omega) | exact absurd c2 (by decide) | exact absurd (by decide) c2
      · replace c2 := (not_congr (nI_leI (a := 4) (b := i) (by omega) (by omega))).mp c2
        refine v_iload_n hX dX3_dirtyOfAll_9 rfl ?_
        refine v_aload_n hX dX3_dirtyOfAll_10 rfl ?_
        refine v_get (C := RX3) (T := TX3) (N := 6) (ci := 3) (v := .ref (a 2)) hX in_X3 0 rfl rfl 1 (by decide) fl_17 rfl rfl dX3_dirtyOfAll_11 ?_
        refine v_iload_n hX dX3_dirtyOfAll_14 rfl ?_
        refine v_aaldK (b := a (3 + 9 * (i))) hX 2 rfl (vp_in_nI (by omega : i < 4) (by omega)) (by simp only [nI_clamp (show i < 2 ^ 31 by omega)]) dX3_dirtyOfAll_15 ?_
        refine v_callVi (r := K_dirties (v.2.1 i)) (rest := [.int (it (M_dirtyF v) i 0)]) (ws' := wM E a v) hX (fun sz => c_X0_dirtyLines l E (kA a i) sz (v.2.1 i) ) (cwV 0 hX.2.2.2.2.1 gX3_dirtyOfAll_X0_dirtyLines rfl rfl rfl (by decide +kernel) ⟨Nat.le_of_ble_eq_true rfl, Nat.le_of_ble_eq_true rfl⟩) (mPre E a v i) (mPost E a v i) (wM_cut E a v (by omega : i < 4)) (wM_cut E a v (by omega : i < 4)).symm (wK_fst E (kA a i) _ _) (ci := 0) (q0 := 0) rfl rfl rfl rfl rfl (Nat.le_of_ble_eq_true rfl) dX3_dirtyOfAll_16 ?_
        refine v_iadd (z := (it (M_dirtyF v) i 0 + K_dirties (v.2.1 i))) hX dX3_dirtyOfAll_19 (rfl) ?_
        refine v_istore_n (lv' := [.ref (a 0), .int ((it (M_dirtyF v) i 0 + K_dirties (v.2.1 i))), .int (nI (i))]) hX dX3_dirtyOfAll_20 (Nat.le_of_ble_eq_true rfl) (Nat.le_of_ble_eq_true rfl) rfl rfl ?_
        refine v_iinc (y := nI (i + 1)) (lv' := [.ref (a 0), .int ((it (M_dirtyF v) i 0 + K_dirties (v.2.1 i))), .int (nI (i + 1))]) hX dX3_dirtyOfAll_21 rfl (nI_inc _) (Nat.le_of_ble_eq_true rfl) (Nat.le_of_ble_eq_true rfl) rfl rfl ?_
        refine v_goto (tgt := 4) hX dX3_dirtyOfAll_24 (by decide) ?_
        have e3 : (it (M_dirtyF v) i 0 + K_dirties (v.2.1 i)) = it (M_dirtyF v) (i + 1) 0 := by first | rfl | (simp only [M_dirtyF, c2, it, if_true, if_false, reduceIte, Bool.false_eq_true, Bool.and_true, Bool.and_false, Bool.true_and, Bool.false_and, not_true_eq_false, not_false_eq_true, eq_self, ne_eq, reduceCtorEq, decide_true, decide_false, Bool.not_true, Bool.not_false]; done) | (simp only [M_dirtyF, c2, it, if_true, if_false, reduceIte, Bool.false_eq_true, Bool.and_true, Bool.and_false, Bool.true_and, Bool.false_and, not_true_eq_false, not_false_eq_true, eq_self, ne_eq, reduceCtorEq, decide_true, decide_false, Bool.not_true, Bool.not_false]; rfl)
        rw [e3]
        exact ih (i + 1)  (by omega) 
  exact loop_4 4 0  (by omega) 
set_option maxHeartbeats 4000000 in
set_option maxRecDepth 100000 in
theorem c_X3_copyFrom (l : Launch) (E : ET) (a b : Nat → Nat) (sz : Nat) (v u : MV) : Met l yX3_copyFrom wsX3_copyFrom ({ frames := 3, cells := 0, slots := 0, locals := 60 }) (mPc E [.ref (a 0), .ref (b 0)] sz (wM E a v ++ wM E b u)) (mQv E (wM E a v ++ wM E b u) (wM E a u ++ wM E b u) sz) 0 0 (va_A (wM E a v ++ wM E b u) sz) := by
  refine v_start (cc := cX3_copyFrom) (maxL := 3) (ret := none) (by decide) rfl (Nat.le_of_ble_eq_true rfl) rfl ?_
  intro p e s m args below meth c hsz hr hX
  have hX : Xc p s m args meth c E 3 (va_A (wM E a v ++ wM E b u) sz) cX3_copyFrom RX3 wsX3_copyFrom := hX
  have in_X3 : ∀ w ∈ u_ws RX3 TX3 6, w ∈ wsX3_copyFrom := by decide +kernel
  have fl_9 : Cond.fieldLink RX3 9 RX3 "memory" "[I" ∈ wsX3_copyFrom := by decide +kernel
  have wd_Cond_methodLink_RX3_122_arraycopyName : Cond.methodLink RX3 122 arraycopyName ∈ wsX3_copyFrom := by decide +kernel
  have wd_Cond_native_arraycopyName : Cond.native arraycopyName ∈ wsX3_copyFrom := by decide +kernel
  have wd_Cond_static_arraycopyName : Cond.static arraycopyName ∈ wsX3_copyFrom := by decide +kernel
  have wd_Cond_initialized_java_lang_System_ : Cond.initialized "java/lang/System" ∈ wsX3_copyFrom := by decide +kernel
  have fl_21 : Cond.fieldLink RX3 21 RX3 "limit" "I" ∈ wsX3_copyFrom := by decide +kernel
  have fl_25 : Cond.fieldLink RX3 25 RX3 "fullFrom" "I" ∈ wsX3_copyFrom := by decide +kernel
  have fl_110 : Cond.fieldLink RX3 110 RX3 "writtenBack" "I" ∈ wsX3_copyFrom := by decide +kernel
  have fl_57 : Cond.fieldLink RX3 57 RX3 "writings" "I" ∈ wsX3_copyFrom := by decide +kernel
  have fl_17 : Cond.fieldLink RX3 17 RX3 "cores" "[LSnoopFilter$Core;" ∈ wsX3_copyFrom := by decide +kernel
  refine v_aload_n hX dX3_copyFrom_0 rfl ?_
  refine v_get (C := RX3) (T := TX3) (N := 6) (ci := 3) (v := .ref (b 1)) hX in_X3 39 rfl rfl 0 (by decide) fl_9 rfl rfl dX3_copyFrom_1 ?_
  refine v_iconst (x := (0 : Int32)) hX dX3_copyFrom_4 (by decide) ?_
  refine v_aload_n hX dX3_copyFrom_5 rfl ?_
  refine v_get (C := RX3) (T := TX3) (N := 6) (ci := 3) (v := .ref (a 1)) hX in_X3 0 rfl rfl 0 (by decide) fl_9 rfl rfl dX3_copyFrom_6 ?_
  refine v_iconst (x := (0 : Int32)) hX dX3_copyFrom_9 (by decide) ?_
  refine v_sipush (x := (256 : Int32)) hX dX3_copyFrom_10 (by decide) ?_
  obtain ⟨v1, hv1⟩ : ∃ z_ : MV, z_ = (u.1, v.2.1, v.2.2.1, v.2.2.2.1, v.2.2.2.2.1, v.2.2.2.2.2) := ⟨_, rfl⟩
  refine v_copyAll (ws' := wM E a v1 ++ wM E b u) (ty := .int) hX wd_Cond_methodLink_RX3_122_arraycopyName wd_Cond_native_arraycopyName wd_Cond_static_arraycopyName wd_Cond_initialized_java_lang_System_ 40 1 0 rfl rfl rfl rfl (n := 256) rfl (by decide) (fun _ => rfl) (Nat.le_of_ble_eq_true rfl) (Nat.le_of_ble_eq_true rfl) dX3_copyFrom_13 (by rw [hv1]; rfl) ?_
  refine v_iconst (x := (0 : Int32)) hX dX3_copyFrom_16 (by decide) ?_
  refine v_istore_n (lv' := [.ref (a 0), .ref (b 0), .int ((0 : Int32))]) hX dX3_copyFrom_17 (Nat.le_of_ble_eq_true rfl) (Nat.le_of_ble_eq_true rfl) rfl rfl ?_
  have loop_18 : ∀ (fu i : Nat), i + fu = 4 → V p l e ({ frames := 3, cells := 0, slots := 0, locals := 60 } : Room) s m args below meth c E 3 (va_A (wM E a v ++ wM E b u) sz) (MQ below (mQv E (wM E a v ++ wM E b u) (wM E a u ++ wM E b u) sz) args s 0 0 (va_A (wM E a v ++ wM E b u) sz)) (wM E a (it (M_cpF u) i (M_mem u v)) ++ wM E b u) [.ref (a 0), .ref (b 0), .int (nI (i))] 18 [] := by
    intro fu
    induction fu with
    | zero =>
      intro i  hin 
      have hi0 : i = 4 := by omega
      subst hi0
      refine v_iload_n hX dX3_copyFrom_18 rfl ?_
      refine v_iconst (x := (4 : Int32)) hX dX3_copyFrom_19 (by decide) ?_
      refine v_icmp_ge (tgt := 44) hX dX3_copyFrom_20 (by decide) (fun c2 => ?_) (fun c2 => ?_)
      · replace c2 := (nI_leI (a := 4) (b := 4) (by omega) (by omega)).mp c2
        refine v_aload_n hX dX3_copyFrom_44 rfl ?_
        refine v_aload_n hX dX3_copyFrom_45 rfl ?_
        refine v_get (C := RX3) (T := TX3) (N := 6) (ci := 3) (v := .int (u.2.2.1)) hX in_X3 39 rfl rfl 2 (by decide) fl_21 rfl rfl dX3_copyFrom_46 ?_
        obtain ⟨v3, hv3⟩ : ∃ z_ : MV, z_ = M_setLim (it (M_cpF u) 4 (M_mem u v)) (u.2.2.1) := ⟨_, rfl⟩
        refine v_put (C := RX3) (T := TX3) (N := 6) (ci := 3) (v := .int (u.2.2.1)) (ty := .int) (ws' := wM E a v3 ++ wM E b u) hX in_X3 tyX3 tyX3_ok nmX3 0 rfl rfl 2 (by decide) fl_21 rfl rfl (by decide +kernel) (rfl) (rfl) (Nat.le_of_ble_eq_true rfl) dX3_copyFrom_49 (by rw [hv3]; exact rfl) ?_
        refine v_aload_n hX dX3_copyFrom_52 rfl ?_
        refine v_aload_n hX dX3_copyFrom_53 rfl ?_
        refine v_get (C := RX3) (T := TX3) (N := 6) (ci := 3) (v := .int (u.2.2.2.1)) hX in_X3 39 rfl rfl 3 (by decide) fl_25 rfl rfl dX3_copyFrom_54 ?_
        obtain ⟨v4, hv4⟩ : ∃ z_ : MV, z_ = M_setFull v3 (u.2.2.2.1) := ⟨_, rfl⟩
        refine v_put (C := RX3) (T := TX3) (N := 6) (ci := 3) (v := .int (u.2.2.2.1)) (ty := .int) (ws' := wM E a v4 ++ wM E b u) hX in_X3 tyX3 tyX3_ok nmX3 0 rfl rfl 3 (by decide) fl_25 rfl rfl (by decide +kernel) (rfl) (rfl) (Nat.le_of_ble_eq_true rfl) dX3_copyFrom_57 (by rw [hv4]; exact rfl) ?_
        refine v_aload_n hX dX3_copyFrom_60 rfl ?_
        refine v_aload_n hX dX3_copyFrom_61 rfl ?_
        refine v_get (C := RX3) (T := TX3) (N := 6) (ci := 3) (v := .int (u.2.2.2.2.1)) hX in_X3 39 rfl rfl 4 (by decide) fl_110 rfl rfl dX3_copyFrom_62 ?_
        obtain ⟨v5, hv5⟩ : ∃ z_ : MV, z_ = M_setBack v4 (u.2.2.2.2.1) := ⟨_, rfl⟩
        refine v_put (C := RX3) (T := TX3) (N := 6) (ci := 3) (v := .int (u.2.2.2.2.1)) (ty := .int) (ws' := wM E a v5 ++ wM E b u) hX in_X3 tyX3 tyX3_ok nmX3 0 rfl rfl 4 (by decide) fl_110 rfl rfl (by decide +kernel) (rfl) (rfl) (Nat.le_of_ble_eq_true rfl) dX3_copyFrom_65 (by rw [hv5]; exact rfl) ?_
        refine v_aload_n hX dX3_copyFrom_68 rfl ?_
        refine v_aload_n hX dX3_copyFrom_69 rfl ?_
        refine v_get (C := RX3) (T := TX3) (N := 6) (ci := 3) (v := .int (u.2.2.2.2.2)) hX in_X3 39 rfl rfl 5 (by decide) fl_57 rfl rfl dX3_copyFrom_70 ?_
        obtain ⟨v6, hv6⟩ : ∃ z_ : MV, z_ = M_setWr v5 (u.2.2.2.2.2) := ⟨_, rfl⟩
        refine v_put (C := RX3) (T := TX3) (N := 6) (ci := 3) (v := .int (u.2.2.2.2.2)) (ty := .int) (ws' := wM E a v6 ++ wM E b u) hX in_X3 tyX3 tyX3_ok nmX3 0 rfl rfl 5 (by decide) fl_57 rfl rfl (by decide +kernel) (rfl) (rfl) (Nat.le_of_ble_eq_true rfl) dX3_copyFrom_73 (by rw [hv6]; exact rfl) ?_
        exact v_vret hX hr hsz dX3_copyFrom_76 rfl rfl (by (subst hv6; subst hv5; subst hv4; subst hv3; subst hv1; simp [wM, w3, M_setLim, M_setFull, M_setBack, M_setWr, it, M_cpF, M_mem, M_setK, va_up]))
      · replace c2 := (not_congr (nI_leI (a := 4) (b := 4) (by omega) (by omega))).mp c2
        first | (exfalso; omega) | exact absurd c2 (by decide) | exact absurd (by decide) c2
    | succ fu ih =>
      intro i  hin 
      refine v_iload_n hX dX3_copyFrom_18 rfl ?_
      refine v_iconst (x := (4 : Int32)) hX dX3_copyFrom_19 (by decide) ?_
      refine v_icmp_ge (tgt := 44) hX dX3_copyFrom_20 (by decide) (fun c7 => ?_) (fun c7 => ?_)
      · replace c7 := (nI_leI (a := 4) (b := i) (by omega) (by omega)).mp c7
        first | (exfalso; omega) | exact absurd c7 (by decide) | exact absurd (by decide) c7
      · replace c7 := (not_congr (nI_leI (a := 4) (b := i) (by omega) (by omega))).mp c7
        refine v_aload_n hX dX3_copyFrom_23 rfl ?_
        refine v_get (C := RX3) (T := TX3) (N := 6) (ci := 3) (v := .ref (a 2)) hX in_X3 0 rfl rfl 1 (by decide) fl_17 rfl rfl dX3_copyFrom_24 ?_
        refine v_iload_n hX dX3_copyFrom_27 rfl ?_
        refine v_aaldK (b := a (3 + 9 * (i))) hX 2 rfl (vp_in_nI (by omega : i < 4) (by omega)) (by simp only [nI_clamp (show i < 2 ^ 31 by omega)]) dX3_copyFrom_28 ?_
        refine v_aload_n hX dX3_copyFrom_29 rfl ?_
        refine v_get (C := RX3) (T := TX3) (N := 6) (ci := 3) (v := .ref (b 2)) hX in_X3 39 rfl rfl 1 (by decide) fl_17 rfl rfl dX3_copyFrom_30 ?_
        refine v_iload_n hX dX3_copyFrom_33 rfl ?_
        refine v_aaldK (b := b (3 + 9 * (i))) hX 41 rfl (vp_in_nI (by omega : i < 4) (by omega)) (by simp only [nI_clamp (show i < 2 ^ 31 by omega)]) dX3_copyFrom_34 ?_
        obtain ⟨v8, hv8⟩ : ∃ z_ : MV, z_ = M_setK (it (M_cpF u) i (M_mem u v)) i (u.2.1 i) := ⟨_, rfl⟩
        refine v_callVv2 (rest := []) (ws' := wM E a v8 ++ wM E b u) hX (fun sz => c_X0_copyFrom l E (kA a i) (kA b i) sz ((it (M_cpF u) i (M_mem u v)).2.1 i) (u.2.1 i)) (cwV 1 hX.2.2.2.2.1 gX3_copyFrom_X0_copyFrom rfl rfl rfl (by decide +kernel) ⟨Nat.le_of_ble_eq_true rfl, Nat.le_of_ble_eq_true rfl⟩) (mPre E a (it (M_cpF u) i (M_mem u v)) i) (mPost E a (it (M_cpF u) i (M_mem u v)) i ++ mPre E b u i) (mPost E b u i) (by rw [wM_cut E a (it (M_cpF u) i (M_mem u v)) (by omega : i < 4), wM_cut E b u (by omega : i < 4)]; simp only [List.append_assoc]) (by rw [hv8, ← wM_put E a (it (M_cpF u) i (M_mem u v)) (by omega : i < 4), wM_cut E b u (by omega : i < 4)]; simp only [List.append_assoc]) (wK_fst E (kA a i) _ _) (ci := 0) (q0 := 0) rfl rfl rfl rfl rfl (Nat.le_of_ble_eq_true rfl) dX3_copyFrom_35 ?_
        refine v_iinc (y := nI (i + 1)) (lv' := [.ref (a 0), .ref (b 0), .int (nI (i + 1))]) hX dX3_copyFrom_38 rfl (nI_inc _) (Nat.le_of_ble_eq_true rfl) (Nat.le_of_ble_eq_true rfl) rfl rfl ?_
        refine v_goto (tgt := 18) hX dX3_copyFrom_41 (by decide) ?_
        have e9 : v8 = it (M_cpF u) (i + 1) (M_mem u v) := by subst hv8; subst hv1; first | rfl | (simp only [M_cpF, c7, it, if_true, if_false, reduceIte, Bool.false_eq_true, Bool.and_true, Bool.and_false, Bool.true_and, Bool.false_and, not_true_eq_false, not_false_eq_true, eq_self, ne_eq, reduceCtorEq, decide_true, decide_false, Bool.not_true, Bool.not_false]; done) | (simp only [M_cpF, c7, it, if_true, if_false, reduceIte, Bool.false_eq_true, Bool.and_true, Bool.and_false, Bool.true_and, Bool.false_and, not_true_eq_false, not_false_eq_true, eq_self, ne_eq, reduceCtorEq, decide_true, decide_false, Bool.not_true, Bool.not_false]; rfl)
        rw [e9]
        exact ih (i + 1)  (by omega) 
  subst hv1
  exact loop_18 4 0  (by omega) 
