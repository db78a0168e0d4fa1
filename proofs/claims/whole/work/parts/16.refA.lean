/-! ===== the reference: its value, its world ===== -/
theorem it_0 {σ : Type} (f : Nat → σ → σ) (x : σ) : it f 0 x = x := rfl
abbrev RX : Type := Fin 5 × Bool × (Nat → Fin 65536) × Fin 81 × Int32 × Int32 × Fin 81 × Bool × Fin 65536 × Fin 4 × Fin 256 × Int32 × Int32 × Int32
abbrev RV : Type := MV × MV × (Nat → MV) × MV × RX
def fsR (a : Nat → Nat) (x : RX) : List Value := [.ref (a 1), .ref (a 2), .ref (a 3), .int (nI x.1.val), .ref (a 4), .int (bI x.2.1), .ref (a 5), .int (nI x.2.2.2.1.val), .int x.2.2.2.2.1, .int x.2.2.2.2.2.1, .int (nI x.2.2.2.2.2.2.1.val), .int (bI x.2.2.2.2.2.2.2.1), .int (nI x.2.2.2.2.2.2.2.2.1.val), .int (nI x.2.2.2.2.2.2.2.2.2.1.val), .int (nI x.2.2.2.2.2.2.2.2.2.2.1.val), .int x.2.2.2.2.2.2.2.2.2.2.2.1, .int x.2.2.2.2.2.2.2.2.2.2.2.2.1, .int x.2.2.2.2.2.2.2.2.2.2.2.2.2]
def wR0 (E : ET) (a : Nat → Nat) (rs ra rh rn : Nat → Int32) (x : RX) : va_W := [(a 0, .inr (6, fsR a x)), (a 1, .inl (E.2 0, 544, .inl rs)), (a 2, .inl (E.2 0, 544, .inl ra)), (a 3, .inl (E.2 0, 2176, .inl rh)), (a 4, .inl (E.2 0, 544, .inl rn)), (a 5, .inl (E.2 0, 80, .inl (fun j => nI (x.2.2.1 j).val)))]
def encH (h : Nat → MV) : Nat → Int32 := fun k => encS (h (k / 544)) (k % 544)
def wR (E : ET) (a : Nat → Nat) (v : RV) : va_W := wR0 E a (encS v.1) (encS v.2.1) (encH v.2.2.1) (encS v.2.2.2.1) v.2.2.2.2
theorem wR_fst (E : ET) (a : Nat → Nat) (v w : RV) : (wR E a v).map Prod.fst = (wR E a w).map Prod.fst := rfl
def R_setS (v : RV) (m : MV) : RV := (m, v.2)
theorem sR_s (E : ET) (a : Nat → Nat) (v : RV) {k : Nat} (hk : k < 2 ^ 31) {x : Int32} {m : MV} (h : upd (encS v.1) k x = encS m) : (wR E a v).set 1 (a 1, .inl (E.2 0, 544, .inl (upd (encS v.1) (nI k).toNatClampNeg x))) = wR E a (R_setS v m) := by rw [nI_clamp hk, h]; rfl
def Q_setSt (m : MV) (o : Nat) (st : Nat → Bool) : MV := M_setK m o (K_setF (m.2.1 o) ((m.2.1 o).2.2.2.2.1, st, (m.2.1 o).2.2.2.2.2.2))
def Q_setCnt (m : MV) (o q : Nat) (x : Int32) : MV := M_setK m o (K_setF (m.2.1 o) (F_setC (m.2.1 o).2.2.2.2 q x))
def Q_setBit (m : MV) (o q : Nat) (x : Bool) : MV := M_setK m o (K_setF (m.2.1 o) (F_setB (m.2.1 o).2.2.2.2 q x))
theorem pS_stuck0 (v : MV) {k o : Nat} (h : k = 540 + o) (ho : o < 4) : upd (encS v) k (0 : Int32) = encS (Q_setSt v o (fun _ => false)) := by
  have := pS_stuck v (fun _ => false) h ho
  rwa [mk_0] at this
def Q_ctr (n w : Nat) : Nat := if w = 0 then n % 24 else (7 * n + 5) % 24
theorem Q_ctr_lt (n w : Nat) : Q_ctr n w < 24 := by unfold Q_ctr; split <;> omega
def Q_stk (m : MV) (o c : Nat) (d : Int32) : Nat → Bool := if d ≤ 0 then (m.2.1 o).2.2.2.2.2.1 else if (m.2.1 o).2.2.2.2.1 c < m.2.2.1 then (m.2.1 o).2.2.2.2.2.1 else va_up (m.2.1 o).2.2.2.2.2.1 c true
def Q_cnt2 (m : MV) (o c : Nat) (d : Int32) : MV := if (m.2.1 o).2.2.2.2.2.1 c = true then Q_setCnt m o c ((m.2.1 o).2.2.2.2.1 c + 0) else Q_setCnt m o c ((m.2.1 o).2.2.2.2.1 c + d)
def Q_cntF (o n : Nat) (d : Int32) : Nat → MV → MV := fun i m => Q_cnt2 (Q_setSt m o (Q_stk m o (Q_ctr n i) d)) o (Q_ctr n i) d
def Q_counts (m : MV) (o n : Nat) (d : Int32) : MV := it (Q_cntF o n d) 2 m
def Q_stuckF (m : MV) (o : Nat) : Nat → Int32 → Int32 := fun i x => x + bI ((m.2.1 o).2.2.2.2.2.1 i)
def Q_stuckOf (m : MV) (o : Nat) : Int32 := it (Q_stuckF m o) 24 0
def Q_mayF (m : MV) (o n : Nat) : Nat → Bool → Bool := fun i b => if b = true then (if (m.2.1 o).2.2.2.2.1 (Q_ctr n i) ≤ 0 then false else true) else false
def Q_may (m : MV) (o n : Nat) : Bool := it (Q_mayF m o n) 2 ((m.2.1 o).2.2.2.2.2.2 (n / 16))
def Q_fromF (m : MV) (o : Nat) (z : Int32) : Nat → Int32 → Int32 := fun i x => if (m.2.1 o).2.2.2.2.1 i < z then x + 0 else x + 1
def Q_from (m : MV) (o : Nat) (z : Int32) : Int32 := it (Q_fromF m o z) 24 0
def Q_bitsF (m : MV) (o : Nat) : Nat → Int32 → Int32 := fun i x => x + bI ((m.2.1 o).2.2.2.2.2.2 i)
def Q_bits (m : MV) (o : Nat) : Int32 := it (Q_bitsF m o) 16 0
def Q_cl1 (o : Nat) : Nat → MV → MV := fun i m => Q_setCnt m o i 0
def Q_cl2 (o : Nat) : Nat → MV → MV := fun i m => Q_setBit m o i false
def Q_clears (m : MV) (o : Nat) : MV := Q_setSt (it (Q_cl2 o) 16 (it (Q_cl1 o) 24 m)) o (fun _ => false)
def Q_holds (m : MV) (o : Nat) (n : Fin 256) : Bool := decide ((m.2.1 o).1 (n.val % 8) = some n)
def Q_wb1 (m : MV) (o q : Nat) (n : Fin 256) : MV := M_setMem m n.val ((m.2.1 o).2.1 q)
def Q_wb2 (m : MV) (o q : Nat) : MV := M_setK m o (K_setD (m.2.1 o) q false)
def Q_wb3 (m : MV) : MV := M_setBack m (m.2.2.2.2.1 + 1)
def Q_wb (m : MV) (o q : Nat) : MV := match (m.2.1 o).1 q with
  | none => m
  | some n => if (m.2.1 o).2.2.1 q = true then Q_wb3 (Q_wb2 (Q_wb1 m o q n) o q) else m
def Q_out1 (m : MV) (o q : Nat) : MV := M_setK m o (K_setL (m.2.1 o) q none)
def Q_out2 (m : MV) (o q : Nat) : MV := M_setK m o (K_setV (m.2.1 o) q 0)
def Q_lv (m : MV) (o q : Nat) : MV := match (m.2.1 o).1 q with
  | none => m
  | some n => Q_wb2 (Q_out2 (Q_out1 (Q_counts m o n.val (-1)) o q) o q) o q
def Q_notes (m : MV) (o n : Nat) : MV := Q_counts (Q_setBit m o (n / 16) true) o n 1
def Q_fgF (o : Nat) (but : Option (Fin 256)) : Nat → MV × Int32 → MV × Int32 := fun i u => match (u.1.2.1 o).1 i with
  | none => u
  | some n => if but = some n then u else (Q_lv (Q_wb u.1 o i) o i, u.2 + 1)
def Q_tick (m : MV) (o t : Nat) : MV := M_setK m o (K_setT (m.2.1 o) t ((m.2.1 o).2.2.2.1 t + 1))
def Q_fg (m : MV) (o : Nat) (but : Option (Fin 256)) : MV × Int32 := (Q_tick (Q_clears (it (Q_fgF o but) 8 (m, 0)).1 o) o 5, (it (Q_fgF o but) 8 (m, 0)).2)
def Q_in1 (m : MV) (o : Nat) (n : Fin 256) : MV := M_setK m o (K_setL (m.2.1 o) (n.val % 8) (some n))
def Q_in2 (m : MV) (o q : Nat) (x : Int32) : MV := M_setK m o (K_setV (m.2.1 o) q x)
def Q_in3 (m : MV) (o q : Nat) (b : Bool) : MV := M_setK m o (K_setD (m.2.1 o) q b)
def Q_put (m : MV) (o : Nat) (n : Fin 256) (x : Int32) (b : Bool) : MV := Q_notes (Q_in3 (Q_in2 (Q_in1 (Q_lv (Q_wb m o (n.val % 8)) o (n.val % 8)) o n) o (n.val % 8) x) o (n.val % 8) b) o n.val
def Q_begins (m : MV) (o : Nat) (n : Fin 256) (x : Int32) (b : Bool) : MV := if Q_from (Q_put m o n x b) o 1 < (Q_put m o n x b).2.2.2.1 then Q_put m o n x b else Q_notes (Q_fg (Q_put m o n x b) o (some n)).1 o n.val
def Q_snoop (m : MV) (o : Nat) (n : Fin 256) (b : Bool) : MV := if Q_may m o n.val = true then (if Q_holds (Q_tick m o 2) o n = true then (if b = true then Q_lv (Q_tick m o 2) o (n.val % 8) else Q_wb (Q_tick m o 2) o (n.val % 8)) else Q_tick (Q_tick m o 2) o 3) else Q_tick m o 4
def Q_snF (r : Nat) (n : Fin 256) (b : Bool) : Nat → MV × Int32 → MV × Int32 := fun i u => if i = r then (u.1, u.2 + 0) else if Q_may u.1 i n.val = true then (Q_snoop u.1 i n b, u.2 + 1) else (Q_snoop u.1 i n b, u.2 + 0)
def Q_snoops (m : MV) (r : Nat) (n : Fin 256) (b : Bool) : MV × Int32 := it (Q_snF r n b) 4 (m, 0)
def Q_miss (m : MV) (r : Nat) (n : Fin 256) : MV := Q_begins (Q_snoops (Q_tick m r 1) r n false).1 r n ((Q_snoops (Q_tick m r 1) r n false).1.1 n.val) false
def Q_reads (m : MV) (r : Nat) (n : Fin 256) : MV × Int32 := if Q_holds m r n = true then (Q_tick m r 0, ((Q_tick m r 0).2.1 r).2.1 (n.val % 8)) else (Q_miss m r n, ((Q_miss m r n).2.1 r).2.1 (n.val % 8))
def Q_wr (m : MV) : MV := M_setWr m (m.2.2.2.2.2 + 1)
def Q_wr2 (m : MV) (r : Nat) (n : Fin 256) (x : Int32) : MV × Int32 := if Q_holds (Q_snoops m r n true).1 r n = true then (Q_in3 (Q_in2 (Q_snoops m r n true).1 r (n.val % 8) x) r (n.val % 8) true, (Q_snoops m r n true).2) else (Q_begins (Q_snoops m r n true).1 r n x true, (Q_snoops m r n true).2)
def Q_writes (m : MV) (r : Nat) (n : Fin 256) (x : Int32) : MV × Int32 := if Q_holds (Q_wr m) r n = true then (if ((Q_wr m).2.1 r).2.2.1 (n.val % 8) = true then (Q_in2 (Q_wr m) r (n.val % 8) x, 0) else Q_wr2 (Q_wr m) r n x) else Q_wr2 (Q_wr m) r n x
def Q_drops (m : MV) (r : Nat) (n : Fin 256) : MV × Int32 := (Q_lv (Q_wb m r (n.val % 8)) r (n.val % 8), bI ((m.2.1 r).2.2.1 (n.val % 8)))
def Q_linesF (m : MV) (o : Nat) : Nat → Int32 → Int32 := fun i x => if (m.2.1 o).1 i = none then x + 0 else x + 1
def Q_lines (m : MV) (o : Nat) : Int32 := it (Q_linesF m o) 8 0
def Q_empty (m : MV) (o : Nat) : Bool := decide (Q_lines m o = 0) && (decide (Q_from m o 1 = 0) && decide (Q_bits m o = 0))
def Q_dirtyF (m : MV) (o : Nat) : Nat → Int32 → Int32 := fun i x => x + bI ((m.2.1 o).2.2.1 i)
def Q_dirty (m : MV) (o : Nat) : Int32 := it (Q_dirtyF m o) 8 0
def Q_sumF (m : MV) (t : Nat) : Nat → Int32 → Int32 := fun i x => x + (m.2.1 i).2.2.2.1 t
def Q_sum (m : MV) (t : Nat) : Int32 := it (Q_sumF m t) 4 0
def Q_all (m : MV) : Int32 := Q_lines m 0 + Q_lines m 1 + Q_lines m 2 + Q_lines m 3
def Q_wouldF (m : MV) (n : Fin 256) : Nat → Int32 → Int32 := fun i x => if Q_may m i n.val = true then (if Q_holds m i n = true then (if (m.2.1 i).2.2.1 (n.val % 8) = true then (m.2.1 i).2.1 (n.val % 8) else x) else x) else x
def Q_would (m : MV) (n : Fin 256) : Int32 := it (Q_wouldF m n) 4 (m.1 n.val)
def Q_withF (m : MV) (n : Fin 256) (b : Bool) : Nat → Int32 → Int32 := fun i x => if (if b = true then Q_holds m i n else Q_may m i n.val) = true then x ||| ((1 : Int32) <<< (nI i &&& 31)) else x ||| 0
def Q_with (m : MV) (n : Fin 256) (b : Bool) : Int32 := it (Q_withF m n b) 4 0
set_option maxHeartbeats 4000000 in
set_option maxRecDepth 100000 in
theorem c_X6_in (l : Launch) (E : ET) (sz : Nat) (x : Int32) (lo : Int32) (hi : Int32) : Met l yX6_in wsX6_in ({ frames := 0, cells := 0, slots := 0, locals := 0 }) (mPc E [.int (x), .int (lo), .int (hi)] sz ([])) (mQi E (bI (S_within x lo hi)) ([]) ([]) sz) 0 0 (va_A ([]) sz) := by
  refine v_start (cc := cX6_in) (maxL := 3) (ret := (some .boolean)) (by decide) rfl (Nat.le_of_ble_eq_true rfl) rfl ?_
  intro p e s m args below meth c hsz hr hX
  have hX : Xc p s m args meth c E 3 (va_A ([]) sz) cX6_in RX6 wsX6_in := hX
  refine v_iload_n hX dX6_in_0 rfl ?_
  refine v_iload_n hX dX6_in_1 rfl ?_
  refine v_icmp_lt (tgt := 14) hX dX6_in_2 (by decide) (fun c1 => ?_) (fun c1 => ?_)
  · refine v_iconst (x := (0 : Int32)) hX dX6_in_14 (by decide) ?_
    exact v_zret hX hr hsz dX6_in_15 rfl rfl (bI_narrow (false)) (congrArg bI (by (first | (simp only [S_within, c1, if_true, if_false, reduceIte, Bool.false_eq_true, reduceCtorEq, decide_true, decide_false, Bool.and_true, Bool.and_false, Bool.true_and, Bool.false_and, Bool.or_true, Bool.or_false, Bool.true_or, Bool.false_or, not_true_eq_false, not_false_eq_true, Bool.not_true, Bool.not_false, eq_self, Nat.reduceEqDiff]; done) | rfl | (simp only [S_within, c1, if_true, if_false, reduceIte, Bool.false_eq_true, reduceCtorEq, decide_true, decide_false, Bool.and_true, Bool.and_false, Bool.true_and, Bool.false_and, Bool.or_true, Bool.or_false, Bool.true_or, Bool.false_or, not_true_eq_false, not_false_eq_true, Bool.not_true, Bool.not_false, eq_self, Nat.reduceEqDiff]; rfl) | contradiction | (exfalso; omega)) : false = S_within x lo hi)) rfl
  · refine v_iload_n hX dX6_in_5 rfl ?_
    refine v_iload_n hX dX6_in_6 rfl ?_
    refine v_icmp_gt (tgt := 14) hX dX6_in_7 (by decide) (fun c2 => ?_) (fun c2 => ?_)
    · refine v_iconst (x := (0 : Int32)) hX dX6_in_14 (by decide) ?_
      exact v_zret hX hr hsz dX6_in_15 rfl rfl (bI_narrow (false)) (congrArg bI (by (first | (simp only [S_within, c1, c2, if_true, if_false, reduceIte, Bool.false_eq_true, reduceCtorEq, decide_true, decide_false, Bool.and_true, Bool.and_false, Bool.true_and, Bool.false_and, Bool.or_true, Bool.or_false, Bool.true_or, Bool.false_or, not_true_eq_false, not_false_eq_true, Bool.not_true, Bool.not_false, eq_self, Nat.reduceEqDiff]; done) | rfl | (simp only [S_within, c1, c2, if_true, if_false, reduceIte, Bool.false_eq_true, reduceCtorEq, decide_true, decide_false, Bool.and_true, Bool.and_false, Bool.true_and, Bool.false_and, Bool.or_true, Bool.or_false, Bool.true_or, Bool.false_or, not_true_eq_false, not_false_eq_true, Bool.not_true, Bool.not_false, eq_self, Nat.reduceEqDiff]; rfl) | contradiction | (exfalso; omega)) : false = S_within x lo hi)) rfl
    · refine v_iconst (x := (1 : Int32)) hX dX6_in_10 (by decide) ?_
      refine v_goto (tgt := 15) hX dX6_in_11 (by decide) ?_
      exact v_zret hX hr hsz dX6_in_15 rfl rfl (bI_narrow (true)) (congrArg bI (by (first | (simp only [S_within, c1, c2, if_true, if_false, reduceIte, Bool.false_eq_true, reduceCtorEq, decide_true, decide_false, Bool.and_true, Bool.and_false, Bool.true_and, Bool.false_and, Bool.or_true, Bool.or_false, Bool.true_or, Bool.false_or, not_true_eq_false, not_false_eq_true, Bool.not_true, Bool.not_false, eq_self, Nat.reduceEqDiff]; done) | rfl | (simp only [S_within, c1, c2, if_true, if_false, reduceIte, Bool.false_eq_true, reduceCtorEq, decide_true, decide_false, Bool.and_true, Bool.and_false, Bool.true_and, Bool.false_and, Bool.or_true, Bool.or_false, Bool.true_or, Bool.false_or, not_true_eq_false, not_false_eq_true, Bool.not_true, Bool.not_false, eq_self, Nat.reduceEqDiff]; rfl) | contradiction | (exfalso; omega)) : true = S_within x lo hi)) rfl
set_option maxHeartbeats 4000000 in
set_option maxRecDepth 100000 in
theorem c_X6_isCore (l : Launch) (E : ET) (sz : Nat) (x : Int32) : Met l yX6_isCore wsX6_isCore ({ frames := 1, cells := 0, slots := 0, locals := 22 }) (mPc E [.int (x)] sz ([])) (mQi E (bI (S_within x (0 : Int32) (3 : Int32))) ([]) ([]) sz) 0 0 (va_A ([]) sz) := by
  refine v_start (cc := cX6_isCore) (maxL := 1) (ret := (some .boolean)) (by decide) rfl (Nat.le_of_ble_eq_true rfl) rfl ?_
  intro p e s m args below meth c hsz hr hX
  have hX : Xc p s m args meth c E 1 (va_A ([]) sz) cX6_isCore RX6 wsX6_isCore := hX
  refine v_iload_n hX dX6_isCore_0 rfl ?_
  refine v_iconst (x := (0 : Int32)) hX dX6_isCore_1 (by decide) ?_
  refine v_iconst (x := (3 : Int32)) hX dX6_isCore_2 (by decide) ?_
  refine v_callSi (r := bI (S_within x (0 : Int32) (3 : Int32))) (rest := []) (ws' := []) hX (fun sz => c_X6_in l E sz x (0 : Int32) (3 : Int32)) (va_cwS 3 hX.2.2.2.2.1 gX6_isCore_X6_in rfl rfl rfl (by decide +kernel) ⟨Nat.le_of_ble_eq_true rfl, Nat.le_of_ble_eq_true rfl⟩) ([]) ([]) (rfl) rfl (rfl) rfl rfl (Nat.le_of_ble_eq_true rfl) dX6_isCore_3 ?_
  exact v_zret hX hr hsz dX6_isCore_6 rfl rfl (bI_narrow (S_within x (0 : Int32) (3 : Int32))) rfl rfl
set_option maxHeartbeats 4000000 in
set_option maxRecDepth 100000 in
theorem c_X6_isLine (l : Launch) (E : ET) (sz : Nat) (x : Int32) : Met l yX6_isLine wsX6_isLine ({ frames := 1, cells := 0, slots := 0, locals := 22 }) (mPc E [.int (x)] sz ([])) (mQi E (bI (S_within x (0 : Int32) (255 : Int32))) ([]) ([]) sz) 0 0 (va_A ([]) sz) := by
  refine v_start (cc := cX6_isLine) (maxL := 1) (ret := (some .boolean)) (by decide) rfl (Nat.le_of_ble_eq_true rfl) rfl ?_
  intro p e s m args below meth c hsz hr hX
  have hX : Xc p s m args meth c E 1 (va_A ([]) sz) cX6_isLine RX6 wsX6_isLine := hX
  refine v_iload_n hX dX6_isLine_0 rfl ?_
  refine v_iconst (x := (0 : Int32)) hX dX6_isLine_1 (by decide) ?_
  refine v_sipush (x := (255 : Int32)) hX dX6_isLine_2 (by decide) ?_
  refine v_callSi (r := bI (S_within x (0 : Int32) (255 : Int32))) (rest := []) (ws' := []) hX (fun sz => c_X6_in l E sz x (0 : Int32) (255 : Int32)) (va_cwS 3 hX.2.2.2.2.1 gX6_isLine_X6_in rfl rfl rfl (by decide +kernel) ⟨Nat.le_of_ble_eq_true rfl, Nat.le_of_ble_eq_true rfl⟩) ([]) ([]) (rfl) rfl (rfl) rfl rfl (Nat.le_of_ble_eq_true rfl) dX6_isLine_5 ?_
  exact v_zret hX hr hsz dX6_isLine_8 rfl rfl (bI_narrow (S_within x (0 : Int32) (255 : Int32))) rfl rfl
set_option maxHeartbeats 4000000 in
set_option maxRecDepth 100000 in
theorem c_X6_placeOf (l : Launch) (E : ET) (sz : Nat) (o : Nat) (ho : o < 4) (n : Nat) (hn : n < 256) : Met l yX6_placeOf wsX6_placeOf ({ frames := 0, cells := 0, slots := 0, locals := 0 }) (mPc E [.int (nI (o)), .int (nI (n))] sz ([])) (mQi E (nI (8 * o + n % 8)) ([]) ([]) sz) 0 0 (va_A ([]) sz) := by
  refine v_start (cc := cX6_placeOf) (maxL := 2) (ret := (some .int)) (by decide) rfl (Nat.le_of_ble_eq_true rfl) rfl ?_
  intro p e s m args below meth c hsz hr hX
  have hX : Xc p s m args meth c E 2 (va_A ([]) sz) cX6_placeOf RX6 wsX6_placeOf := hX
  refine v_bipush (x := (8 : Int32)) hX dX6_placeOf_0 (by decide) ?_
  refine v_iload_n hX dX6_placeOf_2 rfl ?_
  refine v_imul (z := nI (8 * o)) hX dX6_placeOf_3 (pk_mul 8 o) ?_
  refine v_iload_n hX dX6_placeOf_4 rfl ?_
  refine v_bipush (x := (8 : Int32)) hX dX6_placeOf_5 (by decide) ?_
  refine v_irem (z := nI ((n) % 8)) hX dX6_placeOf_7 (by decide) (rem_c (n) 8 (by omega) (by decide) (by decide)) ?_
  refine v_iadd (z := nI ((8 * o) + ((n) % 8))) hX dX6_placeOf_8 (nI_add (8 * o) ((n) % 8)) ?_
  exact v_iret hX hr hsz dX6_placeOf_9 rfl rfl (by (first | (simp only [if_true, if_false, reduceIte, Bool.false_eq_true, reduceCtorEq, decide_true, decide_false, Bool.and_true, Bool.and_false, Bool.true_and, Bool.false_and, Bool.or_true, Bool.or_false, Bool.true_or, Bool.false_or, not_true_eq_false, not_false_eq_true, Bool.not_true, Bool.not_false, eq_self, Nat.reduceEqDiff]; done) | rfl | (simp only [if_true, if_false, reduceIte, Bool.false_eq_true, reduceCtorEq, decide_true, decide_false, Bool.and_true, Bool.and_false, Bool.true_and, Bool.false_and, Bool.or_true, Bool.or_false, Bool.true_or, Bool.false_or, not_true_eq_false, not_false_eq_true, Bool.not_true, Bool.not_false, eq_self, Nat.reduceEqDiff]; rfl) | contradiction | (exfalso; omega))) rfl
set_option maxHeartbeats 4000000 in
set_option maxRecDepth 100000 in
theorem c_X6_told (l : Launch) (E : ET) (sz : Nat) (o : Nat) (ho : o < 4) (t : Nat) (ht : t < 6) : Met l yX6_told wsX6_told ({ frames := 0, cells := 0, slots := 0, locals := 0 }) (mPc E [.int (nI (o)), .int (nI (t))] sz ([])) (mQi E (nI (512 + (6 * o) + t)) ([]) ([]) sz) 0 0 (va_A ([]) sz) := by
  refine v_start (cc := cX6_told) (maxL := 2) (ret := (some .int)) (by decide) rfl (Nat.le_of_ble_eq_true rfl) rfl ?_
  intro p e s m args below meth c hsz hr hX
  have hX : Xc p s m args meth c E 2 (va_A ([]) sz) cX6_told RX6 wsX6_told := hX
  refine v_sipush (x := (512 : Int32)) hX dX6_told_0 (by decide) ?_
  refine v_bipush (x := (6 : Int32)) hX dX6_told_3 (by decide) ?_
  refine v_iload_n hX dX6_told_5 rfl ?_
  refine v_imul (z := nI (6 * o)) hX dX6_told_6 (pk_mul 6 o) ?_
  refine v_iadd (z := nI (512 + (6 * o))) hX dX6_told_7 (nI_add 512 (6 * o)) ?_
  refine v_iload_n hX dX6_told_8 rfl ?_
  refine v_iadd (z := nI ((512 + (6 * o)) + t)) hX dX6_told_9 (nI_add (512 + (6 * o)) t) ?_
  exact v_iret hX hr hsz dX6_told_10 rfl rfl (by (first | (simp only [if_true, if_false, reduceIte, Bool.false_eq_true, reduceCtorEq, decide_true, decide_false, Bool.and_true, Bool.and_false, Bool.true_and, Bool.false_and, Bool.or_true, Bool.or_false, Bool.true_or, Bool.false_or, not_true_eq_false, not_false_eq_true, Bool.not_true, Bool.not_false, eq_self, Nat.reduceEqDiff]; done) | rfl | (simp only [if_true, if_false, reduceIte, Bool.false_eq_true, reduceCtorEq, decide_true, decide_false, Bool.and_true, Bool.and_false, Bool.true_and, Bool.false_and, Bool.or_true, Bool.or_false, Bool.true_or, Bool.false_or, not_true_eq_false, not_false_eq_true, Bool.not_true, Bool.not_false, eq_self, Nat.reduceEqDiff]; rfl) | contradiction | (exfalso; omega))) rfl
set_option maxHeartbeats 4000000 in
set_option maxRecDepth 100000 in
theorem c_X6_counterOf (l : Launch) (E : ET) (sz : Nat) (n : Nat) (hn : n < 256) (w : Nat) (hw : w < 2) : Met l yX6_counterOf wsX6_counterOf ({ frames := 0, cells := 0, slots := 0, locals := 0 }) (mPc E [.int (nI (n)), .int (nI (w))] sz ([])) (mQi E (nI (Q_ctr n w)) ([]) ([]) sz) 0 0 (va_A ([]) sz) := by
  refine v_start (cc := cX6_counterOf) (maxL := 2) (ret := (some .int)) (by decide) rfl (Nat.le_of_ble_eq_true rfl) rfl ?_
  intro p e s m args below meth c hsz hr hX
  have hX : Xc p s m args meth c E 2 (va_A ([]) sz) cX6_counterOf RX6 wsX6_counterOf := hX
  refine v_iload_n hX dX6_counterOf_0 rfl ?_
  refine v_if_ne (tgt := 11) hX dX6_counterOf_1 (by decide) (fun c1 => ?_) (fun c1 => ?_)
  · replace c1 := (not_congr (nI_eq (a := w) (b := 0) (by omega) (by omega))).mp c1
    refine v_bipush (x := (7 : Int32)) hX dX6_counterOf_11 (by decide) ?_
    refine v_iload_n hX dX6_counterOf_13 rfl ?_
    refine v_imul (z := nI (7 * n)) hX dX6_counterOf_14 (pk_mul 7 n) ?_
    refine v_iconst (x := (5 : Int32)) hX dX6_counterOf_15 (by decide) ?_
    refine v_iadd (z := nI ((7 * n) + 5)) hX dX6_counterOf_16 (nI_add (7 * n) 5) ?_
    refine v_bipush (x := (24 : Int32)) hX dX6_counterOf_17 (by decide) ?_
    refine v_irem (z := nI (((7 * n) + 5) % 24)) hX dX6_counterOf_19 (by decide) (rem_c ((7 * n) + 5) 24 (by omega) (by decide) (by decide)) ?_
    exact v_iret hX hr hsz dX6_counterOf_20 rfl rfl (by (first | (simp only [Q_ctr, c1, if_true, if_false, reduceIte, Bool.false_eq_true, reduceCtorEq, decide_true, decide_false, Bool.and_true, Bool.and_false, Bool.true_and, Bool.false_and, Bool.or_true, Bool.or_false, Bool.true_or, Bool.false_or, not_true_eq_false, not_false_eq_true, Bool.not_true, Bool.not_false, eq_self, Nat.reduceEqDiff]; done) | rfl | (simp only [Q_ctr, c1, if_true, if_false, reduceIte, Bool.false_eq_true, reduceCtorEq, decide_true, decide_false, Bool.and_true, Bool.and_false, Bool.true_and, Bool.false_and, Bool.or_true, Bool.or_false, Bool.true_or, Bool.false_or, not_true_eq_false, not_false_eq_true, Bool.not_true, Bool.not_false, eq_self, Nat.reduceEqDiff]; rfl) | contradiction | (exfalso; omega))) rfl
  · replace c1 := (nI_eq (a := w) (b := 0) (by omega) (by omega)).mp c1
    have c1t := eq_true c1
    refine v_iload_n hX dX6_counterOf_4 rfl ?_
    refine v_bipush (x := (24 : Int32)) hX dX6_counterOf_5 (by decide) ?_
    refine v_irem (z := nI ((n) % 24)) hX dX6_counterOf_7 (by decide) (rem_c (n) 24 (by omega) (by decide) (by decide)) ?_
    refine v_goto (tgt := 20) hX dX6_counterOf_8 (by decide) ?_
    exact v_iret hX hr hsz dX6_counterOf_20 rfl rfl (by (first | (simp only [Q_ctr, c1t, if_true, if_false, reduceIte, Bool.false_eq_true, reduceCtorEq, decide_true, decide_false, Bool.and_true, Bool.and_false, Bool.true_and, Bool.false_and, Bool.or_true, Bool.or_false, Bool.true_or, Bool.false_or, not_true_eq_false, not_false_eq_true, Bool.not_true, Bool.not_false, eq_self, Nat.reduceEqDiff]; done) | rfl | (simp only [Q_ctr, c1t, if_true, if_false, reduceIte, Bool.false_eq_true, reduceCtorEq, decide_true, decide_false, Bool.and_true, Bool.and_false, Bool.true_and, Bool.false_and, Bool.or_true, Bool.or_false, Bool.true_or, Bool.false_or, not_true_eq_false, not_false_eq_true, Bool.not_true, Bool.not_false, eq_self, Nat.reduceEqDiff]; rfl) | contradiction | (exfalso; omega))) rfl
set_option maxHeartbeats 4000000 in
set_option maxRecDepth 100000 in
theorem c_X6_counterAt (l : Launch) (E : ET) (a : Nat → Nat) (sz : Nat) (v : RV) (o : Nat) (ho : o < 4) (n : Nat) (hn : n < 256) (w : Nat) (hw : w < 2) : Met l yX6_counterAt wsX6_counterAt ({ frames := 1, cells := 0, slots := 0, locals := 21 }) (mPc E [.ref (a 0), .int (nI (o)), .int (nI (n)), .int (nI (w))] sz (wR E a v)) (mQi E (nI (352 + (24 * o) + Q_ctr n w)) (wR E a v) (wR E a v) sz) 0 0 (va_A (wR E a v) sz) := by
  refine v_start (cc := cX6_counterAt) (maxL := 4) (ret := (some .int)) (by decide) rfl (Nat.le_of_ble_eq_true rfl) rfl ?_
  intro p e s m args below meth c hsz hr hX
  have hX : Xc p s m args meth c E 4 (va_A (wR E a v) sz) cX6_counterAt RX6 wsX6_counterAt := hX
  refine v_sipush (x := (352 : Int32)) hX dX6_counterAt_0 (by decide) ?_
  refine v_bipush (x := (24 : Int32)) hX dX6_counterAt_3 (by decide) ?_
  refine v_iload_n hX dX6_counterAt_5 rfl ?_
  refine v_imul (z := nI (24 * o)) hX dX6_counterAt_6 (pk_mul 24 o) ?_
  refine v_iadd (z := nI (352 + (24 * o))) hX dX6_counterAt_7 (nI_add 352 (24 * o)) ?_
  refine v_iload_n hX dX6_counterAt_8 rfl ?_
  refine v_iload_n hX dX6_counterAt_9 rfl ?_
  refine v_callSi (r := nI (Q_ctr n w)) (rest := [.int (nI (352 + (24 * o)))]) (ws' := wR E a v) hX (fun sz => c_X6_counterOf l E sz n (by first | omega | exact Nat.le_of_ble_eq_true rfl) w (by first | omega | exact Nat.le_of_ble_eq_true rfl)) (va_cwS 2 hX.2.2.2.2.1 gX6_counterAt_X6_counterOf rfl rfl rfl (by decide +kernel) ⟨Nat.le_of_ble_eq_true rfl, Nat.le_of_ble_eq_true rfl⟩) ([]) (wR E a v) (rfl) rfl (rfl) rfl rfl (Nat.le_of_ble_eq_true rfl) dX6_counterAt_10 ?_
  refine v_iadd (z := nI ((352 + (24 * o)) + (Q_ctr n w))) hX dX6_counterAt_13 (nI_add (352 + (24 * o)) (Q_ctr n w)) ?_
  exact v_iret hX hr hsz dX6_counterAt_14 rfl rfl (by (first | (simp only [if_true, if_false, reduceIte, Bool.false_eq_true, reduceCtorEq, decide_true, decide_false, Bool.and_true, Bool.and_false, Bool.true_and, Bool.false_and, Bool.or_true, Bool.or_false, Bool.true_or, Bool.false_or, not_true_eq_false, not_false_eq_true, Bool.not_true, Bool.not_false, eq_self, Nat.reduceEqDiff]; done) | rfl | (simp only [if_true, if_false, reduceIte, Bool.false_eq_true, reduceCtorEq, decide_true, decide_false, Bool.and_true, Bool.and_false, Bool.true_and, Bool.false_and, Bool.or_true, Bool.or_false, Bool.true_or, Bool.false_or, not_true_eq_false, not_false_eq_true, Bool.not_true, Bool.not_false, eq_self, Nat.reduceEqDiff]; rfl) | contradiction | (exfalso; omega))) rfl
set_option maxHeartbeats 4000000 in
set_option maxRecDepth 100000 in
theorem c_X6_counts (l : Launch) (E : ET) (a : Nat → Nat) (sz : Nat) (v : RV) (o : Nat) (ho : o < 4) (n : Nat) (hn : n < 256) (d : Int32) : Met l yX6_counts wsX6_counts ({ frames := 2, cells := 0, slots := 0, locals := 44 }) (mPc E [.ref (a 0), .int (nI (o)), .int (nI (n)), .int (d)] sz (wR E a v)) (mQv E (wR E a v) (wR E a (R_setS v (Q_counts v.1 o n d))) sz) 0 0 (va_A (wR E a v) sz) := by
  refine v_start (cc := cX6_counts) (maxL := 7) (ret := none) (by decide) rfl (Nat.le_of_ble_eq_true rfl) rfl ?_
  intro p e s m args below meth c hsz hr hX
  have hX : Xc p s m args meth c E 7 (va_A (wR E a v) sz) cX6_counts RX6 wsX6_counts := hX
  have in_X6 : ∀ w ∈ u_ws RX6 TX6 18, w ∈ wsX6_counts := by decide +kernel
  have fl_7 : Cond.fieldLink RX6 7 RX6 "s" "[I" ∈ wsX6_counts := by decide +kernel
  refine v_iconst (x := (0 : Int32)) hX dX6_counts_0 (by decide) ?_
  refine v_istore (lv' := [.ref (a 0), .int (nI (o)), .int (nI (n)), .int (d), .int ((0 : Int32))]) hX dX6_counts_1 (Nat.le_of_ble_eq_true rfl) (Nat.le_of_ble_eq_true rfl) rfl rfl ?_
  have loop_3 : ∀ (fu i : Nat), i + fu = 2 → V p l e ({ frames := 2, cells := 0, slots := 0, locals := 44 } : Room) s m args below meth c E 7 (va_A (wR E a v) sz) (MQ below (mQv E (wR E a v) (wR E a (R_setS v (Q_counts v.1 o n d))) sz) args s 0 0 (va_A (wR E a v) sz)) (wR E a (R_setS v (it (Q_cntF o n d) i v.1))) [.ref (a 0), .int (nI (o)), .int (nI (n)), .int (d), .int (nI (i))] 3 [] := by
    intro fu
    induction fu with
    | zero =>
      intro i  hin 
      have hi0 : i = 2 := by omega
      subst hi0
      obtain ⟨m1, hm1⟩ : ∃ z_ : MV, z_ = (it (Q_cntF o n d) 2 v.1) := ⟨_, rfl⟩
      rw [← hm1]
      refine v_iload hX dX6_counts_3 rfl ?_
      refine v_iconst (x := (2 : Int32)) hX dX6_counts_5 (by decide) ?_
      refine v_icmp_ge (tgt := 122) hX dX6_counts_6 (by decide) (fun c2 => ?_) (fun c2 => ?_)
      · replace c2 := (nI_leI (a := 2) (b := 2) (by omega) (by omega)).mp c2
        exact v_vret hX hr hsz dX6_counts_122 rfl rfl (by (subst hm1; first | (simp only [Q_counts, c2, if_true, if_false, reduceIte, Bool.false_eq_true, reduceCtorEq, decide_true, decide_false, Bool.and_true, Bool.and_false, Bool.true_and, Bool.false_and, Bool.or_true, Bool.or_false, Bool.true_or, Bool.false_or, not_true_eq_false, not_false_eq_true, Bool.not_true, Bool.not_false, eq_self, Nat.reduceEqDiff]; done) | rfl | (simp only [Q_counts, c2, if_true, if_false, reduceIte, Bool.false_eq_true, reduceCtorEq, decide_true, decide_false, Bool.and_true, Bool.and_false, Bool.true_and, Bool.false_and, Bool.or_true, Bool.or_false, Bool.true_or, Bool.false_or, not_true_eq_false, not_false_eq_true, Bool.not_true, Bool.not_false, eq_self, Nat.reduceEqDiff]; rfl) | contradiction | (exfalso; omega)))
      · replace c2 := (not_congr (nI_leI (a := 2) (b := 2) (by omega) (by omega))).mp c2
        exfalso; omega
    | succ fu ih =>
      intro i  hin 
      refine v_iload hX dX6_counts_3 rfl ?_
      refine v_iconst (x := (2 : Int32)) hX dX6_counts_5 (by decide) ?_
      refine v_icmp_ge (tgt := 122) hX dX6_counts_6 (by decide) (fun c3 => ?_) (fun c3 => ?_)
      · replace c3 := (nI_leI (a := 2) (b := i) (by omega) (by omega)).mp c3
        exfalso; omega
      · replace c3 := (not_congr (nI_leI (a := 2) (b := i) (by omega) (by omega))).mp c3
        have hct4 := Q_ctr_lt n i
        refine v_aload_n hX dX6_counts_9 rfl ?_
        refine v_iload_n hX dX6_counts_10 rfl ?_
        refine v_iload_n hX dX6_counts_11 rfl ?_
        refine v_iload hX dX6_counts_12 rfl ?_
        refine v_callVi (r := nI (352 + (24 * o) + Q_ctr n i)) (rest := []) (ws' := wR E a (R_setS v (it (Q_cntF o n d) i v.1))) hX (fun sz => c_X6_counterAt l E a sz (R_setS v (it (Q_cntF o n d) i v.1)) o (by first | omega | exact Nat.le_of_ble_eq_true rfl) n (by first | omega | exact Nat.le_of_ble_eq_true rfl) i (by first | omega | exact Nat.le_of_ble_eq_true rfl)) (cwV 3 hX.2.2.2.2.1 gX6_counts_X6_counterAt rfl rfl rfl (by decide +kernel) ⟨Nat.le_of_ble_eq_true rfl, Nat.le_of_ble_eq_true rfl⟩) ([]) ([]) ((List.append_nil _).symm) ((List.append_nil _).symm).symm (wR_fst E a _ _) (ci := 6) (q0 := 0) rfl rfl rfl rfl rfl (Nat.le_of_ble_eq_true rfl) dX6_counts_14 ?_
        refine v_istore (lv' := [.ref (a 0), .int (nI (o)), .int (nI (n)), .int (d), .int (nI (i)), .int (nI (352 + (24 * o) + Q_ctr n i))]) hX dX6_counts_17 (Nat.le_of_ble_eq_true rfl) (Nat.le_of_ble_eq_true rfl) rfl rfl ?_
        refine v_iload_n hX dX6_counts_19 rfl ?_
        refine v_if_le (tgt := 45) hX dX6_counts_20 (by decide) (fun c5 => ?_) (fun c5 => ?_)
        · refine v_iconst (x := (0 : Int32)) hX dX6_counts_45 (by decide) ?_
          refine v_istore (lv' := [.ref (a 0), .int (nI (o)), .int (nI (n)), .int (d), .int (nI (i)), .int (nI (352 + (24 * o) + Q_ctr n i)), .int ((0 : Int32))]) hX dX6_counts_46 (Nat.le_of_ble_eq_true rfl) (Nat.le_of_ble_eq_true rfl) rfl rfl ?_
          refine v_aload_n hX dX6_counts_48 rfl ?_
          refine v_get (C := RX6) (T := TX6) (N := 18) (ci := 6) (v := .ref (a 1)) hX in_X6 0 rfl rfl 0 (by decide) fl_7 rfl rfl dX6_counts_49 ?_
          refine v_sipush (x := (540 : Int32)) hX dX6_counts_52 (by decide) ?_
          refine v_iload_n hX dX6_counts_55 rfl ?_
          refine v_iadd (z := nI (540 + o)) hX dX6_counts_56 (nI_add 540 o) ?_
          refine v_dup2 hX dX6_counts_57 rfl rfl ?_
          refine v_iald (z := mk (((it (Q_cntF o n d) i v.1).2.1 o).2.2.2.2.2.1)) hX 1 rfl (vp_in_nI (by omega : 540 + o < 544) (by omega)) (by simp only [nI_clamp (show 540 + o < 2 ^ 31 by omega)]; exact gS_stuck (it (Q_cntF o n d) i v.1) (o := o) (by omega)) dX6_counts_58 ?_
          refine v_iload hX dX6_counts_59 rfl ?_
          refine v_if_eq (tgt := 75) hX dX6_counts_61 (by decide) (fun c6 => ?_) (fun c6 => ?_)
          · replace c6 := (nI_eq (a := 0) (b := 0) (by omega) (by omega)).mp c6
            have c6t := eq_true c6
            refine v_iconst (x := (0 : Int32)) hX dX6_counts_75 (by decide) ?_
            refine v_ior (z := mk (((it (Q_cntF o n d) i v.1).2.1 o).2.2.2.2.2.1)) hX dX6_counts_76 (mk_or0 _) ?_
            obtain ⟨m7, hm7⟩ : ∃ z_ : MV, z_ = Q_setSt (it (Q_cntF o n d) i v.1) o (((it (Q_cntF o n d) i v.1).2.1 o).2.2.2.2.2.1) := ⟨_, rfl⟩
            refine v_iast (ws' := wR E a (R_setS v m7)) hX 1 rfl (vp_in_nI (by omega : 540 + o < 544) (by omega)) (by rw [hm7]; exact sR_s E a (R_setS v (it (Q_cntF o n d) i v.1)) (k := 540 + o) (by omega) (pS_stuck (it (Q_cntF o n d) i v.1) (o := o) (((it (Q_cntF o n d) i v.1).2.1 o).2.2.2.2.2.1) (by omega) (by omega))) dX6_counts_77 ?_
            refine v_aload_n hX dX6_counts_78 rfl ?_
            refine v_get (C := RX6) (T := TX6) (N := 18) (ci := 6) (v := .ref (a 1)) hX in_X6 0 rfl rfl 0 (by decide) fl_7 rfl rfl dX6_counts_79 ?_
            refine v_iload hX dX6_counts_82 rfl ?_
            refine v_dup2 hX dX6_counts_84 rfl rfl ?_
            refine v_iald (z := (m7.2.1 o).2.2.2.2.1 (Q_ctr n i)) hX 1 rfl (vp_in_nI (by omega : 352 + (24 * o) + Q_ctr n i < 544) (by omega)) (by simp only [nI_clamp (show 352 + (24 * o) + Q_ctr n i < 2 ^ 31 by omega)]; exact gS_cnt m7 (o := o) (q := Q_ctr n i) (by omega) (by omega) (by omega)) dX6_counts_85 ?_
            refine v_aload_n hX dX6_counts_86 rfl ?_
            refine v_get (C := RX6) (T := TX6) (N := 18) (ci := 6) (v := .ref (a 1)) hX in_X6 0 rfl rfl 0 (by decide) fl_7 rfl rfl dX6_counts_87 ?_
            refine v_sipush (x := (540 : Int32)) hX dX6_counts_90 (by decide) ?_
            refine v_iload_n hX dX6_counts_93 rfl ?_
            refine v_iadd (z := nI (540 + o)) hX dX6_counts_94 (nI_add 540 o) ?_
            refine v_iald (z := mk ((m7.2.1 o).2.2.2.2.2.1)) hX 1 rfl (vp_in_nI (by omega : 540 + o < 544) (by omega)) (by simp only [nI_clamp (show 540 + o < 2 ^ 31 by omega)]; exact gS_stuck m7 (o := o) (by omega)) dX6_counts_95 ?_
            refine v_iload_n hX dX6_counts_96 rfl ?_
            refine v_iload hX dX6_counts_97 rfl ?_
            refine v_callSi (r := nI (Q_ctr n i)) (rest := [.int (mk ((m7.2.1 o).2.2.2.2.2.1)), .int ((m7.2.1 o).2.2.2.2.1 (Q_ctr n i)), .int (nI (352 + (24 * o) + Q_ctr n i)), .ref (a 1)]) (ws' := wR E a (R_setS v m7)) hX (fun sz => c_X6_counterOf l E sz n (by first | omega | exact Nat.le_of_ble_eq_true rfl) i (by first | omega | exact Nat.le_of_ble_eq_true rfl)) (va_cwS 2 hX.2.2.2.2.1 gX6_counts_X6_counterOf rfl rfl rfl (by decide +kernel) ⟨Nat.le_of_ble_eq_true rfl, Nat.le_of_ble_eq_true rfl⟩) ([]) (wR E a (R_setS v m7)) (rfl) rfl (rfl) rfl rfl (Nat.le_of_ble_eq_true rfl) dX6_counts_99 ?_
            refine v_ishr (z := (mk ((m7.2.1 o).2.2.2.2.2.1) >>> (nI (Q_ctr n i) &&& 31))) hX dX6_counts_102 (rfl) ?_
            refine v_iconst (x := (1 : Int32)) hX dX6_counts_103 (by decide) ?_
            refine v_iand (z := bI (((m7.2.1 o).2.2.2.2.2.1) (Q_ctr n i))) hX dX6_counts_104 (mk_bit _ (by omega : Q_ctr n i < 24)) ?_
            refine v_iconst (x := (1 : Int32)) hX dX6_counts_105 (by decide) ?_
            refine v_icmp_ne (tgt := 113) hX dX6_counts_106 (by decide) (fun c8 => ?_) (fun c8 => ?_)
            · replace c8 := bI_n1.mp c8
              refine v_iload_n hX dX6_counts_113 rfl ?_
              refine v_iadd (z := ((m7.2.1 o).2.2.2.2.1 (Q_ctr n i) + d)) hX dX6_counts_114 (rfl) ?_
              obtain ⟨m9, hm9⟩ : ∃ z_ : MV, z_ = Q_setCnt m7 o (Q_ctr n i) (((m7.2.1 o).2.2.2.2.1 (Q_ctr n i) + d)) := ⟨_, rfl⟩
              refine v_iast (ws' := wR E a (R_setS v m9)) hX 1 rfl (vp_in_nI (by omega : 352 + (24 * o) + Q_ctr n i < 544) (by omega)) (by rw [hm9]; exact sR_s E a (R_setS v m7) (k := 352 + (24 * o) + Q_ctr n i) (by omega) (pS_cnt m7 (o := o) (q := Q_ctr n i) (((m7.2.1 o).2.2.2.2.1 (Q_ctr n i) + d)) (by omega) (by omega) (by omega))) dX6_counts_115 ?_
              refine v_iinc (y := nI (i + 1)) (lv' := [.ref (a 0), .int (nI (o)), .int (nI (n)), .int (d), .int (nI (i + 1)), .int (nI (352 + (24 * o) + Q_ctr n i)), .int ((0 : Int32))]) hX dX6_counts_116 rfl (nI_inc _) (Nat.le_of_ble_eq_true rfl) (Nat.le_of_ble_eq_true rfl) rfl rfl ?_
              refine v_goto (tgt := 3) hX dX6_counts_119 (by decide) ?_
              have e10 : R_setS v m9 = R_setS v (it (Q_cntF o n d) (i + 1) v.1) := by subst hm9; subst hm7; first | rfl | (simp only [Q_cntF, Q_cnt2, Q_stk, c3, c5, c6t, c8, it, if_true, if_false, reduceIte, Bool.false_eq_true, Bool.and_true, Bool.and_false, Bool.true_and, Bool.false_and, not_true_eq_false, not_false_eq_true, eq_self, ne_eq, reduceCtorEq, decide_true, decide_false, Bool.not_true, Bool.not_false]; done) | (simp only [Q_cntF, Q_cnt2, Q_stk, c3, c5, c6t, c8, it, if_true, if_false, reduceIte, Bool.false_eq_true, Bool.and_true, Bool.and_false, Bool.true_and, Bool.false_and, not_true_eq_false, not_false_eq_true, eq_self, ne_eq, reduceCtorEq, decide_true, decide_false, Bool.not_true, Bool.not_false]; rfl)
              rw [e10]
              exact v_fewer 5 rfl (ih (i + 1)  (by omega) )
            · replace c8 := bI_nn0.mp c8
              refine v_iconst (x := (0 : Int32)) hX dX6_counts_109 (by decide) ?_
              refine v_goto (tgt := 114) hX dX6_counts_110 (by decide) ?_
              refine v_iadd (z := ((m7.2.1 o).2.2.2.2.1 (Q_ctr n i) + (0 : Int32))) hX dX6_counts_114 (rfl) ?_
              obtain ⟨m11, hm11⟩ : ∃ z_ : MV, z_ = Q_setCnt m7 o (Q_ctr n i) (((m7.2.1 o).2.2.2.2.1 (Q_ctr n i) + (0 : Int32))) := ⟨_, rfl⟩
              refine v_iast (ws' := wR E a (R_setS v m11)) hX 1 rfl (vp_in_nI (by omega : 352 + (24 * o) + Q_ctr n i < 544) (by omega)) (by rw [hm11]; exact sR_s E a (R_setS v m7) (k := 352 + (24 * o) + Q_ctr n i) (by omega) (pS_cnt m7 (o := o) (q := Q_ctr n i) (((m7.2.1 o).2.2.2.2.1 (Q_ctr n i) + (0 : Int32))) (by omega) (by omega) (by omega))) dX6_counts_115 ?_
              refine v_iinc (y := nI (i + 1)) (lv' := [.ref (a 0), .int (nI (o)), .int (nI (n)), .int (d), .int (nI (i + 1)), .int (nI (352 + (24 * o) + Q_ctr n i)), .int ((0 : Int32))]) hX dX6_counts_116 rfl (nI_inc _) (Nat.le_of_ble_eq_true rfl) (Nat.le_of_ble_eq_true rfl) rfl rfl ?_
              refine v_goto (tgt := 3) hX dX6_counts_119 (by decide) ?_
              have e12 : R_setS v m11 = R_setS v (it (Q_cntF o n d) (i + 1) v.1) := by subst hm11; subst hm7; first | rfl | (simp only [Q_cntF, Q_cnt2, Q_stk, c3, c5, c6t, c8, it, if_true, if_false, reduceIte, Bool.false_eq_true, Bool.and_true, Bool.and_false, Bool.true_and, Bool.false_and, not_true_eq_false, not_false_eq_true, eq_self, ne_eq, reduceCtorEq, decide_true, decide_false, Bool.not_true, Bool.not_false]; done) | (simp only [Q_cntF, Q_cnt2, Q_stk, c3, c5, c6t, c8, it, if_true, if_false, reduceIte, Bool.false_eq_true, Bool.and_true, Bool.and_false, Bool.true_and, Bool.false_and, not_true_eq_false, not_false_eq_true, eq_self, ne_eq, reduceCtorEq, decide_true, decide_false, Bool.not_true, Bool.not_false]; rfl)
              rw [e12]
              exact v_fewer 5 rfl (ih (i + 1)  (by omega) )
          · replace c6 := (not_congr (nI_eq (a := 0) (b := 0) (by omega) (by omega))).mp c6
            exfalso; omega
        · refine v_aload_n hX dX6_counts_23 rfl ?_
          refine v_get (C := RX6) (T := TX6) (N := 18) (ci := 6) (v := .ref (a 1)) hX in_X6 0 rfl rfl 0 (by decide) fl_7 rfl rfl dX6_counts_24 ?_
          refine v_iload hX dX6_counts_27 rfl ?_
          refine v_iald (z := ((it (Q_cntF o n d) i v.1).2.1 o).2.2.2.2.1 (Q_ctr n i)) hX 1 rfl (vp_in_nI (by omega : 352 + (24 * o) + Q_ctr n i < 544) (by omega)) (by simp only [nI_clamp (show 352 + (24 * o) + Q_ctr n i < 2 ^ 31 by omega)]; exact gS_cnt (it (Q_cntF o n d) i v.1) (o := o) (q := Q_ctr n i) (by omega) (by omega) (by omega)) dX6_counts_29 ?_
          refine v_aload_n hX dX6_counts_30 rfl ?_
          refine v_get (C := RX6) (T := TX6) (N := 18) (ci := 6) (v := .ref (a 1)) hX in_X6 0 rfl rfl 0 (by decide) fl_7 rfl rfl dX6_counts_31 ?_
          refine v_sipush (x := (536 : Int32)) hX dX6_counts_34 (by decide) ?_
          refine v_iald (z := (it (Q_cntF o n d) i v.1).2.2.1) hX 1 rfl (vp_in_nI (by omega : 536 < 544) (by omega)) (by show encS _ 536 = _; exact gS_lim (it (Q_cntF o n d) i v.1) (by omega)) dX6_counts_37 ?_
          refine v_icmp_lt (tgt := 45) hX dX6_counts_38 (by decide) (fun c13 => ?_) (fun c13 => ?_)
          · refine v_iconst (x := (0 : Int32)) hX dX6_counts_45 (by decide) ?_
            refine v_istore (lv' := [.ref (a 0), .int (nI (o)), .int (nI (n)), .int (d), .int (nI (i)), .int (nI (352 + (24 * o) + Q_ctr n i)), .int ((0 : Int32))]) hX dX6_counts_46 (Nat.le_of_ble_eq_true rfl) (Nat.le_of_ble_eq_true rfl) rfl rfl ?_
            refine v_aload_n hX dX6_counts_48 rfl ?_
            refine v_get (C := RX6) (T := TX6) (N := 18) (ci := 6) (v := .ref (a 1)) hX in_X6 0 rfl rfl 0 (by decide) fl_7 rfl rfl dX6_counts_49 ?_
            refine v_sipush (x := (540 : Int32)) hX dX6_counts_52 (by decide) ?_
            refine v_iload_n hX dX6_counts_55 rfl ?_
            refine v_iadd (z := nI (540 + o)) hX dX6_counts_56 (nI_add 540 o) ?_
            refine v_dup2 hX dX6_counts_57 rfl rfl ?_
            refine v_iald (z := mk (((it (Q_cntF o n d) i v.1).2.1 o).2.2.2.2.2.1)) hX 1 rfl (vp_in_nI (by omega : 540 + o < 544) (by omega)) (by simp only [nI_clamp (show 540 + o < 2 ^ 31 by omega)]; exact gS_stuck (it (Q_cntF o n d) i v.1) (o := o) (by omega)) dX6_counts_58 ?_
            refine v_iload hX dX6_counts_59 rfl ?_
            refine v_if_eq (tgt := 75) hX dX6_counts_61 (by decide) (fun c14 => ?_) (fun c14 => ?_)
            · replace c14 := (nI_eq (a := 0) (b := 0) (by omega) (by omega)).mp c14
              have c14t := eq_true c14
              refine v_iconst (x := (0 : Int32)) hX dX6_counts_75 (by decide) ?_
              refine v_ior (z := mk (((it (Q_cntF o n d) i v.1).2.1 o).2.2.2.2.2.1)) hX dX6_counts_76 (mk_or0 _) ?_
              obtain ⟨m15, hm15⟩ : ∃ z_ : MV, z_ = Q_setSt (it (Q_cntF o n d) i v.1) o (((it (Q_cntF o n d) i v.1).2.1 o).2.2.2.2.2.1) := ⟨_, rfl⟩
              refine v_iast (ws' := wR E a (R_setS v m15)) hX 1 rfl (vp_in_nI (by omega : 540 + o < 544) (by omega)) (by rw [hm15]; exact sR_s E a (R_setS v (it (Q_cntF o n d) i v.1)) (k := 540 + o) (by omega) (pS_stuck (it (Q_cntF o n d) i v.1) (o := o) (((it (Q_cntF o n d) i v.1).2.1 o).2.2.2.2.2.1) (by omega) (by omega))) dX6_counts_77 ?_
              refine v_aload_n hX dX6_counts_78 rfl ?_
              refine v_get (C := RX6) (T := TX6) (N := 18) (ci := 6) (v := .ref (a 1)) hX in_X6 0 rfl rfl 0 (by decide) fl_7 rfl rfl dX6_counts_79 ?_
              refine v_iload hX dX6_counts_82 rfl ?_
              refine v_dup2 hX dX6_counts_84 rfl rfl ?_
              refine v_iald (z := (m15.2.1 o).2.2.2.2.1 (Q_ctr n i)) hX 1 rfl (vp_in_nI (by omega : 352 + (24 * o) + Q_ctr n i < 544) (by omega)) (by simp only [nI_clamp (show 352 + (24 * o) + Q_ctr n i < 2 ^ 31 by omega)]; exact gS_cnt m15 (o := o) (q := Q_ctr n i) (by omega) (by omega) (by omega)) dX6_counts_85 ?_
              refine v_aload_n hX dX6_counts_86 rfl ?_
              refine v_get (C := RX6) (T := TX6) (N := 18) (ci := 6) (v := .ref (a 1)) hX in_X6 0 rfl rfl 0 (by decide) fl_7 rfl rfl dX6_counts_87 ?_
              refine v_sipush (x := (540 : Int32)) hX dX6_counts_90 (by decide) ?_
              refine v_iload_n hX dX6_counts_93 rfl ?_
              refine v_iadd (z := nI (540 + o)) hX dX6_counts_94 (nI_add 540 o) ?_
              refine v_iald (z := mk ((m15.2.1 o).2.2.2.2.2.1)) hX 1 rfl (vp_in_nI (by omega : 540 + o < 544) (by omega)) (by simp only [nI_clamp (show 540 + o < 2 ^ 31 by omega)]; exact gS_stuck m15 (o := o) (by omega)) dX6_counts_95 ?_
              refine v_iload_n hX dX6_counts_96 rfl ?_
              refine v_iload hX dX6_counts_97 rfl ?_
              refine v_callSi (r := nI (Q_ctr n i)) (rest := [.int (mk ((m15.2.1 o).2.2.2.2.2.1)), .int ((m15.2.1 o).2.2.2.2.1 (Q_ctr n i)), .int (nI (352 + (24 * o) + Q_ctr n i)), .ref (a 1)]) (ws' := wR E a (R_setS v m15)) hX (fun sz => c_X6_counterOf l E sz n (by first | omega | exact Nat.le_of_ble_eq_true rfl) i (by first | omega | exact Nat.le_of_ble_eq_true rfl)) (va_cwS 2 hX.2.2.2.2.1 gX6_counts_X6_counterOf rfl rfl rfl (by decide +kernel) ⟨Nat.le_of_ble_eq_true rfl, Nat.le_of_ble_eq_true rfl⟩) ([]) (wR E a (R_setS v m15)) (rfl) rfl (rfl) rfl rfl (Nat.le_of_ble_eq_true rfl) dX6_counts_99 ?_
              refine v_ishr (z := (mk ((m15.2.1 o).2.2.2.2.2.1) >>> (nI (Q_ctr n i) &&& 31))) hX dX6_counts_102 (rfl) ?_
              refine v_iconst (x := (1 : Int32)) hX dX6_counts_103 (by decide) ?_
              refine v_iand (z := bI (((m15.2.1 o).2.2.2.2.2.1) (Q_ctr n i))) hX dX6_counts_104 (mk_bit _ (by omega : Q_ctr n i < 24)) ?_
              refine v_iconst (x := (1 : Int32)) hX dX6_counts_105 (by decide) ?_
              refine v_icmp_ne (tgt := 113) hX dX6_counts_106 (by decide) (fun c16 => ?_) (fun c16 => ?_)
              · replace c16 := bI_n1.mp c16
                refine v_iload_n hX dX6_counts_113 rfl ?_
                refine v_iadd (z := ((m15.2.1 o).2.2.2.2.1 (Q_ctr n i) + d)) hX dX6_counts_114 (rfl) ?_
                obtain ⟨m17, hm17⟩ : ∃ z_ : MV, z_ = Q_setCnt m15 o (Q_ctr n i) (((m15.2.1 o).2.2.2.2.1 (Q_ctr n i) + d)) := ⟨_, rfl⟩
                refine v_iast (ws' := wR E a (R_setS v m17)) hX 1 rfl (vp_in_nI (by omega : 352 + (24 * o) + Q_ctr n i < 544) (by omega)) (by rw [hm17]; exact sR_s E a (R_setS v m15) (k := 352 + (24 * o) + Q_ctr n i) (by omega) (pS_cnt m15 (o := o) (q := Q_ctr n i) (((m15.2.1 o).2.2.2.2.1 (Q_ctr n i) + d)) (by omega) (by omega) (by omega))) dX6_counts_115 ?_
                refine v_iinc (y := nI (i + 1)) (lv' := [.ref (a 0), .int (nI (o)), .int (nI (n)), .int (d), .int (nI (i + 1)), .int (nI (352 + (24 * o) + Q_ctr n i)), .int ((0 : Int32))]) hX dX6_counts_116 rfl (nI_inc _) (Nat.le_of_ble_eq_true rfl) (Nat.le_of_ble_eq_true rfl) rfl rfl ?_
                refine v_goto (tgt := 3) hX dX6_counts_119 (by decide) ?_
                have e18 : R_setS v m17 = R_setS v (it (Q_cntF o n d) (i + 1) v.1) := by subst hm17; subst hm15; first | rfl | (simp only [Q_cntF, Q_cnt2, Q_stk, c3, c5, c13, c14t, c16, it, if_true, if_false, reduceIte, Bool.false_eq_true, Bool.and_true, Bool.and_false, Bool.true_and, Bool.false_and, not_true_eq_false, not_false_eq_true, eq_self, ne_eq, reduceCtorEq, decide_true, decide_false, Bool.not_true, Bool.not_false]; done) | (simp only [Q_cntF, Q_cnt2, Q_stk, c3, c5, c13, c14t, c16, it, if_true, if_false, reduceIte, Bool.false_eq_true, Bool.and_true, Bool.and_false, Bool.true_and, Bool.false_and, not_true_eq_false, not_false_eq_true, eq_self, ne_eq, reduceCtorEq, decide_true, decide_false, Bool.not_true, Bool.not_false]; rfl)
                rw [e18]
                exact v_fewer 5 rfl (ih (i + 1)  (by omega) )
              · replace c16 := bI_nn0.mp c16
                refine v_iconst (x := (0 : Int32)) hX dX6_counts_109 (by decide) ?_
                refine v_goto (tgt := 114) hX dX6_counts_110 (by decide) ?_
                refine v_iadd (z := ((m15.2.1 o).2.2.2.2.1 (Q_ctr n i) + (0 : Int32))) hX dX6_counts_114 (rfl) ?_
                obtain ⟨m19, hm19⟩ : ∃ z_ : MV, z_ = Q_setCnt m15 o (Q_ctr n i) (((m15.2.1 o).2.2.2.2.1 (Q_ctr n i) + (0 : Int32))) := ⟨_, rfl⟩
                refine v_iast (ws' := wR E a (R_setS v m19)) hX 1 rfl (vp_in_nI (by omega : 352 + (24 * o) + Q_ctr n i < 544) (by omega)) (by rw [hm19]; exact sR_s E a (R_setS v m15) (k := 352 + (24 * o) + Q_ctr n i) (by omega) (pS_cnt m15 (o := o) (q := Q_ctr n i) (((m15.2.1 o).2.2.2.2.1 (Q_ctr n i) + (0 : Int32))) (by omega) (by omega) (by omega))) dX6_counts_115 ?_
                refine v_iinc (y := nI (i + 1)) (lv' := [.ref (a 0), .int (nI (o)), .int (nI (n)), .int (d), .int (nI (i + 1)), .int (nI (352 + (24 * o) + Q_ctr n i)), .int ((0 : Int32))]) hX dX6_counts_116 rfl (nI_inc _) (Nat.le_of_ble_eq_true rfl) (Nat.le_of_ble_eq_true rfl) rfl rfl ?_
                refine v_goto (tgt := 3) hX dX6_counts_119 (by decide) ?_
                have e20 : R_setS v m19 = R_setS v (it (Q_cntF o n d) (i + 1) v.1) := by subst hm19; subst hm15; first | rfl | (simp only [Q_cntF, Q_cnt2, Q_stk, c3, c5, c13, c14t, c16, it, if_true, if_false, reduceIte, Bool.false_eq_true, Bool.and_true, Bool.and_false, Bool.true_and, Bool.false_and, not_true_eq_false, not_false_eq_true, eq_self, ne_eq, reduceCtorEq, decide_true, decide_false, Bool.not_true, Bool.not_false]; done) | (simp only [Q_cntF, Q_cnt2, Q_stk, c3, c5, c13, c14t, c16, it, if_true, if_false, reduceIte, Bool.false_eq_true, Bool.and_true, Bool.and_false, Bool.true_and, Bool.false_and, not_true_eq_false, not_false_eq_true, eq_self, ne_eq, reduceCtorEq, decide_true, decide_false, Bool.not_true, Bool.not_false]; rfl)
                rw [e20]
                exact v_fewer 5 rfl (ih (i + 1)  (by omega) )
            · replace c14 := (not_congr (nI_eq (a := 0) (b := 0) (by omega) (by omega))).mp c14
              exfalso; omega
          · refine v_iconst (x := (1 : Int32)) hX dX6_counts_41 (by decide) ?_
            refine v_goto (tgt := 46) hX dX6_counts_42 (by decide) ?_
            refine v_istore (lv' := [.ref (a 0), .int (nI (o)), .int (nI (n)), .int (d), .int (nI (i)), .int (nI (352 + (24 * o) + Q_ctr n i)), .int ((1 : Int32))]) hX dX6_counts_46 (Nat.le_of_ble_eq_true rfl) (Nat.le_of_ble_eq_true rfl) rfl rfl ?_
            refine v_aload_n hX dX6_counts_48 rfl ?_
            refine v_get (C := RX6) (T := TX6) (N := 18) (ci := 6) (v := .ref (a 1)) hX in_X6 0 rfl rfl 0 (by decide) fl_7 rfl rfl dX6_counts_49 ?_
            refine v_sipush (x := (540 : Int32)) hX dX6_counts_52 (by decide) ?_
            refine v_iload_n hX dX6_counts_55 rfl ?_
            refine v_iadd (z := nI (540 + o)) hX dX6_counts_56 (nI_add 540 o) ?_
            refine v_dup2 hX dX6_counts_57 rfl rfl ?_
            refine v_iald (z := mk (((it (Q_cntF o n d) i v.1).2.1 o).2.2.2.2.2.1)) hX 1 rfl (vp_in_nI (by omega : 540 + o < 544) (by omega)) (by simp only [nI_clamp (show 540 + o < 2 ^ 31 by omega)]; exact gS_stuck (it (Q_cntF o n d) i v.1) (o := o) (by omega)) dX6_counts_58 ?_
            refine v_iload hX dX6_counts_59 rfl ?_
            refine v_if_eq (tgt := 75) hX dX6_counts_61 (by decide) (fun c21 => ?_) (fun c21 => ?_)
            · replace c21 := (nI_eq (a := 1) (b := 0) (by omega) (by omega)).mp c21
              have c21t := eq_true c21
              exfalso; omega
            · replace c21 := (not_congr (nI_eq (a := 1) (b := 0) (by omega) (by omega))).mp c21
              refine v_iconst (x := (1 : Int32)) hX dX6_counts_64 (by decide) ?_
              refine v_iload_n hX dX6_counts_65 rfl ?_
              refine v_iload hX dX6_counts_66 rfl ?_
              refine v_callSi (r := nI (Q_ctr n i)) (rest := [.int ((1 : Int32)), .int (mk (((it (Q_cntF o n d) i v.1).2.1 o).2.2.2.2.2.1)), .int (nI (540 + o)), .ref (a 1)]) (ws' := wR E a (R_setS v (it (Q_cntF o n d) i v.1))) hX (fun sz => c_X6_counterOf l E sz n (by first | omega | exact Nat.le_of_ble_eq_true rfl) i (by first | omega | exact Nat.le_of_ble_eq_true rfl)) (va_cwS 2 hX.2.2.2.2.1 gX6_counts_X6_counterOf rfl rfl rfl (by decide +kernel) ⟨Nat.le_of_ble_eq_true rfl, Nat.le_of_ble_eq_true rfl⟩) ([]) (wR E a (R_setS v (it (Q_cntF o n d) i v.1))) (rfl) rfl (rfl) rfl rfl (Nat.le_of_ble_eq_true rfl) dX6_counts_68 ?_
              refine v_ishl (z := ((1 : Int32) <<< (nI (Q_ctr n i) &&& 31))) hX dX6_counts_71 (rfl) ?_
              refine v_goto (tgt := 76) hX dX6_counts_72 (by decide) ?_
              refine v_ior (z := mk (va_up (((it (Q_cntF o n d) i v.1).2.1 o).2.2.2.2.2.1) (Q_ctr n i) true)) hX dX6_counts_76 (mk_or _ (by omega : Q_ctr n i < 24)) ?_
              obtain ⟨m22, hm22⟩ : ∃ z_ : MV, z_ = Q_setSt (it (Q_cntF o n d) i v.1) o (va_up (((it (Q_cntF o n d) i v.1).2.1 o).2.2.2.2.2.1) (Q_ctr n i) true) := ⟨_, rfl⟩
              refine v_iast (ws' := wR E a (R_setS v m22)) hX 1 rfl (vp_in_nI (by omega : 540 + o < 544) (by omega)) (by rw [hm22]; exact sR_s E a (R_setS v (it (Q_cntF o n d) i v.1)) (k := 540 + o) (by omega) (pS_stuck (it (Q_cntF o n d) i v.1) (o := o) (va_up (((it (Q_cntF o n d) i v.1).2.1 o).2.2.2.2.2.1) (Q_ctr n i) true) (by omega) (by omega))) dX6_counts_77 ?_
              refine v_aload_n hX dX6_counts_78 rfl ?_
              refine v_get (C := RX6) (T := TX6) (N := 18) (ci := 6) (v := .ref (a 1)) hX in_X6 0 rfl rfl 0 (by decide) fl_7 rfl rfl dX6_counts_79 ?_
              refine v_iload hX dX6_counts_82 rfl ?_
              refine v_dup2 hX dX6_counts_84 rfl rfl ?_
              refine v_iald (z := (m22.2.1 o).2.2.2.2.1 (Q_ctr n i)) hX 1 rfl (vp_in_nI (by omega : 352 + (24 * o) + Q_ctr n i < 544) (by omega)) (by simp only [nI_clamp (show 352 + (24 * o) + Q_ctr n i < 2 ^ 31 by omega)]; exact gS_cnt m22 (o := o) (q := Q_ctr n i) (by omega) (by omega) (by omega)) dX6_counts_85 ?_
              refine v_aload_n hX dX6_counts_86 rfl ?_
              refine v_get (C := RX6) (T := TX6) (N := 18) (ci := 6) (v := .ref (a 1)) hX in_X6 0 rfl rfl 0 (by decide) fl_7 rfl rfl dX6_counts_87 ?_
              refine v_sipush (x := (540 : Int32)) hX dX6_counts_90 (by decide) ?_
              refine v_iload_n hX dX6_counts_93 rfl ?_
              refine v_iadd (z := nI (540 + o)) hX dX6_counts_94 (nI_add 540 o) ?_
              refine v_iald (z := mk ((m22.2.1 o).2.2.2.2.2.1)) hX 1 rfl (vp_in_nI (by omega : 540 + o < 544) (by omega)) (by simp only [nI_clamp (show 540 + o < 2 ^ 31 by omega)]; exact gS_stuck m22 (o := o) (by omega)) dX6_counts_95 ?_
              refine v_iload_n hX dX6_counts_96 rfl ?_
              refine v_iload hX dX6_counts_97 rfl ?_
              refine v_callSi (r := nI (Q_ctr n i)) (rest := [.int (mk ((m22.2.1 o).2.2.2.2.2.1)), .int ((m22.2.1 o).2.2.2.2.1 (Q_ctr n i)), .int (nI (352 + (24 * o) + Q_ctr n i)), .ref (a 1)]) (ws' := wR E a (R_setS v m22)) hX (fun sz => c_X6_counterOf l E sz n (by first | omega | exact Nat.le_of_ble_eq_true rfl) i (by first | omega | exact Nat.le_of_ble_eq_true rfl)) (va_cwS 2 hX.2.2.2.2.1 gX6_counts_X6_counterOf rfl rfl rfl (by decide +kernel) ⟨Nat.le_of_ble_eq_true rfl, Nat.le_of_ble_eq_true rfl⟩) ([]) (wR E a (R_setS v m22)) (rfl) rfl (rfl) rfl rfl (Nat.le_of_ble_eq_true rfl) dX6_counts_99 ?_
              refine v_ishr (z := (mk ((m22.2.1 o).2.2.2.2.2.1) >>> (nI (Q_ctr n i) &&& 31))) hX dX6_counts_102 (rfl) ?_
              refine v_iconst (x := (1 : Int32)) hX dX6_counts_103 (by decide) ?_
              refine v_iand (z := bI (((m22.2.1 o).2.2.2.2.2.1) (Q_ctr n i))) hX dX6_counts_104 (mk_bit _ (by omega : Q_ctr n i < 24)) ?_
              refine v_iconst (x := (1 : Int32)) hX dX6_counts_105 (by decide) ?_
              refine v_icmp_ne (tgt := 113) hX dX6_counts_106 (by decide) (fun c23 => ?_) (fun c23 => ?_)
              · replace c23 := bI_n1.mp c23
                refine v_iload_n hX dX6_counts_113 rfl ?_
                refine v_iadd (z := ((m22.2.1 o).2.2.2.2.1 (Q_ctr n i) + d)) hX dX6_counts_114 (rfl) ?_
                obtain ⟨m24, hm24⟩ : ∃ z_ : MV, z_ = Q_setCnt m22 o (Q_ctr n i) (((m22.2.1 o).2.2.2.2.1 (Q_ctr n i) + d)) := ⟨_, rfl⟩
                refine v_iast (ws' := wR E a (R_setS v m24)) hX 1 rfl (vp_in_nI (by omega : 352 + (24 * o) + Q_ctr n i < 544) (by omega)) (by rw [hm24]; exact sR_s E a (R_setS v m22) (k := 352 + (24 * o) + Q_ctr n i) (by omega) (pS_cnt m22 (o := o) (q := Q_ctr n i) (((m22.2.1 o).2.2.2.2.1 (Q_ctr n i) + d)) (by omega) (by omega) (by omega))) dX6_counts_115 ?_
                refine v_iinc (y := nI (i + 1)) (lv' := [.ref (a 0), .int (nI (o)), .int (nI (n)), .int (d), .int (nI (i + 1)), .int (nI (352 + (24 * o) + Q_ctr n i)), .int ((1 : Int32))]) hX dX6_counts_116 rfl (nI_inc _) (Nat.le_of_ble_eq_true rfl) (Nat.le_of_ble_eq_true rfl) rfl rfl ?_
                refine v_goto (tgt := 3) hX dX6_counts_119 (by decide) ?_
                have e25 : R_setS v m24 = R_setS v (it (Q_cntF o n d) (i + 1) v.1) := by subst hm24; subst hm22; first | rfl | (simp only [Q_cntF, Q_cnt2, Q_stk, c3, c5, c13, c21, c23, it, if_true, if_false, reduceIte, Bool.false_eq_true, Bool.and_true, Bool.and_false, Bool.true_and, Bool.false_and, not_true_eq_false, not_false_eq_true, eq_self, ne_eq, reduceCtorEq, decide_true, decide_false, Bool.not_true, Bool.not_false]; done) | (simp only [Q_cntF, Q_cnt2, Q_stk, c3, c5, c13, c21, c23, it, if_true, if_false, reduceIte, Bool.false_eq_true, Bool.and_true, Bool.and_false, Bool.true_and, Bool.false_and, not_true_eq_false, not_false_eq_true, eq_self, ne_eq, reduceCtorEq, decide_true, decide_false, Bool.not_true, Bool.not_false]; rfl)
                rw [e25]
                exact v_fewer 5 rfl (ih (i + 1)  (by omega) )
              · replace c23 := bI_nn0.mp c23
                refine v_iconst (x := (0 : Int32)) hX dX6_counts_109 (by decide) ?_
                refine v_goto (tgt := 114) hX dX6_counts_110 (by decide) ?_
                refine v_iadd (z := ((m22.2.1 o).2.2.2.2.1 (Q_ctr n i) + (0 : Int32))) hX dX6_counts_114 (rfl) ?_
                obtain ⟨m26, hm26⟩ : ∃ z_ : MV, z_ = Q_setCnt m22 o (Q_ctr n i) (((m22.2.1 o).2.2.2.2.1 (Q_ctr n i) + (0 : Int32))) := ⟨_, rfl⟩
                refine v_iast (ws' := wR E a (R_setS v m26)) hX 1 rfl (vp_in_nI (by omega : 352 + (24 * o) + Q_ctr n i < 544) (by omega)) (by rw [hm26]; exact sR_s E a (R_setS v m22) (k := 352 + (24 * o) + Q_ctr n i) (by omega) (pS_cnt m22 (o := o) (q := Q_ctr n i) (((m22.2.1 o).2.2.2.2.1 (Q_ctr n i) + (0 : Int32))) (by omega) (by omega) (by omega))) dX6_counts_115 ?_
                refine v_iinc (y := nI (i + 1)) (lv' := [.ref (a 0), .int (nI (o)), .int (nI (n)), .int (d), .int (nI (i + 1)), .int (nI (352 + (24 * o) + Q_ctr n i)), .int ((1 : Int32))]) hX dX6_counts_116 rfl (nI_inc _) (Nat.le_of_ble_eq_true rfl) (Nat.le_of_ble_eq_true rfl) rfl rfl ?_
                refine v_goto (tgt := 3) hX dX6_counts_119 (by decide) ?_
                have e27 : R_setS v m26 = R_setS v (it (Q_cntF o n d) (i + 1) v.1) := by subst hm26; subst hm22; first | rfl | (simp only [Q_cntF, Q_cnt2, Q_stk, c3, c5, c13, c21, c23, it, if_true, if_false, reduceIte, Bool.false_eq_true, Bool.and_true, Bool.and_false, Bool.true_and, Bool.false_and, not_true_eq_false, not_false_eq_true, eq_self, ne_eq, reduceCtorEq, decide_true, decide_false, Bool.not_true, Bool.not_false]; done) | (simp only [Q_cntF, Q_cnt2, Q_stk, c3, c5, c13, c21, c23, it, if_true, if_false, reduceIte, Bool.false_eq_true, Bool.and_true, Bool.and_false, Bool.true_and, Bool.false_and, not_true_eq_false, not_false_eq_true, eq_self, ne_eq, reduceCtorEq, decide_true, decide_false, Bool.not_true, Bool.not_false]; rfl)
                rw [e27]
                exact v_fewer 5 rfl (ih (i + 1)  (by omega) )
  exact loop_3 2 0  (by omega) 
set_option maxHeartbeats 4000000 in
set_option maxRecDepth 100000 in
theorem c_X6_stuckOf (l : Launch) (E : ET) (a : Nat → Nat) (sz : Nat) (v : RV) (o : Nat) (ho : o < 4) : Met l yX6_stuckOf wsX6_stuckOf ({ frames := 0, cells := 0, slots := 0, locals := 0 }) (mPc E [.ref (a 0), .int (nI (o))] sz (wR E a v)) (mQi E (Q_stuckOf v.1 o) (wR E a v) (wR E a v) sz) 0 0 (va_A (wR E a v) sz) := by
  refine v_start (cc := cX6_stuckOf) (maxL := 4) (ret := (some .int)) (by decide) rfl (Nat.le_of_ble_eq_true rfl) rfl ?_
  intro p e s m args below meth c hsz hr hX
  have hX : Xc p s m args meth c E 4 (va_A (wR E a v) sz) cX6_stuckOf RX6 wsX6_stuckOf := hX
  have in_X6 : ∀ w ∈ u_ws RX6 TX6 18, w ∈ wsX6_stuckOf := by decide +kernel
  have fl_7 : Cond.fieldLink RX6 7 RX6 "s" "[I" ∈ wsX6_stuckOf := by decide +kernel
  refine v_iconst (x := (0 : Int32)) hX dX6_stuckOf_0 (by decide) ?_
  refine v_istore_n (lv' := [.ref (a 0), .int (nI (o)), .int ((0 : Int32))]) hX dX6_stuckOf_1 (Nat.le_of_ble_eq_true rfl) (Nat.le_of_ble_eq_true rfl) rfl rfl ?_
  refine v_iconst (x := (0 : Int32)) hX dX6_stuckOf_2 (by decide) ?_
  refine v_istore_n (lv' := [.ref (a 0), .int (nI (o)), .int ((0 : Int32)), .int ((0 : Int32))]) hX dX6_stuckOf_3 (Nat.le_of_ble_eq_true rfl) (Nat.le_of_ble_eq_true rfl) rfl rfl ?_
  have loop_4 : ∀ (fu i : Nat), i + fu = 24 → V p l e ({ frames := 0, cells := 0, slots := 0, locals := 0 } : Room) s m args below meth c E 4 (va_A (wR E a v) sz) (MQ below (mQi E (Q_stuckOf v.1 o) (wR E a v) (wR E a v) sz) args s 0 0 (va_A (wR E a v) sz)) (wR E a v) [.ref (a 0), .int (nI (o)), .int (it (Q_stuckF v.1 o) i 0), .int (nI (i))] 4 [] := by
    intro fu
    induction fu with
    | zero =>
      intro i  hin 
      have hi0 : i = 24 := by omega
      subst hi0
      refine v_iload_n hX dX6_stuckOf_4 rfl ?_
      refine v_bipush (x := (24 : Int32)) hX dX6_stuckOf_5 (by decide) ?_
      refine v_icmp_ge (tgt := 33) hX dX6_stuckOf_7 (by decide) (fun c1 => ?_) (fun c1 => ?_)
      · replace c1 := (nI_leI (a := 24) (b := 24) (by omega) (by omega)).mp c1
        refine v_iload_n hX dX6_stuckOf_33 rfl ?_
        exact v_iret hX hr hsz dX6_stuckOf_34 rfl rfl (by (first | (simp only [Q_stuckOf, c1, if_true, if_false, reduceIte, Bool.false_eq_true, reduceCtorEq, decide_true, decide_false, Bool.and_true, Bool.and_false, Bool.true_and, Bool.false_and, Bool.or_true, Bool.or_false, Bool.true_or, Bool.false_or, not_true_eq_false, not_false_eq_true, Bool.not_true, Bool.not_false, eq_self, Nat.reduceEqDiff]; done) | rfl | (simp only [Q_stuckOf, c1, if_true, if_false, reduceIte, Bool.false_eq_true, reduceCtorEq, decide_true, decide_false, Bool.and_true, Bool.and_false, Bool.true_and, Bool.false_and, Bool.or_true, Bool.or_false, Bool.true_or, Bool.false_or, not_true_eq_false, not_false_eq_true, Bool.not_true, Bool.not_false, eq_self, Nat.reduceEqDiff]; rfl) | contradiction | (exfalso; omega))) rfl
      · replace c1 := (not_congr (nI_leI (a := 24) (b := 24) (by omega) (by omega))).mp c1
        exfalso; omega
    | succ fu ih =>
      intro i  hin 
      refine v_iload_n hX dX6_stuckOf_4 rfl ?_
      refine v_bipush (x := (24 : Int32)) hX dX6_stuckOf_5 (by decide) ?_
      refine v_icmp_ge (tgt := 33) hX dX6_stuckOf_7 (by decide) (fun c2 => ?_) (fun c2 => ?_)
      · replace c2 := (nI_leI (a := 24) (b := i) (by omega) (by omega)).mp c2
        exfalso; omega
      · replace c2 := (not_congr (nI_leI (a := 24) (b := i) (by omega) (by omega))).mp c2
        refine v_iload_n hX dX6_stuckOf_10 rfl ?_
        refine v_aload_n hX dX6_stuckOf_11 rfl ?_
        refine v_get (C := RX6) (T := TX6) (N := 18) (ci := 6) (v := .ref (a 1)) hX in_X6 0 rfl rfl 0 (by decide) fl_7 rfl rfl dX6_stuckOf_12 ?_
        refine v_sipush (x := (540 : Int32)) hX dX6_stuckOf_15 (by decide) ?_
        refine v_iload_n hX dX6_stuckOf_18 rfl ?_
        refine v_iadd (z := nI (540 + o)) hX dX6_stuckOf_19 (nI_add 540 o) ?_
        refine v_iald (z := mk ((v.1.2.1 o).2.2.2.2.2.1)) hX 1 rfl (vp_in_nI (by omega : 540 + o < 544) (by omega)) (by simp only [nI_clamp (show 540 + o < 2 ^ 31 by omega)]; exact gS_stuck v.1 (o := o) (by omega)) dX6_stuckOf_20 ?_
        refine v_iload_n hX dX6_stuckOf_21 rfl ?_
        refine v_ishr (z := (mk ((v.1.2.1 o).2.2.2.2.2.1) >>> (nI (i) &&& 31))) hX dX6_stuckOf_22 (rfl) ?_
        refine v_iconst (x := (1 : Int32)) hX dX6_stuckOf_23 (by decide) ?_
        refine v_iand (z := bI (((v.1.2.1 o).2.2.2.2.2.1) (i))) hX dX6_stuckOf_24 (mk_bit _ (by omega : i < 24)) ?_
        refine v_iadd (z := (it (Q_stuckF v.1 o) i 0 + bI (((v.1.2.1 o).2.2.2.2.2.1) (i)))) hX dX6_stuckOf_25 (rfl) ?_
        refine v_istore_n (lv' := [.ref (a 0), .int (nI (o)), .int ((it (Q_stuckF v.1 o) i 0 + bI (((v.1.2.1 o).2.2.2.2.2.1) (i)))), .int (nI (i))]) hX dX6_stuckOf_26 (Nat.le_of_ble_eq_true rfl) (Nat.le_of_ble_eq_true rfl) rfl rfl ?_
        refine v_iinc (y := nI (i + 1)) (lv' := [.ref (a 0), .int (nI (o)), .int ((it (Q_stuckF v.1 o) i 0 + bI (((v.1.2.1 o).2.2.2.2.2.1) (i)))), .int (nI (i + 1))]) hX dX6_stuckOf_27 rfl (nI_inc _) (Nat.le_of_ble_eq_true rfl) (Nat.le_of_ble_eq_true rfl) rfl rfl ?_
        refine v_goto (tgt := 4) hX dX6_stuckOf_30 (by decide) ?_
        have e3 : (it (Q_stuckF v.1 o) i 0 + bI (((v.1.2.1 o).2.2.2.2.2.1) (i))) = it (Q_stuckF v.1 o) (i + 1) 0 := by first | (simp only [Q_stuckF, c2, it, if_true, if_false, reduceIte, Bool.false_eq_true, Bool.and_true, Bool.and_false, Bool.true_and, Bool.false_and, not_true_eq_false, not_false_eq_true, eq_self, ne_eq, reduceCtorEq, decide_true, decide_false, Bool.not_true, Bool.not_false]; done) | rfl | (simp only [Q_stuckF, c2, it, if_true, if_false, reduceIte, Bool.false_eq_true, Bool.and_true, Bool.and_false, Bool.true_and, Bool.false_and, not_true_eq_false, not_false_eq_true, eq_self, ne_eq, reduceCtorEq, decide_true, decide_false, Bool.not_true, Bool.not_false]; rfl) | contradiction
        rw [e3]
        exact ih (i + 1)  (by omega) 
  exact loop_4 24 0  (by omega) 
set_option maxHeartbeats 4000000 in
set_option maxRecDepth 100000 in
theorem c_X6_isBit (l : Launch) (E : ET) (a : Nat → Nat) (sz : Nat) (v : RV) (o : Nat) (ho : o < 4) (n : Nat) (hn : n < 256) : Met l yX6_isBit wsX6_isBit ({ frames := 0, cells := 0, slots := 0, locals := 0 }) (mPc E [.ref (a 0), .int (nI (o)), .int (nI (n))] sz (wR E a v)) (mQi E (bI ((v.1.2.1 o).2.2.2.2.2.2 (n / 16))) (wR E a v) (wR E a v) sz) 0 0 (va_A (wR E a v) sz) := by
  refine v_start (cc := cX6_isBit) (maxL := 3) (ret := (some .boolean)) (by decide) rfl (Nat.le_of_ble_eq_true rfl) rfl ?_
  intro p e s m args below meth c hsz hr hX
  have hX : Xc p s m args meth c E 3 (va_A (wR E a v) sz) cX6_isBit RX6 wsX6_isBit := hX
  have in_X6 : ∀ w ∈ u_ws RX6 TX6 18, w ∈ wsX6_isBit := by decide +kernel
  have fl_7 : Cond.fieldLink RX6 7 RX6 "s" "[I" ∈ wsX6_isBit := by decide +kernel
  refine v_aload_n hX dX6_isBit_0 rfl ?_
  refine v_get (C := RX6) (T := TX6) (N := 18) (ci := 6) (v := .ref (a 1)) hX in_X6 0 rfl rfl 0 (by decide) fl_7 rfl rfl dX6_isBit_1 ?_
  refine v_sipush (x := (448 : Int32)) hX dX6_isBit_4 (by decide) ?_
  refine v_bipush (x := (16 : Int32)) hX dX6_isBit_7 (by decide) ?_
  refine v_iload_n hX dX6_isBit_9 rfl ?_
  refine v_imul (z := nI (16 * o)) hX dX6_isBit_10 (pk_mul 16 o) ?_
  refine v_iadd (z := nI (448 + (16 * o))) hX dX6_isBit_11 (nI_add 448 (16 * o)) ?_
  refine v_iload_n hX dX6_isBit_12 rfl ?_
  refine v_bipush (x := (16 : Int32)) hX dX6_isBit_13 (by decide) ?_
  refine v_idiv (z := nI ((n) / 16)) hX dX6_isBit_15 (by decide) (div_c (n) 16 (by omega) (by decide) (by decide)) ?_
  refine v_iadd (z := nI ((448 + (16 * o)) + ((n) / 16))) hX dX6_isBit_16 (nI_add (448 + (16 * o)) ((n) / 16)) ?_
  refine v_iald (z := bI ((v.1.2.1 o).2.2.2.2.2.2 ((n) / 16))) hX 1 rfl (vp_in_nI (by omega : (448 + (16 * o)) + ((n) / 16) < 544) (by omega)) (by simp only [nI_clamp (show (448 + (16 * o)) + ((n) / 16) < 2 ^ 31 by omega)]; exact gS_bit v.1 (o := o) (q := (n) / 16) (by omega) (by omega) (by omega)) dX6_isBit_17 ?_
  refine v_iconst (x := (1 : Int32)) hX dX6_isBit_18 (by decide) ?_
  refine v_icmp_ne (tgt := 26) hX dX6_isBit_19 (by decide) (fun c1 => ?_) (fun c1 => ?_)
  · replace c1 := bI_n1.mp c1
    refine v_iconst (x := (0 : Int32)) hX dX6_isBit_26 (by decide) ?_
    exact v_zret hX hr hsz dX6_isBit_27 rfl rfl (bI_narrow (false)) (congrArg bI (by (first | (simp only [c1, if_true, if_false, reduceIte, Bool.false_eq_true, reduceCtorEq, decide_true, decide_false, Bool.and_true, Bool.and_false, Bool.true_and, Bool.false_and, Bool.or_true, Bool.or_false, Bool.true_or, Bool.false_or, not_true_eq_false, not_false_eq_true, Bool.not_true, Bool.not_false, eq_self, Nat.reduceEqDiff]; done) | rfl | (simp only [c1, if_true, if_false, reduceIte, Bool.false_eq_true, reduceCtorEq, decide_true, decide_false, Bool.and_true, Bool.and_false, Bool.true_and, Bool.false_and, Bool.or_true, Bool.or_false, Bool.true_or, Bool.false_or, not_true_eq_false, not_false_eq_true, Bool.not_true, Bool.not_false, eq_self, Nat.reduceEqDiff]; rfl) | contradiction | (exfalso; omega)) : false = (v.1.2.1 o).2.2.2.2.2.2 (n / 16))) rfl
  · replace c1 := bI_nn0.mp c1
    refine v_iconst (x := (1 : Int32)) hX dX6_isBit_22 (by decide) ?_
    refine v_goto (tgt := 27) hX dX6_isBit_23 (by decide) ?_
    exact v_zret hX hr hsz dX6_isBit_27 rfl rfl (bI_narrow (true)) (congrArg bI (by (first | (simp only [c1, if_true, if_false, reduceIte, Bool.false_eq_true, reduceCtorEq, decide_true, decide_false, Bool.and_true, Bool.and_false, Bool.true_and, Bool.false_and, Bool.or_true, Bool.or_false, Bool.true_or, Bool.false_or, not_true_eq_false, not_false_eq_true, Bool.not_true, Bool.not_false, eq_self, Nat.reduceEqDiff]; done) | rfl | (simp only [c1, if_true, if_false, reduceIte, Bool.false_eq_true, reduceCtorEq, decide_true, decide_false, Bool.and_true, Bool.and_false, Bool.true_and, Bool.false_and, Bool.or_true, Bool.or_false, Bool.true_or, Bool.false_or, not_true_eq_false, not_false_eq_true, Bool.not_true, Bool.not_false, eq_self, Nat.reduceEqDiff]; rfl) | contradiction | (exfalso; omega)) : true = (v.1.2.1 o).2.2.2.2.2.2 (n / 16))) rfl
set_option maxHeartbeats 4000000 in
set_option maxRecDepth 100000 in
theorem c_X6_mayHave (l : Launch) (E : ET) (a : Nat → Nat) (sz : Nat) (v : RV) (o : Nat) (ho : o < 4) (n : Nat) (hn : n < 256) : Met l yX6_mayHave wsX6_mayHave ({ frames := 2, cells := 0, slots := 0, locals := 44 }) (mPc E [.ref (a 0), .int (nI (o)), .int (nI (n))] sz (wR E a v)) (mQi E (bI (Q_may v.1 o n)) (wR E a v) (wR E a v) sz) 0 0 (va_A (wR E a v) sz) := by
  refine v_start (cc := cX6_mayHave) (maxL := 5) (ret := (some .boolean)) (by decide) rfl (Nat.le_of_ble_eq_true rfl) rfl ?_
  intro p e s m args below meth c hsz hr hX
  have hX : Xc p s m args meth c E 5 (va_A (wR E a v) sz) cX6_mayHave RX6 wsX6_mayHave := hX
  have in_X6 : ∀ w ∈ u_ws RX6 TX6 18, w ∈ wsX6_mayHave := by decide +kernel
  have fl_7 : Cond.fieldLink RX6 7 RX6 "s" "[I" ∈ wsX6_mayHave := by decide +kernel
  refine v_aload_n hX dX6_mayHave_0 rfl ?_
  refine v_iload_n hX dX6_mayHave_1 rfl ?_
  refine v_iload_n hX dX6_mayHave_2 rfl ?_
  refine v_callVi (r := bI ((v.1.2.1 o).2.2.2.2.2.2 (n / 16))) (rest := []) (ws' := wR E a v) hX (fun sz => c_X6_isBit l E a sz v o (by first | omega | exact Nat.le_of_ble_eq_true rfl) n (by first | omega | exact Nat.le_of_ble_eq_true rfl)) (cwV 2 hX.2.2.2.2.1 gX6_mayHave_X6_isBit rfl rfl rfl (by decide +kernel) ⟨Nat.le_of_ble_eq_true rfl, Nat.le_of_ble_eq_true rfl⟩) ([]) ([]) ((List.append_nil _).symm) ((List.append_nil _).symm).symm (wR_fst E a _ _) (ci := 6) (q0 := 0) rfl rfl rfl rfl rfl (Nat.le_of_ble_eq_true rfl) dX6_mayHave_3 ?_
  refine v_istore_n (lv' := [.ref (a 0), .int (nI (o)), .int (nI (n)), .int (bI ((v.1.2.1 o).2.2.2.2.2.2 (n / 16)))]) hX dX6_mayHave_6 (Nat.le_of_ble_eq_true rfl) (Nat.le_of_ble_eq_true rfl) rfl rfl ?_
  refine v_iconst (x := (0 : Int32)) hX dX6_mayHave_7 (by decide) ?_
  refine v_istore (lv' := [.ref (a 0), .int (nI (o)), .int (nI (n)), .int (bI ((v.1.2.1 o).2.2.2.2.2.2 (n / 16))), .int ((0 : Int32))]) hX dX6_mayHave_8 (Nat.le_of_ble_eq_true rfl) (Nat.le_of_ble_eq_true rfl) rfl rfl ?_
  have loop_10 : ∀ (fu i : Nat), i + fu = 2 → V p l e ({ frames := 2, cells := 0, slots := 0, locals := 44 } : Room) s m args below meth c E 5 (va_A (wR E a v) sz) (MQ below (mQi E (bI (Q_may v.1 o n)) (wR E a v) (wR E a v) sz) args s 0 0 (va_A (wR E a v) sz)) (wR E a v) [.ref (a 0), .int (nI (o)), .int (nI (n)), .int (bI (it (Q_mayF v.1 o n) i ((v.1.2.1 o).2.2.2.2.2.2 (n / 16)))), .int (nI (i))] 10 [] := by
    intro fu
    induction fu with
    | zero =>
      intro i  hin 
      have hi0 : i = 2 := by omega
      subst hi0
      refine v_iload hX dX6_mayHave_10 rfl ?_
      refine v_iconst (x := (2 : Int32)) hX dX6_mayHave_12 (by decide) ?_
      refine v_icmp_ge (tgt := 48) hX dX6_mayHave_13 (by decide) (fun c1 => ?_) (fun c1 => ?_)
      · replace c1 := (nI_leI (a := 2) (b := 2) (by omega) (by omega)).mp c1
        refine v_iload_n hX dX6_mayHave_48 rfl ?_
        exact v_zret hX hr hsz dX6_mayHave_49 rfl rfl (bI_narrow (it (Q_mayF v.1 o n) 2 ((v.1.2.1 o).2.2.2.2.2.2 (n / 16)))) (congrArg bI (by (first | (simp only [Q_may, c1, if_true, if_false, reduceIte, Bool.false_eq_true, reduceCtorEq, decide_true, decide_false, Bool.and_true, Bool.and_false, Bool.true_and, Bool.false_and, Bool.or_true, Bool.or_false, Bool.true_or, Bool.false_or, not_true_eq_false, not_false_eq_true, Bool.not_true, Bool.not_false, eq_self, Nat.reduceEqDiff]; done) | rfl | (simp only [Q_may, c1, if_true, if_false, reduceIte, Bool.false_eq_true, reduceCtorEq, decide_true, decide_false, Bool.and_true, Bool.and_false, Bool.true_and, Bool.false_and, Bool.or_true, Bool.or_false, Bool.true_or, Bool.false_or, not_true_eq_false, not_false_eq_true, Bool.not_true, Bool.not_false, eq_self, Nat.reduceEqDiff]; rfl) | contradiction | (exfalso; omega)) : it (Q_mayF v.1 o n) 2 ((v.1.2.1 o).2.2.2.2.2.2 (n / 16)) = Q_may v.1 o n)) rfl
      · replace c1 := (not_congr (nI_leI (a := 2) (b := 2) (by omega) (by omega))).mp c1
        exfalso; omega
    | succ fu ih =>
      intro i  hin 
      refine v_iload hX dX6_mayHave_10 rfl ?_
      refine v_iconst (x := (2 : Int32)) hX dX6_mayHave_12 (by decide) ?_
      refine v_icmp_ge (tgt := 48) hX dX6_mayHave_13 (by decide) (fun c2 => ?_) (fun c2 => ?_)
      · replace c2 := (nI_leI (a := 2) (b := i) (by omega) (by omega)).mp c2
        exfalso; omega
      · replace c2 := (not_congr (nI_leI (a := 2) (b := i) (by omega) (by omega))).mp c2
        have hct3 := Q_ctr_lt n i
        refine v_iload_n hX dX6_mayHave_16 rfl ?_
        refine v_if_eq (tgt := 40) hX dX6_mayHave_17 (by decide) (fun c4 => ?_) (fun c4 => ?_)
        · replace c4 := bI_0.mp c4
          refine v_iconst (x := (0 : Int32)) hX dX6_mayHave_40 (by decide) ?_
          refine v_istore_n (lv' := [.ref (a 0), .int (nI (o)), .int (nI (n)), .int ((0 : Int32)), .int (nI (i))]) hX dX6_mayHave_41 (Nat.le_of_ble_eq_true rfl) (Nat.le_of_ble_eq_true rfl) rfl rfl ?_
          refine v_iinc (y := nI (i + 1)) (lv' := [.ref (a 0), .int (nI (o)), .int (nI (n)), .int ((0 : Int32)), .int (nI (i + 1))]) hX dX6_mayHave_42 rfl (nI_inc _) (Nat.le_of_ble_eq_true rfl) (Nat.le_of_ble_eq_true rfl) rfl rfl ?_
          refine v_goto (tgt := 10) hX dX6_mayHave_45 (by decide) ?_
          have e5 : (0 : Int32) = bI (it (Q_mayF v.1 o n) (i + 1) ((v.1.2.1 o).2.2.2.2.2.2 (n / 16))) := by first | (simp only [Q_mayF, c2, c4, it, if_true, if_false, reduceIte, Bool.false_eq_true, Bool.and_true, Bool.and_false, Bool.true_and, Bool.false_and, not_true_eq_false, not_false_eq_true, eq_self, ne_eq, reduceCtorEq, decide_true, decide_false, Bool.not_true, Bool.not_false]; done) | rfl | (simp only [Q_mayF, c2, c4, it, if_true, if_false, reduceIte, Bool.false_eq_true, Bool.and_true, Bool.and_false, Bool.true_and, Bool.false_and, not_true_eq_false, not_false_eq_true, eq_self, ne_eq, reduceCtorEq, decide_true, decide_false, Bool.not_true, Bool.not_false]; rfl) | contradiction
          rw [e5]
          exact ih (i + 1)  (by omega) 
        · replace c4 := bI_n0.mp c4
          refine v_aload_n hX dX6_mayHave_20 rfl ?_
          refine v_get (C := RX6) (T := TX6) (N := 18) (ci := 6) (v := .ref (a 1)) hX in_X6 0 rfl rfl 0 (by decide) fl_7 rfl rfl dX6_mayHave_21 ?_
          refine v_aload_n hX dX6_mayHave_24 rfl ?_
          refine v_iload_n hX dX6_mayHave_25 rfl ?_
          refine v_iload_n hX dX6_mayHave_26 rfl ?_
          refine v_iload hX dX6_mayHave_27 rfl ?_
          refine v_callVi (r := nI (352 + (24 * o) + Q_ctr n i)) (rest := [.ref (a 1)]) (ws' := wR E a v) hX (fun sz => c_X6_counterAt l E a sz v o (by first | omega | exact Nat.le_of_ble_eq_true rfl) n (by first | omega | exact Nat.le_of_ble_eq_true rfl) i (by first | omega | exact Nat.le_of_ble_eq_true rfl)) (cwV 3 hX.2.2.2.2.1 gX6_mayHave_X6_counterAt rfl rfl rfl (by decide +kernel) ⟨Nat.le_of_ble_eq_true rfl, Nat.le_of_ble_eq_true rfl⟩) ([]) ([]) ((List.append_nil _).symm) ((List.append_nil _).symm).symm (wR_fst E a _ _) (ci := 6) (q0 := 0) rfl rfl rfl rfl rfl (Nat.le_of_ble_eq_true rfl) dX6_mayHave_29 ?_
          refine v_iald (z := (v.1.2.1 o).2.2.2.2.1 (Q_ctr n i)) hX 1 rfl (vp_in_nI (by omega : 352 + (24 * o) + Q_ctr n i < 544) (by omega)) (by simp only [nI_clamp (show 352 + (24 * o) + Q_ctr n i < 2 ^ 31 by omega)]; exact gS_cnt v.1 (o := o) (q := Q_ctr n i) (by omega) (by omega) (by omega)) dX6_mayHave_32 ?_
          refine v_if_le (tgt := 40) hX dX6_mayHave_33 (by decide) (fun c6 => ?_) (fun c6 => ?_)
          · refine v_iconst (x := (0 : Int32)) hX dX6_mayHave_40 (by decide) ?_
            refine v_istore_n (lv' := [.ref (a 0), .int (nI (o)), .int (nI (n)), .int ((0 : Int32)), .int (nI (i))]) hX dX6_mayHave_41 (Nat.le_of_ble_eq_true rfl) (Nat.le_of_ble_eq_true rfl) rfl rfl ?_
            refine v_iinc (y := nI (i + 1)) (lv' := [.ref (a 0), .int (nI (o)), .int (nI (n)), .int ((0 : Int32)), .int (nI (i + 1))]) hX dX6_mayHave_42 rfl (nI_inc _) (Nat.le_of_ble_eq_true rfl) (Nat.le_of_ble_eq_true rfl) rfl rfl ?_
            refine v_goto (tgt := 10) hX dX6_mayHave_45 (by decide) ?_
            have e7 : (0 : Int32) = bI (it (Q_mayF v.1 o n) (i + 1) ((v.1.2.1 o).2.2.2.2.2.2 (n / 16))) := by first | (simp only [Q_mayF, c2, c4, c6, it, if_true, if_false, reduceIte, Bool.false_eq_true, Bool.and_true, Bool.and_false, Bool.true_and, Bool.false_and, not_true_eq_false, not_false_eq_true, eq_self, ne_eq, reduceCtorEq, decide_true, decide_false, Bool.not_true, Bool.not_false]; done) | rfl | (simp only [Q_mayF, c2, c4, c6, it, if_true, if_false, reduceIte, Bool.false_eq_true, Bool.and_true, Bool.and_false, Bool.true_and, Bool.false_and, not_true_eq_false, not_false_eq_true, eq_self, ne_eq, reduceCtorEq, decide_true, decide_false, Bool.not_true, Bool.not_false]; rfl) | contradiction
            rw [e7]
            exact ih (i + 1)  (by omega) 
          · refine v_iconst (x := (1 : Int32)) hX dX6_mayHave_36 (by decide) ?_
            refine v_goto (tgt := 41) hX dX6_mayHave_37 (by decide) ?_
            refine v_istore_n (lv' := [.ref (a 0), .int (nI (o)), .int (nI (n)), .int ((1 : Int32)), .int (nI (i))]) hX dX6_mayHave_41 (Nat.le_of_ble_eq_true rfl) (Nat.le_of_ble_eq_true rfl) rfl rfl ?_
            refine v_iinc (y := nI (i + 1)) (lv' := [.ref (a 0), .int (nI (o)), .int (nI (n)), .int ((1 : Int32)), .int (nI (i + 1))]) hX dX6_mayHave_42 rfl (nI_inc _) (Nat.le_of_ble_eq_true rfl) (Nat.le_of_ble_eq_true rfl) rfl rfl ?_
            refine v_goto (tgt := 10) hX dX6_mayHave_45 (by decide) ?_
            have e8 : (1 : Int32) = bI (it (Q_mayF v.1 o n) (i + 1) ((v.1.2.1 o).2.2.2.2.2.2 (n / 16))) := by first | (simp only [Q_mayF, c2, c4, c6, it, if_true, if_false, reduceIte, Bool.false_eq_true, Bool.and_true, Bool.and_false, Bool.true_and, Bool.false_and, not_true_eq_false, not_false_eq_true, eq_self, ne_eq, reduceCtorEq, decide_true, decide_false, Bool.not_true, Bool.not_false]; done) | rfl | (simp only [Q_mayF, c2, c4, c6, it, if_true, if_false, reduceIte, Bool.false_eq_true, Bool.and_true, Bool.and_false, Bool.true_and, Bool.false_and, not_true_eq_false, not_false_eq_true, eq_self, ne_eq, reduceCtorEq, decide_true, decide_false, Bool.not_true, Bool.not_false]; rfl) | contradiction
            rw [e8]
            exact ih (i + 1)  (by omega) 
  exact loop_10 2 0  (by omega) 
set_option maxHeartbeats 4000000 in
set_option maxRecDepth 100000 in
theorem c_X6_countersFrom (l : Launch) (E : ET) (a : Nat → Nat) (sz : Nat) (v : RV) (o : Nat) (ho : o < 4) (z : Int32) : Met l yX6_countersFrom wsX6_countersFrom ({ frames := 0, cells := 0, slots := 0, locals := 0 }) (mPc E [.ref (a 0), .int (nI (o)), .int (z)] sz (wR E a v)) (mQi E (Q_from v.1 o z) (wR E a v) (wR E a v) sz) 0 0 (va_A (wR E a v) sz) := by
  refine v_start (cc := cX6_countersFrom) (maxL := 5) (ret := (some .int)) (by decide) rfl (Nat.le_of_ble_eq_true rfl) rfl ?_
  intro p e s m args below meth c hsz hr hX
  have hX : Xc p s m args meth c E 5 (va_A (wR E a v) sz) cX6_countersFrom RX6 wsX6_countersFrom := hX
  have in_X6 : ∀ w ∈ u_ws RX6 TX6 18, w ∈ wsX6_countersFrom := by decide +kernel
  have fl_7 : Cond.fieldLink RX6 7 RX6 "s" "[I" ∈ wsX6_countersFrom := by decide +kernel
  refine v_iconst (x := (0 : Int32)) hX dX6_countersFrom_0 (by decide) ?_
  refine v_istore_n (lv' := [.ref (a 0), .int (nI (o)), .int (z), .int ((0 : Int32))]) hX dX6_countersFrom_1 (Nat.le_of_ble_eq_true rfl) (Nat.le_of_ble_eq_true rfl) rfl rfl ?_
  refine v_iconst (x := (0 : Int32)) hX dX6_countersFrom_2 (by decide) ?_
  refine v_istore (lv' := [.ref (a 0), .int (nI (o)), .int (z), .int ((0 : Int32)), .int ((0 : Int32))]) hX dX6_countersFrom_3 (Nat.le_of_ble_eq_true rfl) (Nat.le_of_ble_eq_true rfl) rfl rfl ?_
  have loop_5 : ∀ (fu i : Nat), i + fu = 24 → V p l e ({ frames := 0, cells := 0, slots := 0, locals := 0 } : Room) s m args below meth c E 5 (va_A (wR E a v) sz) (MQ below (mQi E (Q_from v.1 o z) (wR E a v) (wR E a v) sz) args s 0 0 (va_A (wR E a v) sz)) (wR E a v) [.ref (a 0), .int (nI (o)), .int (z), .int (it (Q_fromF v.1 o z) i 0), .int (nI (i))] 5 [] := by
    intro fu
    induction fu with
    | zero =>
      intro i  hin 
      have hi0 : i = 24 := by omega
      subst hi0
      refine v_iload hX dX6_countersFrom_5 rfl ?_
      refine v_bipush (x := (24 : Int32)) hX dX6_countersFrom_7 (by decide) ?_
      refine v_icmp_ge (tgt := 46) hX dX6_countersFrom_9 (by decide) (fun c1 => ?_) (fun c1 => ?_)
      · replace c1 := (nI_leI (a := 24) (b := 24) (by omega) (by omega)).mp c1
        refine v_iload_n hX dX6_countersFrom_46 rfl ?_
        exact v_iret hX hr hsz dX6_countersFrom_47 rfl rfl (by (first | (simp only [Q_from, c1, if_true, if_false, reduceIte, Bool.false_eq_true, reduceCtorEq, decide_true, decide_false, Bool.and_true, Bool.and_false, Bool.true_and, Bool.false_and, Bool.or_true, Bool.or_false, Bool.true_or, Bool.false_or, not_true_eq_false, not_false_eq_true, Bool.not_true, Bool.not_false, eq_self, Nat.reduceEqDiff]; done) | rfl | (simp only [Q_from, c1, if_true, if_false, reduceIte, Bool.false_eq_true, reduceCtorEq, decide_true, decide_false, Bool.and_true, Bool.and_false, Bool.true_and, Bool.false_and, Bool.or_true, Bool.or_false, Bool.true_or, Bool.false_or, not_true_eq_false, not_false_eq_true, Bool.not_true, Bool.not_false, eq_self, Nat.reduceEqDiff]; rfl) | contradiction | (exfalso; omega))) rfl
      · replace c1 := (not_congr (nI_leI (a := 24) (b := 24) (by omega) (by omega))).mp c1
        exfalso; omega
    | succ fu ih =>
      intro i  hin 
      refine v_iload hX dX6_countersFrom_5 rfl ?_
      refine v_bipush (x := (24 : Int32)) hX dX6_countersFrom_7 (by decide) ?_
      refine v_icmp_ge (tgt := 46) hX dX6_countersFrom_9 (by decide) (fun c2 => ?_) (fun c2 => ?_)
      · replace c2 := (nI_leI (a := 24) (b := i) (by omega) (by omega)).mp c2
        exfalso; omega
      · replace c2 := (not_congr (nI_leI (a := 24) (b := i) (by omega) (by omega))).mp c2
        refine v_iload_n hX dX6_countersFrom_12 rfl ?_
        refine v_aload_n hX dX6_countersFrom_13 rfl ?_
        refine v_get (C := RX6) (T := TX6) (N := 18) (ci := 6) (v := .ref (a 1)) hX in_X6 0 rfl rfl 0 (by decide) fl_7 rfl rfl dX6_countersFrom_14 ?_
        refine v_sipush (x := (352 : Int32)) hX dX6_countersFrom_17 (by decide) ?_
        refine v_bipush (x := (24 : Int32)) hX dX6_countersFrom_20 (by decide) ?_
        refine v_iload_n hX dX6_countersFrom_22 rfl ?_
        refine v_imul (z := nI (24 * o)) hX dX6_countersFrom_23 (pk_mul 24 o) ?_
        refine v_iadd (z := nI (352 + (24 * o))) hX dX6_countersFrom_24 (nI_add 352 (24 * o)) ?_
        refine v_iload hX dX6_countersFrom_25 rfl ?_
        refine v_iadd (z := nI ((352 + (24 * o)) + i)) hX dX6_countersFrom_27 (nI_add (352 + (24 * o)) i) ?_
        refine v_iald (z := (v.1.2.1 o).2.2.2.2.1 (i)) hX 1 rfl (vp_in_nI (by omega : (352 + (24 * o)) + i < 544) (by omega)) (by simp only [nI_clamp (show (352 + (24 * o)) + i < 2 ^ 31 by omega)]; exact gS_cnt v.1 (o := o) (q := i) (by omega) (by omega) (by omega)) dX6_countersFrom_28 ?_
        refine v_iload_n hX dX6_countersFrom_29 rfl ?_
        refine v_icmp_lt (tgt := 37) hX dX6_countersFrom_30 (by decide) (fun c3 => ?_) (fun c3 => ?_)
        · refine v_iconst (x := (0 : Int32)) hX dX6_countersFrom_37 (by decide) ?_
          refine v_iadd (z := (it (Q_fromF v.1 o z) i 0 + (0 : Int32))) hX dX6_countersFrom_38 (rfl) ?_
          refine v_istore_n (lv' := [.ref (a 0), .int (nI (o)), .int (z), .int ((it (Q_fromF v.1 o z) i 0 + (0 : Int32))), .int (nI (i))]) hX dX6_countersFrom_39 (Nat.le_of_ble_eq_true rfl) (Nat.le_of_ble_eq_true rfl) rfl rfl ?_
          refine v_iinc (y := nI (i + 1)) (lv' := [.ref (a 0), .int (nI (o)), .int (z), .int ((it (Q_fromF v.1 o z) i 0 + (0 : Int32))), .int (nI (i + 1))]) hX dX6_countersFrom_40 rfl (nI_inc _) (Nat.le_of_ble_eq_true rfl) (Nat.le_of_ble_eq_true rfl) rfl rfl ?_
          refine v_goto (tgt := 5) hX dX6_countersFrom_43 (by decide) ?_
          have e4 : (it (Q_fromF v.1 o z) i 0 + (0 : Int32)) = it (Q_fromF v.1 o z) (i + 1) 0 := by first | (simp only [Q_fromF, c2, c3, it, if_true, if_false, reduceIte, Bool.false_eq_true, Bool.and_true, Bool.and_false, Bool.true_and, Bool.false_and, not_true_eq_false, not_false_eq_true, eq_self, ne_eq, reduceCtorEq, decide_true, decide_false, Bool.not_true, Bool.not_false]; done) | rfl | (simp only [Q_fromF, c2, c3, it, if_true, if_false, reduceIte, Bool.false_eq_true, Bool.and_true, Bool.and_false, Bool.true_and, Bool.false_and, not_true_eq_false, not_false_eq_true, eq_self, ne_eq, reduceCtorEq, decide_true, decide_false, Bool.not_true, Bool.not_false]; rfl) | contradiction
          rw [e4]
          exact ih (i + 1)  (by omega) 
        · refine v_iconst (x := (1 : Int32)) hX dX6_countersFrom_33 (by decide) ?_
          refine v_goto (tgt := 38) hX dX6_countersFrom_34 (by decide) ?_
          refine v_iadd (z := (it (Q_fromF v.1 o z) i 0 + (1 : Int32))) hX dX6_countersFrom_38 (rfl) ?_
          refine v_istore_n (lv' := [.ref (a 0), .int (nI (o)), .int (z), .int ((it (Q_fromF v.1 o z) i 0 + (1 : Int32))), .int (nI (i))]) hX dX6_countersFrom_39 (Nat.le_of_ble_eq_true rfl) (Nat.le_of_ble_eq_true rfl) rfl rfl ?_
          refine v_iinc (y := nI (i + 1)) (lv' := [.ref (a 0), .int (nI (o)), .int (z), .int ((it (Q_fromF v.1 o z) i 0 + (1 : Int32))), .int (nI (i + 1))]) hX dX6_countersFrom_40 rfl (nI_inc _) (Nat.le_of_ble_eq_true rfl) (Nat.le_of_ble_eq_true rfl) rfl rfl ?_
          refine v_goto (tgt := 5) hX dX6_countersFrom_43 (by decide) ?_
          have e5 : (it (Q_fromF v.1 o z) i 0 + (1 : Int32)) = it (Q_fromF v.1 o z) (i + 1) 0 := by first | (simp only [Q_fromF, c2, c3, it, if_true, if_false, reduceIte, Bool.false_eq_true, Bool.and_true, Bool.and_false, Bool.true_and, Bool.false_and, not_true_eq_false, not_false_eq_true, eq_self, ne_eq, reduceCtorEq, decide_true, decide_false, Bool.not_true, Bool.not_false]; done) | rfl | (simp only [Q_fromF, c2, c3, it, if_true, if_false, reduceIte, Bool.false_eq_true, Bool.and_true, Bool.and_false, Bool.true_and, Bool.false_and, not_true_eq_false, not_false_eq_true, eq_self, ne_eq, reduceCtorEq, decide_true, decide_false, Bool.not_true, Bool.not_false]; rfl) | contradiction
          rw [e5]
          exact ih (i + 1)  (by omega) 
  exact loop_5 24 0  (by omega) 
set_option maxHeartbeats 4000000 in
set_option maxRecDepth 100000 in
theorem c_X6_bits (l : Launch) (E : ET) (a : Nat → Nat) (sz : Nat) (v : RV) (o : Nat) (ho : o < 4) : Met l yX6_bits wsX6_bits ({ frames := 0, cells := 0, slots := 0, locals := 0 }) (mPc E [.ref (a 0), .int (nI (o))] sz (wR E a v)) (mQi E (Q_bits v.1 o) (wR E a v) (wR E a v) sz) 0 0 (va_A (wR E a v) sz) := by
  refine v_start (cc := cX6_bits) (maxL := 4) (ret := (some .int)) (by decide) rfl (Nat.le_of_ble_eq_true rfl) rfl ?_
  intro p e s m args below meth c hsz hr hX
  have hX : Xc p s m args meth c E 4 (va_A (wR E a v) sz) cX6_bits RX6 wsX6_bits := hX
  have in_X6 : ∀ w ∈ u_ws RX6 TX6 18, w ∈ wsX6_bits := by decide +kernel
  have fl_7 : Cond.fieldLink RX6 7 RX6 "s" "[I" ∈ wsX6_bits := by decide +kernel
  refine v_iconst (x := (0 : Int32)) hX dX6_bits_0 (by decide) ?_
  refine v_istore_n (lv' := [.ref (a 0), .int (nI (o)), .int ((0 : Int32))]) hX dX6_bits_1 (Nat.le_of_ble_eq_true rfl) (Nat.le_of_ble_eq_true rfl) rfl rfl ?_
  refine v_iconst (x := (0 : Int32)) hX dX6_bits_2 (by decide) ?_
  refine v_istore_n (lv' := [.ref (a 0), .int (nI (o)), .int ((0 : Int32)), .int ((0 : Int32))]) hX dX6_bits_3 (Nat.le_of_ble_eq_true rfl) (Nat.le_of_ble_eq_true rfl) rfl rfl ?_
  have loop_4 : ∀ (fu i : Nat), i + fu = 16 → V p l e ({ frames := 0, cells := 0, slots := 0, locals := 0 } : Room) s m args below meth c E 4 (va_A (wR E a v) sz) (MQ below (mQi E (Q_bits v.1 o) (wR E a v) (wR E a v) sz) args s 0 0 (va_A (wR E a v) sz)) (wR E a v) [.ref (a 0), .int (nI (o)), .int (it (Q_bitsF v.1 o) i 0), .int (nI (i))] 4 [] := by
    intro fu
    induction fu with
    | zero =>
      intro i  hin 
      have hi0 : i = 16 := by omega
      subst hi0
      refine v_iload_n hX dX6_bits_4 rfl ?_
      refine v_bipush (x := (16 : Int32)) hX dX6_bits_5 (by decide) ?_
      refine v_icmp_ge (tgt := 34) hX dX6_bits_7 (by decide) (fun c1 => ?_) (fun c1 => ?_)
      · replace c1 := (nI_leI (a := 16) (b := 16) (by omega) (by omega)).mp c1
        refine v_iload_n hX dX6_bits_34 rfl ?_
        exact v_iret hX hr hsz dX6_bits_35 rfl rfl (by (first | (simp only [Q_bits, c1, if_true, if_false, reduceIte, Bool.false_eq_true, reduceCtorEq, decide_true, decide_false, Bool.and_true, Bool.and_false, Bool.true_and, Bool.false_and, Bool.or_true, Bool.or_false, Bool.true_or, Bool.false_or, not_true_eq_false, not_false_eq_true, Bool.not_true, Bool.not_false, eq_self, Nat.reduceEqDiff]; done) | rfl | (simp only [Q_bits, c1, if_true, if_false, reduceIte, Bool.false_eq_true, reduceCtorEq, decide_true, decide_false, Bool.and_true, Bool.and_false, Bool.true_and, Bool.false_and, Bool.or_true, Bool.or_false, Bool.true_or, Bool.false_or, not_true_eq_false, not_false_eq_true, Bool.not_true, Bool.not_false, eq_self, Nat.reduceEqDiff]; rfl) | contradiction | (exfalso; omega))) rfl
      · replace c1 := (not_congr (nI_leI (a := 16) (b := 16) (by omega) (by omega))).mp c1
        exfalso; omega
    | succ fu ih =>
      intro i  hin 
      refine v_iload_n hX dX6_bits_4 rfl ?_
      refine v_bipush (x := (16 : Int32)) hX dX6_bits_5 (by decide) ?_
      refine v_icmp_ge (tgt := 34) hX dX6_bits_7 (by decide) (fun c2 => ?_) (fun c2 => ?_)
      · replace c2 := (nI_leI (a := 16) (b := i) (by omega) (by omega)).mp c2
        exfalso; omega
      · replace c2 := (not_congr (nI_leI (a := 16) (b := i) (by omega) (by omega))).mp c2
        refine v_iload_n hX dX6_bits_10 rfl ?_
        refine v_aload_n hX dX6_bits_11 rfl ?_
        refine v_get (C := RX6) (T := TX6) (N := 18) (ci := 6) (v := .ref (a 1)) hX in_X6 0 rfl rfl 0 (by decide) fl_7 rfl rfl dX6_bits_12 ?_
        refine v_sipush (x := (448 : Int32)) hX dX6_bits_15 (by decide) ?_
        refine v_bipush (x := (16 : Int32)) hX dX6_bits_18 (by decide) ?_
        refine v_iload_n hX dX6_bits_20 rfl ?_
        refine v_imul (z := nI (16 * o)) hX dX6_bits_21 (pk_mul 16 o) ?_
        refine v_iadd (z := nI (448 + (16 * o))) hX dX6_bits_22 (nI_add 448 (16 * o)) ?_
        refine v_iload_n hX dX6_bits_23 rfl ?_
        refine v_iadd (z := nI ((448 + (16 * o)) + i)) hX dX6_bits_24 (nI_add (448 + (16 * o)) i) ?_
        refine v_iald (z := bI ((v.1.2.1 o).2.2.2.2.2.2 (i))) hX 1 rfl (vp_in_nI (by omega : (448 + (16 * o)) + i < 544) (by omega)) (by simp only [nI_clamp (show (448 + (16 * o)) + i < 2 ^ 31 by omega)]; exact gS_bit v.1 (o := o) (q := i) (by omega) (by omega) (by omega)) dX6_bits_25 ?_
        refine v_iadd (z := (it (Q_bitsF v.1 o) i 0 + bI ((v.1.2.1 o).2.2.2.2.2.2 (i)))) hX dX6_bits_26 (rfl) ?_
        refine v_istore_n (lv' := [.ref (a 0), .int (nI (o)), .int ((it (Q_bitsF v.1 o) i 0 + bI ((v.1.2.1 o).2.2.2.2.2.2 (i)))), .int (nI (i))]) hX dX6_bits_27 (Nat.le_of_ble_eq_true rfl) (Nat.le_of_ble_eq_true rfl) rfl rfl ?_
        refine v_iinc (y := nI (i + 1)) (lv' := [.ref (a 0), .int (nI (o)), .int ((it (Q_bitsF v.1 o) i 0 + bI ((v.1.2.1 o).2.2.2.2.2.2 (i)))), .int (nI (i + 1))]) hX dX6_bits_28 rfl (nI_inc _) (Nat.le_of_ble_eq_true rfl) (Nat.le_of_ble_eq_true rfl) rfl rfl ?_
        refine v_goto (tgt := 4) hX dX6_bits_31 (by decide) ?_
        have e3 : (it (Q_bitsF v.1 o) i 0 + bI ((v.1.2.1 o).2.2.2.2.2.2 (i))) = it (Q_bitsF v.1 o) (i + 1) 0 := by first | (simp only [Q_bitsF, c2, it, if_true, if_false, reduceIte, Bool.false_eq_true, Bool.and_true, Bool.and_false, Bool.true_and, Bool.false_and, not_true_eq_false, not_false_eq_true, eq_self, ne_eq, reduceCtorEq, decide_true, decide_false, Bool.not_true, Bool.not_false]; done) | rfl | (simp only [Q_bitsF, c2, it, if_true, if_false, reduceIte, Bool.false_eq_true, Bool.and_true, Bool.and_false, Bool.true_and, Bool.false_and, not_true_eq_false, not_false_eq_true, eq_self, ne_eq, reduceCtorEq, decide_true, decide_false, Bool.not_true, Bool.not_false]; rfl) | contradiction
        rw [e3]
        exact ih (i + 1)  (by omega) 
  exact loop_4 16 0  (by omega) 
set_option maxHeartbeats 4000000 in
set_option maxRecDepth 100000 in
theorem c_X6_clears (l : Launch) (E : ET) (a : Nat → Nat) (sz : Nat) (v : RV) (o : Nat) (ho : o < 4) : Met l yX6_clears wsX6_clears ({ frames := 0, cells := 0, slots := 0, locals := 0 }) (mPc E [.ref (a 0), .int (nI (o))] sz (wR E a v)) (mQv E (wR E a v) (wR E a (R_setS v (Q_clears v.1 o))) sz) 0 0 (va_A (wR E a v) sz) := by
  refine v_start (cc := cX6_clears) (maxL := 3) (ret := none) (by decide) rfl (Nat.le_of_ble_eq_true rfl) rfl ?_
  intro p e s m args below meth c hsz hr hX
  have hX : Xc p s m args meth c E 3 (va_A (wR E a v) sz) cX6_clears RX6 wsX6_clears := hX
  have in_X6 : ∀ w ∈ u_ws RX6 TX6 18, w ∈ wsX6_clears := by decide +kernel
  have fl_7 : Cond.fieldLink RX6 7 RX6 "s" "[I" ∈ wsX6_clears := by decide +kernel
  refine v_iconst (x := (0 : Int32)) hX dX6_clears_0 (by decide) ?_
  refine v_istore_n (lv' := [.ref (a 0), .int (nI (o)), .int ((0 : Int32))]) hX dX6_clears_1 (Nat.le_of_ble_eq_true rfl) (Nat.le_of_ble_eq_true rfl) rfl rfl ?_
  have loop_2 : ∀ (fu i : Nat), i + fu = 24 → V p l e ({ frames := 0, cells := 0, slots := 0, locals := 0 } : Room) s m args below meth c E 3 (va_A (wR E a v) sz) (MQ below (mQv E (wR E a v) (wR E a (R_setS v (Q_clears v.1 o))) sz) args s 0 0 (va_A (wR E a v) sz)) (wR E a (R_setS v (it (Q_cl1 o) i v.1))) [.ref (a 0), .int (nI (o)), .int (nI (i))] 2 [] := by
    intro fu
    induction fu with
    | zero =>
      intro i  hin 
      have hi0 : i = 24 := by omega
      subst hi0
      obtain ⟨m1, hm1⟩ : ∃ z_ : MV, z_ = (it (Q_cl1 o) 24 v.1) := ⟨_, rfl⟩
      rw [← hm1]
      refine v_iload_n hX dX6_clears_2 rfl ?_
      refine v_bipush (x := (24 : Int32)) hX dX6_clears_3 (by decide) ?_
      refine v_icmp_ge (tgt := 30) hX dX6_clears_5 (by decide) (fun c2 => ?_) (fun c2 => ?_)
      · replace c2 := (nI_leI (a := 24) (b := 24) (by omega) (by omega)).mp c2
        refine v_iconst (x := (0 : Int32)) hX dX6_clears_30 (by decide) ?_
        refine v_istore_n (lv' := [.ref (a 0), .int (nI (o)), .int ((0 : Int32))]) hX dX6_clears_31 (Nat.le_of_ble_eq_true rfl) (Nat.le_of_ble_eq_true rfl) rfl rfl ?_
        have loop_32 : ∀ (fu i : Nat), i + fu = 16 → V p l e ({ frames := 0, cells := 0, slots := 0, locals := 0 } : Room) s m args below meth c E 3 (va_A (wR E a v) sz) (MQ below (mQv E (wR E a v) (wR E a (R_setS v (Q_clears v.1 o))) sz) args s 0 0 (va_A (wR E a v) sz)) (wR E a (R_setS v (it (Q_cl2 o) i (it (Q_cl1 o) 24 v.1)))) [.ref (a 0), .int (nI (o)), .int (nI (i))] 32 [] := by
          intro fu
          induction fu with
          | zero =>
            intro i  hin 
            have hi0 : i = 16 := by omega
            subst hi0
            obtain ⟨m3, hm3⟩ : ∃ z_ : MV, z_ = (it (Q_cl2 o) 16 (it (Q_cl1 o) 24 v.1)) := ⟨_, rfl⟩
            rw [← hm3]
            refine v_iload_n hX dX6_clears_32 rfl ?_
            refine v_bipush (x := (16 : Int32)) hX dX6_clears_33 (by decide) ?_
            refine v_icmp_ge (tgt := 60) hX dX6_clears_35 (by decide) (fun c4 => ?_) (fun c4 => ?_)
            · replace c4 := (nI_leI (a := 16) (b := 16) (by omega) (by omega)).mp c4
              refine v_aload_n hX dX6_clears_60 rfl ?_
              refine v_get (C := RX6) (T := TX6) (N := 18) (ci := 6) (v := .ref (a 1)) hX in_X6 0 rfl rfl 0 (by decide) fl_7 rfl rfl dX6_clears_61 ?_
              refine v_sipush (x := (540 : Int32)) hX dX6_clears_64 (by decide) ?_
              refine v_iload_n hX dX6_clears_67 rfl ?_
              refine v_iadd (z := nI (540 + o)) hX dX6_clears_68 (nI_add 540 o) ?_
              refine v_iconst (x := (0 : Int32)) hX dX6_clears_69 (by decide) ?_
              obtain ⟨m5, hm5⟩ : ∃ z_ : MV, z_ = Q_setSt m3 o ((fun _ => false)) := ⟨_, rfl⟩
              refine v_iast (ws' := wR E a (R_setS v m5)) hX 1 rfl (vp_in_nI (by omega : 540 + o < 544) (by omega)) (by rw [hm5]; exact sR_s E a (R_setS v m3) (k := 540 + o) (by omega) ((pS_stuck0 m3 (o := o) (by omega) (by omega)))) dX6_clears_70 ?_
              exact v_vret hX hr hsz dX6_clears_71 rfl rfl (by (subst hm5; subst hm3; subst hm1; first | (simp only [Q_clears, c2, c4, if_true, if_false, reduceIte, Bool.false_eq_true, reduceCtorEq, decide_true, decide_false, Bool.and_true, Bool.and_false, Bool.true_and, Bool.false_and, Bool.or_true, Bool.or_false, Bool.true_or, Bool.false_or, not_true_eq_false, not_false_eq_true, Bool.not_true, Bool.not_false, eq_self, Nat.reduceEqDiff]; done) | rfl | (simp only [Q_clears, c2, c4, if_true, if_false, reduceIte, Bool.false_eq_true, reduceCtorEq, decide_true, decide_false, Bool.and_true, Bool.and_false, Bool.true_and, Bool.false_and, Bool.or_true, Bool.or_false, Bool.true_or, Bool.false_or, not_true_eq_false, not_false_eq_true, Bool.not_true, Bool.not_false, eq_self, Nat.reduceEqDiff]; rfl) | contradiction | (exfalso; omega)))
            · replace c4 := (not_congr (nI_leI (a := 16) (b := 16) (by omega) (by omega))).mp c4
              exfalso; omega
          | succ fu ih =>
            intro i  hin 
            refine v_iload_n hX dX6_clears_32 rfl ?_
            refine v_bipush (x := (16 : Int32)) hX dX6_clears_33 (by decide) ?_
            refine v_icmp_ge (tgt := 60) hX dX6_clears_35 (by decide) (fun c6 => ?_) (fun c6 => ?_)
            · replace c6 := (nI_leI (a := 16) (b := i) (by omega) (by omega)).mp c6
              exfalso; omega
            · replace c6 := (not_congr (nI_leI (a := 16) (b := i) (by omega) (by omega))).mp c6
              refine v_aload_n hX dX6_clears_38 rfl ?_
              refine v_get (C := RX6) (T := TX6) (N := 18) (ci := 6) (v := .ref (a 1)) hX in_X6 0 rfl rfl 0 (by decide) fl_7 rfl rfl dX6_clears_39 ?_
              refine v_sipush (x := (448 : Int32)) hX dX6_clears_42 (by decide) ?_
              refine v_bipush (x := (16 : Int32)) hX dX6_clears_45 (by decide) ?_
              refine v_iload_n hX dX6_clears_47 rfl ?_
              refine v_imul (z := nI (16 * o)) hX dX6_clears_48 (pk_mul 16 o) ?_
              refine v_iadd (z := nI (448 + (16 * o))) hX dX6_clears_49 (nI_add 448 (16 * o)) ?_
              refine v_iload_n hX dX6_clears_50 rfl ?_
              refine v_iadd (z := nI ((448 + (16 * o)) + i)) hX dX6_clears_51 (nI_add (448 + (16 * o)) i) ?_
              refine v_iconst (x := (0 : Int32)) hX dX6_clears_52 (by decide) ?_
              obtain ⟨m7, hm7⟩ : ∃ z_ : MV, z_ = Q_setBit (it (Q_cl2 o) i (it (Q_cl1 o) 24 v.1)) o (i) (false) := ⟨_, rfl⟩
              refine v_iast (ws' := wR E a (R_setS v m7)) hX 1 rfl (vp_in_nI (by omega : (448 + (16 * o)) + i < 544) (by omega)) (by rw [hm7]; exact sR_s E a (R_setS v (it (Q_cl2 o) i (it (Q_cl1 o) 24 v.1))) (k := (448 + (16 * o)) + i) (by omega) (pS_bit (it (Q_cl2 o) i (it (Q_cl1 o) 24 v.1)) (o := o) (q := i) (false) (by omega) (by omega) (by omega))) dX6_clears_53 ?_
              refine v_iinc (y := nI (i + 1)) (lv' := [.ref (a 0), .int (nI (o)), .int (nI (i + 1))]) hX dX6_clears_54 rfl (nI_inc _) (Nat.le_of_ble_eq_true rfl) (Nat.le_of_ble_eq_true rfl) rfl rfl ?_
              refine v_goto (tgt := 32) hX dX6_clears_57 (by decide) ?_
              have e8 : R_setS v m7 = R_setS v (it (Q_cl2 o) (i + 1) (it (Q_cl1 o) 24 v.1)) := by subst hm7; subst hm1; first | rfl | (simp only [Q_cl2, c2, c6, it, if_true, if_false, reduceIte, Bool.false_eq_true, Bool.and_true, Bool.and_false, Bool.true_and, Bool.false_and, not_true_eq_false, not_false_eq_true, eq_self, ne_eq, reduceCtorEq, decide_true, decide_false, Bool.not_true, Bool.not_false]; done) | (simp only [Q_cl2, c2, c6, it, if_true, if_false, reduceIte, Bool.false_eq_true, Bool.and_true, Bool.and_false, Bool.true_and, Bool.false_and, not_true_eq_false, not_false_eq_true, eq_self, ne_eq, reduceCtorEq, decide_true, decide_false, Bool.not_true, Bool.not_false]; rfl)
              rw [e8]
              exact ih (i + 1)  (by omega) 
        subst hm1
        have hs0 := loop_32 16 0  (by omega) 
        simp only [it_0] at hs0
        exact hs0
      · replace c2 := (not_congr (nI_leI (a := 24) (b := 24) (by omega) (by omega))).mp c2
        exfalso; omega
    | succ fu ih =>
      intro i  hin 
      refine v_iload_n hX dX6_clears_2 rfl ?_
      refine v_bipush (x := (24 : Int32)) hX dX6_clears_3 (by decide) ?_
      refine v_icmp_ge (tgt := 30) hX dX6_clears_5 (by decide) (fun c9 => ?_) (fun c9 => ?_)
      · replace c9 := (nI_leI (a := 24) (b := i) (by omega) (by omega)).mp c9
        exfalso; omega
      · replace c9 := (not_congr (nI_leI (a := 24) (b := i) (by omega) (by omega))).mp c9
        refine v_aload_n hX dX6_clears_8 rfl ?_
        refine v_get (C := RX6) (T := TX6) (N := 18) (ci := 6) (v := .ref (a 1)) hX in_X6 0 rfl rfl 0 (by decide) fl_7 rfl rfl dX6_clears_9 ?_
        refine v_sipush (x := (352 : Int32)) hX dX6_clears_12 (by decide) ?_
        refine v_bipush (x := (24 : Int32)) hX dX6_clears_15 (by decide) ?_
        refine v_iload_n hX dX6_clears_17 rfl ?_
        refine v_imul (z := nI (24 * o)) hX dX6_clears_18 (pk_mul 24 o) ?_
        refine v_iadd (z := nI (352 + (24 * o))) hX dX6_clears_19 (nI_add 352 (24 * o)) ?_
        refine v_iload_n hX dX6_clears_20 rfl ?_
        refine v_iadd (z := nI ((352 + (24 * o)) + i)) hX dX6_clears_21 (nI_add (352 + (24 * o)) i) ?_
        refine v_iconst (x := (0 : Int32)) hX dX6_clears_22 (by decide) ?_
        obtain ⟨m10, hm10⟩ : ∃ z_ : MV, z_ = Q_setCnt (it (Q_cl1 o) i v.1) o (i) ((0 : Int32)) := ⟨_, rfl⟩
        refine v_iast (ws' := wR E a (R_setS v m10)) hX 1 rfl (vp_in_nI (by omega : (352 + (24 * o)) + i < 544) (by omega)) (by rw [hm10]; exact sR_s E a (R_setS v (it (Q_cl1 o) i v.1)) (k := (352 + (24 * o)) + i) (by omega) (pS_cnt (it (Q_cl1 o) i v.1) (o := o) (q := i) ((0 : Int32)) (by omega) (by omega) (by omega))) dX6_clears_23 ?_
        refine v_iinc (y := nI (i + 1)) (lv' := [.ref (a 0), .int (nI (o)), .int (nI (i + 1))]) hX dX6_clears_24 rfl (nI_inc _) (Nat.le_of_ble_eq_true rfl) (Nat.le_of_ble_eq_true rfl) rfl rfl ?_
        refine v_goto (tgt := 2) hX dX6_clears_27 (by decide) ?_
        have e11 : R_setS v m10 = R_setS v (it (Q_cl1 o) (i + 1) v.1) := by subst hm10; first | rfl | (simp only [Q_cl1, c9, it, if_true, if_false, reduceIte, Bool.false_eq_true, Bool.and_true, Bool.and_false, Bool.true_and, Bool.false_and, not_true_eq_false, not_false_eq_true, eq_self, ne_eq, reduceCtorEq, decide_true, decide_false, Bool.not_true, Bool.not_false]; done) | (simp only [Q_cl1, c9, it, if_true, if_false, reduceIte, Bool.false_eq_true, Bool.and_true, Bool.and_false, Bool.true_and, Bool.false_and, not_true_eq_false, not_false_eq_true, eq_self, ne_eq, reduceCtorEq, decide_true, decide_false, Bool.not_true, Bool.not_false]; rfl)
        rw [e11]
        exact ih (i + 1)  (by omega) 
  exact loop_2 24 0  (by omega) 
set_option maxHeartbeats 4000000 in
set_option maxRecDepth 100000 in
theorem c_X6_holds (l : Launch) (E : ET) (a : Nat → Nat) (sz : Nat) (v : RV) (o : Nat) (ho : o < 4) (n : Fin 256) : Met l yX6_holds wsX6_holds ({ frames := 1, cells := 0, slots := 0, locals := 21 }) (mPc E [.ref (a 0), .int (nI (o)), .int (nI (n).val)] sz (wR E a v)) (mQi E (bI (Q_holds v.1 o n)) (wR E a v) (wR E a v) sz) 0 0 (va_A (wR E a v) sz) := by
  refine v_start (cc := cX6_holds) (maxL := 3) (ret := (some .boolean)) (by decide) rfl (Nat.le_of_ble_eq_true rfl) rfl ?_
  intro p e s m args below meth c hsz hr hX
  have hX : Xc p s m args meth c E 3 (va_A (wR E a v) sz) cX6_holds RX6 wsX6_holds := hX
  have in_X6 : ∀ w ∈ u_ws RX6 TX6 18, w ∈ wsX6_holds := by decide +kernel
  have fl_7 : Cond.fieldLink RX6 7 RX6 "s" "[I" ∈ wsX6_holds := by decide +kernel
  have hlt_n := n.isLt
  refine v_aload_n hX dX6_holds_0 rfl ?_
  refine v_get (C := RX6) (T := TX6) (N := 18) (ci := 6) (v := .ref (a 1)) hX in_X6 0 rfl rfl 0 (by decide) fl_7 rfl rfl dX6_holds_1 ?_
  refine v_sipush (x := (256 : Int32)) hX dX6_holds_4 (by decide) ?_
  refine v_iload_n hX dX6_holds_7 rfl ?_
  refine v_iload_n hX dX6_holds_8 rfl ?_
  refine v_callSi (r := nI (8 * o + ((n).val) % 8)) (rest := [.int ((256 : Int32)), .ref (a 1)]) (ws' := wR E a v) hX (fun sz => c_X6_placeOf l E sz o (by first | omega | exact Nat.le_of_ble_eq_true rfl) ((n).val) (by first | omega | exact Nat.le_of_ble_eq_true rfl)) (va_cwS 2 hX.2.2.2.2.1 gX6_holds_X6_placeOf rfl rfl rfl (by decide +kernel) ⟨Nat.le_of_ble_eq_true rfl, Nat.le_of_ble_eq_true rfl⟩) ([]) (wR E a v) (rfl) rfl (rfl) rfl rfl (Nat.le_of_ble_eq_true rfl) dX6_holds_9 ?_
  refine v_iadd (z := nI (256 + (8 * o + ((n).val) % 8))) hX dX6_holds_12 (nI_add 256 (8 * o + ((n).val) % 8)) ?_
  refine v_iald (z := enc5 ((v.1.2.1 o).1 (((n).val) % 8))) hX 1 rfl (vp_in_nI (by omega : 256 + (8 * o + ((n).val) % 8) < 544) (by omega)) (by simp only [nI_clamp (show 256 + (8 * o + ((n).val) % 8) < 2 ^ 31 by omega)]; exact gS_line v.1 (o := o) (q := ((n).val) % 8) (by omega) (by omega) (by omega)) dX6_holds_13 ?_
  refine v_iload_n hX dX6_holds_14 rfl ?_
  refine v_icmp_ne (tgt := 22) hX dX6_holds_15 (by decide) (fun c1 => ?_) (fun c1 => ?_)
  · replace c1 := (not_congr enc5_eq).mp c1
    refine v_iconst (x := (0 : Int32)) hX dX6_holds_22 (by decide) ?_
    exact v_zret hX hr hsz dX6_holds_23 rfl rfl (bI_narrow (false)) (congrArg bI (by (first | (simp only [Q_holds, c1, if_true, if_false, reduceIte, Bool.false_eq_true, reduceCtorEq, decide_true, decide_false, Bool.and_true, Bool.and_false, Bool.true_and, Bool.false_and, Bool.or_true, Bool.or_false, Bool.true_or, Bool.false_or, not_true_eq_false, not_false_eq_true, Bool.not_true, Bool.not_false, eq_self, Nat.reduceEqDiff]; done) | rfl | (simp only [Q_holds, c1, if_true, if_false, reduceIte, Bool.false_eq_true, reduceCtorEq, decide_true, decide_false, Bool.and_true, Bool.and_false, Bool.true_and, Bool.false_and, Bool.or_true, Bool.or_false, Bool.true_or, Bool.false_or, not_true_eq_false, not_false_eq_true, Bool.not_true, Bool.not_false, eq_self, Nat.reduceEqDiff]; rfl) | contradiction | (exfalso; omega)) : false = Q_holds v.1 o n)) rfl
  · replace c1 := enc5_eq.mp c1
    refine v_iconst (x := (1 : Int32)) hX dX6_holds_18 (by decide) ?_
    refine v_goto (tgt := 23) hX dX6_holds_19 (by decide) ?_
    exact v_zret hX hr hsz dX6_holds_23 rfl rfl (bI_narrow (true)) (congrArg bI (by (first | (simp only [Q_holds, c1, if_true, if_false, reduceIte, Bool.false_eq_true, reduceCtorEq, decide_true, decide_false, Bool.and_true, Bool.and_false, Bool.true_and, Bool.false_and, Bool.or_true, Bool.or_false, Bool.true_or, Bool.false_or, not_true_eq_false, not_false_eq_true, Bool.not_true, Bool.not_false, eq_self, Nat.reduceEqDiff]; done) | rfl | (simp only [Q_holds, c1, if_true, if_false, reduceIte, Bool.false_eq_true, reduceCtorEq, decide_true, decide_false, Bool.and_true, Bool.and_false, Bool.true_and, Bool.false_and, Bool.or_true, Bool.or_false, Bool.true_or, Bool.false_or, not_true_eq_false, not_false_eq_true, Bool.not_true, Bool.not_false, eq_self, Nat.reduceEqDiff]; rfl) | contradiction | (exfalso; omega)) : true = Q_holds v.1 o n)) rfl
set_option maxHeartbeats 4000000 in
set_option maxRecDepth 100000 in
theorem c_X6_writesBack (l : Launch) (E : ET) (a : Nat → Nat) (sz : Nat) (v : RV) (o : Nat) (ho : o < 4) (q : Nat) (hq : q < 8) : Met l yX6_writesBack wsX6_writesBack ({ frames := 0, cells := 0, slots := 0, locals := 0 }) (mPc E [.ref (a 0), .int (nI (8 * o + q))] sz (wR E a v)) (mQv E (wR E a v) (wR E a (R_setS v (Q_wb v.1 o q))) sz) 0 0 (va_A (wR E a v) sz) := by
  refine v_start (cc := cX6_writesBack) (maxL := 2) (ret := none) (by decide) rfl (Nat.le_of_ble_eq_true rfl) rfl ?_
  intro p e s m args below meth c hsz hr hX
  have hX : Xc p s m args meth c E 2 (va_A (wR E a v) sz) cX6_writesBack RX6 wsX6_writesBack := hX
  have in_X6 : ∀ w ∈ u_ws RX6 TX6 18, w ∈ wsX6_writesBack := by decide +kernel
  have fl_7 : Cond.fieldLink RX6 7 RX6 "s" "[I" ∈ wsX6_writesBack := by decide +kernel
  refine v_aload_n hX dX6_writesBack_0 rfl ?_
  refine v_get (C := RX6) (T := TX6) (N := 18) (ci := 6) (v := .ref (a 1)) hX in_X6 0 rfl rfl 0 (by decide) fl_7 rfl rfl dX6_writesBack_1 ?_
  refine v_sipush (x := (256 : Int32)) hX dX6_writesBack_4 (by decide) ?_
  refine v_iload_n hX dX6_writesBack_7 rfl ?_
  refine v_iadd (z := nI (256 + (8 * o + q))) hX dX6_writesBack_8 (nI_add 256 (8 * o + q)) ?_
  refine v_iald (z := enc5 ((v.1.2.1 o).1 (q))) hX 1 rfl (vp_in_nI (by omega : 256 + (8 * o + q) < 544) (by omega)) (by simp only [nI_clamp (show 256 + (8 * o + q) < 2 ^ 31 by omega)]; exact gS_line v.1 (o := o) (q := q) (by omega) (by omega) (by omega)) dX6_writesBack_9 ?_
  refine v_bipush (x := (-5 : Int32)) hX dX6_writesBack_10 (by decide) ?_
  refine v_icmp_eq (tgt := 79) hX dX6_writesBack_12 (by decide) (fun c1 => ?_) (fun c1 => ?_)
  · replace c1 := enc5_m5.mp c1
    exact v_vret hX hr hsz dX6_writesBack_79 rfl rfl (by (first | (simp only [Q_wb, Q_wb1, Q_wb2, Q_wb3, c1, if_true, if_false, reduceIte, Bool.false_eq_true, reduceCtorEq, decide_true, decide_false, Bool.and_true, Bool.and_false, Bool.true_and, Bool.false_and, Bool.or_true, Bool.or_false, Bool.true_or, Bool.false_or, not_true_eq_false, not_false_eq_true, Bool.not_true, Bool.not_false, eq_self, Nat.reduceEqDiff]; done) | rfl | (simp only [Q_wb, Q_wb1, Q_wb2, Q_wb3, c1, if_true, if_false, reduceIte, Bool.false_eq_true, reduceCtorEq, decide_true, decide_false, Bool.and_true, Bool.and_false, Bool.true_and, Bool.false_and, Bool.or_true, Bool.or_false, Bool.true_or, Bool.false_or, not_true_eq_false, not_false_eq_true, Bool.not_true, Bool.not_false, eq_self, Nat.reduceEqDiff]; rfl) | contradiction | (exfalso; omega)))
  · obtain ⟨n2, c1⟩ := enc5_ex c1
    have hn2 := n2.isLt
    try rw [show enc5 ((v.1.2.1 o).1 (q)) = nI (n2).val from by rw [c1]; rfl]
    refine v_aload_n hX dX6_writesBack_15 rfl ?_
    refine v_get (C := RX6) (T := TX6) (N := 18) (ci := 6) (v := .ref (a 1)) hX in_X6 0 rfl rfl 0 (by decide) fl_7 rfl rfl dX6_writesBack_16 ?_
    refine v_sipush (x := (320 : Int32)) hX dX6_writesBack_19 (by decide) ?_
    refine v_iload_n hX dX6_writesBack_22 rfl ?_
    refine v_iadd (z := nI (320 + (8 * o + q))) hX dX6_writesBack_23 (nI_add 320 (8 * o + q)) ?_
    refine v_iald (z := bI ((v.1.2.1 o).2.2.1 (q))) hX 1 rfl (vp_in_nI (by omega : 320 + (8 * o + q) < 544) (by omega)) (by simp only [nI_clamp (show 320 + (8 * o + q) < 2 ^ 31 by omega)]; exact gS_dirty v.1 (o := o) (q := q) (by omega) (by omega) (by omega)) dX6_writesBack_24 ?_
    refine v_iconst (x := (1 : Int32)) hX dX6_writesBack_25 (by decide) ?_
    refine v_icmp_ne (tgt := 79) hX dX6_writesBack_26 (by decide) (fun c3 => ?_) (fun c3 => ?_)
    · replace c3 := bI_n1.mp c3
      exact v_vret hX hr hsz dX6_writesBack_79 rfl rfl (by (first | (simp only [Q_wb, Q_wb1, Q_wb2, Q_wb3, c1, c3, if_true, if_false, reduceIte, Bool.false_eq_true, reduceCtorEq, decide_true, decide_false, Bool.and_true, Bool.and_false, Bool.true_and, Bool.false_and, Bool.or_true, Bool.or_false, Bool.true_or, Bool.false_or, not_true_eq_false, not_false_eq_true, Bool.not_true, Bool.not_false, eq_self, Nat.reduceEqDiff]; done) | rfl | (simp only [Q_wb, Q_wb1, Q_wb2, Q_wb3, c1, c3, if_true, if_false, reduceIte, Bool.false_eq_true, reduceCtorEq, decide_true, decide_false, Bool.and_true, Bool.and_false, Bool.true_and, Bool.false_and, Bool.or_true, Bool.or_false, Bool.true_or, Bool.false_or, not_true_eq_false, not_false_eq_true, Bool.not_true, Bool.not_false, eq_self, Nat.reduceEqDiff]; rfl) | contradiction | (exfalso; omega)))
    · replace c3 := bI_nn0.mp c3
      refine v_aload_n hX dX6_writesBack_29 rfl ?_
      refine v_get (C := RX6) (T := TX6) (N := 18) (ci := 6) (v := .ref (a 1)) hX in_X6 0 rfl rfl 0 (by decide) fl_7 rfl rfl dX6_writesBack_30 ?_
      refine v_iconst (x := (0 : Int32)) hX dX6_writesBack_33 (by decide) ?_
      refine v_aload_n hX dX6_writesBack_34 rfl ?_
      refine v_get (C := RX6) (T := TX6) (N := 18) (ci := 6) (v := .ref (a 1)) hX in_X6 0 rfl rfl 0 (by decide) fl_7 rfl rfl dX6_writesBack_35 ?_
      refine v_sipush (x := (256 : Int32)) hX dX6_writesBack_38 (by decide) ?_
      refine v_iload_n hX dX6_writesBack_41 rfl ?_
      refine v_iadd (z := nI (256 + (8 * o + q))) hX dX6_writesBack_42 (nI_add 256 (8 * o + q)) ?_
      refine v_iald (z := enc5 ((v.1.2.1 o).1 (q))) hX 1 rfl (vp_in_nI (by omega : 256 + (8 * o + q) < 544) (by omega)) (by simp only [nI_clamp (show 256 + (8 * o + q) < 2 ^ 31 by omega)]; exact gS_line v.1 (o := o) (q := q) (by omega) (by omega) (by omega)) dX6_writesBack_43 ?_
      rw [show enc5 ((v.1.2.1 o).1 (q)) = nI (n2).val from by rw [c1]; rfl]
      refine v_iadd (z := nI (0 + ((n2).val))) hX dX6_writesBack_44 (nI_add 0 ((n2).val)) ?_
      refine v_aload_n hX dX6_writesBack_45 rfl ?_
      refine v_get (C := RX6) (T := TX6) (N := 18) (ci := 6) (v := .ref (a 1)) hX in_X6 0 rfl rfl 0 (by decide) fl_7 rfl rfl dX6_writesBack_46 ?_
      refine v_sipush (x := (288 : Int32)) hX dX6_writesBack_49 (by decide) ?_
      refine v_iload_n hX dX6_writesBack_52 rfl ?_
      refine v_iadd (z := nI (288 + (8 * o + q))) hX dX6_writesBack_53 (nI_add 288 (8 * o + q)) ?_
      refine v_iald (z := (v.1.2.1 o).2.1 (q)) hX 1 rfl (vp_in_nI (by omega : 288 + (8 * o + q) < 544) (by omega)) (by simp only [nI_clamp (show 288 + (8 * o + q) < 2 ^ 31 by omega)]; exact gS_val v.1 (o := o) (q := q) (by omega) (by omega) (by omega)) dX6_writesBack_54 ?_
      obtain ⟨m4, hm4⟩ : ∃ z_ : MV, z_ = M_setMem v.1 ((n2).val) ((v.1.2.1 o).2.1 (q)) := ⟨_, rfl⟩
      refine v_iast (ws' := wR E a (R_setS v m4)) hX 1 rfl (vp_in_nI (by omega : 0 + ((n2).val) < 544) (by omega)) (by rw [hm4]; exact sR_s E a v (k := 0 + ((n2).val)) (by omega) (pS_mem v.1 (q := (n2).val) _ (by omega) (by omega))) dX6_writesBack_55 ?_
      refine v_aload_n hX dX6_writesBack_56 rfl ?_
      refine v_get (C := RX6) (T := TX6) (N := 18) (ci := 6) (v := .ref (a 1)) hX in_X6 0 rfl rfl 0 (by decide) fl_7 rfl rfl dX6_writesBack_57 ?_
      refine v_sipush (x := (320 : Int32)) hX dX6_writesBack_60 (by decide) ?_
      refine v_iload_n hX dX6_writesBack_63 rfl ?_
      refine v_iadd (z := nI (320 + (8 * o + q))) hX dX6_writesBack_64 (nI_add 320 (8 * o + q)) ?_
      refine v_iconst (x := (0 : Int32)) hX dX6_writesBack_65 (by decide) ?_
      obtain ⟨m5, hm5⟩ : ∃ z_ : MV, z_ = M_setK m4 o (K_setD (m4.2.1 o) (q) (false)) := ⟨_, rfl⟩
      refine v_iast (ws' := wR E a (R_setS v m5)) hX 1 rfl (vp_in_nI (by omega : 320 + (8 * o + q) < 544) (by omega)) (by rw [hm5]; exact sR_s E a (R_setS v m4) (k := 320 + (8 * o + q)) (by omega) (pS_dirty m4 (o := o) (q := q) (false) (by omega) (by omega) (by omega))) dX6_writesBack_66 ?_
      refine v_aload_n hX dX6_writesBack_67 rfl ?_
      refine v_get (C := RX6) (T := TX6) (N := 18) (ci := 6) (v := .ref (a 1)) hX in_X6 0 rfl rfl 0 (by decide) fl_7 rfl rfl dX6_writesBack_68 ?_
      refine v_sipush (x := (538 : Int32)) hX dX6_writesBack_71 (by decide) ?_
      refine v_dup2 hX dX6_writesBack_74 rfl rfl ?_
      refine v_iald (z := m5.2.2.2.2.1) hX 1 rfl (vp_in_nI (by omega : 538 < 544) (by omega)) (by show encS _ 538 = _; exact gS_back m5 (by omega)) dX6_writesBack_75 ?_
      refine v_iconst (x := (1 : Int32)) hX dX6_writesBack_76 (by decide) ?_
      refine v_iadd (z := (m5.2.2.2.2.1 + (1 : Int32))) hX dX6_writesBack_77 (rfl) ?_
      obtain ⟨m6, hm6⟩ : ∃ z_ : MV, z_ = M_setBack m5 ((m5.2.2.2.2.1 + (1 : Int32))) := ⟨_, rfl⟩
      refine v_iast (ws' := wR E a (R_setS v m6)) hX 1 rfl (vp_in_nI (by omega : 538 < 544) (by omega)) (by rw [hm6]; exact sR_s E a (R_setS v m5) (k := 538) (by omega) (pS_back m5 _ (by omega))) dX6_writesBack_78 ?_
      exact v_vret hX hr hsz dX6_writesBack_79 rfl rfl (by (subst hm6; subst hm5; subst hm4; first | (simp only [Q_wb, Q_wb1, Q_wb2, Q_wb3, c1, c3, if_true, if_false, reduceIte, Bool.false_eq_true, reduceCtorEq, decide_true, decide_false, Bool.and_true, Bool.and_false, Bool.true_and, Bool.false_and, Bool.or_true, Bool.or_false, Bool.true_or, Bool.false_or, not_true_eq_false, not_false_eq_true, Bool.not_true, Bool.not_false, eq_self, Nat.reduceEqDiff]; done) | rfl | (simp only [Q_wb, Q_wb1, Q_wb2, Q_wb3, c1, c3, if_true, if_false, reduceIte, Bool.false_eq_true, reduceCtorEq, decide_true, decide_false, Bool.and_true, Bool.and_false, Bool.true_and, Bool.false_and, Bool.or_true, Bool.or_false, Bool.true_or, Bool.false_or, not_true_eq_false, not_false_eq_true, Bool.not_true, Bool.not_false, eq_self, Nat.reduceEqDiff]; rfl) | contradiction | (exfalso; omega)))
set_option maxHeartbeats 4000000 in
set_option maxRecDepth 100000 in
theorem c_X6_leaves (l : Launch) (E : ET) (a : Nat → Nat) (sz : Nat) (v : RV) (o : Nat) (ho : o < 4) (q : Nat) (hq : q < 8) : Met l yX6_leaves wsX6_leaves ({ frames := 3, cells := 0, slots := 0, locals := 70 }) (mPc E [.ref (a 0), .int (nI (o)), .int (nI (8 * o + q))] sz (wR E a v)) (mQv E (wR E a v) (wR E a (R_setS v (Q_lv v.1 o q))) sz) 0 0 (va_A (wR E a v) sz) := by
  refine v_start (cc := cX6_leaves) (maxL := 4) (ret := none) (by decide) rfl (Nat.le_of_ble_eq_true rfl) rfl ?_
  intro p e s m args below meth c hsz hr hX
  have hX : Xc p s m args meth c E 4 (va_A (wR E a v) sz) cX6_leaves RX6 wsX6_leaves := hX
  have in_X6 : ∀ w ∈ u_ws RX6 TX6 18, w ∈ wsX6_leaves := by decide +kernel
  have fl_7 : Cond.fieldLink RX6 7 RX6 "s" "[I" ∈ wsX6_leaves := by decide +kernel
  refine v_aload_n hX dX6_leaves_0 rfl ?_
  refine v_get (C := RX6) (T := TX6) (N := 18) (ci := 6) (v := .ref (a 1)) hX in_X6 0 rfl rfl 0 (by decide) fl_7 rfl rfl dX6_leaves_1 ?_
  refine v_sipush (x := (256 : Int32)) hX dX6_leaves_4 (by decide) ?_
  refine v_iload_n hX dX6_leaves_7 rfl ?_
  refine v_iadd (z := nI (256 + (8 * o + q))) hX dX6_leaves_8 (nI_add 256 (8 * o + q)) ?_
  refine v_iald (z := enc5 ((v.1.2.1 o).1 (q))) hX 1 rfl (vp_in_nI (by omega : 256 + (8 * o + q) < 544) (by omega)) (by simp only [nI_clamp (show 256 + (8 * o + q) < 2 ^ 31 by omega)]; exact gS_line v.1 (o := o) (q := q) (by omega) (by omega) (by omega)) dX6_leaves_9 ?_
  refine v_istore_n (lv' := [.ref (a 0), .int (nI (o)), .int (nI (8 * o + q)), .int (enc5 ((v.1.2.1 o).1 (q)))]) hX dX6_leaves_10 (Nat.le_of_ble_eq_true rfl) (Nat.le_of_ble_eq_true rfl) rfl rfl ?_
  refine v_iload_n hX dX6_leaves_11 rfl ?_
  refine v_bipush (x := (-5 : Int32)) hX dX6_leaves_12 (by decide) ?_
  refine v_icmp_eq (tgt := 58) hX dX6_leaves_14 (by decide) (fun c1 => ?_) (fun c1 => ?_)
  · replace c1 := enc5_m5.mp c1
    exact v_vret hX hr hsz dX6_leaves_58 rfl rfl (by (first | (simp only [Q_lv, Q_out1, Q_out2, Q_wb2, c1, if_true, if_false, reduceIte, Bool.false_eq_true, reduceCtorEq, decide_true, decide_false, Bool.and_true, Bool.and_false, Bool.true_and, Bool.false_and, Bool.or_true, Bool.or_false, Bool.true_or, Bool.false_or, not_true_eq_false, not_false_eq_true, Bool.not_true, Bool.not_false, eq_self, Nat.reduceEqDiff]; done) | rfl | (simp only [Q_lv, Q_out1, Q_out2, Q_wb2, c1, if_true, if_false, reduceIte, Bool.false_eq_true, reduceCtorEq, decide_true, decide_false, Bool.and_true, Bool.and_false, Bool.true_and, Bool.false_and, Bool.or_true, Bool.or_false, Bool.true_or, Bool.false_or, not_true_eq_false, not_false_eq_true, Bool.not_true, Bool.not_false, eq_self, Nat.reduceEqDiff]; rfl) | contradiction | (exfalso; omega)))
  · obtain ⟨n2, c1⟩ := enc5_ex c1
    have hn2 := n2.isLt
    try rw [show enc5 ((v.1.2.1 o).1 (q)) = nI (n2).val from by rw [c1]; rfl]
    refine v_aload_n hX dX6_leaves_17 rfl ?_
    refine v_iload_n hX dX6_leaves_18 rfl ?_
    refine v_iload_n hX dX6_leaves_19 rfl ?_
    refine v_iconst (x := (-1 : Int32)) hX dX6_leaves_20 (by decide) ?_
    obtain ⟨m3, hm3⟩ : ∃ z_ : MV, z_ = (Q_counts v.1 o ((n2).val) (-1 : Int32)) := ⟨_, rfl⟩
    refine v_callVv (rest := []) (ws' := wR E a (R_setS v m3)) hX (fun sz => c_X6_counts l E a sz v o (by first | omega | exact Nat.le_of_ble_eq_true rfl) ((n2).val) (by first | omega | exact Nat.le_of_ble_eq_true rfl) (-1 : Int32)) (cwV 3 hX.2.2.2.2.1 gX6_leaves_X6_counts rfl rfl rfl (by decide +kernel) ⟨Nat.le_of_ble_eq_true rfl, Nat.le_of_ble_eq_true rfl⟩) ([]) ([]) ((List.append_nil _).symm) (by rw [hm3]; exact List.append_nil _) (wR_fst E a _ _) (ci := 6) (q0 := 0) rfl rfl rfl rfl rfl (Nat.le_of_ble_eq_true rfl) dX6_leaves_21 ?_
    refine v_aload_n hX dX6_leaves_24 rfl ?_
    refine v_get (C := RX6) (T := TX6) (N := 18) (ci := 6) (v := .ref (a 1)) hX in_X6 0 rfl rfl 0 (by decide) fl_7 rfl rfl dX6_leaves_25 ?_
    refine v_sipush (x := (256 : Int32)) hX dX6_leaves_28 (by decide) ?_
    refine v_iload_n hX dX6_leaves_31 rfl ?_
    refine v_iadd (z := nI (256 + (8 * o + q))) hX dX6_leaves_32 (nI_add 256 (8 * o + q)) ?_
    refine v_bipush (x := (-5 : Int32)) hX dX6_leaves_33 (by decide) ?_
    obtain ⟨m4, hm4⟩ : ∃ z_ : MV, z_ = M_setK m3 o (K_setL (m3.2.1 o) (q) (none)) := ⟨_, rfl⟩
    refine v_iast (ws' := wR E a (R_setS v m4)) hX 1 rfl (vp_in_nI (by omega : 256 + (8 * o + q) < 544) (by omega)) (by rw [hm4]; exact sR_s E a (R_setS v m3) (k := 256 + (8 * o + q)) (by omega) (pS_line m3 (o := o) (q := q) (none) (by omega) (by omega) (by omega))) dX6_leaves_35 ?_
    refine v_aload_n hX dX6_leaves_36 rfl ?_
    refine v_get (C := RX6) (T := TX6) (N := 18) (ci := 6) (v := .ref (a 1)) hX in_X6 0 rfl rfl 0 (by decide) fl_7 rfl rfl dX6_leaves_37 ?_
    refine v_sipush (x := (288 : Int32)) hX dX6_leaves_40 (by decide) ?_
    refine v_iload_n hX dX6_leaves_43 rfl ?_
    refine v_iadd (z := nI (288 + (8 * o + q))) hX dX6_leaves_44 (nI_add 288 (8 * o + q)) ?_
    refine v_iconst (x := (0 : Int32)) hX dX6_leaves_45 (by decide) ?_
    obtain ⟨m5, hm5⟩ : ∃ z_ : MV, z_ = M_setK m4 o (K_setV (m4.2.1 o) (q) ((0 : Int32))) := ⟨_, rfl⟩
    refine v_iast (ws' := wR E a (R_setS v m5)) hX 1 rfl (vp_in_nI (by omega : 288 + (8 * o + q) < 544) (by omega)) (by rw [hm5]; exact sR_s E a (R_setS v m4) (k := 288 + (8 * o + q)) (by omega) (pS_val m4 (o := o) (q := q) ((0 : Int32)) (by omega) (by omega) (by omega))) dX6_leaves_46 ?_
    refine v_aload_n hX dX6_leaves_47 rfl ?_
    refine v_get (C := RX6) (T := TX6) (N := 18) (ci := 6) (v := .ref (a 1)) hX in_X6 0 rfl rfl 0 (by decide) fl_7 rfl rfl dX6_leaves_48 ?_
    refine v_sipush (x := (320 : Int32)) hX dX6_leaves_51 (by decide) ?_
    refine v_iload_n hX dX6_leaves_54 rfl ?_
    refine v_iadd (z := nI (320 + (8 * o + q))) hX dX6_leaves_55 (nI_add 320 (8 * o + q)) ?_
    refine v_iconst (x := (0 : Int32)) hX dX6_leaves_56 (by decide) ?_
    obtain ⟨m6, hm6⟩ : ∃ z_ : MV, z_ = M_setK m5 o (K_setD (m5.2.1 o) (q) (false)) := ⟨_, rfl⟩
    refine v_iast (ws' := wR E a (R_setS v m6)) hX 1 rfl (vp_in_nI (by omega : 320 + (8 * o + q) < 544) (by omega)) (by rw [hm6]; exact sR_s E a (R_setS v m5) (k := 320 + (8 * o + q)) (by omega) (pS_dirty m5 (o := o) (q := q) (false) (by omega) (by omega) (by omega))) dX6_leaves_57 ?_
    exact v_vret hX hr hsz dX6_leaves_58 rfl rfl (by (subst hm6; subst hm5; subst hm4; subst hm3; first | (simp only [Q_lv, Q_out1, Q_out2, Q_wb2, c1, if_true, if_false, reduceIte, Bool.false_eq_true, reduceCtorEq, decide_true, decide_false, Bool.and_true, Bool.and_false, Bool.true_and, Bool.false_and, Bool.or_true, Bool.or_false, Bool.true_or, Bool.false_or, not_true_eq_false, not_false_eq_true, Bool.not_true, Bool.not_false, eq_self, Nat.reduceEqDiff]; done) | rfl | (simp only [Q_lv, Q_out1, Q_out2, Q_wb2, c1, if_true, if_false, reduceIte, Bool.false_eq_true, reduceCtorEq, decide_true, decide_false, Bool.and_true, Bool.and_false, Bool.true_and, Bool.false_and, Bool.or_true, Bool.or_false, Bool.true_or, Bool.false_or, not_true_eq_false, not_false_eq_true, Bool.not_true, Bool.not_false, eq_self, Nat.reduceEqDiff]; rfl) | contradiction | (exfalso; omega)))
set_option maxHeartbeats 4000000 in
set_option maxRecDepth 100000 in
theorem c_X6_notes (l : Launch) (E : ET) (a : Nat → Nat) (sz : Nat) (v : RV) (o : Nat) (ho : o < 4) (n : Nat) (hn : n < 256) : Met l yX6_notes wsX6_notes ({ frames := 3, cells := 0, slots := 0, locals := 70 }) (mPc E [.ref (a 0), .int (nI (o)), .int (nI (n))] sz (wR E a v)) (mQv E (wR E a v) (wR E a (R_setS v (Q_notes v.1 o n))) sz) 0 0 (va_A (wR E a v) sz) := by
  refine v_start (cc := cX6_notes) (maxL := 3) (ret := none) (by decide) rfl (Nat.le_of_ble_eq_true rfl) rfl ?_
  intro p e s m args below meth c hsz hr hX
  have hX : Xc p s m args meth c E 3 (va_A (wR E a v) sz) cX6_notes RX6 wsX6_notes := hX
  have in_X6 : ∀ w ∈ u_ws RX6 TX6 18, w ∈ wsX6_notes := by decide +kernel
  have fl_7 : Cond.fieldLink RX6 7 RX6 "s" "[I" ∈ wsX6_notes := by decide +kernel
  refine v_aload_n hX dX6_notes_0 rfl ?_
  refine v_get (C := RX6) (T := TX6) (N := 18) (ci := 6) (v := .ref (a 1)) hX in_X6 0 rfl rfl 0 (by decide) fl_7 rfl rfl dX6_notes_1 ?_
  refine v_sipush (x := (448 : Int32)) hX dX6_notes_4 (by decide) ?_
  refine v_bipush (x := (16 : Int32)) hX dX6_notes_7 (by decide) ?_
  refine v_iload_n hX dX6_notes_9 rfl ?_
  refine v_imul (z := nI (16 * o)) hX dX6_notes_10 (pk_mul 16 o) ?_
  refine v_iadd (z := nI (448 + (16 * o))) hX dX6_notes_11 (nI_add 448 (16 * o)) ?_
  refine v_iload_n hX dX6_notes_12 rfl ?_
  refine v_bipush (x := (16 : Int32)) hX dX6_notes_13 (by decide) ?_
  refine v_idiv (z := nI ((n) / 16)) hX dX6_notes_15 (by decide) (div_c (n) 16 (by omega) (by decide) (by decide)) ?_
  refine v_iadd (z := nI ((448 + (16 * o)) + ((n) / 16))) hX dX6_notes_16 (nI_add (448 + (16 * o)) ((n) / 16)) ?_
  refine v_iconst (x := (1 : Int32)) hX dX6_notes_17 (by decide) ?_
  obtain ⟨m1, hm1⟩ : ∃ z_ : MV, z_ = Q_setBit v.1 o ((n) / 16) (true) := ⟨_, rfl⟩
  refine v_iast (ws' := wR E a (R_setS v m1)) hX 1 rfl (vp_in_nI (by omega : (448 + (16 * o)) + ((n) / 16) < 544) (by omega)) (by rw [hm1]; exact sR_s E a v (k := (448 + (16 * o)) + ((n) / 16)) (by omega) (pS_bit v.1 (o := o) (q := (n) / 16) (true) (by omega) (by omega) (by omega))) dX6_notes_18 ?_
  refine v_aload_n hX dX6_notes_19 rfl ?_
  refine v_iload_n hX dX6_notes_20 rfl ?_
  refine v_iload_n hX dX6_notes_21 rfl ?_
  refine v_iconst (x := (1 : Int32)) hX dX6_notes_22 (by decide) ?_
  obtain ⟨m2, hm2⟩ : ∃ z_ : MV, z_ = (Q_counts m1 o n (1 : Int32)) := ⟨_, rfl⟩
  refine v_callVv (rest := []) (ws' := wR E a (R_setS v m2)) hX (fun sz => c_X6_counts l E a sz (R_setS v m1) o (by first | omega | exact Nat.le_of_ble_eq_true rfl) n (by first | omega | exact Nat.le_of_ble_eq_true rfl) (1 : Int32)) (cwV 3 hX.2.2.2.2.1 gX6_notes_X6_counts rfl rfl rfl (by decide +kernel) ⟨Nat.le_of_ble_eq_true rfl, Nat.le_of_ble_eq_true rfl⟩) ([]) ([]) ((List.append_nil _).symm) (by rw [hm2]; exact List.append_nil _) (wR_fst E a _ _) (ci := 6) (q0 := 0) rfl rfl rfl rfl rfl (Nat.le_of_ble_eq_true rfl) dX6_notes_23 ?_
  exact v_vret hX hr hsz dX6_notes_26 rfl rfl (by (subst hm2; subst hm1; first | (simp only [Q_notes, if_true, if_false, reduceIte, Bool.false_eq_true, reduceCtorEq, decide_true, decide_false, Bool.and_true, Bool.and_false, Bool.true_and, Bool.false_and, Bool.or_true, Bool.or_false, Bool.true_or, Bool.false_or, not_true_eq_false, not_false_eq_true, Bool.not_true, Bool.not_false, eq_self, Nat.reduceEqDiff]; done) | rfl | (simp only [Q_notes, if_true, if_false, reduceIte, Bool.false_eq_true, reduceCtorEq, decide_true, decide_false, Bool.and_true, Bool.and_false, Bool.true_and, Bool.false_and, Bool.or_true, Bool.or_false, Bool.true_or, Bool.false_or, not_true_eq_false, not_false_eq_true, Bool.not_true, Bool.not_false, eq_self, Nat.reduceEqDiff]; rfl) | contradiction | (exfalso; omega)))
