set_option maxHeartbeats 4000000 in
set_option maxRecDepth 100000 in
theorem c_L_low (l : Launch) (E : ET) (sz : Nat) (lx : Int32) (ln : Int32) (hn : ¬ ln = 0) : Met l yL_low wsL_low ({ frames := 0, cells := 0, slots := 0, locals := 0 }) (mPc E [.int (lx), .int (ln)] sz ([])) (mQi E (LW lx ln) ([]) ([]) sz) 0 0 (va_A ([]) sz) := by
  refine v_start (cc := cL_low) (maxL := 2) (ret := (some .int)) (by decide) rfl (Nat.le_of_ble_eq_true rfl) rfl ?_
  intro p e s m args below meth c hsz hr hX
  have hX : Xc p s m args meth c E 2 (va_A ([]) sz) cL_low RL wsL_low := hX
  have wd_Cond_constant_RL_7_2147483647_ : Cond.constant RL 7 (2147483647) ∈ wsL_low := by decide +kernel
  refine v_iload_n hX dL_low_0 rfl ?_
  refine v_ldc (v := 2147483647) hX wd_Cond_constant_RL_7_2147483647_ dL_low_1 ?_
  refine v_iand (z := (lx &&& (2147483647 : Int32))) hX dL_low_3 (rfl) ?_
  refine v_iload_n hX dL_low_4 rfl ?_
  refine v_irem (z := ((lx &&& (2147483647 : Int32)) - (lx &&& (2147483647 : Int32)) / ln * ln)) hX dL_low_5 (hn) (rfl) ?_
  exact v_iret hX hr hsz dL_low_6 rfl rfl (by (first | (simp only [if_true, if_false, reduceIte, Bool.false_eq_true, reduceCtorEq, decide_true, decide_false, Bool.and_true, Bool.and_false, Bool.true_and, Bool.false_and, Bool.or_true, Bool.or_false, Bool.true_or, Bool.false_or, not_true_eq_false, not_false_eq_true, Bool.not_true, Bool.not_false, eq_self, Nat.reduceEqDiff]; done) | rfl | (simp only [if_true, if_false, reduceIte, Bool.false_eq_true, reduceCtorEq, decide_true, decide_false, Bool.and_true, Bool.and_false, Bool.true_and, Bool.false_and, Bool.or_true, Bool.or_false, Bool.true_or, Bool.false_or, not_true_eq_false, not_false_eq_true, Bool.not_true, Bool.not_false, eq_self, Nat.reduceEqDiff]; rfl) | contradiction | (exfalso; omega))) rfl
