set_option maxHeartbeats 4000000 in
set_option maxRecDepth 100000 in
theorem c_X6_read (l : Launch) (E : ET) (a : Nat → Nat) (sz : Nat) (v : RV) (co : Int32) (li : Int32) : Met l yX6_read wsX6_read ({ frames := 7, cells := 0, slots := 0, locals := 167 }) (mPc E [.ref (a 0), .int (co), .int (li)] sz (wR E a v)) (mQi E ((R_read v co li).1) (wR E a v) (wR E a ((R_read v co li).2)) sz) 0 0 (va_A (wR E a v) sz) := by
  refine v_start (cc := cX6_read) (maxL := 3) (ret := (some .int)) (by decide) rfl (Nat.le_of_ble_eq_true rfl) rfl ?_
  intro p e s m args below meth c hsz hr hX
  have hX : Xc p s m args meth c E 3 (va_A (wR E a v) sz) cX6_read RX6 wsX6_read := hX
  refine v_iload_n hX dX6_read_0 rfl ?_
  refine v_callSi (r := bI (S_within co (0 : Int32) (3 : Int32))) (rest := []) (ws' := wR E a v) hX (fun sz => c_X6_isCore l E sz co) (va_cwS 1 hX.2.2.2.2.1 gX6_read_X6_isCore rfl rfl rfl (by decide +kernel) ⟨Nat.le_of_ble_eq_true rfl, Nat.le_of_ble_eq_true rfl⟩) ([]) (wR E a v) (rfl) rfl (rfl) rfl rfl (Nat.le_of_ble_eq_true rfl) dX6_read_1 ?_
  refine v_if_eq (tgt := 14) hX dX6_read_4 (by decide) (fun c1 => ?_) (fun c1 => ?_)
  · replace c1 := bI_0.mp c1
    refine v_iconst (x := (-1 : Int32)) hX dX6_read_14 (by decide) ?_
    exact v_iret hX hr hsz dX6_read_15 rfl rfl (by (first | (simp only [R_read, c1, if_true, if_false, reduceIte, Bool.false_eq_true, reduceCtorEq, decide_true, decide_false, Bool.and_true, Bool.and_false, Bool.true_and, Bool.false_and, Bool.or_true, Bool.or_false, Bool.true_or, Bool.false_or, not_true_eq_false, not_false_eq_true, Bool.not_true, Bool.not_false, eq_self, Nat.reduceEqDiff]; done) | rfl | (simp only [R_read, c1, if_true, if_false, reduceIte, Bool.false_eq_true, reduceCtorEq, decide_true, decide_false, Bool.and_true, Bool.and_false, Bool.true_and, Bool.false_and, Bool.or_true, Bool.or_false, Bool.true_or, Bool.false_or, not_true_eq_false, not_false_eq_true, Bool.not_true, Bool.not_false, eq_self, Nat.reduceEqDiff]; rfl) | contradiction | (exfalso; omega))) (by (first | (simp only [R_read, c1, if_true, if_false, reduceIte, Bool.false_eq_true, reduceCtorEq, decide_true, decide_false, Bool.and_true, Bool.and_false, Bool.true_and, Bool.false_and, Bool.or_true, Bool.or_false, Bool.true_or, Bool.false_or, not_true_eq_false, not_false_eq_true, Bool.not_true, Bool.not_false, eq_self, Nat.reduceEqDiff]; done) | rfl | (simp only [R_read, c1, if_true, if_false, reduceIte, Bool.false_eq_true, reduceCtorEq, decide_true, decide_false, Bool.and_true, Bool.and_false, Bool.true_and, Bool.false_and, Bool.or_true, Bool.or_false, Bool.true_or, Bool.false_or, not_true_eq_false, not_false_eq_true, Bool.not_true, Bool.not_false, eq_self, Nat.reduceEqDiff]; rfl) | contradiction | (exfalso; omega)))
  · replace c1 := bI_n0.mp c1
    refine v_iload_n hX dX6_read_7 rfl ?_
    refine v_callSi (r := bI (S_within li (0 : Int32) (255 : Int32))) (rest := []) (ws' := wR E a v) hX (fun sz => c_X6_isLine l E sz li) (va_cwS 1 hX.2.2.2.2.1 gX6_read_X6_isLine rfl rfl rfl (by decide +kernel) ⟨Nat.le_of_ble_eq_true rfl, Nat.le_of_ble_eq_true rfl⟩) ([]) (wR E a v) (rfl) rfl (rfl) rfl rfl (Nat.le_of_ble_eq_true rfl) dX6_read_8 ?_
    refine v_if_ne (tgt := 16) hX dX6_read_11 (by decide) (fun c2 => ?_) (fun c2 => ?_)
    · replace c2 := bI_n0.mp c2
      obtain ⟨r, hle_r, heq_r⟩ := within_nat (B := 3) rfl (by decide) c1
      subst heq_r
      have ec_r : cN (nI r) = r := cN_nI (by omega)
      obtain ⟨n, heq_n⟩ := within_fin c2
      subst heq_n
      have hlt_n := n.isLt
      have el_n := lF_nI n
      refine v_aload_n hX dX6_read_16 rfl ?_
      obtain ⟨v3, hv3⟩ : ∃ z_ : RV, z_ = R_rec v := ⟨_, rfl⟩
      refine v_callVv (rest := []) (ws' := wR E a v3) hX (fun sz => c_X6_record l E a sz v ) (cwV 0 hX.2.2.2.2.1 gX6_read_X6_record rfl rfl rfl (by decide +kernel) ⟨Nat.le_of_ble_eq_true rfl, Nat.le_of_ble_eq_true rfl⟩) ([]) ([]) ((List.append_nil _).symm) (by rw [hv3]; exact List.append_nil _) (wR_fst E a _ _) (ci := 6) (q0 := 0) rfl rfl rfl rfl rfl (Nat.le_of_ble_eq_true rfl) dX6_read_17 ?_
      refine v_aload_n hX dX6_read_20 rfl ?_
      refine v_iload_n hX dX6_read_21 rfl ?_
      refine v_iload_n hX dX6_read_22 rfl ?_
      obtain ⟨m4, hm4⟩ : ∃ z_ : MV, z_ = ((Q_reads v3.1 r n).1) := ⟨_, rfl⟩
      refine v_callVi (r := (Q_reads v3.1 r n).2) (rest := []) (ws' := wR E a (R_setS v3 m4)) hX (fun sz => c_X6_reads l E a sz v3 r (by first | omega | exact Nat.le_of_ble_eq_true rfl) n) (cwV 2 hX.2.2.2.2.1 gX6_read_X6_reads rfl rfl rfl (by decide +kernel) ⟨Nat.le_of_ble_eq_true rfl, Nat.le_of_ble_eq_true rfl⟩) ([]) ([]) ((List.append_nil _).symm) (by rw [hm4]; exact List.append_nil _) (wR_fst E a _ _) (ci := 6) (q0 := 0) rfl rfl rfl rfl rfl (Nat.le_of_ble_eq_true rfl) dX6_read_23 ?_
      exact v_iret hX hr hsz dX6_read_26 rfl rfl (by (subst hm4; subst hv3; first | (simp only [R_read, c1, c2, ec_r, el_n, if_true, if_false, reduceIte, Bool.false_eq_true, reduceCtorEq, decide_true, decide_false, Bool.and_true, Bool.and_false, Bool.true_and, Bool.false_and, Bool.or_true, Bool.or_false, Bool.true_or, Bool.false_or, not_true_eq_false, not_false_eq_true, Bool.not_true, Bool.not_false, eq_self, Nat.reduceEqDiff]; done) | rfl | (simp only [R_read, c1, c2, ec_r, el_n, if_true, if_false, reduceIte, Bool.false_eq_true, reduceCtorEq, decide_true, decide_false, Bool.and_true, Bool.and_false, Bool.true_and, Bool.false_and, Bool.or_true, Bool.or_false, Bool.true_or, Bool.false_or, not_true_eq_false, not_false_eq_true, Bool.not_true, Bool.not_false, eq_self, Nat.reduceEqDiff]; rfl) | contradiction | (exfalso; omega))) (by (subst hm4; subst hv3; first | (simp only [R_read, c1, c2, ec_r, el_n, if_true, if_false, reduceIte, Bool.false_eq_true, reduceCtorEq, decide_true, decide_false, Bool.and_true, Bool.and_false, Bool.true_and, Bool.false_and, Bool.or_true, Bool.or_false, Bool.true_or, Bool.false_or, not_true_eq_false, not_false_eq_true, Bool.not_true, Bool.not_false, eq_self, Nat.reduceEqDiff]; done) | rfl | (simp only [R_read, c1, c2, ec_r, el_n, if_true, if_false, reduceIte, Bool.false_eq_true, reduceCtorEq, decide_true, decide_false, Bool.and_true, Bool.and_false, Bool.true_and, Bool.false_and, Bool.or_true, Bool.or_false, Bool.true_or, Bool.false_or, not_true_eq_false, not_false_eq_true, Bool.not_true, Bool.not_false, eq_self, Nat.reduceEqDiff]; rfl) | contradiction | (exfalso; omega)))
    · replace c2 := bI_0.mp c2
      refine v_iconst (x := (-1 : Int32)) hX dX6_read_14 (by decide) ?_
      exact v_iret hX hr hsz dX6_read_15 rfl rfl (by (first | (simp only [R_read, c1, c2, if_true, if_false, reduceIte, Bool.false_eq_true, reduceCtorEq, decide_true, decide_false, Bool.and_true, Bool.and_false, Bool.true_and, Bool.false_and, Bool.or_true, Bool.or_false, Bool.true_or, Bool.false_or, not_true_eq_false, not_false_eq_true, Bool.not_true, Bool.not_false, eq_self, Nat.reduceEqDiff]; done) | rfl | (simp only [R_read, c1, c2, if_true, if_false, reduceIte, Bool.false_eq_true, reduceCtorEq, decide_true, decide_false, Bool.and_true, Bool.and_false, Bool.true_and, Bool.false_and, Bool.or_true, Bool.or_false, Bool.true_or, Bool.false_or, not_true_eq_false, not_false_eq_true, Bool.not_true, Bool.not_false, eq_self, Nat.reduceEqDiff]; rfl) | contradiction | (exfalso; omega))) (by (first | (simp only [R_read, c1, c2, if_true, if_false, reduceIte, Bool.false_eq_true, reduceCtorEq, decide_true, decide_false, Bool.and_true, Bool.and_false, Bool.true_and, Bool.false_and, Bool.or_true, Bool.or_false, Bool.true_or, Bool.false_or, not_true_eq_false, not_false_eq_true, Bool.not_true, Bool.not_false, eq_self, Nat.reduceEqDiff]; done) | rfl | (simp only [R_read, c1, c2, if_true, if_false, reduceIte, Bool.false_eq_true, reduceCtorEq, decide_true, decide_false, Bool.and_true, Bool.and_false, Bool.true_and, Bool.false_and, Bool.or_true, Bool.or_false, Bool.true_or, Bool.false_or, not_true_eq_false, not_false_eq_true, Bool.not_true, Bool.not_false, eq_self, Nat.reduceEqDiff]; rfl) | contradiction | (exfalso; omega)))
set_option maxHeartbeats 4000000 in
set_option maxRecDepth 100000 in
theorem c_X6_write (l : Launch) (E : ET) (a : Nat → Nat) (sz : Nat) (v : RV) (co : Int32) (li : Int32) (x : Int32) : Met l yX6_write wsX6_write ({ frames := 7, cells := 0, slots := 0, locals := 169 }) (mPc E [.ref (a 0), .int (co), .int (li), .int (x)] sz (wR E a v)) (mQi E ((R_write v co li x).1) (wR E a v) (wR E a ((R_write v co li x).2)) sz) 0 0 (va_A (wR E a v) sz) := by
  refine v_start (cc := cX6_write) (maxL := 4) (ret := (some .int)) (by decide) rfl (Nat.le_of_ble_eq_true rfl) rfl ?_
  intro p e s m args below meth c hsz hr hX
  have hX : Xc p s m args meth c E 4 (va_A (wR E a v) sz) cX6_write RX6 wsX6_write := hX
  refine v_iload_n hX dX6_write_0 rfl ?_
  refine v_callSi (r := bI (S_within co (0 : Int32) (3 : Int32))) (rest := []) (ws' := wR E a v) hX (fun sz => c_X6_isCore l E sz co) (va_cwS 1 hX.2.2.2.2.1 gX6_write_X6_isCore rfl rfl rfl (by decide +kernel) ⟨Nat.le_of_ble_eq_true rfl, Nat.le_of_ble_eq_true rfl⟩) ([]) (wR E a v) (rfl) rfl (rfl) rfl rfl (Nat.le_of_ble_eq_true rfl) dX6_write_1 ?_
  refine v_if_eq (tgt := 14) hX dX6_write_4 (by decide) (fun c1 => ?_) (fun c1 => ?_)
  · replace c1 := bI_0.mp c1
    refine v_iconst (x := (-1 : Int32)) hX dX6_write_14 (by decide) ?_
    exact v_iret hX hr hsz dX6_write_15 rfl rfl (by (first | (simp only [R_write, c1, if_true, if_false, reduceIte, Bool.false_eq_true, reduceCtorEq, decide_true, decide_false, Bool.and_true, Bool.and_false, Bool.true_and, Bool.false_and, Bool.or_true, Bool.or_false, Bool.true_or, Bool.false_or, not_true_eq_false, not_false_eq_true, Bool.not_true, Bool.not_false, eq_self, Nat.reduceEqDiff]; done) | rfl | (simp only [R_write, c1, if_true, if_false, reduceIte, Bool.false_eq_true, reduceCtorEq, decide_true, decide_false, Bool.and_true, Bool.and_false, Bool.true_and, Bool.false_and, Bool.or_true, Bool.or_false, Bool.true_or, Bool.false_or, not_true_eq_false, not_false_eq_true, Bool.not_true, Bool.not_false, eq_self, Nat.reduceEqDiff]; rfl) | contradiction | (exfalso; omega))) (by (first | (simp only [R_write, c1, if_true, if_false, reduceIte, Bool.false_eq_true, reduceCtorEq, decide_true, decide_false, Bool.and_true, Bool.and_false, Bool.true_and, Bool.false_and, Bool.or_true, Bool.or_false, Bool.true_or, Bool.false_or, not_true_eq_false, not_false_eq_true, Bool.not_true, Bool.not_false, eq_self, Nat.reduceEqDiff]; done) | rfl | (simp only [R_write, c1, if_true, if_false, reduceIte, Bool.false_eq_true, reduceCtorEq, decide_true, decide_false, Bool.and_true, Bool.and_false, Bool.true_and, Bool.false_and, Bool.or_true, Bool.or_false, Bool.true_or, Bool.false_or, not_true_eq_false, not_false_eq_true, Bool.not_true, Bool.not_false, eq_self, Nat.reduceEqDiff]; rfl) | contradiction | (exfalso; omega)))
  · replace c1 := bI_n0.mp c1
    refine v_iload_n hX dX6_write_7 rfl ?_
    refine v_callSi (r := bI (S_within li (0 : Int32) (255 : Int32))) (rest := []) (ws' := wR E a v) hX (fun sz => c_X6_isLine l E sz li) (va_cwS 1 hX.2.2.2.2.1 gX6_write_X6_isLine rfl rfl rfl (by decide +kernel) ⟨Nat.le_of_ble_eq_true rfl, Nat.le_of_ble_eq_true rfl⟩) ([]) (wR E a v) (rfl) rfl (rfl) rfl rfl (Nat.le_of_ble_eq_true rfl) dX6_write_8 ?_
    refine v_if_ne (tgt := 16) hX dX6_write_11 (by decide) (fun c2 => ?_) (fun c2 => ?_)
    · replace c2 := bI_n0.mp c2
      refine v_iload_n hX dX6_write_16 rfl ?_
      refine v_iconst (x := (0 : Int32)) hX dX6_write_17 (by decide) ?_
      refine v_sipush (x := (9999 : Int32)) hX dX6_write_18 (by decide) ?_
      refine v_callSi (r := bI (S_within x (0 : Int32) (9999 : Int32))) (rest := []) (ws' := wR E a v) hX (fun sz => c_X6_in l E sz x (0 : Int32) (9999 : Int32)) (va_cwS 3 hX.2.2.2.2.1 gX6_write_X6_in rfl rfl rfl (by decide +kernel) ⟨Nat.le_of_ble_eq_true rfl, Nat.le_of_ble_eq_true rfl⟩) ([]) (wR E a v) (rfl) rfl (rfl) rfl rfl (Nat.le_of_ble_eq_true rfl) dX6_write_21 ?_
      refine v_if_ne (tgt := 30) hX dX6_write_24 (by decide) (fun c3 => ?_) (fun c3 => ?_)
      · replace c3 := bI_n0.mp c3
        obtain ⟨r, hle_r, heq_r⟩ := within_nat (B := 3) rfl (by decide) c1
        subst heq_r
        have ec_r : cN (nI r) = r := cN_nI (by omega)
        obtain ⟨n, heq_n⟩ := within_fin c2
        subst heq_n
        have hlt_n := n.isLt
        have el_n := lF_nI n
        refine v_aload_n hX dX6_write_30 rfl ?_
        obtain ⟨v4, hv4⟩ : ∃ z_ : RV, z_ = R_rec v := ⟨_, rfl⟩
        refine v_callVv (rest := []) (ws' := wR E a v4) hX (fun sz => c_X6_record l E a sz v ) (cwV 0 hX.2.2.2.2.1 gX6_write_X6_record rfl rfl rfl (by decide +kernel) ⟨Nat.le_of_ble_eq_true rfl, Nat.le_of_ble_eq_true rfl⟩) ([]) ([]) ((List.append_nil _).symm) (by rw [hv4]; exact List.append_nil _) (wR_fst E a _ _) (ci := 6) (q0 := 0) rfl rfl rfl rfl rfl (Nat.le_of_ble_eq_true rfl) dX6_write_31 ?_
        refine v_aload_n hX dX6_write_34 rfl ?_
        refine v_iload_n hX dX6_write_35 rfl ?_
        refine v_iload_n hX dX6_write_36 rfl ?_
        refine v_iload_n hX dX6_write_37 rfl ?_
        obtain ⟨m5, hm5⟩ : ∃ z_ : MV, z_ = ((Q_writes v4.1 r n x).1) := ⟨_, rfl⟩
        refine v_callVi (r := (Q_writes v4.1 r n x).2) (rest := []) (ws' := wR E a (R_setS v4 m5)) hX (fun sz => c_X6_writes l E a sz v4 r (by first | omega | exact Nat.le_of_ble_eq_true rfl) n x) (cwV 3 hX.2.2.2.2.1 gX6_write_X6_writes rfl rfl rfl (by decide +kernel) ⟨Nat.le_of_ble_eq_true rfl, Nat.le_of_ble_eq_true rfl⟩) ([]) ([]) ((List.append_nil _).symm) (by rw [hm5]; exact List.append_nil _) (wR_fst E a _ _) (ci := 6) (q0 := 0) rfl rfl rfl rfl rfl (Nat.le_of_ble_eq_true rfl) dX6_write_38 ?_
        exact v_iret hX hr hsz dX6_write_41 rfl rfl (by (subst hm5; subst hv4; first | (simp only [R_write, c1, c2, c3, ec_r, el_n, if_true, if_false, reduceIte, Bool.false_eq_true, reduceCtorEq, decide_true, decide_false, Bool.and_true, Bool.and_false, Bool.true_and, Bool.false_and, Bool.or_true, Bool.or_false, Bool.true_or, Bool.false_or, not_true_eq_false, not_false_eq_true, Bool.not_true, Bool.not_false, eq_self, Nat.reduceEqDiff]; done) | rfl | (simp only [R_write, c1, c2, c3, ec_r, el_n, if_true, if_false, reduceIte, Bool.false_eq_true, reduceCtorEq, decide_true, decide_false, Bool.and_true, Bool.and_false, Bool.true_and, Bool.false_and, Bool.or_true, Bool.or_false, Bool.true_or, Bool.false_or, not_true_eq_false, not_false_eq_true, Bool.not_true, Bool.not_false, eq_self, Nat.reduceEqDiff]; rfl) | contradiction | (exfalso; omega))) (by (subst hm5; subst hv4; first | (simp only [R_write, c1, c2, c3, ec_r, el_n, if_true, if_false, reduceIte, Bool.false_eq_true, reduceCtorEq, decide_true, decide_false, Bool.and_true, Bool.and_false, Bool.true_and, Bool.false_and, Bool.or_true, Bool.or_false, Bool.true_or, Bool.false_or, not_true_eq_false, not_false_eq_true, Bool.not_true, Bool.not_false, eq_self, Nat.reduceEqDiff]; done) | rfl | (simp only [R_write, c1, c2, c3, ec_r, el_n, if_true, if_false, reduceIte, Bool.false_eq_true, reduceCtorEq, decide_true, decide_false, Bool.and_true, Bool.and_false, Bool.true_and, Bool.false_and, Bool.or_true, Bool.or_false, Bool.true_or, Bool.false_or, not_true_eq_false, not_false_eq_true, Bool.not_true, Bool.not_false, eq_self, Nat.reduceEqDiff]; rfl) | contradiction | (exfalso; omega)))
      · replace c3 := bI_0.mp c3
        refine v_bipush (x := (-2 : Int32)) hX dX6_write_27 (by decide) ?_
        exact v_iret hX hr hsz dX6_write_29 rfl rfl (by (first | (simp only [R_write, c1, c2, c3, if_true, if_false, reduceIte, Bool.false_eq_true, reduceCtorEq, decide_true, decide_false, Bool.and_true, Bool.and_false, Bool.true_and, Bool.false_and, Bool.or_true, Bool.or_false, Bool.true_or, Bool.false_or, not_true_eq_false, not_false_eq_true, Bool.not_true, Bool.not_false, eq_self, Nat.reduceEqDiff]; done) | rfl | (simp only [R_write, c1, c2, c3, if_true, if_false, reduceIte, Bool.false_eq_true, reduceCtorEq, decide_true, decide_false, Bool.and_true, Bool.and_false, Bool.true_and, Bool.false_and, Bool.or_true, Bool.or_false, Bool.true_or, Bool.false_or, not_true_eq_false, not_false_eq_true, Bool.not_true, Bool.not_false, eq_self, Nat.reduceEqDiff]; rfl) | contradiction | (exfalso; omega))) (by (first | (simp only [R_write, c1, c2, c3, if_true, if_false, reduceIte, Bool.false_eq_true, reduceCtorEq, decide_true, decide_false, Bool.and_true, Bool.and_false, Bool.true_and, Bool.false_and, Bool.or_true, Bool.or_false, Bool.true_or, Bool.false_or, not_true_eq_false, not_false_eq_true, Bool.not_true, Bool.not_false, eq_self, Nat.reduceEqDiff]; done) | rfl | (simp only [R_write, c1, c2, c3, if_true, if_false, reduceIte, Bool.false_eq_true, reduceCtorEq, decide_true, decide_false, Bool.and_true, Bool.and_false, Bool.true_and, Bool.false_and, Bool.or_true, Bool.or_false, Bool.true_or, Bool.false_or, not_true_eq_false, not_false_eq_true, Bool.not_true, Bool.not_false, eq_self, Nat.reduceEqDiff]; rfl) | contradiction | (exfalso; omega)))
    · replace c2 := bI_0.mp c2
      refine v_iconst (x := (-1 : Int32)) hX dX6_write_14 (by decide) ?_
      exact v_iret hX hr hsz dX6_write_15 rfl rfl (by (first | (simp only [R_write, c1, c2, if_true, if_false, reduceIte, Bool.false_eq_true, reduceCtorEq, decide_true, decide_false, Bool.and_true, Bool.and_false, Bool.true_and, Bool.false_and, Bool.or_true, Bool.or_false, Bool.true_or, Bool.false_or, not_true_eq_false, not_false_eq_true, Bool.not_true, Bool.not_false, eq_self, Nat.reduceEqDiff]; done) | rfl | (simp only [R_write, c1, c2, if_true, if_false, reduceIte, Bool.false_eq_true, reduceCtorEq, decide_true, decide_false, Bool.and_true, Bool.and_false, Bool.true_and, Bool.false_and, Bool.or_true, Bool.or_false, Bool.true_or, Bool.false_or, not_true_eq_false, not_false_eq_true, Bool.not_true, Bool.not_false, eq_self, Nat.reduceEqDiff]; rfl) | contradiction | (exfalso; omega))) (by (first | (simp only [R_write, c1, c2, if_true, if_false, reduceIte, Bool.false_eq_true, reduceCtorEq, decide_true, decide_false, Bool.and_true, Bool.and_false, Bool.true_and, Bool.false_and, Bool.or_true, Bool.or_false, Bool.true_or, Bool.false_or, not_true_eq_false, not_false_eq_true, Bool.not_true, Bool.not_false, eq_self, Nat.reduceEqDiff]; done) | rfl | (simp only [R_write, c1, c2, if_true, if_false, reduceIte, Bool.false_eq_true, reduceCtorEq, decide_true, decide_false, Bool.and_true, Bool.and_false, Bool.true_and, Bool.false_and, Bool.or_true, Bool.or_false, Bool.true_or, Bool.false_or, not_true_eq_false, not_false_eq_true, Bool.not_true, Bool.not_false, eq_self, Nat.reduceEqDiff]; rfl) | contradiction | (exfalso; omega)))
set_option maxHeartbeats 4000000 in
set_option maxRecDepth 100000 in
theorem c_X6_drop (l : Launch) (E : ET) (a : Nat → Nat) (sz : Nat) (v : RV) (co : Int32) (li : Int32) : Met l yX6_drop wsX6_drop ({ frames := 5, cells := 0, slots := 0, locals := 117 }) (mPc E [.ref (a 0), .int (co), .int (li)] sz (wR E a v)) (mQi E ((R_drop v co li).1) (wR E a v) (wR E a ((R_drop v co li).2)) sz) 0 0 (va_A (wR E a v) sz) := by
  refine v_start (cc := cX6_drop) (maxL := 3) (ret := (some .int)) (by decide) rfl (Nat.le_of_ble_eq_true rfl) rfl ?_
  intro p e s m args below meth c hsz hr hX
  have hX : Xc p s m args meth c E 3 (va_A (wR E a v) sz) cX6_drop RX6 wsX6_drop := hX
  refine v_iload_n hX dX6_drop_0 rfl ?_
  refine v_callSi (r := bI (S_within co (0 : Int32) (3 : Int32))) (rest := []) (ws' := wR E a v) hX (fun sz => c_X6_isCore l E sz co) (va_cwS 1 hX.2.2.2.2.1 gX6_drop_X6_isCore rfl rfl rfl (by decide +kernel) ⟨Nat.le_of_ble_eq_true rfl, Nat.le_of_ble_eq_true rfl⟩) ([]) (wR E a v) (rfl) rfl (rfl) rfl rfl (Nat.le_of_ble_eq_true rfl) dX6_drop_1 ?_
  refine v_if_eq (tgt := 14) hX dX6_drop_4 (by decide) (fun c1 => ?_) (fun c1 => ?_)
  · replace c1 := bI_0.mp c1
    refine v_iconst (x := (-1 : Int32)) hX dX6_drop_14 (by decide) ?_
    exact v_iret hX hr hsz dX6_drop_15 rfl rfl (by (first | (simp only [R_drop, c1, if_true, if_false, reduceIte, Bool.false_eq_true, reduceCtorEq, decide_true, decide_false, Bool.and_true, Bool.and_false, Bool.true_and, Bool.false_and, Bool.or_true, Bool.or_false, Bool.true_or, Bool.false_or, not_true_eq_false, not_false_eq_true, Bool.not_true, Bool.not_false, eq_self, Nat.reduceEqDiff]; done) | rfl | (simp only [R_drop, c1, if_true, if_false, reduceIte, Bool.false_eq_true, reduceCtorEq, decide_true, decide_false, Bool.and_true, Bool.and_false, Bool.true_and, Bool.false_and, Bool.or_true, Bool.or_false, Bool.true_or, Bool.false_or, not_true_eq_false, not_false_eq_true, Bool.not_true, Bool.not_false, eq_self, Nat.reduceEqDiff]; rfl) | contradiction | (exfalso; omega))) (by (first | (simp only [R_drop, c1, if_true, if_false, reduceIte, Bool.false_eq_true, reduceCtorEq, decide_true, decide_false, Bool.and_true, Bool.and_false, Bool.true_and, Bool.false_and, Bool.or_true, Bool.or_false, Bool.true_or, Bool.false_or, not_true_eq_false, not_false_eq_true, Bool.not_true, Bool.not_false, eq_self, Nat.reduceEqDiff]; done) | rfl | (simp only [R_drop, c1, if_true, if_false, reduceIte, Bool.false_eq_true, reduceCtorEq, decide_true, decide_false, Bool.and_true, Bool.and_false, Bool.true_and, Bool.false_and, Bool.or_true, Bool.or_false, Bool.true_or, Bool.false_or, not_true_eq_false, not_false_eq_true, Bool.not_true, Bool.not_false, eq_self, Nat.reduceEqDiff]; rfl) | contradiction | (exfalso; omega)))
  · replace c1 := bI_n0.mp c1
    refine v_iload_n hX dX6_drop_7 rfl ?_
    refine v_callSi (r := bI (S_within li (0 : Int32) (255 : Int32))) (rest := []) (ws' := wR E a v) hX (fun sz => c_X6_isLine l E sz li) (va_cwS 1 hX.2.2.2.2.1 gX6_drop_X6_isLine rfl rfl rfl (by decide +kernel) ⟨Nat.le_of_ble_eq_true rfl, Nat.le_of_ble_eq_true rfl⟩) ([]) (wR E a v) (rfl) rfl (rfl) rfl rfl (Nat.le_of_ble_eq_true rfl) dX6_drop_8 ?_
    refine v_if_ne (tgt := 16) hX dX6_drop_11 (by decide) (fun c2 => ?_) (fun c2 => ?_)
    · replace c2 := bI_n0.mp c2
      obtain ⟨r, hle_r, heq_r⟩ := within_nat (B := 3) rfl (by decide) c1
      subst heq_r
      have ec_r : cN (nI r) = r := cN_nI (by omega)
      obtain ⟨n, heq_n⟩ := within_fin c2
      subst heq_n
      have hlt_n := n.isLt
      have el_n := lF_nI n
      refine v_aload_n hX dX6_drop_16 rfl ?_
      refine v_iload_n hX dX6_drop_17 rfl ?_
      refine v_iload_n hX dX6_drop_18 rfl ?_
      refine v_callVi (r := bI (Q_holds v.1 r n)) (rest := []) (ws' := wR E a v) hX (fun sz => c_X6_holds l E a sz v r (by first | omega | exact Nat.le_of_ble_eq_true rfl) n) (cwV 2 hX.2.2.2.2.1 gX6_drop_X6_holds rfl rfl rfl (by decide +kernel) ⟨Nat.le_of_ble_eq_true rfl, Nat.le_of_ble_eq_true rfl⟩) ([]) ([]) ((List.append_nil _).symm) ((List.append_nil _).symm).symm (wR_fst E a _ _) (ci := 6) (q0 := 0) rfl rfl rfl rfl rfl (Nat.le_of_ble_eq_true rfl) dX6_drop_19 ?_
      refine v_if_ne (tgt := 28) hX dX6_drop_22 (by decide) (fun c3 => ?_) (fun c3 => ?_)
      · replace c3 := bI_n0.mp c3
        refine v_aload_n hX dX6_drop_28 rfl ?_
        obtain ⟨v4, hv4⟩ : ∃ z_ : RV, z_ = R_rec v := ⟨_, rfl⟩
        refine v_callVv (rest := []) (ws' := wR E a v4) hX (fun sz => c_X6_record l E a sz v ) (cwV 0 hX.2.2.2.2.1 gX6_drop_X6_record rfl rfl rfl (by decide +kernel) ⟨Nat.le_of_ble_eq_true rfl, Nat.le_of_ble_eq_true rfl⟩) ([]) ([]) ((List.append_nil _).symm) (by rw [hv4]; exact List.append_nil _) (wR_fst E a _ _) (ci := 6) (q0 := 0) rfl rfl rfl rfl rfl (Nat.le_of_ble_eq_true rfl) dX6_drop_29 ?_
        refine v_aload_n hX dX6_drop_32 rfl ?_
        refine v_iload_n hX dX6_drop_33 rfl ?_
        refine v_iload_n hX dX6_drop_34 rfl ?_
        obtain ⟨m5, hm5⟩ : ∃ z_ : MV, z_ = ((Q_drops v4.1 r n).1) := ⟨_, rfl⟩
        refine v_callVi (r := (Q_drops v4.1 r n).2) (rest := []) (ws' := wR E a (R_setS v4 m5)) hX (fun sz => c_X6_drops l E a sz v4 r (by first | omega | exact Nat.le_of_ble_eq_true rfl) n) (cwV 2 hX.2.2.2.2.1 gX6_drop_X6_drops rfl rfl rfl (by decide +kernel) ⟨Nat.le_of_ble_eq_true rfl, Nat.le_of_ble_eq_true rfl⟩) ([]) ([]) ((List.append_nil _).symm) (by rw [hm5]; exact List.append_nil _) (wR_fst E a _ _) (ci := 6) (q0 := 0) rfl rfl rfl rfl rfl (Nat.le_of_ble_eq_true rfl) dX6_drop_35 ?_
        exact v_iret hX hr hsz dX6_drop_38 rfl rfl (by (subst hm5; subst hv4; first | (simp only [R_drop, c1, c2, ec_r, el_n, c3, if_true, if_false, reduceIte, Bool.false_eq_true, reduceCtorEq, decide_true, decide_false, Bool.and_true, Bool.and_false, Bool.true_and, Bool.false_and, Bool.or_true, Bool.or_false, Bool.true_or, Bool.false_or, not_true_eq_false, not_false_eq_true, Bool.not_true, Bool.not_false, eq_self, Nat.reduceEqDiff]; done) | rfl | (simp only [R_drop, c1, c2, ec_r, el_n, c3, if_true, if_false, reduceIte, Bool.false_eq_true, reduceCtorEq, decide_true, decide_false, Bool.and_true, Bool.and_false, Bool.true_and, Bool.false_and, Bool.or_true, Bool.or_false, Bool.true_or, Bool.false_or, not_true_eq_false, not_false_eq_true, Bool.not_true, Bool.not_false, eq_self, Nat.reduceEqDiff]; rfl) | contradiction | (exfalso; omega))) (by (subst hm5; subst hv4; first | (simp only [R_drop, c1, c2, ec_r, el_n, c3, if_true, if_false, reduceIte, Bool.false_eq_true, reduceCtorEq, decide_true, decide_false, Bool.and_true, Bool.and_false, Bool.true_and, Bool.false_and, Bool.or_true, Bool.or_false, Bool.true_or, Bool.false_or, not_true_eq_false, not_false_eq_true, Bool.not_true, Bool.not_false, eq_self, Nat.reduceEqDiff]; done) | rfl | (simp only [R_drop, c1, c2, ec_r, el_n, c3, if_true, if_false, reduceIte, Bool.false_eq_true, reduceCtorEq, decide_true, decide_false, Bool.and_true, Bool.and_false, Bool.true_and, Bool.false_and, Bool.or_true, Bool.or_false, Bool.true_or, Bool.false_or, not_true_eq_false, not_false_eq_true, Bool.not_true, Bool.not_false, eq_self, Nat.reduceEqDiff]; rfl) | contradiction | (exfalso; omega)))
      · replace c3 := bI_0.mp c3
        refine v_bipush (x := (-4 : Int32)) hX dX6_drop_25 (by decide) ?_
        exact v_iret hX hr hsz dX6_drop_27 rfl rfl (by (first | (simp only [R_drop, c1, c2, ec_r, el_n, c3, if_true, if_false, reduceIte, Bool.false_eq_true, reduceCtorEq, decide_true, decide_false, Bool.and_true, Bool.and_false, Bool.true_and, Bool.false_and, Bool.or_true, Bool.or_false, Bool.true_or, Bool.false_or, not_true_eq_false, not_false_eq_true, Bool.not_true, Bool.not_false, eq_self, Nat.reduceEqDiff]; done) | rfl | (simp only [R_drop, c1, c2, ec_r, el_n, c3, if_true, if_false, reduceIte, Bool.false_eq_true, reduceCtorEq, decide_true, decide_false, Bool.and_true, Bool.and_false, Bool.true_and, Bool.false_and, Bool.or_true, Bool.or_false, Bool.true_or, Bool.false_or, not_true_eq_false, not_false_eq_true, Bool.not_true, Bool.not_false, eq_self, Nat.reduceEqDiff]; rfl) | contradiction | (exfalso; omega))) (by (first | (simp only [R_drop, c1, c2, ec_r, el_n, c3, if_true, if_false, reduceIte, Bool.false_eq_true, reduceCtorEq, decide_true, decide_false, Bool.and_true, Bool.and_false, Bool.true_and, Bool.false_and, Bool.or_true, Bool.or_false, Bool.true_or, Bool.false_or, not_true_eq_false, not_false_eq_true, Bool.not_true, Bool.not_false, eq_self, Nat.reduceEqDiff]; done) | rfl | (simp only [R_drop, c1, c2, ec_r, el_n, c3, if_true, if_false, reduceIte, Bool.false_eq_true, reduceCtorEq, decide_true, decide_false, Bool.and_true, Bool.and_false, Bool.true_and, Bool.false_and, Bool.or_true, Bool.or_false, Bool.true_or, Bool.false_or, not_true_eq_false, not_false_eq_true, Bool.not_true, Bool.not_false, eq_self, Nat.reduceEqDiff]; rfl) | contradiction | (exfalso; omega)))
    · replace c2 := bI_0.mp c2
      refine v_iconst (x := (-1 : Int32)) hX dX6_drop_14 (by decide) ?_
      exact v_iret hX hr hsz dX6_drop_15 rfl rfl (by (first | (simp only [R_drop, c1, c2, if_true, if_false, reduceIte, Bool.false_eq_true, reduceCtorEq, decide_true, decide_false, Bool.and_true, Bool.and_false, Bool.true_and, Bool.false_and, Bool.or_true, Bool.or_false, Bool.true_or, Bool.false_or, not_true_eq_false, not_false_eq_true, Bool.not_true, Bool.not_false, eq_self, Nat.reduceEqDiff]; done) | rfl | (simp only [R_drop, c1, c2, if_true, if_false, reduceIte, Bool.false_eq_true, reduceCtorEq, decide_true, decide_false, Bool.and_true, Bool.and_false, Bool.true_and, Bool.false_and, Bool.or_true, Bool.or_false, Bool.true_or, Bool.false_or, not_true_eq_false, not_false_eq_true, Bool.not_true, Bool.not_false, eq_self, Nat.reduceEqDiff]; rfl) | contradiction | (exfalso; omega))) (by (first | (simp only [R_drop, c1, c2, if_true, if_false, reduceIte, Bool.false_eq_true, reduceCtorEq, decide_true, decide_false, Bool.and_true, Bool.and_false, Bool.true_and, Bool.false_and, Bool.or_true, Bool.or_false, Bool.true_or, Bool.false_or, not_true_eq_false, not_false_eq_true, Bool.not_true, Bool.not_false, eq_self, Nat.reduceEqDiff]; done) | rfl | (simp only [R_drop, c1, c2, if_true, if_false, reduceIte, Bool.false_eq_true, reduceCtorEq, decide_true, decide_false, Bool.and_true, Bool.and_false, Bool.true_and, Bool.false_and, Bool.or_true, Bool.or_false, Bool.true_or, Bool.false_or, not_true_eq_false, not_false_eq_true, Bool.not_true, Bool.not_false, eq_self, Nat.reduceEqDiff]; rfl) | contradiction | (exfalso; omega)))
set_option maxHeartbeats 4000000 in
set_option maxRecDepth 100000 in
theorem c_X6_forget (l : Launch) (E : ET) (a : Nat → Nat) (sz : Nat) (v : RV) (co : Int32) : Met l yX6_forget wsX6_forget ({ frames := 5, cells := 0, slots := 0, locals := 118 }) (mPc E [.ref (a 0), .int (co)] sz (wR E a v)) (mQi E ((R_forget v co).1) (wR E a v) (wR E a ((R_forget v co).2)) sz) 0 0 (va_A (wR E a v) sz) := by
  refine v_start (cc := cX6_forget) (maxL := 2) (ret := (some .int)) (by decide) rfl (Nat.le_of_ble_eq_true rfl) rfl ?_
  intro p e s m args below meth c hsz hr hX
  have hX : Xc p s m args meth c E 2 (va_A (wR E a v) sz) cX6_forget RX6 wsX6_forget := hX
  refine v_iload_n hX dX6_forget_0 rfl ?_
  refine v_callSi (r := bI (S_within co (0 : Int32) (3 : Int32))) (rest := []) (ws' := wR E a v) hX (fun sz => c_X6_isCore l E sz co) (va_cwS 1 hX.2.2.2.2.1 gX6_forget_X6_isCore rfl rfl rfl (by decide +kernel) ⟨Nat.le_of_ble_eq_true rfl, Nat.le_of_ble_eq_true rfl⟩) ([]) (wR E a v) (rfl) rfl (rfl) rfl rfl (Nat.le_of_ble_eq_true rfl) dX6_forget_1 ?_
  refine v_if_ne (tgt := 9) hX dX6_forget_4 (by decide) (fun c1 => ?_) (fun c1 => ?_)
  · replace c1 := bI_n0.mp c1
    obtain ⟨r, hle_r, heq_r⟩ := within_nat (B := 3) rfl (by decide) c1
    subst heq_r
    have ec_r : cN (nI r) = r := cN_nI (by omega)
    refine v_aload_n hX dX6_forget_9 rfl ?_
    refine v_iload_n hX dX6_forget_10 rfl ?_
    refine v_callVi (r := bI (Q_empty v.1 r)) (rest := []) (ws' := wR E a v) hX (fun sz => c_X6_isEmpty l E a sz v r (by first | omega | exact Nat.le_of_ble_eq_true rfl)) (cwV 1 hX.2.2.2.2.1 gX6_forget_X6_isEmpty rfl rfl rfl (by decide +kernel) ⟨Nat.le_of_ble_eq_true rfl, Nat.le_of_ble_eq_true rfl⟩) ([]) ([]) ((List.append_nil _).symm) ((List.append_nil _).symm).symm (wR_fst E a _ _) (ci := 6) (q0 := 0) rfl rfl rfl rfl rfl (Nat.le_of_ble_eq_true rfl) dX6_forget_11 ?_
    refine v_if_eq (tgt := 20) hX dX6_forget_14 (by decide) (fun c2 => ?_) (fun c2 => ?_)
    · replace c2 := bI_0.mp c2
      refine v_aload_n hX dX6_forget_20 rfl ?_
      obtain ⟨v3, hv3⟩ : ∃ z_ : RV, z_ = R_rec v := ⟨_, rfl⟩
      refine v_callVv (rest := []) (ws' := wR E a v3) hX (fun sz => c_X6_record l E a sz v ) (cwV 0 hX.2.2.2.2.1 gX6_forget_X6_record rfl rfl rfl (by decide +kernel) ⟨Nat.le_of_ble_eq_true rfl, Nat.le_of_ble_eq_true rfl⟩) ([]) ([]) ((List.append_nil _).symm) (by rw [hv3]; exact List.append_nil _) (wR_fst E a _ _) (ci := 6) (q0 := 0) rfl rfl rfl rfl rfl (Nat.le_of_ble_eq_true rfl) dX6_forget_21 ?_
      refine v_aload_n hX dX6_forget_24 rfl ?_
      refine v_iload_n hX dX6_forget_25 rfl ?_
      refine v_bipush (x := (-5 : Int32)) hX dX6_forget_26 (by decide) ?_
      obtain ⟨m4, hm4⟩ : ∃ z_ : MV, z_ = ((Q_fg v3.1 r none).1) := ⟨_, rfl⟩
      refine v_callVi (r := (Q_fg v3.1 r none).2) (rest := []) (ws' := wR E a (R_setS v3 m4)) hX (fun sz => c_X6_forgets l E a sz v3 r (by first | omega | exact Nat.le_of_ble_eq_true rfl) none) (cwV 2 hX.2.2.2.2.1 gX6_forget_X6_forgets rfl rfl rfl (by decide +kernel) ⟨Nat.le_of_ble_eq_true rfl, Nat.le_of_ble_eq_true rfl⟩) ([]) ([]) ((List.append_nil _).symm) (by rw [hm4]; exact List.append_nil _) (wR_fst E a _ _) (ci := 6) (q0 := 0) rfl rfl rfl rfl rfl (Nat.le_of_ble_eq_true rfl) dX6_forget_28 ?_
      exact v_iret hX hr hsz dX6_forget_31 rfl rfl (by (subst hm4; subst hv3; first | (simp only [R_forget, c1, ec_r, c2, if_true, if_false, reduceIte, Bool.false_eq_true, reduceCtorEq, decide_true, decide_false, Bool.and_true, Bool.and_false, Bool.true_and, Bool.false_and, Bool.or_true, Bool.or_false, Bool.true_or, Bool.false_or, not_true_eq_false, not_false_eq_true, Bool.not_true, Bool.not_false, eq_self, Nat.reduceEqDiff]; done) | rfl | (simp only [R_forget, c1, ec_r, c2, if_true, if_false, reduceIte, Bool.false_eq_true, reduceCtorEq, decide_true, decide_false, Bool.and_true, Bool.and_false, Bool.true_and, Bool.false_and, Bool.or_true, Bool.or_false, Bool.true_or, Bool.false_or, not_true_eq_false, not_false_eq_true, Bool.not_true, Bool.not_false, eq_self, Nat.reduceEqDiff]; rfl) | contradiction | (exfalso; omega))) (by (subst hm4; subst hv3; first | (simp only [R_forget, c1, ec_r, c2, if_true, if_false, reduceIte, Bool.false_eq_true, reduceCtorEq, decide_true, decide_false, Bool.and_true, Bool.and_false, Bool.true_and, Bool.false_and, Bool.or_true, Bool.or_false, Bool.true_or, Bool.false_or, not_true_eq_false, not_false_eq_true, Bool.not_true, Bool.not_false, eq_self, Nat.reduceEqDiff]; done) | rfl | (simp only [R_forget, c1, ec_r, c2, if_true, if_false, reduceIte, Bool.false_eq_true, reduceCtorEq, decide_true, decide_false, Bool.and_true, Bool.and_false, Bool.true_and, Bool.false_and, Bool.or_true, Bool.or_false, Bool.true_or, Bool.false_or, not_true_eq_false, not_false_eq_true, Bool.not_true, Bool.not_false, eq_self, Nat.reduceEqDiff]; rfl) | contradiction | (exfalso; omega)))
    · replace c2 := bI_n0.mp c2
      refine v_bipush (x := (-5 : Int32)) hX dX6_forget_17 (by decide) ?_
      exact v_iret hX hr hsz dX6_forget_19 rfl rfl (by (first | (simp only [R_forget, c1, ec_r, c2, if_true, if_false, reduceIte, Bool.false_eq_true, reduceCtorEq, decide_true, decide_false, Bool.and_true, Bool.and_false, Bool.true_and, Bool.false_and, Bool.or_true, Bool.or_false, Bool.true_or, Bool.false_or, not_true_eq_false, not_false_eq_true, Bool.not_true, Bool.not_false, eq_self, Nat.reduceEqDiff]; done) | rfl | (simp only [R_forget, c1, ec_r, c2, if_true, if_false, reduceIte, Bool.false_eq_true, reduceCtorEq, decide_true, decide_false, Bool.and_true, Bool.and_false, Bool.true_and, Bool.false_and, Bool.or_true, Bool.or_false, Bool.true_or, Bool.false_or, not_true_eq_false, not_false_eq_true, Bool.not_true, Bool.not_false, eq_self, Nat.reduceEqDiff]; rfl) | contradiction | (exfalso; omega))) (by (first | (simp only [R_forget, c1, ec_r, c2, if_true, if_false, reduceIte, Bool.false_eq_true, reduceCtorEq, decide_true, decide_false, Bool.and_true, Bool.and_false, Bool.true_and, Bool.false_and, Bool.or_true, Bool.or_false, Bool.true_or, Bool.false_or, not_true_eq_false, not_false_eq_true, Bool.not_true, Bool.not_false, eq_self, Nat.reduceEqDiff]; done) | rfl | (simp only [R_forget, c1, ec_r, c2, if_true, if_false, reduceIte, Bool.false_eq_true, reduceCtorEq, decide_true, decide_false, Bool.and_true, Bool.and_false, Bool.true_and, Bool.false_and, Bool.or_true, Bool.or_false, Bool.true_or, Bool.false_or, not_true_eq_false, not_false_eq_true, Bool.not_true, Bool.not_false, eq_self, Nat.reduceEqDiff]; rfl) | contradiction | (exfalso; omega)))
  · replace c1 := bI_0.mp c1
    refine v_iconst (x := (-1 : Int32)) hX dX6_forget_7 (by decide) ?_
    exact v_iret hX hr hsz dX6_forget_8 rfl rfl (by (first | (simp only [R_forget, c1, if_true, if_false, reduceIte, Bool.false_eq_true, reduceCtorEq, decide_true, decide_false, Bool.and_true, Bool.and_false, Bool.true_and, Bool.false_and, Bool.or_true, Bool.or_false, Bool.true_or, Bool.false_or, not_true_eq_false, not_false_eq_true, Bool.not_true, Bool.not_false, eq_self, Nat.reduceEqDiff]; done) | rfl | (simp only [R_forget, c1, if_true, if_false, reduceIte, Bool.false_eq_true, reduceCtorEq, decide_true, decide_false, Bool.and_true, Bool.and_false, Bool.true_and, Bool.false_and, Bool.or_true, Bool.or_false, Bool.true_or, Bool.false_or, not_true_eq_false, not_false_eq_true, Bool.not_true, Bool.not_false, eq_self, Nat.reduceEqDiff]; rfl) | contradiction | (exfalso; omega))) (by (first | (simp only [R_forget, c1, if_true, if_false, reduceIte, Bool.false_eq_true, reduceCtorEq, decide_true, decide_false, Bool.and_true, Bool.and_false, Bool.true_and, Bool.false_and, Bool.or_true, Bool.or_false, Bool.true_or, Bool.false_or, not_true_eq_false, not_false_eq_true, Bool.not_true, Bool.not_false, eq_self, Nat.reduceEqDiff]; done) | rfl | (simp only [R_forget, c1, if_true, if_false, reduceIte, Bool.false_eq_true, reduceCtorEq, decide_true, decide_false, Bool.and_true, Bool.and_false, Bool.true_and, Bool.false_and, Bool.or_true, Bool.or_false, Bool.true_or, Bool.false_or, not_true_eq_false, not_false_eq_true, Bool.not_true, Bool.not_false, eq_self, Nat.reduceEqDiff]; rfl) | contradiction | (exfalso; omega)))
set_option maxHeartbeats 4000000 in
set_option maxRecDepth 100000 in
theorem c_X6_set (l : Launch) (E : ET) (a : Nat → Nat) (sz : Nat) (v : RV) (w : Int32) (x : Int32) : Met l yX6_set wsX6_set ({ frames := 1, cells := 0, slots := 0, locals := 22 }) (mPc E [.ref (a 0), .int (w), .int (x)] sz (wR E a v)) (mQi E ((R_set v w x).1) (wR E a v) (wR E a ((R_set v w x).2)) sz) 0 0 (va_A (wR E a v) sz) := by
  refine v_start (cc := cX6_set) (maxL := 4) (ret := (some .int)) (by decide) rfl (Nat.le_of_ble_eq_true rfl) rfl ?_
  intro p e s m args below meth c hsz hr hX
  have hX : Xc p s m args meth c E 4 (va_A (wR E a v) sz) cX6_set RX6 wsX6_set := hX
  have in_X6 : ∀ w ∈ u_ws RX6 TX6 18, w ∈ wsX6_set := by decide +kernel
  have fl_7 : Cond.fieldLink RX6 7 RX6 "s" "[I" ∈ wsX6_set := by decide +kernel
  refine v_iload_n hX dX6_set_0 rfl ?_
  refine v_iconst (x := (0 : Int32)) hX dX6_set_1 (by decide) ?_
  refine v_iconst (x := (1 : Int32)) hX dX6_set_2 (by decide) ?_
  refine v_callSi (r := bI (S_within w (0 : Int32) (1 : Int32))) (rest := []) (ws' := wR E a v) hX (fun sz => c_X6_in l E sz w (0 : Int32) (1 : Int32)) (va_cwS 3 hX.2.2.2.2.1 gX6_set_X6_in rfl rfl rfl (by decide +kernel) ⟨Nat.le_of_ble_eq_true rfl, Nat.le_of_ble_eq_true rfl⟩) ([]) (wR E a v) (rfl) rfl (rfl) rfl rfl (Nat.le_of_ble_eq_true rfl) dX6_set_3 ?_
  refine v_if_ne (tgt := 11) hX dX6_set_6 (by decide) (fun c1 => ?_) (fun c1 => ?_)
  · replace c1 := bI_n0.mp c1
    refine v_iload_n hX dX6_set_11 rfl ?_
    refine v_iconst (x := (1 : Int32)) hX dX6_set_12 (by decide) ?_
    refine v_iload_n hX dX6_set_13 rfl ?_
    refine v_if_ne (tgt := 22) hX dX6_set_14 (by decide) (fun c2 => ?_) (fun c2 => ?_)
    · refine v_bipush (x := (24 : Int32)) hX dX6_set_22 (by decide) ?_
      refine v_callSi (r := bI (S_within x (1 : Int32) (24 : Int32))) (rest := []) (ws' := wR E a v) hX (fun sz => c_X6_in l E sz x (1 : Int32) (24 : Int32)) (va_cwS 3 hX.2.2.2.2.1 gX6_set_X6_in rfl rfl rfl (by decide +kernel) ⟨Nat.le_of_ble_eq_true rfl, Nat.le_of_ble_eq_true rfl⟩) ([]) (wR E a v) (rfl) rfl (rfl) rfl rfl (Nat.le_of_ble_eq_true rfl) dX6_set_24 ?_
      refine v_if_ne (tgt := 33) hX dX6_set_27 (by decide) (fun c3 => ?_) (fun c3 => ?_)
      · replace c3 := bI_n0.mp c3
        obtain ⟨j, hle_j, heq_j⟩ := within_nat (B := 1) rfl (by decide) c1
        subst heq_j
        have ec_j : cN (nI j) = j := cN_nI (by omega)
        have hj : j = 1 := by have := (not_congr (nI_eq (a := j) (b := 0) (by omega) (by omega))).mp c2; omega
        subst hj
        refine v_aload_n hX dX6_set_33 rfl ?_
        refine v_get (C := RX6) (T := TX6) (N := 18) (ci := 6) (v := .ref (a 1)) hX in_X6 0 rfl rfl 0 (by decide) fl_7 rfl rfl dX6_set_34 ?_
        refine v_sipush (x := (536 : Int32)) hX dX6_set_37 (by decide) ?_
        refine v_iload_n hX dX6_set_40 rfl ?_
        refine v_iadd (z := nI (536 + 1)) hX dX6_set_41 (nI_add 536 1) ?_
        refine v_iald (z := v.1.2.2.2.1) hX 1 rfl (vp_in_nI (by omega : 536 + 1 < 544) (by omega)) (by simp only [nI_clamp (show 536 + 1 < 2 ^ 31 by omega)]; exact gS_full v.1 (by omega)) dX6_set_42 ?_
        refine v_istore_n (lv' := [.ref (a 0), .int (nI (1)), .int (x), .int (v.1.2.2.2.1)]) hX dX6_set_43 (Nat.le_of_ble_eq_true rfl) (Nat.le_of_ble_eq_true rfl) rfl rfl ?_
        refine v_iload_n hX dX6_set_44 rfl ?_
        refine v_iload_n hX dX6_set_45 rfl ?_
        refine v_icmp_ne (tgt := 52) hX dX6_set_46 (by decide) (fun c4 => ?_) (fun c4 => ?_)
        · refine v_aload_n hX dX6_set_52 rfl ?_
          obtain ⟨v5, hv5⟩ : ∃ z_ : RV, z_ = R_rec v := ⟨_, rfl⟩
          refine v_callVv (rest := []) (ws' := wR E a v5) hX (fun sz => c_X6_record l E a sz v ) (cwV 0 hX.2.2.2.2.1 gX6_set_X6_record rfl rfl rfl (by decide +kernel) ⟨Nat.le_of_ble_eq_true rfl, Nat.le_of_ble_eq_true rfl⟩) ([]) ([]) ((List.append_nil _).symm) (by rw [hv5]; exact List.append_nil _) (wR_fst E a _ _) (ci := 6) (q0 := 0) rfl rfl rfl rfl rfl (Nat.le_of_ble_eq_true rfl) dX6_set_53 ?_
          refine v_aload_n hX dX6_set_56 rfl ?_
          refine v_get (C := RX6) (T := TX6) (N := 18) (ci := 6) (v := .ref (a 1)) hX in_X6 0 rfl rfl 0 (by decide) fl_7 rfl rfl dX6_set_57 ?_
          refine v_sipush (x := (536 : Int32)) hX dX6_set_60 (by decide) ?_
          refine v_iload_n hX dX6_set_63 rfl ?_
          refine v_iadd (z := nI (536 + 1)) hX dX6_set_64 (nI_add 536 1) ?_
          refine v_iload_n hX dX6_set_65 rfl ?_
          obtain ⟨m6, hm6⟩ : ∃ z_ : MV, z_ = M_setFull v5.1 (x) := ⟨_, rfl⟩
          refine v_iast (ws' := wR E a (R_setS v5 m6)) hX 1 rfl (vp_in_nI (by omega : 536 + 1 < 544) (by omega)) (by rw [hm6]; exact sR_s E a v5 (k := 536 + 1) (by omega) (pS_full v5.1 _ (by omega))) dX6_set_66 ?_
          refine v_iload_n hX dX6_set_67 rfl ?_
          exact v_iret hX hr hsz dX6_set_68 rfl rfl (by (subst hm6; subst hv5; first | (simp only [R_set, c1, c2, c3, ec_j, c4, if_true, if_false, reduceIte, Bool.false_eq_true, reduceCtorEq, decide_true, decide_false, Bool.and_true, Bool.and_false, Bool.true_and, Bool.false_and, Bool.or_true, Bool.or_false, Bool.true_or, Bool.false_or, not_true_eq_false, not_false_eq_true, Bool.not_true, Bool.not_false, eq_self, Nat.reduceEqDiff]; done) | rfl | (simp only [R_set, c1, c2, c3, ec_j, c4, if_true, if_false, reduceIte, Bool.false_eq_true, reduceCtorEq, decide_true, decide_false, Bool.and_true, Bool.and_false, Bool.true_and, Bool.false_and, Bool.or_true, Bool.or_false, Bool.true_or, Bool.false_or, not_true_eq_false, not_false_eq_true, Bool.not_true, Bool.not_false, eq_self, Nat.reduceEqDiff]; rfl) | contradiction | (exfalso; omega))) (by (subst hm6; subst hv5; first | (simp only [R_set, c1, c2, c3, ec_j, c4, if_true, if_false, reduceIte, Bool.false_eq_true, reduceCtorEq, decide_true, decide_false, Bool.and_true, Bool.and_false, Bool.true_and, Bool.false_and, Bool.or_true, Bool.or_false, Bool.true_or, Bool.false_or, not_true_eq_false, not_false_eq_true, Bool.not_true, Bool.not_false, eq_self, Nat.reduceEqDiff]; done) | rfl | (simp only [R_set, c1, c2, c3, ec_j, c4, if_true, if_false, reduceIte, Bool.false_eq_true, reduceCtorEq, decide_true, decide_false, Bool.and_true, Bool.and_false, Bool.true_and, Bool.false_and, Bool.or_true, Bool.or_false, Bool.true_or, Bool.false_or, not_true_eq_false, not_false_eq_true, Bool.not_true, Bool.not_false, eq_self, Nat.reduceEqDiff]; rfl) | contradiction | (exfalso; omega)))
        · have c4t := eq_true c4
          refine v_bipush (x := (-5 : Int32)) hX dX6_set_49 (by decide) ?_
          exact v_iret hX hr hsz dX6_set_51 rfl rfl (by (first | (simp only [R_set, c1, c2, c3, ec_j, c4t, if_true, if_false, reduceIte, Bool.false_eq_true, reduceCtorEq, decide_true, decide_false, Bool.and_true, Bool.and_false, Bool.true_and, Bool.false_and, Bool.or_true, Bool.or_false, Bool.true_or, Bool.false_or, not_true_eq_false, not_false_eq_true, Bool.not_true, Bool.not_false, eq_self, Nat.reduceEqDiff]; done) | rfl | (simp only [R_set, c1, c2, c3, ec_j, c4t, if_true, if_false, reduceIte, Bool.false_eq_true, reduceCtorEq, decide_true, decide_false, Bool.and_true, Bool.and_false, Bool.true_and, Bool.false_and, Bool.or_true, Bool.or_false, Bool.true_or, Bool.false_or, not_true_eq_false, not_false_eq_true, Bool.not_true, Bool.not_false, eq_self, Nat.reduceEqDiff]; rfl) | contradiction | (exfalso; omega))) (by (first | (simp only [R_set, c1, c2, c3, ec_j, c4t, if_true, if_false, reduceIte, Bool.false_eq_true, reduceCtorEq, decide_true, decide_false, Bool.and_true, Bool.and_false, Bool.true_and, Bool.false_and, Bool.or_true, Bool.or_false, Bool.true_or, Bool.false_or, not_true_eq_false, not_false_eq_true, Bool.not_true, Bool.not_false, eq_self, Nat.reduceEqDiff]; done) | rfl | (simp only [R_set, c1, c2, c3, ec_j, c4t, if_true, if_false, reduceIte, Bool.false_eq_true, reduceCtorEq, decide_true, decide_false, Bool.and_true, Bool.and_false, Bool.true_and, Bool.false_and, Bool.or_true, Bool.or_false, Bool.true_or, Bool.false_or, not_true_eq_false, not_false_eq_true, Bool.not_true, Bool.not_false, eq_self, Nat.reduceEqDiff]; rfl) | contradiction | (exfalso; omega)))
      · replace c3 := bI_0.mp c3
        refine v_bipush (x := (-2 : Int32)) hX dX6_set_30 (by decide) ?_
        exact v_iret hX hr hsz dX6_set_32 rfl rfl (by (first | (simp only [R_set, c1, c2, c3, if_true, if_false, reduceIte, Bool.false_eq_true, reduceCtorEq, decide_true, decide_false, Bool.and_true, Bool.and_false, Bool.true_and, Bool.false_and, Bool.or_true, Bool.or_false, Bool.true_or, Bool.false_or, not_true_eq_false, not_false_eq_true, Bool.not_true, Bool.not_false, eq_self, Nat.reduceEqDiff]; done) | rfl | (simp only [R_set, c1, c2, c3, if_true, if_false, reduceIte, Bool.false_eq_true, reduceCtorEq, decide_true, decide_false, Bool.and_true, Bool.and_false, Bool.true_and, Bool.false_and, Bool.or_true, Bool.or_false, Bool.true_or, Bool.false_or, not_true_eq_false, not_false_eq_true, Bool.not_true, Bool.not_false, eq_self, Nat.reduceEqDiff]; rfl) | contradiction | (exfalso; omega))) (by (first | (simp only [R_set, c1, c2, c3, if_true, if_false, reduceIte, Bool.false_eq_true, reduceCtorEq, decide_true, decide_false, Bool.and_true, Bool.and_false, Bool.true_and, Bool.false_and, Bool.or_true, Bool.or_false, Bool.true_or, Bool.false_or, not_true_eq_false, not_false_eq_true, Bool.not_true, Bool.not_false, eq_self, Nat.reduceEqDiff]; done) | rfl | (simp only [R_set, c1, c2, c3, if_true, if_false, reduceIte, Bool.false_eq_true, reduceCtorEq, decide_true, decide_false, Bool.and_true, Bool.and_false, Bool.true_and, Bool.false_and, Bool.or_true, Bool.or_false, Bool.true_or, Bool.false_or, not_true_eq_false, not_false_eq_true, Bool.not_true, Bool.not_false, eq_self, Nat.reduceEqDiff]; rfl) | contradiction | (exfalso; omega)))
    · have c2t := eq_true c2
      refine v_bipush (x := (9 : Int32)) hX dX6_set_17 (by decide) ?_
      refine v_goto (tgt := 24) hX dX6_set_19 (by decide) ?_
      refine v_callSi (r := bI (S_within x (1 : Int32) (9 : Int32))) (rest := []) (ws' := wR E a v) hX (fun sz => c_X6_in l E sz x (1 : Int32) (9 : Int32)) (va_cwS 3 hX.2.2.2.2.1 gX6_set_X6_in rfl rfl rfl (by decide +kernel) ⟨Nat.le_of_ble_eq_true rfl, Nat.le_of_ble_eq_true rfl⟩) ([]) (wR E a v) (rfl) rfl (rfl) rfl rfl (Nat.le_of_ble_eq_true rfl) dX6_set_24 ?_
      refine v_if_ne (tgt := 33) hX dX6_set_27 (by decide) (fun c7 => ?_) (fun c7 => ?_)
      · replace c7 := bI_n0.mp c7
        obtain ⟨j, hle_j, heq_j⟩ := within_nat (B := 1) rfl (by decide) c1
        subst heq_j
        have ec_j : cN (nI j) = j := cN_nI (by omega)
        have hj : j = 0 := (nI_eq (a := j) (b := 0) (by omega) (by omega)).mp c2
        subst hj
        refine v_aload_n hX dX6_set_33 rfl ?_
        refine v_get (C := RX6) (T := TX6) (N := 18) (ci := 6) (v := .ref (a 1)) hX in_X6 0 rfl rfl 0 (by decide) fl_7 rfl rfl dX6_set_34 ?_
        refine v_sipush (x := (536 : Int32)) hX dX6_set_37 (by decide) ?_
        refine v_iload_n hX dX6_set_40 rfl ?_
        refine v_iadd (z := nI (536 + 0)) hX dX6_set_41 (nI_add 536 0) ?_
        refine v_iald (z := v.1.2.2.1) hX 1 rfl (vp_in_nI (by omega : 536 + 0 < 544) (by omega)) (by simp only [nI_clamp (show 536 + 0 < 2 ^ 31 by omega)]; exact gS_lim v.1 (by omega)) dX6_set_42 ?_
        refine v_istore_n (lv' := [.ref (a 0), .int (nI (0)), .int (x), .int (v.1.2.2.1)]) hX dX6_set_43 (Nat.le_of_ble_eq_true rfl) (Nat.le_of_ble_eq_true rfl) rfl rfl ?_
        refine v_iload_n hX dX6_set_44 rfl ?_
        refine v_iload_n hX dX6_set_45 rfl ?_
        refine v_icmp_ne (tgt := 52) hX dX6_set_46 (by decide) (fun c8 => ?_) (fun c8 => ?_)
        · refine v_aload_n hX dX6_set_52 rfl ?_
          obtain ⟨v9, hv9⟩ : ∃ z_ : RV, z_ = R_rec v := ⟨_, rfl⟩
          refine v_callVv (rest := []) (ws' := wR E a v9) hX (fun sz => c_X6_record l E a sz v ) (cwV 0 hX.2.2.2.2.1 gX6_set_X6_record rfl rfl rfl (by decide +kernel) ⟨Nat.le_of_ble_eq_true rfl, Nat.le_of_ble_eq_true rfl⟩) ([]) ([]) ((List.append_nil _).symm) (by rw [hv9]; exact List.append_nil _) (wR_fst E a _ _) (ci := 6) (q0 := 0) rfl rfl rfl rfl rfl (Nat.le_of_ble_eq_true rfl) dX6_set_53 ?_
          refine v_aload_n hX dX6_set_56 rfl ?_
          refine v_get (C := RX6) (T := TX6) (N := 18) (ci := 6) (v := .ref (a 1)) hX in_X6 0 rfl rfl 0 (by decide) fl_7 rfl rfl dX6_set_57 ?_
          refine v_sipush (x := (536 : Int32)) hX dX6_set_60 (by decide) ?_
          refine v_iload_n hX dX6_set_63 rfl ?_
          refine v_iadd (z := nI (536 + 0)) hX dX6_set_64 (nI_add 536 0) ?_
          refine v_iload_n hX dX6_set_65 rfl ?_
          obtain ⟨m10, hm10⟩ : ∃ z_ : MV, z_ = M_setLim v9.1 (x) := ⟨_, rfl⟩
          refine v_iast (ws' := wR E a (R_setS v9 m10)) hX 1 rfl (vp_in_nI (by omega : 536 + 0 < 544) (by omega)) (by rw [hm10]; exact sR_s E a v9 (k := 536 + 0) (by omega) (pS_lim v9.1 _ (by omega))) dX6_set_66 ?_
          refine v_iload_n hX dX6_set_67 rfl ?_
          exact v_iret hX hr hsz dX6_set_68 rfl rfl (by (subst hm10; subst hv9; first | (simp only [R_set, c1, c2t, c7, ec_j, c8, if_true, if_false, reduceIte, Bool.false_eq_true, reduceCtorEq, decide_true, decide_false, Bool.and_true, Bool.and_false, Bool.true_and, Bool.false_and, Bool.or_true, Bool.or_false, Bool.true_or, Bool.false_or, not_true_eq_false, not_false_eq_true, Bool.not_true, Bool.not_false, eq_self, Nat.reduceEqDiff]; done) | rfl | (simp only [R_set, c1, c2t, c7, ec_j, c8, if_true, if_false, reduceIte, Bool.false_eq_true, reduceCtorEq, decide_true, decide_false, Bool.and_true, Bool.and_false, Bool.true_and, Bool.false_and, Bool.or_true, Bool.or_false, Bool.true_or, Bool.false_or, not_true_eq_false, not_false_eq_true, Bool.not_true, Bool.not_false, eq_self, Nat.reduceEqDiff]; rfl) | contradiction | (exfalso; omega))) (by (subst hm10; subst hv9; first | (simp only [R_set, c1, c2t, c7, ec_j, c8, if_true, if_false, reduceIte, Bool.false_eq_true, reduceCtorEq, decide_true, decide_false, Bool.and_true, Bool.and_false, Bool.true_and, Bool.false_and, Bool.or_true, Bool.or_false, Bool.true_or, Bool.false_or, not_true_eq_false, not_false_eq_true, Bool.not_true, Bool.not_false, eq_self, Nat.reduceEqDiff]; done) | rfl | (simp only [R_set, c1, c2t, c7, ec_j, c8, if_true, if_false, reduceIte, Bool.false_eq_true, reduceCtorEq, decide_true, decide_false, Bool.and_true, Bool.and_false, Bool.true_and, Bool.false_and, Bool.or_true, Bool.or_false, Bool.true_or, Bool.false_or, not_true_eq_false, not_false_eq_true, Bool.not_true, Bool.not_false, eq_self, Nat.reduceEqDiff]; rfl) | contradiction | (exfalso; omega)))
        · have c8t := eq_true c8
          refine v_bipush (x := (-5 : Int32)) hX dX6_set_49 (by decide) ?_
          exact v_iret hX hr hsz dX6_set_51 rfl rfl (by (first | (simp only [R_set, c1, c2t, c7, ec_j, c8t, if_true, if_false, reduceIte, Bool.false_eq_true, reduceCtorEq, decide_true, decide_false, Bool.and_true, Bool.and_false, Bool.true_and, Bool.false_and, Bool.or_true, Bool.or_false, Bool.true_or, Bool.false_or, not_true_eq_false, not_false_eq_true, Bool.not_true, Bool.not_false, eq_self, Nat.reduceEqDiff]; done) | rfl | (simp only [R_set, c1, c2t, c7, ec_j, c8t, if_true, if_false, reduceIte, Bool.false_eq_true, reduceCtorEq, decide_true, decide_false, Bool.and_true, Bool.and_false, Bool.true_and, Bool.false_and, Bool.or_true, Bool.or_false, Bool.true_or, Bool.false_or, not_true_eq_false, not_false_eq_true, Bool.not_true, Bool.not_false, eq_self, Nat.reduceEqDiff]; rfl) | contradiction | (exfalso; omega))) (by (first | (simp only [R_set, c1, c2t, c7, ec_j, c8t, if_true, if_false, reduceIte, Bool.false_eq_true, reduceCtorEq, decide_true, decide_false, Bool.and_true, Bool.and_false, Bool.true_and, Bool.false_and, Bool.or_true, Bool.or_false, Bool.true_or, Bool.false_or, not_true_eq_false, not_false_eq_true, Bool.not_true, Bool.not_false, eq_self, Nat.reduceEqDiff]; done) | rfl | (simp only [R_set, c1, c2t, c7, ec_j, c8t, if_true, if_false, reduceIte, Bool.false_eq_true, reduceCtorEq, decide_true, decide_false, Bool.and_true, Bool.and_false, Bool.true_and, Bool.false_and, Bool.or_true, Bool.or_false, Bool.true_or, Bool.false_or, not_true_eq_false, not_false_eq_true, Bool.not_true, Bool.not_false, eq_self, Nat.reduceEqDiff]; rfl) | contradiction | (exfalso; omega)))
      · replace c7 := bI_0.mp c7
        refine v_bipush (x := (-2 : Int32)) hX dX6_set_30 (by decide) ?_
        exact v_iret hX hr hsz dX6_set_32 rfl rfl (by (first | (simp only [R_set, c1, c2t, c7, if_true, if_false, reduceIte, Bool.false_eq_true, reduceCtorEq, decide_true, decide_false, Bool.and_true, Bool.and_false, Bool.true_and, Bool.false_and, Bool.or_true, Bool.or_false, Bool.true_or, Bool.false_or, not_true_eq_false, not_false_eq_true, Bool.not_true, Bool.not_false, eq_self, Nat.reduceEqDiff]; done) | rfl | (simp only [R_set, c1, c2t, c7, if_true, if_false, reduceIte, Bool.false_eq_true, reduceCtorEq, decide_true, decide_false, Bool.and_true, Bool.and_false, Bool.true_and, Bool.false_and, Bool.or_true, Bool.or_false, Bool.true_or, Bool.false_or, not_true_eq_false, not_false_eq_true, Bool.not_true, Bool.not_false, eq_self, Nat.reduceEqDiff]; rfl) | contradiction | (exfalso; omega))) (by (first | (simp only [R_set, c1, c2t, c7, if_true, if_false, reduceIte, Bool.false_eq_true, reduceCtorEq, decide_true, decide_false, Bool.and_true, Bool.and_false, Bool.true_and, Bool.false_and, Bool.or_true, Bool.or_false, Bool.true_or, Bool.false_or, not_true_eq_false, not_false_eq_true, Bool.not_true, Bool.not_false, eq_self, Nat.reduceEqDiff]; done) | rfl | (simp only [R_set, c1, c2t, c7, if_true, if_false, reduceIte, Bool.false_eq_true, reduceCtorEq, decide_true, decide_false, Bool.and_true, Bool.and_false, Bool.true_and, Bool.false_and, Bool.or_true, Bool.or_false, Bool.true_or, Bool.false_or, not_true_eq_false, not_false_eq_true, Bool.not_true, Bool.not_false, eq_self, Nat.reduceEqDiff]; rfl) | contradiction | (exfalso; omega)))
  · replace c1 := bI_0.mp c1
    refine v_iconst (x := (-1 : Int32)) hX dX6_set_9 (by decide) ?_
    exact v_iret hX hr hsz dX6_set_10 rfl rfl (by (first | (simp only [R_set, c1, if_true, if_false, reduceIte, Bool.false_eq_true, reduceCtorEq, decide_true, decide_false, Bool.and_true, Bool.and_false, Bool.true_and, Bool.false_and, Bool.or_true, Bool.or_false, Bool.true_or, Bool.false_or, not_true_eq_false, not_false_eq_true, Bool.not_true, Bool.not_false, eq_self, Nat.reduceEqDiff]; done) | rfl | (simp only [R_set, c1, if_true, if_false, reduceIte, Bool.false_eq_true, reduceCtorEq, decide_true, decide_false, Bool.and_true, Bool.and_false, Bool.true_and, Bool.false_and, Bool.or_true, Bool.or_false, Bool.true_or, Bool.false_or, not_true_eq_false, not_false_eq_true, Bool.not_true, Bool.not_false, eq_self, Nat.reduceEqDiff]; rfl) | contradiction | (exfalso; omega))) (by (first | (simp only [R_set, c1, if_true, if_false, reduceIte, Bool.false_eq_true, reduceCtorEq, decide_true, decide_false, Bool.and_true, Bool.and_false, Bool.true_and, Bool.false_and, Bool.or_true, Bool.or_false, Bool.true_or, Bool.false_or, not_true_eq_false, not_false_eq_true, Bool.not_true, Bool.not_false, eq_self, Nat.reduceEqDiff]; done) | rfl | (simp only [R_set, c1, if_true, if_false, reduceIte, Bool.false_eq_true, reduceCtorEq, decide_true, decide_false, Bool.and_true, Bool.and_false, Bool.true_and, Bool.false_and, Bool.or_true, Bool.or_false, Bool.true_or, Bool.false_or, not_true_eq_false, not_false_eq_true, Bool.not_true, Bool.not_false, eq_self, Nat.reduceEqDiff]; rfl) | contradiction | (exfalso; omega)))
set_option maxHeartbeats 4000000 in
set_option maxRecDepth 100000 in
theorem c_X6_cost (l : Launch) (E : ET) (a : Nat → Nat) (sz : Nat) (v : RV) (co : Int32) (li : Int32) (bw : Bool) (w : Int32) : Met l yX6_cost wsX6_cost ({ frames := 7, cells := 0, slots := 0, locals := 169 }) (mPc E [.ref (a 0), .int (co), .int (li), .int (bI (bw)), .int (w)] sz (wR E a v)) (mQi E ((R_cost v co li bw w).1) (wR E a v) (wR E a ((R_cost v co li bw w).2)) sz) 0 0 (va_A (wR E a v) sz) := by
  refine v_start (cc := cX6_cost) (maxL := 8) (ret := (some .int)) (by decide) rfl (Nat.le_of_ble_eq_true rfl) rfl ?_
  intro p e s m args below meth c hsz hr hX
  have hX : Xc p s m args meth c E 8 (va_A (wR E a v) sz) cX6_cost RX6 wsX6_cost := hX
  have in_X6 : ∀ w ∈ u_ws RX6 TX6 18, w ∈ wsX6_cost := by decide +kernel
  have fl_7 : Cond.fieldLink RX6 7 RX6 "s" "[I" ∈ wsX6_cost := by decide +kernel
  refine v_iload_n hX dX6_cost_0 rfl ?_
  refine v_callSi (r := bI (S_within co (0 : Int32) (3 : Int32))) (rest := []) (ws' := wR E a v) hX (fun sz => c_X6_isCore l E sz co) (va_cwS 1 hX.2.2.2.2.1 gX6_cost_X6_isCore rfl rfl rfl (by decide +kernel) ⟨Nat.le_of_ble_eq_true rfl, Nat.le_of_ble_eq_true rfl⟩) ([]) (wR E a v) (rfl) rfl (rfl) rfl rfl (Nat.le_of_ble_eq_true rfl) dX6_cost_1 ?_
  refine v_if_eq (tgt := 14) hX dX6_cost_4 (by decide) (fun c1 => ?_) (fun c1 => ?_)
  · replace c1 := bI_0.mp c1
    refine v_iconst (x := (-1 : Int32)) hX dX6_cost_14 (by decide) ?_
    exact v_iret hX hr hsz dX6_cost_15 rfl rfl (by (first | (simp only [R_cost, R_tr, R_back, R_had, c1, if_true, if_false, reduceIte, Bool.false_eq_true, reduceCtorEq, decide_true, decide_false, Bool.and_true, Bool.and_false, Bool.true_and, Bool.false_and, Bool.or_true, Bool.or_false, Bool.true_or, Bool.false_or, not_true_eq_false, not_false_eq_true, Bool.not_true, Bool.not_false, eq_self, Nat.reduceEqDiff]; done) | rfl | (simp only [R_cost, R_tr, R_back, R_had, c1, if_true, if_false, reduceIte, Bool.false_eq_true, reduceCtorEq, decide_true, decide_false, Bool.and_true, Bool.and_false, Bool.true_and, Bool.false_and, Bool.or_true, Bool.or_false, Bool.true_or, Bool.false_or, not_true_eq_false, not_false_eq_true, Bool.not_true, Bool.not_false, eq_self, Nat.reduceEqDiff]; rfl) | contradiction | (exfalso; omega))) (by (first | (simp only [R_cost, R_tr, R_back, R_had, c1, if_true, if_false, reduceIte, Bool.false_eq_true, reduceCtorEq, decide_true, decide_false, Bool.and_true, Bool.and_false, Bool.true_and, Bool.false_and, Bool.or_true, Bool.or_false, Bool.true_or, Bool.false_or, not_true_eq_false, not_false_eq_true, Bool.not_true, Bool.not_false, eq_self, Nat.reduceEqDiff]; done) | rfl | (simp only [R_cost, R_tr, R_back, R_had, c1, if_true, if_false, reduceIte, Bool.false_eq_true, reduceCtorEq, decide_true, decide_false, Bool.and_true, Bool.and_false, Bool.true_and, Bool.false_and, Bool.or_true, Bool.or_false, Bool.true_or, Bool.false_or, not_true_eq_false, not_false_eq_true, Bool.not_true, Bool.not_false, eq_self, Nat.reduceEqDiff]; rfl) | contradiction | (exfalso; omega)))
  · replace c1 := bI_n0.mp c1
    refine v_iload_n hX dX6_cost_7 rfl ?_
    refine v_callSi (r := bI (S_within li (0 : Int32) (255 : Int32))) (rest := []) (ws' := wR E a v) hX (fun sz => c_X6_isLine l E sz li) (va_cwS 1 hX.2.2.2.2.1 gX6_cost_X6_isLine rfl rfl rfl (by decide +kernel) ⟨Nat.le_of_ble_eq_true rfl, Nat.le_of_ble_eq_true rfl⟩) ([]) (wR E a v) (rfl) rfl (rfl) rfl rfl (Nat.le_of_ble_eq_true rfl) dX6_cost_8 ?_
    refine v_if_ne (tgt := 16) hX dX6_cost_11 (by decide) (fun c2 => ?_) (fun c2 => ?_)
    · replace c2 := bI_n0.mp c2
      refine v_iload hX dX6_cost_16 rfl ?_
      refine v_iconst (x := (0 : Int32)) hX dX6_cost_18 (by decide) ?_
      refine v_iconst (x := (3 : Int32)) hX dX6_cost_19 (by decide) ?_
      refine v_callSi (r := bI (S_within w (0 : Int32) (3 : Int32))) (rest := []) (ws' := wR E a v) hX (fun sz => c_X6_in l E sz w (0 : Int32) (3 : Int32)) (va_cwS 3 hX.2.2.2.2.1 gX6_cost_X6_in rfl rfl rfl (by decide +kernel) ⟨Nat.le_of_ble_eq_true rfl, Nat.le_of_ble_eq_true rfl⟩) ([]) (wR E a v) (rfl) rfl (rfl) rfl rfl (Nat.le_of_ble_eq_true rfl) dX6_cost_20 ?_
      refine v_if_ne (tgt := 29) hX dX6_cost_23 (by decide) (fun c3 => ?_) (fun c3 => ?_)
      · replace c3 := bI_n0.mp c3
        obtain ⟨r, hle_r, heq_r⟩ := within_nat (B := 3) rfl (by decide) c1
        subst heq_r
        have ec_r : cN (nI r) = r := cN_nI (by omega)
        obtain ⟨n, heq_n⟩ := within_fin c2
        subst heq_n
        have hlt_n := n.isLt
        have el_n := lF_nI n
        obtain ⟨j, hle_j, heq_j⟩ := within_nat (B := 3) rfl (by decide) c3
        subst heq_j
        have ec_j : cN (nI j) = j := cN_nI (by omega)
        refine v_aload_n hX dX6_cost_29 rfl ?_
        obtain ⟨v4, hv4⟩ : ∃ z_ : RV, z_ = R_setA v v.1 := ⟨_, rfl⟩
        refine v_callVv (rest := []) (ws' := wR E a v4) hX (fun sz => c_X6_putAside l E a sz v ) (cwV 0 hX.2.2.2.2.1 gX6_cost_X6_putAside rfl rfl rfl (by decide +kernel) ⟨Nat.le_of_ble_eq_true rfl, Nat.le_of_ble_eq_true rfl⟩) ([]) ([]) ((List.append_nil _).symm) (by rw [hv4]; exact List.append_nil _) (wR_fst E a _ _) (ci := 6) (q0 := 0) rfl rfl rfl rfl rfl (Nat.le_of_ble_eq_true rfl) dX6_cost_30 ?_
        refine v_iload hX dX6_cost_33 rfl ?_
        refine v_iconst (x := (2 : Int32)) hX dX6_cost_35 (by decide) ?_
        refine v_icmp_ne (tgt := 50) hX dX6_cost_36 (by decide) (fun c5 => ?_) (fun c5 => ?_)
        · replace c5 := (not_congr (nI_eq (a := j) (b := 2) (by omega) (by omega))).mp c5
          refine v_aload_n hX dX6_cost_50 rfl ?_
          refine v_iload hX dX6_cost_51 rfl ?_
          refine v_iconst (x := (3 : Int32)) hX dX6_cost_53 (by decide) ?_
          refine v_icmp_ne (tgt := 61) hX dX6_cost_54 (by decide) (fun c6 => ?_) (fun c6 => ?_)
          · replace c6 := (not_congr (nI_eq (a := j) (b := 3) (by omega) (by omega))).mp c6
            refine v_iconst (x := (2 : Int32)) hX dX6_cost_61 (by decide) ?_
            refine v_iload hX dX6_cost_62 rfl ?_
            refine v_iadd (z := nI (2 + j)) hX dX6_cost_64 (nI_add 2 j) ?_
            refine v_callVi (r := Q_sum v4.1 (2 + j)) (rest := []) (ws' := wR E a v4) hX (fun sz => c_X6_sumOf l E a sz v4 (2 + j) (by first | omega | exact Nat.le_of_ble_eq_true rfl)) (cwV 1 hX.2.2.2.2.1 gX6_cost_X6_sumOf rfl rfl rfl (by decide +kernel) ⟨Nat.le_of_ble_eq_true rfl, Nat.le_of_ble_eq_true rfl⟩) ([]) ([]) ((List.append_nil _).symm) ((List.append_nil _).symm).symm (wR_fst E a _ _) (ci := 6) (q0 := 0) rfl rfl rfl rfl rfl (Nat.le_of_ble_eq_true rfl) dX6_cost_65 ?_
            refine v_istore (lv' := [.ref (a 0), .int (nI (r)), .int (nI (n).val), .int (bI (bw)), .int (nI (j)), .int (Q_sum v4.1 (2 + j))]) hX dX6_cost_68 (Nat.le_of_ble_eq_true rfl) (Nat.le_of_ble_eq_true rfl) rfl rfl ?_
            refine v_iload_n hX dX6_cost_70 rfl ?_
            refine v_if_eq (tgt := 84) hX dX6_cost_71 (by decide) (fun c7 => ?_) (fun c7 => ?_)
            · replace c7 := bI_0.mp c7
              refine v_aload_n hX dX6_cost_84 rfl ?_
              refine v_iload_n hX dX6_cost_85 rfl ?_
              refine v_iload_n hX dX6_cost_86 rfl ?_
              obtain ⟨m8, hm8⟩ : ∃ z_ : MV, z_ = ((Q_reads v4.1 r n).1) := ⟨_, rfl⟩
              refine v_callVi (r := (Q_reads v4.1 r n).2) (rest := []) (ws' := wR E a (R_setS v4 m8)) hX (fun sz => c_X6_reads l E a sz v4 r (by first | omega | exact Nat.le_of_ble_eq_true rfl) n) (cwV 2 hX.2.2.2.2.1 gX6_cost_X6_reads rfl rfl rfl (by decide +kernel) ⟨Nat.le_of_ble_eq_true rfl, Nat.le_of_ble_eq_true rfl⟩) ([]) ([]) ((List.append_nil _).symm) (by rw [hm8]; exact List.append_nil _) (wR_fst E a _ _) (ci := 6) (q0 := 0) rfl rfl rfl rfl rfl (Nat.le_of_ble_eq_true rfl) dX6_cost_87 ?_
              refine v_istore (lv' := [.ref (a 0), .int (nI (r)), .int (nI (n).val), .int (bI (bw)), .int (nI (j)), .int (Q_sum v4.1 (2 + j)), .int ((Q_reads v4.1 r n).2)]) hX dX6_cost_90 (Nat.le_of_ble_eq_true rfl) (Nat.le_of_ble_eq_true rfl) rfl rfl ?_
              refine v_iload hX dX6_cost_92 rfl ?_
              refine v_iconst (x := (2 : Int32)) hX dX6_cost_94 (by decide) ?_
              refine v_icmp_ne (tgt := 109) hX dX6_cost_95 (by decide) (fun c9 => ?_) (fun c9 => ?_)
              · replace c9 := (not_congr (nI_eq (a := j) (b := 2) (by omega) (by omega))).mp c9
                refine v_aload_n hX dX6_cost_109 rfl ?_
                refine v_iload hX dX6_cost_110 rfl ?_
                refine v_iconst (x := (3 : Int32)) hX dX6_cost_112 (by decide) ?_
                refine v_icmp_ne (tgt := 120) hX dX6_cost_113 (by decide) (fun c10 => ?_) (fun c10 => ?_)
                · replace c10 := (not_congr (nI_eq (a := j) (b := 3) (by omega) (by omega))).mp c10
                  refine v_iconst (x := (2 : Int32)) hX dX6_cost_120 (by decide) ?_
                  refine v_iload hX dX6_cost_121 rfl ?_
                  refine v_iadd (z := nI (2 + j)) hX dX6_cost_123 (nI_add 2 j) ?_
                  refine v_callVi (r := Q_sum m8 (2 + j)) (rest := []) (ws' := wR E a (R_setS v4 m8)) hX (fun sz => c_X6_sumOf l E a sz (R_setS v4 m8) (2 + j) (by first | omega | exact Nat.le_of_ble_eq_true rfl)) (cwV 1 hX.2.2.2.2.1 gX6_cost_X6_sumOf rfl rfl rfl (by decide +kernel) ⟨Nat.le_of_ble_eq_true rfl, Nat.le_of_ble_eq_true rfl⟩) ([]) ([]) ((List.append_nil _).symm) ((List.append_nil _).symm).symm (wR_fst E a _ _) (ci := 6) (q0 := 0) rfl rfl rfl rfl rfl (Nat.le_of_ble_eq_true rfl) dX6_cost_124 ?_
                  refine v_istore (lv' := [.ref (a 0), .int (nI (r)), .int (nI (n).val), .int (bI (bw)), .int (nI (j)), .int (Q_sum v4.1 (2 + j)), .int ((Q_reads v4.1 r n).2), .int (Q_sum m8 (2 + j))]) hX dX6_cost_127 (Nat.le_of_ble_eq_true rfl) (Nat.le_of_ble_eq_true rfl) rfl rfl ?_
                  refine v_aload_n hX dX6_cost_129 rfl ?_
                  obtain ⟨m11, hm11⟩ : ∃ z_ : MV, z_ = (R_setS v4 m8).2.1 := ⟨_, rfl⟩
                  refine v_callVv (rest := []) (ws' := wR E a (R_setS v4 m11)) hX (fun sz => c_X6_putBack l E a sz (R_setS v4 m8) ) (cwV 0 hX.2.2.2.2.1 gX6_cost_X6_putBack rfl rfl rfl (by decide +kernel) ⟨Nat.le_of_ble_eq_true rfl, Nat.le_of_ble_eq_true rfl⟩) ([]) ([]) ((List.append_nil _).symm) (by rw [hm11]; exact List.append_nil _) (wR_fst E a _ _) (ci := 6) (q0 := 0) rfl rfl rfl rfl rfl (Nat.le_of_ble_eq_true rfl) dX6_cost_130 ?_
                  refine v_iload hX dX6_cost_133 rfl ?_
                  refine v_iload hX dX6_cost_135 rfl ?_
                  refine v_isub (z := (Q_sum m8 (2 + j) - Q_sum v4.1 (2 + j))) hX dX6_cost_137 (rfl) ?_
                  exact v_iret hX hr hsz dX6_cost_138 rfl rfl (by (subst hm11; subst hm8; subst hv4; first | (simp only [R_cost, R_tr, R_back, R_had, c1, c2, c3, ec_r, el_n, ec_j, c5, c6, c7, c9, c10, if_true, if_false, reduceIte, Bool.false_eq_true, reduceCtorEq, decide_true, decide_false, Bool.and_true, Bool.and_false, Bool.true_and, Bool.false_and, Bool.or_true, Bool.or_false, Bool.true_or, Bool.false_or, not_true_eq_false, not_false_eq_true, Bool.not_true, Bool.not_false, eq_self, Nat.reduceEqDiff]; done) | rfl | (simp only [R_cost, R_tr, R_back, R_had, c1, c2, c3, ec_r, el_n, ec_j, c5, c6, c7, c9, c10, if_true, if_false, reduceIte, Bool.false_eq_true, reduceCtorEq, decide_true, decide_false, Bool.and_true, Bool.and_false, Bool.true_and, Bool.false_and, Bool.or_true, Bool.or_false, Bool.true_or, Bool.false_or, not_true_eq_false, not_false_eq_true, Bool.not_true, Bool.not_false, eq_self, Nat.reduceEqDiff]; rfl) | contradiction | (exfalso; omega))) (by (subst hm11; subst hm8; subst hv4; first | (simp only [R_cost, R_tr, R_back, R_had, c1, c2, c3, ec_r, el_n, ec_j, c5, c6, c7, c9, c10, if_true, if_false, reduceIte, Bool.false_eq_true, reduceCtorEq, decide_true, decide_false, Bool.and_true, Bool.and_false, Bool.true_and, Bool.false_and, Bool.or_true, Bool.or_false, Bool.true_or, Bool.false_or, not_true_eq_false, not_false_eq_true, Bool.not_true, Bool.not_false, eq_self, Nat.reduceEqDiff]; done) | rfl | (simp only [R_cost, R_tr, R_back, R_had, c1, c2, c3, ec_r, el_n, ec_j, c5, c6, c7, c9, c10, if_true, if_false, reduceIte, Bool.false_eq_true, reduceCtorEq, decide_true, decide_false, Bool.and_true, Bool.and_false, Bool.true_and, Bool.false_and, Bool.or_true, Bool.or_false, Bool.true_or, Bool.false_or, not_true_eq_false, not_false_eq_true, Bool.not_true, Bool.not_false, eq_self, Nat.reduceEqDiff]; rfl) | contradiction | (exfalso; omega)))
                · replace c10 := (nI_eq (a := j) (b := 3) (by omega) (by omega)).mp c10
                  have c10t := eq_true c10
                  exfalso; omega
              · replace c9 := (nI_eq (a := j) (b := 2) (by omega) (by omega)).mp c9
                have c9t := eq_true c9
                exfalso; omega
            · replace c7 := bI_n0.mp c7
              refine v_aload_n hX dX6_cost_74 rfl ?_
              refine v_iload_n hX dX6_cost_75 rfl ?_
              refine v_iload_n hX dX6_cost_76 rfl ?_
              refine v_iconst (x := (0 : Int32)) hX dX6_cost_77 (by decide) ?_
              obtain ⟨m12, hm12⟩ : ∃ z_ : MV, z_ = ((Q_writes v4.1 r n (0 : Int32)).1) := ⟨_, rfl⟩
              refine v_callVi (r := (Q_writes v4.1 r n (0 : Int32)).2) (rest := []) (ws' := wR E a (R_setS v4 m12)) hX (fun sz => c_X6_writes l E a sz v4 r (by first | omega | exact Nat.le_of_ble_eq_true rfl) n (0 : Int32)) (cwV 3 hX.2.2.2.2.1 gX6_cost_X6_writes rfl rfl rfl (by decide +kernel) ⟨Nat.le_of_ble_eq_true rfl, Nat.le_of_ble_eq_true rfl⟩) ([]) ([]) ((List.append_nil _).symm) (by rw [hm12]; exact List.append_nil _) (wR_fst E a _ _) (ci := 6) (q0 := 0) rfl rfl rfl rfl rfl (Nat.le_of_ble_eq_true rfl) dX6_cost_78 ?_
              refine v_goto (tgt := 90) hX dX6_cost_81 (by decide) ?_
              refine v_istore (lv' := [.ref (a 0), .int (nI (r)), .int (nI (n).val), .int (bI (bw)), .int (nI (j)), .int (Q_sum v4.1 (2 + j)), .int ((Q_writes v4.1 r n (0 : Int32)).2)]) hX dX6_cost_90 (Nat.le_of_ble_eq_true rfl) (Nat.le_of_ble_eq_true rfl) rfl rfl ?_
              refine v_iload hX dX6_cost_92 rfl ?_
              refine v_iconst (x := (2 : Int32)) hX dX6_cost_94 (by decide) ?_
              refine v_icmp_ne (tgt := 109) hX dX6_cost_95 (by decide) (fun c13 => ?_) (fun c13 => ?_)
              · replace c13 := (not_congr (nI_eq (a := j) (b := 2) (by omega) (by omega))).mp c13
                refine v_aload_n hX dX6_cost_109 rfl ?_
                refine v_iload hX dX6_cost_110 rfl ?_
                refine v_iconst (x := (3 : Int32)) hX dX6_cost_112 (by decide) ?_
                refine v_icmp_ne (tgt := 120) hX dX6_cost_113 (by decide) (fun c14 => ?_) (fun c14 => ?_)
                · replace c14 := (not_congr (nI_eq (a := j) (b := 3) (by omega) (by omega))).mp c14
                  refine v_iconst (x := (2 : Int32)) hX dX6_cost_120 (by decide) ?_
                  refine v_iload hX dX6_cost_121 rfl ?_
                  refine v_iadd (z := nI (2 + j)) hX dX6_cost_123 (nI_add 2 j) ?_
                  refine v_callVi (r := Q_sum m12 (2 + j)) (rest := []) (ws' := wR E a (R_setS v4 m12)) hX (fun sz => c_X6_sumOf l E a sz (R_setS v4 m12) (2 + j) (by first | omega | exact Nat.le_of_ble_eq_true rfl)) (cwV 1 hX.2.2.2.2.1 gX6_cost_X6_sumOf rfl rfl rfl (by decide +kernel) ⟨Nat.le_of_ble_eq_true rfl, Nat.le_of_ble_eq_true rfl⟩) ([]) ([]) ((List.append_nil _).symm) ((List.append_nil _).symm).symm (wR_fst E a _ _) (ci := 6) (q0 := 0) rfl rfl rfl rfl rfl (Nat.le_of_ble_eq_true rfl) dX6_cost_124 ?_
                  refine v_istore (lv' := [.ref (a 0), .int (nI (r)), .int (nI (n).val), .int (bI (bw)), .int (nI (j)), .int (Q_sum v4.1 (2 + j)), .int ((Q_writes v4.1 r n (0 : Int32)).2), .int (Q_sum m12 (2 + j))]) hX dX6_cost_127 (Nat.le_of_ble_eq_true rfl) (Nat.le_of_ble_eq_true rfl) rfl rfl ?_
                  refine v_aload_n hX dX6_cost_129 rfl ?_
                  obtain ⟨m15, hm15⟩ : ∃ z_ : MV, z_ = (R_setS v4 m12).2.1 := ⟨_, rfl⟩
                  refine v_callVv (rest := []) (ws' := wR E a (R_setS v4 m15)) hX (fun sz => c_X6_putBack l E a sz (R_setS v4 m12) ) (cwV 0 hX.2.2.2.2.1 gX6_cost_X6_putBack rfl rfl rfl (by decide +kernel) ⟨Nat.le_of_ble_eq_true rfl, Nat.le_of_ble_eq_true rfl⟩) ([]) ([]) ((List.append_nil _).symm) (by rw [hm15]; exact List.append_nil _) (wR_fst E a _ _) (ci := 6) (q0 := 0) rfl rfl rfl rfl rfl (Nat.le_of_ble_eq_true rfl) dX6_cost_130 ?_
                  refine v_iload hX dX6_cost_133 rfl ?_
                  refine v_iload hX dX6_cost_135 rfl ?_
                  refine v_isub (z := (Q_sum m12 (2 + j) - Q_sum v4.1 (2 + j))) hX dX6_cost_137 (rfl) ?_
                  exact v_iret hX hr hsz dX6_cost_138 rfl rfl (by (subst hm15; subst hm12; subst hv4; first | (simp only [R_cost, R_tr, R_back, R_had, c1, c2, c3, ec_r, el_n, ec_j, c5, c6, c7, c13, c14, if_true, if_false, reduceIte, Bool.false_eq_true, reduceCtorEq, decide_true, decide_false, Bool.and_true, Bool.and_false, Bool.true_and, Bool.false_and, Bool.or_true, Bool.or_false, Bool.true_or, Bool.false_or, not_true_eq_false, not_false_eq_true, Bool.not_true, Bool.not_false, eq_self, Nat.reduceEqDiff]; done) | rfl | (simp only [R_cost, R_tr, R_back, R_had, c1, c2, c3, ec_r, el_n, ec_j, c5, c6, c7, c13, c14, if_true, if_false, reduceIte, Bool.false_eq_true, reduceCtorEq, decide_true, decide_false, Bool.and_true, Bool.and_false, Bool.true_and, Bool.false_and, Bool.or_true, Bool.or_false, Bool.true_or, Bool.false_or, not_true_eq_false, not_false_eq_true, Bool.not_true, Bool.not_false, eq_self, Nat.reduceEqDiff]; rfl) | contradiction | (exfalso; omega))) (by (subst hm15; subst hm12; subst hv4; first | (simp only [R_cost, R_tr, R_back, R_had, c1, c2, c3, ec_r, el_n, ec_j, c5, c6, c7, c13, c14, if_true, if_false, reduceIte, Bool.false_eq_true, reduceCtorEq, decide_true, decide_false, Bool.and_true, Bool.and_false, Bool.true_and, Bool.false_and, Bool.or_true, Bool.or_false, Bool.true_or, Bool.false_or, not_true_eq_false, not_false_eq_true, Bool.not_true, Bool.not_false, eq_self, Nat.reduceEqDiff]; done) | rfl | (simp only [R_cost, R_tr, R_back, R_had, c1, c2, c3, ec_r, el_n, ec_j, c5, c6, c7, c13, c14, if_true, if_false, reduceIte, Bool.false_eq_true, reduceCtorEq, decide_true, decide_false, Bool.and_true, Bool.and_false, Bool.true_and, Bool.false_and, Bool.or_true, Bool.or_false, Bool.true_or, Bool.false_or, not_true_eq_false, not_false_eq_true, Bool.not_true, Bool.not_false, eq_self, Nat.reduceEqDiff]; rfl) | contradiction | (exfalso; omega)))
                · replace c14 := (nI_eq (a := j) (b := 3) (by omega) (by omega)).mp c14
                  have c14t := eq_true c14
                  exfalso; omega
              · replace c13 := (nI_eq (a := j) (b := 2) (by omega) (by omega)).mp c13
                have c13t := eq_true c13
                exfalso; omega
          · replace c6 := (nI_eq (a := j) (b := 3) (by omega) (by omega)).mp c6
            have c6t := eq_true c6
            refine v_iconst (x := (5 : Int32)) hX dX6_cost_57 (by decide) ?_
            refine v_goto (tgt := 65) hX dX6_cost_58 (by decide) ?_
            refine v_callVi (r := Q_sum v4.1 5) (rest := []) (ws' := wR E a v4) hX (fun sz => c_X6_sumOf l E a sz v4 5 (by first | omega | exact Nat.le_of_ble_eq_true rfl)) (cwV 1 hX.2.2.2.2.1 gX6_cost_X6_sumOf rfl rfl rfl (by decide +kernel) ⟨Nat.le_of_ble_eq_true rfl, Nat.le_of_ble_eq_true rfl⟩) ([]) ([]) ((List.append_nil _).symm) ((List.append_nil _).symm).symm (wR_fst E a _ _) (ci := 6) (q0 := 0) rfl rfl rfl rfl rfl (Nat.le_of_ble_eq_true rfl) dX6_cost_65 ?_
            refine v_istore (lv' := [.ref (a 0), .int (nI (r)), .int (nI (n).val), .int (bI (bw)), .int (nI (j)), .int (Q_sum v4.1 5)]) hX dX6_cost_68 (Nat.le_of_ble_eq_true rfl) (Nat.le_of_ble_eq_true rfl) rfl rfl ?_
            refine v_iload_n hX dX6_cost_70 rfl ?_
            refine v_if_eq (tgt := 84) hX dX6_cost_71 (by decide) (fun c16 => ?_) (fun c16 => ?_)
            · replace c16 := bI_0.mp c16
              refine v_aload_n hX dX6_cost_84 rfl ?_
              refine v_iload_n hX dX6_cost_85 rfl ?_
              refine v_iload_n hX dX6_cost_86 rfl ?_
              obtain ⟨m17, hm17⟩ : ∃ z_ : MV, z_ = ((Q_reads v4.1 r n).1) := ⟨_, rfl⟩
              refine v_callVi (r := (Q_reads v4.1 r n).2) (rest := []) (ws' := wR E a (R_setS v4 m17)) hX (fun sz => c_X6_reads l E a sz v4 r (by first | omega | exact Nat.le_of_ble_eq_true rfl) n) (cwV 2 hX.2.2.2.2.1 gX6_cost_X6_reads rfl rfl rfl (by decide +kernel) ⟨Nat.le_of_ble_eq_true rfl, Nat.le_of_ble_eq_true rfl⟩) ([]) ([]) ((List.append_nil _).symm) (by rw [hm17]; exact List.append_nil _) (wR_fst E a _ _) (ci := 6) (q0 := 0) rfl rfl rfl rfl rfl (Nat.le_of_ble_eq_true rfl) dX6_cost_87 ?_
              refine v_istore (lv' := [.ref (a 0), .int (nI (r)), .int (nI (n).val), .int (bI (bw)), .int (nI (j)), .int (Q_sum v4.1 5), .int ((Q_reads v4.1 r n).2)]) hX dX6_cost_90 (Nat.le_of_ble_eq_true rfl) (Nat.le_of_ble_eq_true rfl) rfl rfl ?_
              refine v_iload hX dX6_cost_92 rfl ?_
              refine v_iconst (x := (2 : Int32)) hX dX6_cost_94 (by decide) ?_
              refine v_icmp_ne (tgt := 109) hX dX6_cost_95 (by decide) (fun c18 => ?_) (fun c18 => ?_)
              · replace c18 := (not_congr (nI_eq (a := j) (b := 2) (by omega) (by omega))).mp c18
                refine v_aload_n hX dX6_cost_109 rfl ?_
                refine v_iload hX dX6_cost_110 rfl ?_
                refine v_iconst (x := (3 : Int32)) hX dX6_cost_112 (by decide) ?_
                refine v_icmp_ne (tgt := 120) hX dX6_cost_113 (by decide) (fun c19 => ?_) (fun c19 => ?_)
                · replace c19 := (not_congr (nI_eq (a := j) (b := 3) (by omega) (by omega))).mp c19
                  exfalso; omega
                · replace c19 := (nI_eq (a := j) (b := 3) (by omega) (by omega)).mp c19
                  have c19t := eq_true c19
                  refine v_iconst (x := (5 : Int32)) hX dX6_cost_116 (by decide) ?_
                  refine v_goto (tgt := 124) hX dX6_cost_117 (by decide) ?_
                  refine v_callVi (r := Q_sum m17 5) (rest := []) (ws' := wR E a (R_setS v4 m17)) hX (fun sz => c_X6_sumOf l E a sz (R_setS v4 m17) 5 (by first | omega | exact Nat.le_of_ble_eq_true rfl)) (cwV 1 hX.2.2.2.2.1 gX6_cost_X6_sumOf rfl rfl rfl (by decide +kernel) ⟨Nat.le_of_ble_eq_true rfl, Nat.le_of_ble_eq_true rfl⟩) ([]) ([]) ((List.append_nil _).symm) ((List.append_nil _).symm).symm (wR_fst E a _ _) (ci := 6) (q0 := 0) rfl rfl rfl rfl rfl (Nat.le_of_ble_eq_true rfl) dX6_cost_124 ?_
                  refine v_istore (lv' := [.ref (a 0), .int (nI (r)), .int (nI (n).val), .int (bI (bw)), .int (nI (j)), .int (Q_sum v4.1 5), .int ((Q_reads v4.1 r n).2), .int (Q_sum m17 5)]) hX dX6_cost_127 (Nat.le_of_ble_eq_true rfl) (Nat.le_of_ble_eq_true rfl) rfl rfl ?_
                  refine v_aload_n hX dX6_cost_129 rfl ?_
                  obtain ⟨m20, hm20⟩ : ∃ z_ : MV, z_ = (R_setS v4 m17).2.1 := ⟨_, rfl⟩
                  refine v_callVv (rest := []) (ws' := wR E a (R_setS v4 m20)) hX (fun sz => c_X6_putBack l E a sz (R_setS v4 m17) ) (cwV 0 hX.2.2.2.2.1 gX6_cost_X6_putBack rfl rfl rfl (by decide +kernel) ⟨Nat.le_of_ble_eq_true rfl, Nat.le_of_ble_eq_true rfl⟩) ([]) ([]) ((List.append_nil _).symm) (by rw [hm20]; exact List.append_nil _) (wR_fst E a _ _) (ci := 6) (q0 := 0) rfl rfl rfl rfl rfl (Nat.le_of_ble_eq_true rfl) dX6_cost_130 ?_
                  refine v_iload hX dX6_cost_133 rfl ?_
                  refine v_iload hX dX6_cost_135 rfl ?_
                  refine v_isub (z := (Q_sum m17 5 - Q_sum v4.1 5)) hX dX6_cost_137 (rfl) ?_
                  exact v_iret hX hr hsz dX6_cost_138 rfl rfl (by (subst hm20; subst hm17; subst hv4; first | (simp only [R_cost, R_tr, R_back, R_had, c1, c2, c3, ec_r, el_n, ec_j, c5, c6t, c16, c18, c19t, if_true, if_false, reduceIte, Bool.false_eq_true, reduceCtorEq, decide_true, decide_false, Bool.and_true, Bool.and_false, Bool.true_and, Bool.false_and, Bool.or_true, Bool.or_false, Bool.true_or, Bool.false_or, not_true_eq_false, not_false_eq_true, Bool.not_true, Bool.not_false, eq_self, Nat.reduceEqDiff]; done) | rfl | (simp only [R_cost, R_tr, R_back, R_had, c1, c2, c3, ec_r, el_n, ec_j, c5, c6t, c16, c18, c19t, if_true, if_false, reduceIte, Bool.false_eq_true, reduceCtorEq, decide_true, decide_false, Bool.and_true, Bool.and_false, Bool.true_and, Bool.false_and, Bool.or_true, Bool.or_false, Bool.true_or, Bool.false_or, not_true_eq_false, not_false_eq_true, Bool.not_true, Bool.not_false, eq_self, Nat.reduceEqDiff]; rfl) | contradiction | (exfalso; omega))) (by (subst hm20; subst hm17; subst hv4; first | (simp only [R_cost, R_tr, R_back, R_had, c1, c2, c3, ec_r, el_n, ec_j, c5, c6t, c16, c18, c19t, if_true, if_false, reduceIte, Bool.false_eq_true, reduceCtorEq, decide_true, decide_false, Bool.and_true, Bool.and_false, Bool.true_and, Bool.false_and, Bool.or_true, Bool.or_false, Bool.true_or, Bool.false_or, not_true_eq_false, not_false_eq_true, Bool.not_true, Bool.not_false, eq_self, Nat.reduceEqDiff]; done) | rfl | (simp only [R_cost, R_tr, R_back, R_had, c1, c2, c3, ec_r, el_n, ec_j, c5, c6t, c16, c18, c19t, if_true, if_false, reduceIte, Bool.false_eq_true, reduceCtorEq, decide_true, decide_false, Bool.and_true, Bool.and_false, Bool.true_and, Bool.false_and, Bool.or_true, Bool.or_false, Bool.true_or, Bool.false_or, not_true_eq_false, not_false_eq_true, Bool.not_true, Bool.not_false, eq_self, Nat.reduceEqDiff]; rfl) | contradiction | (exfalso; omega)))
              · replace c18 := (nI_eq (a := j) (b := 2) (by omega) (by omega)).mp c18
                have c18t := eq_true c18
                exfalso; omega
            · replace c16 := bI_n0.mp c16
              refine v_aload_n hX dX6_cost_74 rfl ?_
              refine v_iload_n hX dX6_cost_75 rfl ?_
              refine v_iload_n hX dX6_cost_76 rfl ?_
              refine v_iconst (x := (0 : Int32)) hX dX6_cost_77 (by decide) ?_
              obtain ⟨m21, hm21⟩ : ∃ z_ : MV, z_ = ((Q_writes v4.1 r n (0 : Int32)).1) := ⟨_, rfl⟩
              refine v_callVi (r := (Q_writes v4.1 r n (0 : Int32)).2) (rest := []) (ws' := wR E a (R_setS v4 m21)) hX (fun sz => c_X6_writes l E a sz v4 r (by first | omega | exact Nat.le_of_ble_eq_true rfl) n (0 : Int32)) (cwV 3 hX.2.2.2.2.1 gX6_cost_X6_writes rfl rfl rfl (by decide +kernel) ⟨Nat.le_of_ble_eq_true rfl, Nat.le_of_ble_eq_true rfl⟩) ([]) ([]) ((List.append_nil _).symm) (by rw [hm21]; exact List.append_nil _) (wR_fst E a _ _) (ci := 6) (q0 := 0) rfl rfl rfl rfl rfl (Nat.le_of_ble_eq_true rfl) dX6_cost_78 ?_
              refine v_goto (tgt := 90) hX dX6_cost_81 (by decide) ?_
              refine v_istore (lv' := [.ref (a 0), .int (nI (r)), .int (nI (n).val), .int (bI (bw)), .int (nI (j)), .int (Q_sum v4.1 5), .int ((Q_writes v4.1 r n (0 : Int32)).2)]) hX dX6_cost_90 (Nat.le_of_ble_eq_true rfl) (Nat.le_of_ble_eq_true rfl) rfl rfl ?_
              refine v_iload hX dX6_cost_92 rfl ?_
              refine v_iconst (x := (2 : Int32)) hX dX6_cost_94 (by decide) ?_
              refine v_icmp_ne (tgt := 109) hX dX6_cost_95 (by decide) (fun c22 => ?_) (fun c22 => ?_)
              · replace c22 := (not_congr (nI_eq (a := j) (b := 2) (by omega) (by omega))).mp c22
                refine v_aload_n hX dX6_cost_109 rfl ?_
                refine v_iload hX dX6_cost_110 rfl ?_
                refine v_iconst (x := (3 : Int32)) hX dX6_cost_112 (by decide) ?_
                refine v_icmp_ne (tgt := 120) hX dX6_cost_113 (by decide) (fun c23 => ?_) (fun c23 => ?_)
                · replace c23 := (not_congr (nI_eq (a := j) (b := 3) (by omega) (by omega))).mp c23
                  exfalso; omega
                · replace c23 := (nI_eq (a := j) (b := 3) (by omega) (by omega)).mp c23
                  have c23t := eq_true c23
                  refine v_iconst (x := (5 : Int32)) hX dX6_cost_116 (by decide) ?_
                  refine v_goto (tgt := 124) hX dX6_cost_117 (by decide) ?_
                  refine v_callVi (r := Q_sum m21 5) (rest := []) (ws' := wR E a (R_setS v4 m21)) hX (fun sz => c_X6_sumOf l E a sz (R_setS v4 m21) 5 (by first | omega | exact Nat.le_of_ble_eq_true rfl)) (cwV 1 hX.2.2.2.2.1 gX6_cost_X6_sumOf rfl rfl rfl (by decide +kernel) ⟨Nat.le_of_ble_eq_true rfl, Nat.le_of_ble_eq_true rfl⟩) ([]) ([]) ((List.append_nil _).symm) ((List.append_nil _).symm).symm (wR_fst E a _ _) (ci := 6) (q0 := 0) rfl rfl rfl rfl rfl (Nat.le_of_ble_eq_true rfl) dX6_cost_124 ?_
                  refine v_istore (lv' := [.ref (a 0), .int (nI (r)), .int (nI (n).val), .int (bI (bw)), .int (nI (j)), .int (Q_sum v4.1 5), .int ((Q_writes v4.1 r n (0 : Int32)).2), .int (Q_sum m21 5)]) hX dX6_cost_127 (Nat.le_of_ble_eq_true rfl) (Nat.le_of_ble_eq_true rfl) rfl rfl ?_
                  refine v_aload_n hX dX6_cost_129 rfl ?_
                  obtain ⟨m24, hm24⟩ : ∃ z_ : MV, z_ = (R_setS v4 m21).2.1 := ⟨_, rfl⟩
                  refine v_callVv (rest := []) (ws' := wR E a (R_setS v4 m24)) hX (fun sz => c_X6_putBack l E a sz (R_setS v4 m21) ) (cwV 0 hX.2.2.2.2.1 gX6_cost_X6_putBack rfl rfl rfl (by decide +kernel) ⟨Nat.le_of_ble_eq_true rfl, Nat.le_of_ble_eq_true rfl⟩) ([]) ([]) ((List.append_nil _).symm) (by rw [hm24]; exact List.append_nil _) (wR_fst E a _ _) (ci := 6) (q0 := 0) rfl rfl rfl rfl rfl (Nat.le_of_ble_eq_true rfl) dX6_cost_130 ?_
                  refine v_iload hX dX6_cost_133 rfl ?_
                  refine v_iload hX dX6_cost_135 rfl ?_
                  refine v_isub (z := (Q_sum m21 5 - Q_sum v4.1 5)) hX dX6_cost_137 (rfl) ?_
                  exact v_iret hX hr hsz dX6_cost_138 rfl rfl (by (subst hm24; subst hm21; subst hv4; first | (simp only [R_cost, R_tr, R_back, R_had, c1, c2, c3, ec_r, el_n, ec_j, c5, c6t, c16, c22, c23t, if_true, if_false, reduceIte, Bool.false_eq_true, reduceCtorEq, decide_true, decide_false, Bool.and_true, Bool.and_false, Bool.true_and, Bool.false_and, Bool.or_true, Bool.or_false, Bool.true_or, Bool.false_or, not_true_eq_false, not_false_eq_true, Bool.not_true, Bool.not_false, eq_self, Nat.reduceEqDiff]; done) | rfl | (simp only [R_cost, R_tr, R_back, R_had, c1, c2, c3, ec_r, el_n, ec_j, c5, c6t, c16, c22, c23t, if_true, if_false, reduceIte, Bool.false_eq_true, reduceCtorEq, decide_true, decide_false, Bool.and_true, Bool.and_false, Bool.true_and, Bool.false_and, Bool.or_true, Bool.or_false, Bool.true_or, Bool.false_or, not_true_eq_false, not_false_eq_true, Bool.not_true, Bool.not_false, eq_self, Nat.reduceEqDiff]; rfl) | contradiction | (exfalso; omega))) (by (subst hm24; subst hm21; subst hv4; first | (simp only [R_cost, R_tr, R_back, R_had, c1, c2, c3, ec_r, el_n, ec_j, c5, c6t, c16, c22, c23t, if_true, if_false, reduceIte, Bool.false_eq_true, reduceCtorEq, decide_true, decide_false, Bool.and_true, Bool.and_false, Bool.true_and, Bool.false_and, Bool.or_true, Bool.or_false, Bool.true_or, Bool.false_or, not_true_eq_false, not_false_eq_true, Bool.not_true, Bool.not_false, eq_self, Nat.reduceEqDiff]; done) | rfl | (simp only [R_cost, R_tr, R_back, R_had, c1, c2, c3, ec_r, el_n, ec_j, c5, c6t, c16, c22, c23t, if_true, if_false, reduceIte, Bool.false_eq_true, reduceCtorEq, decide_true, decide_false, Bool.and_true, Bool.and_false, Bool.true_and, Bool.false_and, Bool.or_true, Bool.or_false, Bool.true_or, Bool.false_or, not_true_eq_false, not_false_eq_true, Bool.not_true, Bool.not_false, eq_self, Nat.reduceEqDiff]; rfl) | contradiction | (exfalso; omega)))
              · replace c22 := (nI_eq (a := j) (b := 2) (by omega) (by omega)).mp c22
                have c22t := eq_true c22
                exfalso; omega
        · replace c5 := (nI_eq (a := j) (b := 2) (by omega) (by omega)).mp c5
          have c5t := eq_true c5
          refine v_aload_n hX dX6_cost_39 rfl ?_
          refine v_get (C := RX6) (T := TX6) (N := 18) (ci := 6) (v := .ref (a 1)) hX in_X6 0 rfl rfl 0 (by decide) fl_7 rfl rfl dX6_cost_40 ?_
          refine v_sipush (x := (538 : Int32)) hX dX6_cost_43 (by decide) ?_
          refine v_iald (z := v4.1.2.2.2.2.1) hX 1 rfl (vp_in_nI (by omega : 538 < 544) (by omega)) (by show encS _ 538 = _; exact gS_back v4.1 (by omega)) dX6_cost_46 ?_
          refine v_goto (tgt := 68) hX dX6_cost_47 (by decide) ?_
          refine v_istore (lv' := [.ref (a 0), .int (nI (r)), .int (nI (n).val), .int (bI (bw)), .int (nI (j)), .int (v4.1.2.2.2.2.1)]) hX dX6_cost_68 (Nat.le_of_ble_eq_true rfl) (Nat.le_of_ble_eq_true rfl) rfl rfl ?_
          refine v_iload_n hX dX6_cost_70 rfl ?_
          refine v_if_eq (tgt := 84) hX dX6_cost_71 (by decide) (fun c25 => ?_) (fun c25 => ?_)
          · replace c25 := bI_0.mp c25
            refine v_aload_n hX dX6_cost_84 rfl ?_
            refine v_iload_n hX dX6_cost_85 rfl ?_
            refine v_iload_n hX dX6_cost_86 rfl ?_
            obtain ⟨m26, hm26⟩ : ∃ z_ : MV, z_ = ((Q_reads v4.1 r n).1) := ⟨_, rfl⟩
            refine v_callVi (r := (Q_reads v4.1 r n).2) (rest := []) (ws' := wR E a (R_setS v4 m26)) hX (fun sz => c_X6_reads l E a sz v4 r (by first | omega | exact Nat.le_of_ble_eq_true rfl) n) (cwV 2 hX.2.2.2.2.1 gX6_cost_X6_reads rfl rfl rfl (by decide +kernel) ⟨Nat.le_of_ble_eq_true rfl, Nat.le_of_ble_eq_true rfl⟩) ([]) ([]) ((List.append_nil _).symm) (by rw [hm26]; exact List.append_nil _) (wR_fst E a _ _) (ci := 6) (q0 := 0) rfl rfl rfl rfl rfl (Nat.le_of_ble_eq_true rfl) dX6_cost_87 ?_
            refine v_istore (lv' := [.ref (a 0), .int (nI (r)), .int (nI (n).val), .int (bI (bw)), .int (nI (j)), .int (v4.1.2.2.2.2.1), .int ((Q_reads v4.1 r n).2)]) hX dX6_cost_90 (Nat.le_of_ble_eq_true rfl) (Nat.le_of_ble_eq_true rfl) rfl rfl ?_
            refine v_iload hX dX6_cost_92 rfl ?_
            refine v_iconst (x := (2 : Int32)) hX dX6_cost_94 (by decide) ?_
            refine v_icmp_ne (tgt := 109) hX dX6_cost_95 (by decide) (fun c27 => ?_) (fun c27 => ?_)
            · replace c27 := (not_congr (nI_eq (a := j) (b := 2) (by omega) (by omega))).mp c27
              exfalso; omega
            · replace c27 := (nI_eq (a := j) (b := 2) (by omega) (by omega)).mp c27
              have c27t := eq_true c27
              refine v_aload_n hX dX6_cost_98 rfl ?_
              refine v_get (C := RX6) (T := TX6) (N := 18) (ci := 6) (v := .ref (a 1)) hX in_X6 0 rfl rfl 0 (by decide) fl_7 rfl rfl dX6_cost_99 ?_
              refine v_sipush (x := (538 : Int32)) hX dX6_cost_102 (by decide) ?_
              refine v_iald (z := m26.2.2.2.2.1) hX 1 rfl (vp_in_nI (by omega : 538 < 544) (by omega)) (by show encS _ 538 = _; exact gS_back m26 (by omega)) dX6_cost_105 ?_
              refine v_goto (tgt := 127) hX dX6_cost_106 (by decide) ?_
              refine v_istore (lv' := [.ref (a 0), .int (nI (r)), .int (nI (n).val), .int (bI (bw)), .int (nI (j)), .int (v4.1.2.2.2.2.1), .int ((Q_reads v4.1 r n).2), .int (m26.2.2.2.2.1)]) hX dX6_cost_127 (Nat.le_of_ble_eq_true rfl) (Nat.le_of_ble_eq_true rfl) rfl rfl ?_
              refine v_aload_n hX dX6_cost_129 rfl ?_
              obtain ⟨m28, hm28⟩ : ∃ z_ : MV, z_ = (R_setS v4 m26).2.1 := ⟨_, rfl⟩
              refine v_callVv (rest := []) (ws' := wR E a (R_setS v4 m28)) hX (fun sz => c_X6_putBack l E a sz (R_setS v4 m26) ) (cwV 0 hX.2.2.2.2.1 gX6_cost_X6_putBack rfl rfl rfl (by decide +kernel) ⟨Nat.le_of_ble_eq_true rfl, Nat.le_of_ble_eq_true rfl⟩) ([]) ([]) ((List.append_nil _).symm) (by rw [hm28]; exact List.append_nil _) (wR_fst E a _ _) (ci := 6) (q0 := 0) rfl rfl rfl rfl rfl (Nat.le_of_ble_eq_true rfl) dX6_cost_130 ?_
              refine v_iload hX dX6_cost_133 rfl ?_
              refine v_iload hX dX6_cost_135 rfl ?_
              refine v_isub (z := (m26.2.2.2.2.1 - v4.1.2.2.2.2.1)) hX dX6_cost_137 (rfl) ?_
              exact v_iret hX hr hsz dX6_cost_138 rfl rfl (by (subst hm28; subst hm26; subst hv4; first | (simp only [R_cost, R_tr, R_back, R_had, c1, c2, c3, ec_r, el_n, ec_j, c5t, c25, c27t, if_true, if_false, reduceIte, Bool.false_eq_true, reduceCtorEq, decide_true, decide_false, Bool.and_true, Bool.and_false, Bool.true_and, Bool.false_and, Bool.or_true, Bool.or_false, Bool.true_or, Bool.false_or, not_true_eq_false, not_false_eq_true, Bool.not_true, Bool.not_false, eq_self, Nat.reduceEqDiff]; done) | rfl | (simp only [R_cost, R_tr, R_back, R_had, c1, c2, c3, ec_r, el_n, ec_j, c5t, c25, c27t, if_true, if_false, reduceIte, Bool.false_eq_true, reduceCtorEq, decide_true, decide_false, Bool.and_true, Bool.and_false, Bool.true_and, Bool.false_and, Bool.or_true, Bool.or_false, Bool.true_or, Bool.false_or, not_true_eq_false, not_false_eq_true, Bool.not_true, Bool.not_false, eq_self, Nat.reduceEqDiff]; rfl) | contradiction | (exfalso; omega))) (by (subst hm28; subst hm26; subst hv4; first | (simp only [R_cost, R_tr, R_back, R_had, c1, c2, c3, ec_r, el_n, ec_j, c5t, c25, c27t, if_true, if_false, reduceIte, Bool.false_eq_true, reduceCtorEq, decide_true, decide_false, Bool.and_true, Bool.and_false, Bool.true_and, Bool.false_and, Bool.or_true, Bool.or_false, Bool.true_or, Bool.false_or, not_true_eq_false, not_false_eq_true, Bool.not_true, Bool.not_false, eq_self, Nat.reduceEqDiff]; done) | rfl | (simp only [R_cost, R_tr, R_back, R_had, c1, c2, c3, ec_r, el_n, ec_j, c5t, c25, c27t, if_true, if_false, reduceIte, Bool.false_eq_true, reduceCtorEq, decide_true, decide_false, Bool.and_true, Bool.and_false, Bool.true_and, Bool.false_and, Bool.or_true, Bool.or_false, Bool.true_or, Bool.false_or, not_true_eq_false, not_false_eq_true, Bool.not_true, Bool.not_false, eq_self, Nat.reduceEqDiff]; rfl) | contradiction | (exfalso; omega)))
          · replace c25 := bI_n0.mp c25
            refine v_aload_n hX dX6_cost_74 rfl ?_
            refine v_iload_n hX dX6_cost_75 rfl ?_
            refine v_iload_n hX dX6_cost_76 rfl ?_
            refine v_iconst (x := (0 : Int32)) hX dX6_cost_77 (by decide) ?_
            obtain ⟨m29, hm29⟩ : ∃ z_ : MV, z_ = ((Q_writes v4.1 r n (0 : Int32)).1) := ⟨_, rfl⟩
            refine v_callVi (r := (Q_writes v4.1 r n (0 : Int32)).2) (rest := []) (ws' := wR E a (R_setS v4 m29)) hX (fun sz => c_X6_writes l E a sz v4 r (by first | omega | exact Nat.le_of_ble_eq_true rfl) n (0 : Int32)) (cwV 3 hX.2.2.2.2.1 gX6_cost_X6_writes rfl rfl rfl (by decide +kernel) ⟨Nat.le_of_ble_eq_true rfl, Nat.le_of_ble_eq_true rfl⟩) ([]) ([]) ((List.append_nil _).symm) (by rw [hm29]; exact List.append_nil _) (wR_fst E a _ _) (ci := 6) (q0 := 0) rfl rfl rfl rfl rfl (Nat.le_of_ble_eq_true rfl) dX6_cost_78 ?_
            refine v_goto (tgt := 90) hX dX6_cost_81 (by decide) ?_
            refine v_istore (lv' := [.ref (a 0), .int (nI (r)), .int (nI (n).val), .int (bI (bw)), .int (nI (j)), .int (v4.1.2.2.2.2.1), .int ((Q_writes v4.1 r n (0 : Int32)).2)]) hX dX6_cost_90 (Nat.le_of_ble_eq_true rfl) (Nat.le_of_ble_eq_true rfl) rfl rfl ?_
            refine v_iload hX dX6_cost_92 rfl ?_
            refine v_iconst (x := (2 : Int32)) hX dX6_cost_94 (by decide) ?_
            refine v_icmp_ne (tgt := 109) hX dX6_cost_95 (by decide) (fun c30 => ?_) (fun c30 => ?_)
            · replace c30 := (not_congr (nI_eq (a := j) (b := 2) (by omega) (by omega))).mp c30
              exfalso; omega
            · replace c30 := (nI_eq (a := j) (b := 2) (by omega) (by omega)).mp c30
              have c30t := eq_true c30
              refine v_aload_n hX dX6_cost_98 rfl ?_
              refine v_get (C := RX6) (T := TX6) (N := 18) (ci := 6) (v := .ref (a 1)) hX in_X6 0 rfl rfl 0 (by decide) fl_7 rfl rfl dX6_cost_99 ?_
              refine v_sipush (x := (538 : Int32)) hX dX6_cost_102 (by decide) ?_
              refine v_iald (z := m29.2.2.2.2.1) hX 1 rfl (vp_in_nI (by omega : 538 < 544) (by omega)) (by show encS _ 538 = _; exact gS_back m29 (by omega)) dX6_cost_105 ?_
              refine v_goto (tgt := 127) hX dX6_cost_106 (by decide) ?_
              refine v_istore (lv' := [.ref (a 0), .int (nI (r)), .int (nI (n).val), .int (bI (bw)), .int (nI (j)), .int (v4.1.2.2.2.2.1), .int ((Q_writes v4.1 r n (0 : Int32)).2), .int (m29.2.2.2.2.1)]) hX dX6_cost_127 (Nat.le_of_ble_eq_true rfl) (Nat.le_of_ble_eq_true rfl) rfl rfl ?_
              refine v_aload_n hX dX6_cost_129 rfl ?_
              obtain ⟨m31, hm31⟩ : ∃ z_ : MV, z_ = (R_setS v4 m29).2.1 := ⟨_, rfl⟩
              refine v_callVv (rest := []) (ws' := wR E a (R_setS v4 m31)) hX (fun sz => c_X6_putBack l E a sz (R_setS v4 m29) ) (cwV 0 hX.2.2.2.2.1 gX6_cost_X6_putBack rfl rfl rfl (by decide +kernel) ⟨Nat.le_of_ble_eq_true rfl, Nat.le_of_ble_eq_true rfl⟩) ([]) ([]) ((List.append_nil _).symm) (by rw [hm31]; exact List.append_nil _) (wR_fst E a _ _) (ci := 6) (q0 := 0) rfl rfl rfl rfl rfl (Nat.le_of_ble_eq_true rfl) dX6_cost_130 ?_
              refine v_iload hX dX6_cost_133 rfl ?_
              refine v_iload hX dX6_cost_135 rfl ?_
              refine v_isub (z := (m29.2.2.2.2.1 - v4.1.2.2.2.2.1)) hX dX6_cost_137 (rfl) ?_
              exact v_iret hX hr hsz dX6_cost_138 rfl rfl (by (subst hm31; subst hm29; subst hv4; first | (simp only [R_cost, R_tr, R_back, R_had, c1, c2, c3, ec_r, el_n, ec_j, c5t, c25, c30t, if_true, if_false, reduceIte, Bool.false_eq_true, reduceCtorEq, decide_true, decide_false, Bool.and_true, Bool.and_false, Bool.true_and, Bool.false_and, Bool.or_true, Bool.or_false, Bool.true_or, Bool.false_or, not_true_eq_false, not_false_eq_true, Bool.not_true, Bool.not_false, eq_self, Nat.reduceEqDiff]; done) | rfl | (simp only [R_cost, R_tr, R_back, R_had, c1, c2, c3, ec_r, el_n, ec_j, c5t, c25, c30t, if_true, if_false, reduceIte, Bool.false_eq_true, reduceCtorEq, decide_true, decide_false, Bool.and_true, Bool.and_false, Bool.true_and, Bool.false_and, Bool.or_true, Bool.or_false, Bool.true_or, Bool.false_or, not_true_eq_false, not_false_eq_true, Bool.not_true, Bool.not_false, eq_self, Nat.reduceEqDiff]; rfl) | contradiction | (exfalso; omega))) (by (subst hm31; subst hm29; subst hv4; first | (simp only [R_cost, R_tr, R_back, R_had, c1, c2, c3, ec_r, el_n, ec_j, c5t, c25, c30t, if_true, if_false, reduceIte, Bool.false_eq_true, reduceCtorEq, decide_true, decide_false, Bool.and_true, Bool.and_false, Bool.true_and, Bool.false_and, Bool.or_true, Bool.or_false, Bool.true_or, Bool.false_or, not_true_eq_false, not_false_eq_true, Bool.not_true, Bool.not_false, eq_self, Nat.reduceEqDiff]; done) | rfl | (simp only [R_cost, R_tr, R_back, R_had, c1, c2, c3, ec_r, el_n, ec_j, c5t, c25, c30t, if_true, if_false, reduceIte, Bool.false_eq_true, reduceCtorEq, decide_true, decide_false, Bool.and_true, Bool.and_false, Bool.true_and, Bool.false_and, Bool.or_true, Bool.or_false, Bool.true_or, Bool.false_or, not_true_eq_false, not_false_eq_true, Bool.not_true, Bool.not_false, eq_self, Nat.reduceEqDiff]; rfl) | contradiction | (exfalso; omega)))
      · replace c3 := bI_0.mp c3
        refine v_bipush (x := (-2 : Int32)) hX dX6_cost_26 (by decide) ?_
        exact v_iret hX hr hsz dX6_cost_28 rfl rfl (by (first | (simp only [R_cost, R_tr, R_back, R_had, c1, c2, c3, if_true, if_false, reduceIte, Bool.false_eq_true, reduceCtorEq, decide_true, decide_false, Bool.and_true, Bool.and_false, Bool.true_and, Bool.false_and, Bool.or_true, Bool.or_false, Bool.true_or, Bool.false_or, not_true_eq_false, not_false_eq_true, Bool.not_true, Bool.not_false, eq_self, Nat.reduceEqDiff]; done) | rfl | (simp only [R_cost, R_tr, R_back, R_had, c1, c2, c3, if_true, if_false, reduceIte, Bool.false_eq_true, reduceCtorEq, decide_true, decide_false, Bool.and_true, Bool.and_false, Bool.true_and, Bool.false_and, Bool.or_true, Bool.or_false, Bool.true_or, Bool.false_or, not_true_eq_false, not_false_eq_true, Bool.not_true, Bool.not_false, eq_self, Nat.reduceEqDiff]; rfl) | contradiction | (exfalso; omega))) (by (first | (simp only [R_cost, R_tr, R_back, R_had, c1, c2, c3, if_true, if_false, reduceIte, Bool.false_eq_true, reduceCtorEq, decide_true, decide_false, Bool.and_true, Bool.and_false, Bool.true_and, Bool.false_and, Bool.or_true, Bool.or_false, Bool.true_or, Bool.false_or, not_true_eq_false, not_false_eq_true, Bool.not_true, Bool.not_false, eq_self, Nat.reduceEqDiff]; done) | rfl | (simp only [R_cost, R_tr, R_back, R_had, c1, c2, c3, if_true, if_false, reduceIte, Bool.false_eq_true, reduceCtorEq, decide_true, decide_false, Bool.and_true, Bool.and_false, Bool.true_and, Bool.false_and, Bool.or_true, Bool.or_false, Bool.true_or, Bool.false_or, not_true_eq_false, not_false_eq_true, Bool.not_true, Bool.not_false, eq_self, Nat.reduceEqDiff]; rfl) | contradiction | (exfalso; omega)))
    · replace c2 := bI_0.mp c2
      refine v_iconst (x := (-1 : Int32)) hX dX6_cost_14 (by decide) ?_
      exact v_iret hX hr hsz dX6_cost_15 rfl rfl (by (first | (simp only [R_cost, R_tr, R_back, R_had, c1, c2, if_true, if_false, reduceIte, Bool.false_eq_true, reduceCtorEq, decide_true, decide_false, Bool.and_true, Bool.and_false, Bool.true_and, Bool.false_and, Bool.or_true, Bool.or_false, Bool.true_or, Bool.false_or, not_true_eq_false, not_false_eq_true, Bool.not_true, Bool.not_false, eq_self, Nat.reduceEqDiff]; done) | rfl | (simp only [R_cost, R_tr, R_back, R_had, c1, c2, if_true, if_false, reduceIte, Bool.false_eq_true, reduceCtorEq, decide_true, decide_false, Bool.and_true, Bool.and_false, Bool.true_and, Bool.false_and, Bool.or_true, Bool.or_false, Bool.true_or, Bool.false_or, not_true_eq_false, not_false_eq_true, Bool.not_true, Bool.not_false, eq_self, Nat.reduceEqDiff]; rfl) | contradiction | (exfalso; omega))) (by (first | (simp only [R_cost, R_tr, R_back, R_had, c1, c2, if_true, if_false, reduceIte, Bool.false_eq_true, reduceCtorEq, decide_true, decide_false, Bool.and_true, Bool.and_false, Bool.true_and, Bool.false_and, Bool.or_true, Bool.or_false, Bool.true_or, Bool.false_or, not_true_eq_false, not_false_eq_true, Bool.not_true, Bool.not_false, eq_self, Nat.reduceEqDiff]; done) | rfl | (simp only [R_cost, R_tr, R_back, R_had, c1, c2, if_true, if_false, reduceIte, Bool.false_eq_true, reduceCtorEq, decide_true, decide_false, Bool.and_true, Bool.and_false, Bool.true_and, Bool.false_and, Bool.or_true, Bool.or_false, Bool.true_or, Bool.false_or, not_true_eq_false, not_false_eq_true, Bool.not_true, Bool.not_false, eq_self, Nat.reduceEqDiff]; rfl) | contradiction | (exfalso; omega)))
