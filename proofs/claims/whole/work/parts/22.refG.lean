def R_do (v : RV) : RV := if (v.2.2.2.2.2.2.2.2.2.2.2.2.1).val = 114 then R_setSum (R_setS v (Q_reads v.1 (v.2.2.2.2.2.2.2.2.2.2.2.2.2.1).val v.2.2.2.2.2.2.2.2.2.2.2.2.2.2.1).1) (v.2.2.2.2.2.2.2.2.2.2.2.2.2.2.2.2.1 + (Q_reads v.1 (v.2.2.2.2.2.2.2.2.2.2.2.2.2.1).val v.2.2.2.2.2.2.2.2.2.2.2.2.2.2.1).2)
  else if (v.2.2.2.2.2.2.2.2.2.2.2.2.1).val = 119 then R_setS v (Q_writes v.1 (v.2.2.2.2.2.2.2.2.2.2.2.2.2.1).val v.2.2.2.2.2.2.2.2.2.2.2.2.2.2.1 v.2.2.2.2.2.2.2.2.2.2.2.2.2.2.2.1).1
  else if (v.2.2.2.2.2.2.2.2.2.2.2.2.1).val = 100 then R_setS v (Q_drops v.1 (v.2.2.2.2.2.2.2.2.2.2.2.2.2.1).val v.2.2.2.2.2.2.2.2.2.2.2.2.2.2.1).1
  else if Q_empty v.1 (v.2.2.2.2.2.2.2.2.2.2.2.2.2.1).val = true then v else R_setS v (Q_fg v.1 (v.2.2.2.2.2.2.2.2.2.2.2.2.2.1).val none).1
def R_done (v : RV) : Bool × RV := if (v.2.2.2.2.2.2.2.2.2.2.2.2.1).val = 100 then (if Q_holds v.1 (v.2.2.2.2.2.2.2.2.2.2.2.2.2.1).val v.2.2.2.2.2.2.2.2.2.2.2.2.2.2.1 = true then (true, R_do v) else (false, v)) else (true, R_do v)
set_option maxHeartbeats 4000000 in
set_option maxRecDepth 100000 in
theorem c_X6_isDone (l : Launch) (E : ET) (a : Nat → Nat) (sz : Nat) (v : RV) : Met l yX6_isDone wsX6_isDone ({ frames := 7, cells := 0, slots := 0, locals := 169 }) (mPc E [.ref (a 0)] sz (wR E a v)) (mQi E (bI ((R_done v).1)) (wR E a v) (wR E a ((R_done v).2)) sz) 0 0 (va_A (wR E a v) sz) := by
  refine v_start (cc := cX6_isDone) (maxL := 2) (ret := (some .boolean)) (by decide) rfl (Nat.le_of_ble_eq_true rfl) rfl ?_
  intro p e s m args below meth c hsz hr hX
  have hX : Xc p s m args meth c E 2 (va_A (wR E a v) sz) cX6_isDone RX6 wsX6_isDone := hX
  have in_X6 : ∀ w ∈ u_ws RX6 TX6 18, w ∈ wsX6_isDone := by decide +kernel
  have fl_138 : Cond.fieldLink RX6 138 RX6 "letter" "I" ∈ wsX6_isDone := by decide +kernel
  have fl_144 : Cond.fieldLink RX6 144 RX6 "deedCore" "I" ∈ wsX6_isDone := by decide +kernel
  have fl_150 : Cond.fieldLink RX6 150 RX6 "deedLine" "I" ∈ wsX6_isDone := by decide +kernel
  have fl_153 : Cond.fieldLink RX6 153 RX6 "deedValue" "I" ∈ wsX6_isDone := by decide +kernel
  have fl_156 : Cond.fieldLink RX6 156 RX6 "sum" "I" ∈ wsX6_isDone := by decide +kernel
  refine v_aload_n hX dX6_isDone_0 rfl ?_
  refine v_get (C := RX6) (T := TX6) (N := 18) (ci := 6) (v := .int (nI (v.2.2.2.2.2.2.2.2.2.2.2.2.1).val)) hX in_X6 0 rfl rfl 12 (by decide) fl_138 rfl rfl dX6_isDone_1 ?_
  have hb1 := (v.2.2.2.2.2.2.2.2.2.2.2.2.1).isLt
  refine v_bipush (x := (100 : Int32)) hX dX6_isDone_4 (by decide) ?_
  refine v_icmp_ne (tgt := 26) hX dX6_isDone_6 (by decide) (fun c2 => ?_) (fun c2 => ?_)
  · replace c2 := (not_congr (nI_eq (a := (v.2.2.2.2.2.2.2.2.2.2.2.2.1).val) (b := 100) (by omega) (by omega))).mp c2
    refine v_iconst (x := (0 : Int32)) hX dX6_isDone_26 (by decide) ?_
    refine v_istore_n (lv' := [.ref (a 0), .int ((0 : Int32))]) hX dX6_isDone_27 (Nat.le_of_ble_eq_true rfl) (Nat.le_of_ble_eq_true rfl) rfl rfl ?_
    refine v_aload_n hX dX6_isDone_28 rfl ?_
    refine v_get (C := RX6) (T := TX6) (N := 18) (ci := 6) (v := .int (nI (v.2.2.2.2.2.2.2.2.2.2.2.2.1).val)) hX in_X6 0 rfl rfl 12 (by decide) fl_138 rfl rfl dX6_isDone_29 ?_
    have hb3 := (v.2.2.2.2.2.2.2.2.2.2.2.2.1).isLt
    refine v_bipush (x := (114 : Int32)) hX dX6_isDone_32 (by decide) ?_
    refine v_icmp_ne (tgt := 61) hX dX6_isDone_34 (by decide) (fun c4 => ?_) (fun c4 => ?_)
    · replace c4 := (not_congr (nI_eq (a := (v.2.2.2.2.2.2.2.2.2.2.2.2.1).val) (b := 114) (by omega) (by omega))).mp c4
      refine v_aload_n hX dX6_isDone_61 rfl ?_
      refine v_get (C := RX6) (T := TX6) (N := 18) (ci := 6) (v := .int (nI (v.2.2.2.2.2.2.2.2.2.2.2.2.1).val)) hX in_X6 0 rfl rfl 12 (by decide) fl_138 rfl rfl dX6_isDone_62 ?_
      have hb5 := (v.2.2.2.2.2.2.2.2.2.2.2.2.1).isLt
      refine v_bipush (x := (119 : Int32)) hX dX6_isDone_65 (by decide) ?_
      refine v_icmp_ne (tgt := 90) hX dX6_isDone_67 (by decide) (fun c6 => ?_) (fun c6 => ?_)
      · replace c6 := (not_congr (nI_eq (a := (v.2.2.2.2.2.2.2.2.2.2.2.2.1).val) (b := 119) (by omega) (by omega))).mp c6
        refine v_aload_n hX dX6_isDone_90 rfl ?_
        refine v_get (C := RX6) (T := TX6) (N := 18) (ci := 6) (v := .int (nI (v.2.2.2.2.2.2.2.2.2.2.2.2.1).val)) hX in_X6 0 rfl rfl 12 (by decide) fl_138 rfl rfl dX6_isDone_91 ?_
        have hb7 := (v.2.2.2.2.2.2.2.2.2.2.2.2.1).isLt
        refine v_bipush (x := (100 : Int32)) hX dX6_isDone_94 (by decide) ?_
        refine v_icmp_ne (tgt := 115) hX dX6_isDone_96 (by decide) (fun c8 => ?_) (fun c8 => ?_)
        · replace c8 := (not_congr (nI_eq (a := (v.2.2.2.2.2.2.2.2.2.2.2.2.1).val) (b := 100) (by omega) (by omega))).mp c8
          refine v_aload_n hX dX6_isDone_115 rfl ?_
          refine v_aload_n hX dX6_isDone_116 rfl ?_
          refine v_get (C := RX6) (T := TX6) (N := 18) (ci := 6) (v := .int (nI (v.2.2.2.2.2.2.2.2.2.2.2.2.2.1).val)) hX in_X6 0 rfl rfl 13 (by decide) fl_144 rfl rfl dX6_isDone_117 ?_
          have hb9 := (v.2.2.2.2.2.2.2.2.2.2.2.2.2.1).isLt
          refine v_callVi (r := bI (Q_empty v.1 ((v.2.2.2.2.2.2.2.2.2.2.2.2.2.1).val))) (rest := []) (ws' := wR E a v) hX (fun sz => c_X6_isEmpty l E a sz v ((v.2.2.2.2.2.2.2.2.2.2.2.2.2.1).val) (by first | omega | exact Nat.le_of_ble_eq_true rfl)) (cwV 1 hX.2.2.2.2.1 gX6_isDone_X6_isEmpty rfl rfl rfl (by decide +kernel) ⟨Nat.le_of_ble_eq_true rfl, Nat.le_of_ble_eq_true rfl⟩) ([]) ([]) ((List.append_nil _).symm) ((List.append_nil _).symm).symm (wR_fst E a _ _) (ci := 6) (q0 := 0) rfl rfl rfl rfl rfl (Nat.le_of_ble_eq_true rfl) dX6_isDone_120 ?_
          refine v_if_eq (tgt := 131) hX dX6_isDone_123 (by decide) (fun c10 => ?_) (fun c10 => ?_)
          · replace c10 := bI_0.mp c10
            refine v_aload_n hX dX6_isDone_131 rfl ?_
            refine v_aload_n hX dX6_isDone_132 rfl ?_
            refine v_get (C := RX6) (T := TX6) (N := 18) (ci := 6) (v := .int (nI (v.2.2.2.2.2.2.2.2.2.2.2.2.2.1).val)) hX in_X6 0 rfl rfl 13 (by decide) fl_144 rfl rfl dX6_isDone_133 ?_
            have hb11 := (v.2.2.2.2.2.2.2.2.2.2.2.2.2.1).isLt
            refine v_bipush (x := (-5 : Int32)) hX dX6_isDone_136 (by decide) ?_
            obtain ⟨m12, hm12⟩ : ∃ z_ : MV, z_ = ((Q_fg v.1 ((v.2.2.2.2.2.2.2.2.2.2.2.2.2.1).val) none).1) := ⟨_, rfl⟩
            refine v_callVi (r := (Q_fg v.1 ((v.2.2.2.2.2.2.2.2.2.2.2.2.2.1).val) none).2) (rest := []) (ws' := wR E a (R_setS v m12)) hX (fun sz => c_X6_forgets l E a sz v ((v.2.2.2.2.2.2.2.2.2.2.2.2.2.1).val) (by first | omega | exact Nat.le_of_ble_eq_true rfl) none) (cwV 2 hX.2.2.2.2.1 gX6_isDone_X6_forgets rfl rfl rfl (by decide +kernel) ⟨Nat.le_of_ble_eq_true rfl, Nat.le_of_ble_eq_true rfl⟩) ([]) ([]) ((List.append_nil _).symm) (by rw [hm12]; exact List.append_nil _) (wR_fst E a _ _) (ci := 6) (q0 := 0) rfl rfl rfl rfl rfl (Nat.le_of_ble_eq_true rfl) dX6_isDone_138 ?_
            refine v_istore_n (lv' := [.ref (a 0), .int ((Q_fg v.1 ((v.2.2.2.2.2.2.2.2.2.2.2.2.2.1).val) none).2)]) hX dX6_isDone_141 (Nat.le_of_ble_eq_true rfl) (Nat.le_of_ble_eq_true rfl) rfl rfl ?_
            refine v_iconst (x := (1 : Int32)) hX dX6_isDone_142 (by decide) ?_
            exact v_zret hX hr hsz dX6_isDone_143 rfl rfl (bI_narrow (true)) (congrArg bI (by (subst hm12; first | (simp only [R_done, R_do, c2, c4, c6, c8, c10, if_true, if_false, reduceIte, Bool.false_eq_true, reduceCtorEq, decide_true, decide_false, Bool.and_true, Bool.and_false, Bool.true_and, Bool.false_and, Bool.or_true, Bool.or_false, Bool.true_or, Bool.false_or, not_true_eq_false, not_false_eq_true, Bool.not_true, Bool.not_false, eq_self, Nat.reduceEqDiff]; done) | rfl | (simp only [R_done, R_do, c2, c4, c6, c8, c10, if_true, if_false, reduceIte, Bool.false_eq_true, reduceCtorEq, decide_true, decide_false, Bool.and_true, Bool.and_false, Bool.true_and, Bool.false_and, Bool.or_true, Bool.or_false, Bool.true_or, Bool.false_or, not_true_eq_false, not_false_eq_true, Bool.not_true, Bool.not_false, eq_self, Nat.reduceEqDiff]; rfl) | contradiction | (exfalso; omega)) : true = (R_done v).1)) (by (subst hm12; first | (simp only [R_done, R_do, c2, c4, c6, c8, c10, if_true, if_false, reduceIte, Bool.false_eq_true, reduceCtorEq, decide_true, decide_false, Bool.and_true, Bool.and_false, Bool.true_and, Bool.false_and, Bool.or_true, Bool.or_false, Bool.true_or, Bool.false_or, not_true_eq_false, not_false_eq_true, Bool.not_true, Bool.not_false, eq_self, Nat.reduceEqDiff]; done) | rfl | (simp only [R_done, R_do, c2, c4, c6, c8, c10, if_true, if_false, reduceIte, Bool.false_eq_true, reduceCtorEq, decide_true, decide_false, Bool.and_true, Bool.and_false, Bool.true_and, Bool.false_and, Bool.or_true, Bool.or_false, Bool.true_or, Bool.false_or, not_true_eq_false, not_false_eq_true, Bool.not_true, Bool.not_false, eq_self, Nat.reduceEqDiff]; rfl) | contradiction | (exfalso; omega)))
          · replace c10 := bI_n0.mp c10
            refine v_bipush (x := (-5 : Int32)) hX dX6_isDone_126 (by decide) ?_
            refine v_goto (tgt := 141) hX dX6_isDone_128 (by decide) ?_
            refine v_istore_n (lv' := [.ref (a 0), .int ((-5 : Int32))]) hX dX6_isDone_141 (Nat.le_of_ble_eq_true rfl) (Nat.le_of_ble_eq_true rfl) rfl rfl ?_
            refine v_iconst (x := (1 : Int32)) hX dX6_isDone_142 (by decide) ?_
            exact v_zret hX hr hsz dX6_isDone_143 rfl rfl (bI_narrow (true)) (congrArg bI (by (first | (simp only [R_done, R_do, c2, c4, c6, c8, c10, if_true, if_false, reduceIte, Bool.false_eq_true, reduceCtorEq, decide_true, decide_false, Bool.and_true, Bool.and_false, Bool.true_and, Bool.false_and, Bool.or_true, Bool.or_false, Bool.true_or, Bool.false_or, not_true_eq_false, not_false_eq_true, Bool.not_true, Bool.not_false, eq_self, Nat.reduceEqDiff]; done) | rfl | (simp only [R_done, R_do, c2, c4, c6, c8, c10, if_true, if_false, reduceIte, Bool.false_eq_true, reduceCtorEq, decide_true, decide_false, Bool.and_true, Bool.and_false, Bool.true_and, Bool.false_and, Bool.or_true, Bool.or_false, Bool.true_or, Bool.false_or, not_true_eq_false, not_false_eq_true, Bool.not_true, Bool.not_false, eq_self, Nat.reduceEqDiff]; rfl) | contradiction | (exfalso; omega)) : true = (R_done v).1)) (by (first | (simp only [R_done, R_do, c2, c4, c6, c8, c10, if_true, if_false, reduceIte, Bool.false_eq_true, reduceCtorEq, decide_true, decide_false, Bool.and_true, Bool.and_false, Bool.true_and, Bool.false_and, Bool.or_true, Bool.or_false, Bool.true_or, Bool.false_or, not_true_eq_false, not_false_eq_true, Bool.not_true, Bool.not_false, eq_self, Nat.reduceEqDiff]; done) | rfl | (simp only [R_done, R_do, c2, c4, c6, c8, c10, if_true, if_false, reduceIte, Bool.false_eq_true, reduceCtorEq, decide_true, decide_false, Bool.and_true, Bool.and_false, Bool.true_and, Bool.false_and, Bool.or_true, Bool.or_false, Bool.true_or, Bool.false_or, not_true_eq_false, not_false_eq_true, Bool.not_true, Bool.not_false, eq_self, Nat.reduceEqDiff]; rfl) | contradiction | (exfalso; omega)))
        · replace c8 := (nI_eq (a := (v.2.2.2.2.2.2.2.2.2.2.2.2.1).val) (b := 100) (by omega) (by omega)).mp c8
          have c8t := eq_true c8
          exfalso; omega
      · replace c6 := (nI_eq (a := (v.2.2.2.2.2.2.2.2.2.2.2.2.1).val) (b := 119) (by omega) (by omega)).mp c6
        have c6t := eq_true c6
        refine v_aload_n hX dX6_isDone_70 rfl ?_
        refine v_aload_n hX dX6_isDone_71 rfl ?_
        refine v_get (C := RX6) (T := TX6) (N := 18) (ci := 6) (v := .int (nI (v.2.2.2.2.2.2.2.2.2.2.2.2.2.1).val)) hX in_X6 0 rfl rfl 13 (by decide) fl_144 rfl rfl dX6_isDone_72 ?_
        have hb13 := (v.2.2.2.2.2.2.2.2.2.2.2.2.2.1).isLt
        refine v_aload_n hX dX6_isDone_75 rfl ?_
        refine v_get (C := RX6) (T := TX6) (N := 18) (ci := 6) (v := .int (nI (v.2.2.2.2.2.2.2.2.2.2.2.2.2.2.1).val)) hX in_X6 0 rfl rfl 14 (by decide) fl_150 rfl rfl dX6_isDone_76 ?_
        have hb14 := (v.2.2.2.2.2.2.2.2.2.2.2.2.2.2.1).isLt
        refine v_aload_n hX dX6_isDone_79 rfl ?_
        refine v_get (C := RX6) (T := TX6) (N := 18) (ci := 6) (v := .int (v.2.2.2.2.2.2.2.2.2.2.2.2.2.2.2.1)) hX in_X6 0 rfl rfl 15 (by decide) fl_153 rfl rfl dX6_isDone_80 ?_
        obtain ⟨m15, hm15⟩ : ∃ z_ : MV, z_ = ((Q_writes v.1 ((v.2.2.2.2.2.2.2.2.2.2.2.2.2.1).val) v.2.2.2.2.2.2.2.2.2.2.2.2.2.2.1 v.2.2.2.2.2.2.2.2.2.2.2.2.2.2.2.1).1) := ⟨_, rfl⟩
        refine v_callVi (r := (Q_writes v.1 ((v.2.2.2.2.2.2.2.2.2.2.2.2.2.1).val) v.2.2.2.2.2.2.2.2.2.2.2.2.2.2.1 v.2.2.2.2.2.2.2.2.2.2.2.2.2.2.2.1).2) (rest := []) (ws' := wR E a (R_setS v m15)) hX (fun sz => c_X6_writes l E a sz v ((v.2.2.2.2.2.2.2.2.2.2.2.2.2.1).val) (by first | omega | exact Nat.le_of_ble_eq_true rfl) v.2.2.2.2.2.2.2.2.2.2.2.2.2.2.1 v.2.2.2.2.2.2.2.2.2.2.2.2.2.2.2.1) (cwV 3 hX.2.2.2.2.1 gX6_isDone_X6_writes rfl rfl rfl (by decide +kernel) ⟨Nat.le_of_ble_eq_true rfl, Nat.le_of_ble_eq_true rfl⟩) ([]) ([]) ((List.append_nil _).symm) (by rw [hm15]; exact List.append_nil _) (wR_fst E a _ _) (ci := 6) (q0 := 0) rfl rfl rfl rfl rfl (Nat.le_of_ble_eq_true rfl) dX6_isDone_83 ?_
        refine v_istore_n (lv' := [.ref (a 0), .int ((Q_writes v.1 ((v.2.2.2.2.2.2.2.2.2.2.2.2.2.1).val) v.2.2.2.2.2.2.2.2.2.2.2.2.2.2.1 v.2.2.2.2.2.2.2.2.2.2.2.2.2.2.2.1).2)]) hX dX6_isDone_86 (Nat.le_of_ble_eq_true rfl) (Nat.le_of_ble_eq_true rfl) rfl rfl ?_
        refine v_goto (tgt := 142) hX dX6_isDone_87 (by decide) ?_
        refine v_iconst (x := (1 : Int32)) hX dX6_isDone_142 (by decide) ?_
        exact v_zret hX hr hsz dX6_isDone_143 rfl rfl (bI_narrow (true)) (congrArg bI (by (subst hm15; first | (simp only [R_done, R_do, c2, c4, c6t, if_true, if_false, reduceIte, Bool.false_eq_true, reduceCtorEq, decide_true, decide_false, Bool.and_true, Bool.and_false, Bool.true_and, Bool.false_and, Bool.or_true, Bool.or_false, Bool.true_or, Bool.false_or, not_true_eq_false, not_false_eq_true, Bool.not_true, Bool.not_false, eq_self, Nat.reduceEqDiff]; done) | rfl | (simp only [R_done, R_do, c2, c4, c6t, if_true, if_false, reduceIte, Bool.false_eq_true, reduceCtorEq, decide_true, decide_false, Bool.and_true, Bool.and_false, Bool.true_and, Bool.false_and, Bool.or_true, Bool.or_false, Bool.true_or, Bool.false_or, not_true_eq_false, not_false_eq_true, Bool.not_true, Bool.not_false, eq_self, Nat.reduceEqDiff]; rfl) | contradiction | (exfalso; omega)) : true = (R_done v).1)) (by (subst hm15; first | (simp only [R_done, R_do, c2, c4, c6t, if_true, if_false, reduceIte, Bool.false_eq_true, reduceCtorEq, decide_true, decide_false, Bool.and_true, Bool.and_false, Bool.true_and, Bool.false_and, Bool.or_true, Bool.or_false, Bool.true_or, Bool.false_or, not_true_eq_false, not_false_eq_true, Bool.not_true, Bool.not_false, eq_self, Nat.reduceEqDiff]; done) | rfl | (simp only [R_done, R_do, c2, c4, c6t, if_true, if_false, reduceIte, Bool.false_eq_true, reduceCtorEq, decide_true, decide_false, Bool.and_true, Bool.and_false, Bool.true_and, Bool.false_and, Bool.or_true, Bool.or_false, Bool.true_or, Bool.false_or, not_true_eq_false, not_false_eq_true, Bool.not_true, Bool.not_false, eq_self, Nat.reduceEqDiff]; rfl) | contradiction | (exfalso; omega)))
    · replace c4 := (nI_eq (a := (v.2.2.2.2.2.2.2.2.2.2.2.2.1).val) (b := 114) (by omega) (by omega)).mp c4
      have c4t := eq_true c4
      refine v_aload_n hX dX6_isDone_37 rfl ?_
      refine v_dup hX dX6_isDone_38 rfl ?_
      refine v_get (C := RX6) (T := TX6) (N := 18) (ci := 6) (v := .int (v.2.2.2.2.2.2.2.2.2.2.2.2.2.2.2.2.1)) hX in_X6 0 rfl rfl 16 (by decide) fl_156 rfl rfl dX6_isDone_39 ?_
      refine v_aload_n hX dX6_isDone_42 rfl ?_
      refine v_aload_n hX dX6_isDone_43 rfl ?_
      refine v_get (C := RX6) (T := TX6) (N := 18) (ci := 6) (v := .int (nI (v.2.2.2.2.2.2.2.2.2.2.2.2.2.1).val)) hX in_X6 0 rfl rfl 13 (by decide) fl_144 rfl rfl dX6_isDone_44 ?_
      have hb16 := (v.2.2.2.2.2.2.2.2.2.2.2.2.2.1).isLt
      refine v_aload_n hX dX6_isDone_47 rfl ?_
      refine v_get (C := RX6) (T := TX6) (N := 18) (ci := 6) (v := .int (nI (v.2.2.2.2.2.2.2.2.2.2.2.2.2.2.1).val)) hX in_X6 0 rfl rfl 14 (by decide) fl_150 rfl rfl dX6_isDone_48 ?_
      have hb17 := (v.2.2.2.2.2.2.2.2.2.2.2.2.2.2.1).isLt
      obtain ⟨m18, hm18⟩ : ∃ z_ : MV, z_ = ((Q_reads v.1 ((v.2.2.2.2.2.2.2.2.2.2.2.2.2.1).val) v.2.2.2.2.2.2.2.2.2.2.2.2.2.2.1).1) := ⟨_, rfl⟩
      refine v_callVi (r := (Q_reads v.1 ((v.2.2.2.2.2.2.2.2.2.2.2.2.2.1).val) v.2.2.2.2.2.2.2.2.2.2.2.2.2.2.1).2) (rest := [.int (v.2.2.2.2.2.2.2.2.2.2.2.2.2.2.2.2.1), .ref (a 0)]) (ws' := wR E a (R_setS v m18)) hX (fun sz => c_X6_reads l E a sz v ((v.2.2.2.2.2.2.2.2.2.2.2.2.2.1).val) (by first | omega | exact Nat.le_of_ble_eq_true rfl) v.2.2.2.2.2.2.2.2.2.2.2.2.2.2.1) (cwV 2 hX.2.2.2.2.1 gX6_isDone_X6_reads rfl rfl rfl (by decide +kernel) ⟨Nat.le_of_ble_eq_true rfl, Nat.le_of_ble_eq_true rfl⟩) ([]) ([]) ((List.append_nil _).symm) (by rw [hm18]; exact List.append_nil _) (wR_fst E a _ _) (ci := 6) (q0 := 0) rfl rfl rfl rfl rfl (Nat.le_of_ble_eq_true rfl) dX6_isDone_51 ?_
      refine v_iadd (z := (v.2.2.2.2.2.2.2.2.2.2.2.2.2.2.2.2.1 + (Q_reads v.1 ((v.2.2.2.2.2.2.2.2.2.2.2.2.2.1).val) v.2.2.2.2.2.2.2.2.2.2.2.2.2.2.1).2)) hX dX6_isDone_54 (rfl) ?_
      obtain ⟨v19, hv19⟩ : ∃ z_ : RV, z_ = R_setSum (R_setS v m18) ((v.2.2.2.2.2.2.2.2.2.2.2.2.2.2.2.2.1 + (Q_reads v.1 ((v.2.2.2.2.2.2.2.2.2.2.2.2.2.1).val) v.2.2.2.2.2.2.2.2.2.2.2.2.2.2.1).2)) := ⟨_, rfl⟩
      refine v_put (C := RX6) (T := TX6) (N := 18) (ci := 6) (v := .int ((v.2.2.2.2.2.2.2.2.2.2.2.2.2.2.2.2.1 + (Q_reads v.1 ((v.2.2.2.2.2.2.2.2.2.2.2.2.2.1).val) v.2.2.2.2.2.2.2.2.2.2.2.2.2.2.1).2))) (ty := .int) (ws' := wR E a v19) hX in_X6 tyX6 tyX6_ok nmX6 0 rfl rfl 16 (by decide) fl_156 rfl rfl (by decide +kernel) (rfl) (rfl) (Nat.le_of_ble_eq_true rfl) dX6_isDone_55 (by rw [hv19]; exact sR_Sum E a (R_setS v m18) _) ?_
      refine v_goto (tgt := 142) hX dX6_isDone_58 (by decide) ?_
      refine v_iconst (x := (1 : Int32)) hX dX6_isDone_142 (by decide) ?_
      exact v_zret hX hr hsz dX6_isDone_143 rfl rfl (bI_narrow (true)) (congrArg bI (by (subst hv19; subst hm18; first | (simp only [R_done, R_do, c2, c4t, if_true, if_false, reduceIte, Bool.false_eq_true, reduceCtorEq, decide_true, decide_false, Bool.and_true, Bool.and_false, Bool.true_and, Bool.false_and, Bool.or_true, Bool.or_false, Bool.true_or, Bool.false_or, not_true_eq_false, not_false_eq_true, Bool.not_true, Bool.not_false, eq_self, Nat.reduceEqDiff]; done) | rfl | (simp only [R_done, R_do, c2, c4t, if_true, if_false, reduceIte, Bool.false_eq_true, reduceCtorEq, decide_true, decide_false, Bool.and_true, Bool.and_false, Bool.true_and, Bool.false_and, Bool.or_true, Bool.or_false, Bool.true_or, Bool.false_or, not_true_eq_false, not_false_eq_true, Bool.not_true, Bool.not_false, eq_self, Nat.reduceEqDiff]; rfl) | contradiction | (exfalso; omega)) : true = (R_done v).1)) (by (subst hv19; subst hm18; first | (simp only [R_done, R_do, c2, c4t, if_true, if_false, reduceIte, Bool.false_eq_true, reduceCtorEq, decide_true, decide_false, Bool.and_true, Bool.and_false, Bool.true_and, Bool.false_and, Bool.or_true, Bool.or_false, Bool.true_or, Bool.false_or, not_true_eq_false, not_false_eq_true, Bool.not_true, Bool.not_false, eq_self, Nat.reduceEqDiff]; done) | rfl | (simp only [R_done, R_do, c2, c4t, if_true, if_false, reduceIte, Bool.false_eq_true, reduceCtorEq, decide_true, decide_false, Bool.and_true, Bool.and_false, Bool.true_and, Bool.false_and, Bool.or_true, Bool.or_false, Bool.true_or, Bool.false_or, not_true_eq_false, not_false_eq_true, Bool.not_true, Bool.not_false, eq_self, Nat.reduceEqDiff]; rfl) | contradiction | (exfalso; omega)))
  · replace c2 := (nI_eq (a := (v.2.2.2.2.2.2.2.2.2.2.2.2.1).val) (b := 100) (by omega) (by omega)).mp c2
    have c2t := eq_true c2
    refine v_aload_n hX dX6_isDone_9 rfl ?_
    refine v_aload_n hX dX6_isDone_10 rfl ?_
    refine v_get (C := RX6) (T := TX6) (N := 18) (ci := 6) (v := .int (nI (v.2.2.2.2.2.2.2.2.2.2.2.2.2.1).val)) hX in_X6 0 rfl rfl 13 (by decide) fl_144 rfl rfl dX6_isDone_11 ?_
    have hb21 := (v.2.2.2.2.2.2.2.2.2.2.2.2.2.1).isLt
    refine v_aload_n hX dX6_isDone_14 rfl ?_
    refine v_get (C := RX6) (T := TX6) (N := 18) (ci := 6) (v := .int (nI (v.2.2.2.2.2.2.2.2.2.2.2.2.2.2.1).val)) hX in_X6 0 rfl rfl 14 (by decide) fl_150 rfl rfl dX6_isDone_15 ?_
    have hb22 := (v.2.2.2.2.2.2.2.2.2.2.2.2.2.2.1).isLt
    refine v_callVi (r := bI (Q_holds v.1 ((v.2.2.2.2.2.2.2.2.2.2.2.2.2.1).val) v.2.2.2.2.2.2.2.2.2.2.2.2.2.2.1)) (rest := []) (ws' := wR E a v) hX (fun sz => c_X6_holds l E a sz v ((v.2.2.2.2.2.2.2.2.2.2.2.2.2.1).val) (by first | omega | exact Nat.le_of_ble_eq_true rfl) v.2.2.2.2.2.2.2.2.2.2.2.2.2.2.1) (cwV 2 hX.2.2.2.2.1 gX6_isDone_X6_holds rfl rfl rfl (by decide +kernel) ⟨Nat.le_of_ble_eq_true rfl, Nat.le_of_ble_eq_true rfl⟩) ([]) ([]) ((List.append_nil _).symm) ((List.append_nil _).symm).symm (wR_fst E a _ _) (ci := 6) (q0 := 0) rfl rfl rfl rfl rfl (Nat.le_of_ble_eq_true rfl) dX6_isDone_18 ?_
    refine v_if_ne (tgt := 26) hX dX6_isDone_21 (by decide) (fun c23 => ?_) (fun c23 => ?_)
    · replace c23 := bI_n0.mp c23
      refine v_iconst (x := (0 : Int32)) hX dX6_isDone_26 (by decide) ?_
      refine v_istore_n (lv' := [.ref (a 0), .int ((0 : Int32))]) hX dX6_isDone_27 (Nat.le_of_ble_eq_true rfl) (Nat.le_of_ble_eq_true rfl) rfl rfl ?_
      refine v_aload_n hX dX6_isDone_28 rfl ?_
      refine v_get (C := RX6) (T := TX6) (N := 18) (ci := 6) (v := .int (nI (v.2.2.2.2.2.2.2.2.2.2.2.2.1).val)) hX in_X6 0 rfl rfl 12 (by decide) fl_138 rfl rfl dX6_isDone_29 ?_
      have hb24 := (v.2.2.2.2.2.2.2.2.2.2.2.2.1).isLt
      refine v_bipush (x := (114 : Int32)) hX dX6_isDone_32 (by decide) ?_
      refine v_icmp_ne (tgt := 61) hX dX6_isDone_34 (by decide) (fun c25 => ?_) (fun c25 => ?_)
      · replace c25 := (not_congr (nI_eq (a := (v.2.2.2.2.2.2.2.2.2.2.2.2.1).val) (b := 114) (by omega) (by omega))).mp c25
        refine v_aload_n hX dX6_isDone_61 rfl ?_
        refine v_get (C := RX6) (T := TX6) (N := 18) (ci := 6) (v := .int (nI (v.2.2.2.2.2.2.2.2.2.2.2.2.1).val)) hX in_X6 0 rfl rfl 12 (by decide) fl_138 rfl rfl dX6_isDone_62 ?_
        have hb26 := (v.2.2.2.2.2.2.2.2.2.2.2.2.1).isLt
        refine v_bipush (x := (119 : Int32)) hX dX6_isDone_65 (by decide) ?_
        refine v_icmp_ne (tgt := 90) hX dX6_isDone_67 (by decide) (fun c27 => ?_) (fun c27 => ?_)
        · replace c27 := (not_congr (nI_eq (a := (v.2.2.2.2.2.2.2.2.2.2.2.2.1).val) (b := 119) (by omega) (by omega))).mp c27
          refine v_aload_n hX dX6_isDone_90 rfl ?_
          refine v_get (C := RX6) (T := TX6) (N := 18) (ci := 6) (v := .int (nI (v.2.2.2.2.2.2.2.2.2.2.2.2.1).val)) hX in_X6 0 rfl rfl 12 (by decide) fl_138 rfl rfl dX6_isDone_91 ?_
          have hb28 := (v.2.2.2.2.2.2.2.2.2.2.2.2.1).isLt
          refine v_bipush (x := (100 : Int32)) hX dX6_isDone_94 (by decide) ?_
          refine v_icmp_ne (tgt := 115) hX dX6_isDone_96 (by decide) (fun c29 => ?_) (fun c29 => ?_)
          · replace c29 := (not_congr (nI_eq (a := (v.2.2.2.2.2.2.2.2.2.2.2.2.1).val) (b := 100) (by omega) (by omega))).mp c29
            exfalso; omega
          · replace c29 := (nI_eq (a := (v.2.2.2.2.2.2.2.2.2.2.2.2.1).val) (b := 100) (by omega) (by omega)).mp c29
            have c29t := eq_true c29
            refine v_aload_n hX dX6_isDone_99 rfl ?_
            refine v_aload_n hX dX6_isDone_100 rfl ?_
            refine v_get (C := RX6) (T := TX6) (N := 18) (ci := 6) (v := .int (nI (v.2.2.2.2.2.2.2.2.2.2.2.2.2.1).val)) hX in_X6 0 rfl rfl 13 (by decide) fl_144 rfl rfl dX6_isDone_101 ?_
            have hb30 := (v.2.2.2.2.2.2.2.2.2.2.2.2.2.1).isLt
            refine v_aload_n hX dX6_isDone_104 rfl ?_
            refine v_get (C := RX6) (T := TX6) (N := 18) (ci := 6) (v := .int (nI (v.2.2.2.2.2.2.2.2.2.2.2.2.2.2.1).val)) hX in_X6 0 rfl rfl 14 (by decide) fl_150 rfl rfl dX6_isDone_105 ?_
            have hb31 := (v.2.2.2.2.2.2.2.2.2.2.2.2.2.2.1).isLt
            obtain ⟨m32, hm32⟩ : ∃ z_ : MV, z_ = ((Q_drops v.1 ((v.2.2.2.2.2.2.2.2.2.2.2.2.2.1).val) v.2.2.2.2.2.2.2.2.2.2.2.2.2.2.1).1) := ⟨_, rfl⟩
            refine v_callVi (r := (Q_drops v.1 ((v.2.2.2.2.2.2.2.2.2.2.2.2.2.1).val) v.2.2.2.2.2.2.2.2.2.2.2.2.2.2.1).2) (rest := []) (ws' := wR E a (R_setS v m32)) hX (fun sz => c_X6_drops l E a sz v ((v.2.2.2.2.2.2.2.2.2.2.2.2.2.1).val) (by first | omega | exact Nat.le_of_ble_eq_true rfl) v.2.2.2.2.2.2.2.2.2.2.2.2.2.2.1) (cwV 2 hX.2.2.2.2.1 gX6_isDone_X6_drops rfl rfl rfl (by decide +kernel) ⟨Nat.le_of_ble_eq_true rfl, Nat.le_of_ble_eq_true rfl⟩) ([]) ([]) ((List.append_nil _).symm) (by rw [hm32]; exact List.append_nil _) (wR_fst E a _ _) (ci := 6) (q0 := 0) rfl rfl rfl rfl rfl (Nat.le_of_ble_eq_true rfl) dX6_isDone_108 ?_
            refine v_istore_n (lv' := [.ref (a 0), .int ((Q_drops v.1 ((v.2.2.2.2.2.2.2.2.2.2.2.2.2.1).val) v.2.2.2.2.2.2.2.2.2.2.2.2.2.2.1).2)]) hX dX6_isDone_111 (Nat.le_of_ble_eq_true rfl) (Nat.le_of_ble_eq_true rfl) rfl rfl ?_
            refine v_goto (tgt := 142) hX dX6_isDone_112 (by decide) ?_
            refine v_iconst (x := (1 : Int32)) hX dX6_isDone_142 (by decide) ?_
            exact v_zret hX hr hsz dX6_isDone_143 rfl rfl (bI_narrow (true)) (congrArg bI (by (subst hm32; first | (simp only [R_done, R_do, c2t, c23, c25, c27, c29t, if_true, if_false, reduceIte, Bool.false_eq_true, reduceCtorEq, decide_true, decide_false, Bool.and_true, Bool.and_false, Bool.true_and, Bool.false_and, Bool.or_true, Bool.or_false, Bool.true_or, Bool.false_or, not_true_eq_false, not_false_eq_true, Bool.not_true, Bool.not_false, eq_self, Nat.reduceEqDiff]; done) | rfl | (simp only [R_done, R_do, c2t, c23, c25, c27, c29t, if_true, if_false, reduceIte, Bool.false_eq_true, reduceCtorEq, decide_true, decide_false, Bool.and_true, Bool.and_false, Bool.true_and, Bool.false_and, Bool.or_true, Bool.or_false, Bool.true_or, Bool.false_or, not_true_eq_false, not_false_eq_true, Bool.not_true, Bool.not_false, eq_self, Nat.reduceEqDiff]; rfl) | contradiction | (exfalso; omega)) : true = (R_done v).1)) (by (subst hm32; first | (simp only [R_done, R_do, c2t, c23, c25, c27, c29t, if_true, if_false, reduceIte, Bool.false_eq_true, reduceCtorEq, decide_true, decide_false, Bool.and_true, Bool.and_false, Bool.true_and, Bool.false_and, Bool.or_true, Bool.or_false, Bool.true_or, Bool.false_or, not_true_eq_false, not_false_eq_true, Bool.not_true, Bool.not_false, eq_self, Nat.reduceEqDiff]; done) | rfl | (simp only [R_done, R_do, c2t, c23, c25, c27, c29t, if_true, if_false, reduceIte, Bool.false_eq_true, reduceCtorEq, decide_true, decide_false, Bool.and_true, Bool.and_false, Bool.true_and, Bool.false_and, Bool.or_true, Bool.or_false, Bool.true_or, Bool.false_or, not_true_eq_false, not_false_eq_true, Bool.not_true, Bool.not_false, eq_self, Nat.reduceEqDiff]; rfl) | contradiction | (exfalso; omega)))
        · replace c27 := (nI_eq (a := (v.2.2.2.2.2.2.2.2.2.2.2.2.1).val) (b := 119) (by omega) (by omega)).mp c27
          have c27t := eq_true c27
          exfalso; omega
      · replace c25 := (nI_eq (a := (v.2.2.2.2.2.2.2.2.2.2.2.2.1).val) (b := 114) (by omega) (by omega)).mp c25
        have c25t := eq_true c25
        exfalso; omega
    · replace c23 := bI_0.mp c23
      refine v_iconst (x := (0 : Int32)) hX dX6_isDone_24 (by decide) ?_
      exact v_zret hX hr hsz dX6_isDone_25 rfl rfl (bI_narrow (false)) (congrArg bI (by (first | (simp only [R_done, R_do, c2t, c23, if_true, if_false, reduceIte, Bool.false_eq_true, reduceCtorEq, decide_true, decide_false, Bool.and_true, Bool.and_false, Bool.true_and, Bool.false_and, Bool.or_true, Bool.or_false, Bool.true_or, Bool.false_or, not_true_eq_false, not_false_eq_true, Bool.not_true, Bool.not_false, eq_self, Nat.reduceEqDiff]; done) | rfl | (simp only [R_done, R_do, c2t, c23, if_true, if_false, reduceIte, Bool.false_eq_true, reduceCtorEq, decide_true, decide_false, Bool.and_true, Bool.and_false, Bool.true_and, Bool.false_and, Bool.or_true, Bool.or_false, Bool.true_or, Bool.false_or, not_true_eq_false, not_false_eq_true, Bool.not_true, Bool.not_false, eq_self, Nat.reduceEqDiff]; rfl) | contradiction | (exfalso; omega)) : false = (R_done v).1)) (by (first | (simp only [R_done, R_do, c2t, c23, if_true, if_false, reduceIte, Bool.false_eq_true, reduceCtorEq, decide_true, decide_false, Bool.and_true, Bool.and_false, Bool.true_and, Bool.false_and, Bool.or_true, Bool.or_false, Bool.true_or, Bool.false_or, not_true_eq_false, not_false_eq_true, Bool.not_true, Bool.not_false, eq_self, Nat.reduceEqDiff]; done) | rfl | (simp only [R_done, R_do, c2t, c23, if_true, if_false, reduceIte, Bool.false_eq_true, reduceCtorEq, decide_true, decide_false, Bool.and_true, Bool.and_false, Bool.true_and, Bool.false_and, Bool.or_true, Bool.or_false, Bool.true_or, Bool.false_or, not_true_eq_false, not_false_eq_true, Bool.not_true, Bool.not_false, eq_self, Nat.reduceEqDiff]; rfl) | contradiction | (exfalso; omega)))
