theorem lw_step {L i : Nat} (hL : L ≤ 2560) (hi : i ≤ L) (h : ¬ nI L - 5 < nI i) : i + 5 ≤ L := by
  rw [Int32.lt_iff_toInt_lt, show nI L - (5 : Int32) = nI L - nI 5 from rfl, pk_sub_toInt (by omega) (by omega), nI_toInt (by omega)] at h
  omega
set_option maxHeartbeats 4000000 in
theorem law_loop {p : Program} {l : Launch} {e : Env} {s : State} {m : MethodId} {below : List Frame} {meth : Method} {c : Code} {E : ET} {b0 L : Nat} {xs : Nat → Int32} (hL : LX p s m meth c E b0 L xs) (hr : meth.sig.returnType = ret) {b : Nat → Nat → Nat} {a : Nat → Nat} :
    ∀ (n i : Nat), L + 1 ≤ i + n → i ≤ L → ∀ (x : XV) (r : RV), XR x r → VL p l e s m below meth c E b0 (wX E b x ++ wR E a r) [.ref b0, .ref (b 0 0), .ref (a 0), .int (nI i)] 18 [] := by
  have hX := hL.1
  have hLb := hL.2.2.2
  have hbA : ¬ (fun q : Nat => s.heap.size ≤ q) b0 := Nat.not_le.mpr hL.2.2.1
  intro n
  induction n with
  | zero => intro i h1 h2; exact absurd h1 (by omega)
  | succ n ih =>
    intro i h1 h2 x r h
    refine vn_iload_n hX dL_law_18 rfl ?_
    refine vn_aload_n hX dL_law_19 rfl ?_
    refine vn_slen hX hL.2.1 hL.2.2.1 hbA dL_law_20 ?_
    refine vn_iconst (x := (5 : Int32)) hX dL_law_21 (by decide) ?_
    refine vn_isub (z := nI L - 5) hX dL_law_22 rfl ?_
    refine vn_icmp_gt (tgt := 756) hX dL_law_23 (by decide) (fun c1 => ?_) (fun c1 => ?_)
    · intro H locs ls hP hD hS hl
      refine lv_iconst (v := 1) hX.1 hX.2.1 dL_law_756 (by decide) ?_
      refine va_forget (fun q hq => hS.2.2 q hq) ?_
      refine W.widen (k := 600000) (n := 7302249) (by decide) (by decide) ?_
      exact lw_ret hX.1 hX.2.1 hr hX.2.2.2.2.2.2.2.1 dL_law_757
    · have hi := lw_step hLb h2 c1
      have back : ∀ x2 r2, XR x2 r2 → VL p l e s m below meth c E b0 (wX E b x2 ++ wR E a r2) [.ref b0, .ref (b 0 0), .ref (a 0), .int (nI i)] 750 [] := by
        intro x2 r2 h
        refine vn_iinc (y := nI (i + 5)) (lv' := [.ref b0, .ref (b 0 0), .ref (a 0), .int (nI (i + 5))]) hX dL_law_750 rfl (nI_add i 5) (Nat.le_of_ble_eq_true rfl) (Nat.le_of_ble_eq_true rfl) rfl rfl ?_
        refine vn_goto (tgt := 18) hX dL_law_753 (by decide) ?_
        exact ih (i + 5) (by omega) hi x2 r2 h
      refine vn_aload_n hX dL_law_26 rfl ?_
      refine vn_iload_n hX dL_law_27 rfl ?_
      refine vn_sld (i := i) hX hL.2.1 hL.2.2.1 hbA (by omega) (by omega) dL_law_28 ?_
      refine vn_bipush (x := (31 : Int32)) hX dL_law_29 (by decide) ?_
      obtain ⟨j, hj, hj2⟩ := and31 (xs i)
      refine vn_iand (z := nI j) hX dL_law_31 hj2 ?_
      by_cases j0 : j = 0
      · refine vn_tabIn (tgt := 136) (off := 104) hX dL_law_32 (by rw [j0]; decide) (by rw [j0]; decide) (by rw [j0]; decide) (by decide) ?_
        exact law_case0 hL h hi back
      by_cases j1 : j = 1
      · refine vn_tabIn (tgt := 169) (off := 137) hX dL_law_32 (by rw [j1]; decide) (by rw [j1]; decide) (by rw [j1]; decide) (by decide) ?_
        exact law_case1 hL h hi back
      by_cases j2 : j = 2
      · refine vn_tabIn (tgt := 212) (off := 180) hX dL_law_32 (by rw [j2]; decide) (by rw [j2]; decide) (by rw [j2]; decide) (by decide) ?_
        exact law_case2 hL h hi back
      by_cases j3 : j = 3
      · refine vn_tabIn (tgt := 245) (off := 213) hX dL_law_32 (by rw [j3]; decide) (by rw [j3]; decide) (by rw [j3]; decide) (by decide) ?_
        exact law_case3 hL h hi back
      by_cases j4 : j = 4
      · refine vn_tabIn (tgt := 268) (off := 236) hX dL_law_32 (by rw [j4]; decide) (by rw [j4]; decide) (by rw [j4]; decide) (by decide) ?_
        exact law_case4 hL h hi back
      by_cases j5 : j = 5
      · refine vn_tabIn (tgt := 301) (off := 269) hX dL_law_32 (by rw [j5]; decide) (by rw [j5]; decide) (by rw [j5]; decide) (by decide) ?_
        exact law_case5 hL h hi back
      by_cases j6 : j = 6
      · refine vn_tabIn (tgt := 326) (off := 294) hX dL_law_32 (by rw [j6]; decide) (by rw [j6]; decide) (by rw [j6]; decide) (by decide) ?_
        exact law_case6 hL h hi back
      by_cases j7 : j = 7
      · refine vn_tabIn (tgt := 339) (off := 307) hX dL_law_32 (by rw [j7]; decide) (by rw [j7]; decide) (by rw [j7]; decide) (by decide) ?_
        exact law_case7 hL h hi back
      by_cases j8 : j = 8
      · refine vn_tabIn (tgt := 352) (off := 320) hX dL_law_32 (by rw [j8]; decide) (by rw [j8]; decide) (by rw [j8]; decide) (by decide) ?_
        exact law_case8 hL h hi back
      by_cases j9 : j = 9
      · refine vn_tabIn (tgt := 375) (off := 343) hX dL_law_32 (by rw [j9]; decide) (by rw [j9]; decide) (by rw [j9]; decide) (by decide) ?_
        exact law_case9 hL h hi back
      by_cases j10 : j = 10
      · refine vn_tabIn (tgt := 388) (off := 356) hX dL_law_32 (by rw [j10]; decide) (by rw [j10]; decide) (by rw [j10]; decide) (by decide) ?_
        exact law_case10 hL h hi back
      by_cases j11 : j = 11
      · refine vn_tabIn (tgt := 401) (off := 369) hX dL_law_32 (by rw [j11]; decide) (by rw [j11]; decide) (by rw [j11]; decide) (by decide) ?_
        exact law_case11 hL h hi back
      by_cases j12 : j = 12
      · refine vn_tabIn (tgt := 414) (off := 382) hX dL_law_32 (by rw [j12]; decide) (by rw [j12]; decide) (by rw [j12]; decide) (by decide) ?_
        exact law_case12 hL h hi back
      by_cases j13 : j = 13
      · refine vn_tabIn (tgt := 447) (off := 415) hX dL_law_32 (by rw [j13]; decide) (by rw [j13]; decide) (by rw [j13]; decide) (by decide) ?_
        exact law_case13 hL h hi back
      by_cases j14 : j = 14
      · refine vn_tabIn (tgt := 490) (off := 458) hX dL_law_32 (by rw [j14]; decide) (by rw [j14]; decide) (by rw [j14]; decide) (by decide) ?_
        exact law_case14 hL h hi back
      by_cases j15 : j = 15
      · refine vn_tabIn (tgt := 523) (off := 491) hX dL_law_32 (by rw [j15]; decide) (by rw [j15]; decide) (by rw [j15]; decide) (by decide) ?_
        exact law_case15 hL h hi back
      by_cases j16 : j = 16
      · refine vn_tabIn (tgt := 556) (off := 524) hX dL_law_32 (by rw [j16]; decide) (by rw [j16]; decide) (by rw [j16]; decide) (by decide) ?_
        exact law_case16 hL h hi back
      by_cases j17 : j = 17
      · refine vn_tabIn (tgt := 589) (off := 557) hX dL_law_32 (by rw [j17]; decide) (by rw [j17]; decide) (by rw [j17]; decide) (by decide) ?_
        exact law_case17 hL h hi back
      by_cases j18 : j = 18
      · refine vn_tabIn (tgt := 622) (off := 590) hX dL_law_32 (by rw [j18]; decide) (by rw [j18]; decide) (by rw [j18]; decide) (by decide) ?_
        exact law_case18 hL h hi back
      by_cases j19 : j = 19
      · refine vn_tabIn (tgt := 691) (off := 659) hX dL_law_32 (by rw [j19]; decide) (by rw [j19]; decide) (by rw [j19]; decide) (by decide) ?_
        exact law_case19 hL h hi back
      by_cases j20 : j = 20
      · refine vn_tabIn (tgt := 714) (off := 682) hX dL_law_32 (by rw [j20]; decide) (by rw [j20]; decide) (by rw [j20]; decide) (by decide) ?_
        exact law_case20 hL h hi back
      by_cases j21 : j = 21
      · refine vn_tabIn (tgt := 727) (off := 695) hX dL_law_32 (by rw [j21]; decide) (by rw [j21]; decide) (by rw [j21]; decide) (by decide) ?_
        exact law_case21 hL h hi back
      refine vn_tabOut (tgt := 750) hX dL_law_32 (Or.inr (by rw [nI_toInt (by omega)]; omega)) (by decide) ?_
      exact back x r h
