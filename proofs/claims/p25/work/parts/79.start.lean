theorem arr_p {s : State} {ty : FieldType} {args : Array Value} (h : (Cond.arrayClass ty).before args s = true) (hp : refKind ty = false) : ∃ cA, ArrOfT s cA ty ∧ va_RA s cA ty := by
  obtain ⟨cA, k, comp, h1, h2, h3⟩ := Cond.arrayClass_spec h
  refine ⟨cA, fun n z => ⟨fun k h => (by cases h), k, h2, comp, h3⟩, ?_⟩
  cases ty <;> first | exact h1 | (exact absurd hp (by decide)) | cases hp
theorem arr_o {s : State} {C : String} {args : Array Value} (h : (Cond.arrayOver (.object C)).before args s = true) : ∃ cA, ArrOfT s cA (.object C) ∧ va_RA s cA (.object C) := by
  obtain ⟨comp, cA, k, h1, _, h2, h3, h4⟩ := Cond.arrayOver_spec h
  exact ⟨cA, fun n z => ⟨fun k h => (by cases h), k, h2, comp, h3⟩, k, comp, h2, h3, h1, h4⟩
set_option maxHeartbeats 4000000 in
set_option maxRecDepth 100000 in
theorem whole_start {p : Program} {e : Env} {s : State} {m : MethodId} {below : List Frame} {meth : Method} {c : Code} (l : Launch) (hflags : l.flags = flags0) {b L : Nat} {xs : Nat → Int32} (hL : L ≤ 260) (C0 : lw_At p s m meth c b L xs) : W p l e room_1 s m #[Value.ref b] below meth c s.heap [] 0 0 (lw_Z below #[Value.ref b] s) (entryFrame m ([Value.ref b] : List Value).toArray 8) := by
  obtain ⟨hx, hb, hr, hml, hown, hts, hX, hbl, hlocks, hgv⟩ := id C0
  obtain ⟨c0, iS0, hKn0⟩ := u_known (C := RX0) (T := TX0) (N := 5) (n := 5) hts inX0 (hts (.instantiable RX0 5) (List.mem_of_getElem? (i := 31) (by decide +kernel)))
  obtain ⟨c1, iS1, hKn1⟩ := u_known (C := RX1) (T := TX1) (N := 3) (n := 3) hts inX1 (hts (.instantiable RX1 3) (List.mem_of_getElem? (i := 37) (by decide +kernel)))
  obtain ⟨c2, iS2, hKn2⟩ := u_known (C := RX2) (T := TX2) (N := 3) (n := 3) hts inX2 (hts (.instantiable RX2 3) (List.mem_of_getElem? (i := 108) (by decide +kernel)))
  obtain ⟨c3, iS3, hKn3⟩ := u_known (C := RX3) (T := TX3) (N := 6) (n := 6) hts inX3 (hts (.instantiable RX3 6) (List.mem_of_getElem? (i := 24) (by decide +kernel)))
  obtain ⟨c4, iS4, hKn4⟩ := u_known (C := RX4) (T := TX4) (N := 8) (n := 8) hts inX4 (hts (.instantiable RX4 8) (List.mem_of_getElem? (i := 128) (by decide +kernel)))
  obtain ⟨c5, iS5, hKn5⟩ := u_known (C := RX5) (T := TX5) (N := 9) (n := 9) hts inX5 (hts (.instantiable RX5 9) (List.mem_of_getElem? (i := 16) (by decide +kernel)))
  obtain ⟨dC, dI, hKc⟩ : ∃ (dC : Nat → ClassId) (dI : Nat → Nat → Nat), ∀ (k : Nat) (q : vw_C), vwCl[k]? = some q → u_Kn s q.1 q.2.1 q.2.2 (dC k) (dI k) := by
    refine ⟨fun k => if k = 0 then c0 else if k = 1 then c1 else if k = 2 then c2 else if k = 3 then c3 else if k = 4 then c4 else c5, fun k => if k = 0 then iS0 else if k = 1 then iS1 else if k = 2 then iS2 else if k = 3 then iS3 else if k = 4 then iS4 else iS5, ?_⟩
    intro k q hq
    match k, hq with
    | 0, hq => cases hq; exact hKn0
    | 1, hq => cases hq; exact hKn1
    | 2, hq => cases hq; exact hKn2
    | 3, hq => cases hq; exact hKn3
    | 4, hq => cases hq; exact hKn4
    | 5, hq => cases hq; exact hKn5
    | k + 6, hq => simp [vwCl] at hq
  obtain ⟨a0, ha0⟩ := arr_p (hts (Cond.arrayClass .int) (List.mem_of_getElem? (i := 54) (by decide +kernel))) rfl
  obtain ⟨a1, ha1⟩ := arr_p (hts (Cond.arrayClass .boolean) (List.mem_of_getElem? (i := 55) (by decide +kernel))) rfl
  obtain ⟨a2, ha2⟩ := arr_p (hts (Cond.arrayClass .char) (List.mem_of_getElem? (i := 156) (by decide +kernel))) rfl
  have ho3 := hts (Cond.arrayOver (.object RX0)) (List.mem_of_getElem? (i := 30) (by decide +kernel))
  have ho4 := hts (Cond.arrayOver (.object RX3)) (List.mem_of_getElem? (i := 114) (by decide +kernel))
  obtain ⟨a3, ha3⟩ := arr_o ho3
  obtain ⟨a4, ha4⟩ := arr_o ho4
  obtain ⟨E, hE⟩ : ∃ E : ET, E = ((dC, dI), fun k => if k = 0 then a0 else if k = 1 then a1 else if k = 2 then a2 else if k = 3 then a3 else a4) := ⟨_, rfl⟩
  have hK : va_K E.1 vwCl (tysE E) s := by
    subst hE
    refine ⟨hKc, fun k q hq => ?_⟩
    match k, hq with
    | 0, hq => cases hq; exact ha0
    | 1, hq => cases hq; exact ha1
    | 2, hq => cases hq; exact ha2
    | 3, hq => cases hq; exact ha3
    | 4, hq => cases hq; exact ha4
    | k + 5, hq => simp [tysE] at hq
  have hN : Nst s := by
    intro w hw
    simp only [nsts, List.mem_cons, List.not_mem_nil, or_false] at hw
    rcases hw with rfl | rfl | rfl | rfl
    · exact va_Nw.of rfl (hts _ (List.mem_of_getElem? (i := 38) (by decide +kernel)))
    · exact va_Nw.of rfl (hts _ (List.mem_of_getElem? (i := 129) (by decide +kernel)))
    · exact va_Nw.of rfl (hts _ (List.mem_of_getElem? (i := 383) (by decide +kernel)))
    · exact va_Nw.of rfl (hts _ (List.mem_of_getElem? (i := 226) (by decide +kernel)))
  have hX0 : Xc p s m #[Value.ref b] meth c E 8 (fun q => s.heap.size ≤ q) code RL wsL_law := ⟨hx, hb, hml, hown, fun w hw => hts w (wsL_law_in w hw), hK, fun q h => h, hlocks, hN⟩
  have hLX : LX p s m meth c E b L xs := ⟨hX0, hX, hbl, hL⟩
  have hO : va_AO RX0 s ∧ va_AO RX3 s := ⟨va_AO.of ho3, va_AO.of ho4⟩
  have wl := fun w hw => wsL_law_in w hw
  have K : VC p l e room_1 s m #[Value.ref b] below meth c E 8 (fun q => s.heap.size ≤ q) (lw_Z below #[Value.ref b] s) 0 0 [] [.ref b] 0 [] := by
    refine vn_new (C := RX5) (T := TX5) (N := 9) (ci := 5) (fs := [.null, .null, .null, .null, .null, .int 0, .int 0, .int 0, .int 0]) hX0 inlX5 tyX5 tyX5_ok (by decide +kernel : Cond.classLink RL 15 RX5 ∈ wsL_law) (by decide +kernel : Cond.instantiable RX5 9 ∈ wsL_law) (by decide +kernel : Cond.initialized RX5 ∈ wsL_law) rfl (fun j hj => by rcases (show j = 0 ∨ j = 1 ∨ j = 2 ∨ j = 3 ∨ j = 4 ∨ j = 5 ∨ j = 6 ∨ j = 7 ∨ j = 8 by omega) with rfl | rfl | rfl | rfl | rfl | rfl | rfl | rfl | rfl <;> rfl) (Nat.le_of_ble_eq_true rfl) (Nat.le_of_ble_eq_true rfl) dL_law_0 (fun q5 => ?_)
    refine vn_dup hX0 dL_law_3 ?_
    refine vn_callI (n := 0) (pre := []) (wc := [(q5, .inr (5, [.null, .null, .null, .null, .null, .int 0, .int 0, .int 0, .int 0]))]) hX0 hO (fun sz => c_X5_init l E q5 sz) (cwI 0 hX0.2.2.2.2.1 gL_law_X5_init rfl rfl rfl (hX0.2.2.2.2.1 _ (by decide +kernel : Cond.initialized RX5 ∈ wsL_law)) (hX0.2.2.2.2.1 _ (by decide +kernel : Cond.methodLink RL 69 yX5_init ∈ wsL_law)) (hX0.2.2.2.2.1 _ (by decide +kernel : Cond.instanceMethod yX5_init ∈ wsL_law)) rfl (by decide +kernel) ⟨Nat.le_of_ble_eq_true rfl, Nat.le_of_ble_eq_true rfl⟩) (Nat.le_of_ble_eq_true rfl) ⟨Nat.le_of_ble_eq_true rfl, Nat.le_of_ble_eq_true rfl⟩ dL_law_4 (fun _ hu => ?_)
    obtain ⟨bx, hk, rfl⟩ := hu
    subst hk
    refine vn_astore_n (lv' := [.ref b, .ref (bx 0 0)]) hX0 dL_law_7 (Nat.le_of_ble_eq_true rfl) (Nat.le_of_ble_eq_true rfl) rfl rfl ?_
    refine vn_new (C := RX5) (T := TX5) (N := 9) (ci := 5) (fs := [.null, .null, .null, .null, .null, .int 0, .int 0, .int 0, .int 0]) hX0 inlX5 tyX5 tyX5_ok (by decide +kernel : Cond.classLink RL 15 RX5 ∈ wsL_law) (by decide +kernel : Cond.instantiable RX5 9 ∈ wsL_law) (by decide +kernel : Cond.initialized RX5 ∈ wsL_law) rfl (fun j hj => by rcases (show j = 0 ∨ j = 1 ∨ j = 2 ∨ j = 3 ∨ j = 4 ∨ j = 5 ∨ j = 6 ∨ j = 7 ∨ j = 8 by omega) with rfl | rfl | rfl | rfl | rfl | rfl | rfl | rfl | rfl <;> rfl) (Nat.le_of_ble_eq_true rfl) (Nat.le_of_ble_eq_true rfl) dL_law_8 (fun q6 => ?_)
    refine vn_dup hX0 dL_law_11 ?_
    refine vn_callI (n := 0) (pre := [] ++ wX E bx iX) (wc := [(q6, .inr (5, [.null, .null, .null, .null, .null, .int 0, .int 0, .int 0, .int 0]))]) hX0 hO (fun sz => c_X5_init l E q6 sz) (cwI 0 hX0.2.2.2.2.1 gL_law_X5_init rfl rfl rfl (hX0.2.2.2.2.1 _ (by decide +kernel : Cond.initialized RX5 ∈ wsL_law)) (hX0.2.2.2.2.1 _ (by decide +kernel : Cond.methodLink RL 69 yX5_init ∈ wsL_law)) (hX0.2.2.2.2.1 _ (by decide +kernel : Cond.instanceMethod yX5_init ∈ wsL_law)) rfl (by decide +kernel) ⟨Nat.le_of_ble_eq_true rfl, Nat.le_of_ble_eq_true rfl⟩) (Nat.le_of_ble_eq_true rfl) ⟨Nat.le_of_ble_eq_true rfl, Nat.le_of_ble_eq_true rfl⟩ dL_law_12 (fun _ hu => ?_)
    obtain ⟨bz, hk, rfl⟩ := hu
    subst hk
    refine vn_astore_n (lv' := [.ref b, .ref (bx 0 0), .ref (bz 0 0)]) hX0 dL_law_15 (Nat.le_of_ble_eq_true rfl) (Nat.le_of_ble_eq_true rfl) rfl rfl ?_
    refine vn_iconst (x := (0 : Int32)) hX0 dL_law_16 (by decide) ?_
    refine vn_istore_n (lv' := [.ref b, .ref (bx 0 0), .ref (bz 0 0), .int (nI 0)]) hX0 dL_law_17 (Nat.le_of_ble_eq_true rfl) (Nat.le_of_ble_eq_true rfl) rfl rfl ?_
    exact law_loop hLX hr 50 0 rfl iX iX rfl JV_i
  rw [lg_entry_eq]
  exact K s.heap [] _ (fun k q h => by simp at h) ⟨fun i j p q h => by simp at h, fun k q h => by simp at h⟩ va_S.rf (lv_entry ([.ref b]) (n := 8) (Nat.le_of_ble_eq_true rfl))
