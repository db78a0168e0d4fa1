/-! THE CLAIM OUT OF ONE WALK OF THE LAW'S BODY. Your part is whole_start (and what it stands on); all else here is the same for every law, but numbers. -/
def R_law : String := "SnoopFilterLaw"
def lw_P (b : Addr) (xs : List Int32) (args : Array Value) (s : State) : Prop := args = #[.ref b] ∧ s.IntsAt b xs ∧ xs.length ≤ 260 ∧ (Jvm.Cond.and given_1 narrow_1).before args s = true
def lw_Q (_ : Array Value) (s : State) (o : Outcome) (t : State) : Prop := o = .returned (some (.int 1)) ∧ Framed s o t [] 600000 7302250
def lw_Z (below : List Frame) (a : Array Value) (s : State) : State → Prop := fun t => ∃ o, t.status = .running ∧ Ended t below o ∧ lw_Q a s o t
/-- the law's own end, with 1 on the stack, nothing written that was there before, its room as the claim has it -/
theorem lw_ret {p : Program} {l : Launch} {e : Env} {s : State} {m : MethodId} {below : List Frame} {meth : Method} {c : Code} {b : Nat} (hx : p.tables.exec = Jvm.exec) (hb : c.code = code) (hr : meth.sig.returnType = ret) (hlocks : meth.locks = false) {pc : Nat} {H : Heap} {ls : Array Slot} (hdg : decode code pc = .ok (.ireturn, 1)) : W p l e room_1 s m #[Value.ref b] below meth c H [] 600000 7302250 (lw_Z below #[Value.ref b] s) (F0 m pc ls [.int 1]) := by
  intro T hT X
  obtain ⟨fs, hret, hrun, hended, hW, hframe⟩ := X.leave (v := some (.int 1)) (hlocks := hlocks) (fun h => by rw [hr] at h; cases h)
  have hmeth' : T.vm.method? m = some meth := X.method'
  refine ⟨T.setFrames fs, ?_, .returned (some (.int 1)), hrun, hended, rfl, ⟨_, rfl⟩, hW, hframe⟩
  jvm_step X.here [X.here.top, hx, hb, hdg, hmeth', hr, ret, narrow_b1]
  (try refine ⟨rfl, ?_⟩); (try refine ⟨rfl, ?_⟩)
  first | (intro acts; rw [hret _ acts rfl rfl rfl]) | rw [hret _ _ rfl rfl rfl]
  exact Steps.refl _
/-- what holds at the law's entry: the machine, the code, the tables' words (any of lw_tbl by 'hts w (by decide +kernel)'), the script of L ints xs at the cell b, what the Statement gives of the start (any of its parts by flat_of_before) -/
def lw_At (p : Program) (s : State) (m : MethodId) (meth : Method) (c : Code) (b L : Nat) (xs : Nat → Int32) : Prop :=
  p.tables.exec = Jvm.exec ∧ c.code = code ∧ meth.sig.returnType = ret ∧ c.maxLocals = 8 ∧ s.vm.findClass R_law = some m.cls ∧ (∀ w ∈ lw_tbl, w.before #[Value.ref b] s = true) ∧ va_X b L xs s s.heap ∧ b < s.heap.size ∧ meth.locks = false ∧ (Jvm.Cond.and given_1 narrow_1).before #[Value.ref b] s = true
/-! ===== rows with room, for the law ===== -/
section VL1
variable {p : Program} {l : Launch} {e : Env} {R : Room} {s : State} {m : MethodId} {args : Array Value} {below : List Frame} {meth : Method} {c : Code} {E : ET} {nL : Nat} {A : Nat → Prop} {Q : State → Prop} {ce sl : Nat} {cc : ByteArray} {own : String} {Ts : List Cond} {ws ws' : va_W} {lv lv' : List Value} {pc : Nat} {st rest : List Value}
theorem vn_iload (hX : Xc p s m args meth c E nL A cc own Ts) {i : Nat} {x : Int32} (hd : decode cc pc = .ok (.iload i, 2)) (hl : lv[i]? = some (.int x)) (k : VC p l e R s m args below meth c E nL A Q ce sl ws lv (pc + 2) (.int x :: st)) : VC p l e R s m args below meth c E nL A Q ce sl ws lv pc st :=
  fun H locs ls hP hD hS h => lv_iload hX.1 hX.2.1 hd (li_has h hl) (k H locs ls hP hD hS h)
theorem vn_istore (hX : Xc p s m args meth c E nL A cc own Ts) {i : Nat} {x : Int32} {lv' : List Value} (hd : decode cc pc = .ok (.istore i, 2)) (hi : i < nL) (hi2 : i ≤ lv.length) (hc : (lv.all fun w => w.category == 1) = true) (hl : lset lv i (.int x) = lv') (k : VC p l e R s m args below meth c E nL A Q ce sl ws lv' (pc + 2) st) : VC p l e R s m args below meth c E nL A Q ce sl ws lv pc (.int x :: st) :=
  fun H locs ls hP hD hS h => lv_istore hX.1 hX.2.1 hd h hi rfl (fun ls' h' => k H locs ls' hP hD hS (hl ▸ li_store hi2 hc rfl h'))
theorem vn_astore_n (hX : Xc p s m args meth c E nL A cc own Ts) {i : Fin 4} {x : Nat} {lv' : List Value} (hd : decode cc pc = .ok (.astore_n i, 1)) (hi : (i : Nat) < nL) (hi2 : (i : Nat) ≤ lv.length) (hc : (lv.all fun w => w.category == 1) = true) (hl : lset lv (i : Nat) (.ref x) = lv') (k : VC p l e R s m args below meth c E nL A Q ce sl ws lv' (pc + 1) st) : VC p l e R s m args below meth c E nL A Q ce sl ws lv pc (.ref x :: st) :=
  fun H locs ls hP hD hS h => lv_astore_n hX.1 hX.2.1 hd rfl h hi rfl (fun ls' h' => k H locs ls' hP hD hS (hl ▸ li_store hi2 hc rfl h'))
theorem vn_iand (hX : Xc p s m args meth c E nL A cc own Ts) {x y z : Int32} (hd : decode cc pc = .ok (.iand, 1)) (hz : x &&& y = z) (k : VC p l e R s m args below meth c E nL A Q ce sl ws lv (pc + 1) (.int z :: st)) : VC p l e R s m args below meth c E nL A Q ce sl ws lv pc (.int y :: .int x :: st) :=
  fun H locs ls hP hD hS h => lv_iand hX.1 hX.2.1 hd (by rw [hz]; exact k H locs ls hP hD hS h)
theorem vn_ishr (hX : Xc p s m args meth c E nL A cc own Ts) {x y z : Int32} (hd : decode cc pc = .ok (.ishr, 1)) (hz : x >>> (y &&& 31) = z) (k : VC p l e R s m args below meth c E nL A Q ce sl ws lv (pc + 1) (.int z :: st)) : VC p l e R s m args below meth c E nL A Q ce sl ws lv pc (.int y :: .int x :: st) :=
  fun H locs ls hP hD hS h => lv_ishr hX.1 hX.2.1 hd (by rw [hz]; exact k H locs ls hP hD hS h)
theorem vn_irem (hX : Xc p s m args meth c E nL A cc own Ts) {x y z : Int32} (hd : decode cc pc = .ok (.irem, 1)) (hne : ¬ y = 0) (hz : x - x / y * y = z) (k : VC p l e R s m args below meth c E nL A Q ce sl ws lv (pc + 1) (.int z :: st)) : VC p l e R s m args below meth c E nL A Q ce sl ws lv pc (.int y :: .int x :: st) :=
  fun H locs ls hP hD hS h => lv_irem hX.1 hX.2.1 hd hne (by rw [hz]; exact k H locs ls hP hD hS h)
theorem vn_if_eq (hX : Xc p s m args meth c E nL A cc own Ts) {x : Int32} {off : Int} {tgt : Nat} (hd : decode cc pc = .ok (.ifCond .eq off, 3)) (ht : (pc : Int) + off = (tgt : Int)) (kt : x = 0 → VC p l e R s m args below meth c E nL A Q ce sl ws lv tgt st) (kf : ¬ x = 0 → VC p l e R s m args below meth c E nL A Q ce sl ws lv (pc + 3) st) : VC p l e R s m args below meth c E nL A Q ce sl ws lv pc (.int x :: st) :=
  fun H locs ls hP hD hS h => lv_if_eq hX.1 hX.2.1 hd ht (fun q => kt q H locs ls hP hD hS h) (fun q => kf q H locs ls hP hD hS h)
theorem vn_if_ne (hX : Xc p s m args meth c E nL A cc own Ts) {x : Int32} {off : Int} {tgt : Nat} (hd : decode cc pc = .ok (.ifCond .ne off, 3)) (ht : (pc : Int) + off = (tgt : Int)) (kt : ¬ x = 0 → VC p l e R s m args below meth c E nL A Q ce sl ws lv tgt st) (kf : x = 0 → VC p l e R s m args below meth c E nL A Q ce sl ws lv (pc + 3) st) : VC p l e R s m args below meth c E nL A Q ce sl ws lv pc (.int x :: st) :=
  fun H locs ls hP hD hS h => lv_if_ne hX.1 hX.2.1 hd ht (fun q => kt q H locs ls hP hD hS h) (fun q => kf q H locs ls hP hD hS h)
theorem vn_if_lt (hX : Xc p s m args meth c E nL A cc own Ts) {x : Int32} {off : Int} {tgt : Nat} (hd : decode cc pc = .ok (.ifCond .lt off, 3)) (ht : (pc : Int) + off = (tgt : Int)) (kt : x < 0 → VC p l e R s m args below meth c E nL A Q ce sl ws lv tgt st) (kf : ¬ x < 0 → VC p l e R s m args below meth c E nL A Q ce sl ws lv (pc + 3) st) : VC p l e R s m args below meth c E nL A Q ce sl ws lv pc (.int x :: st) :=
  fun H locs ls hP hD hS h => lv_if_lt hX.1 hX.2.1 hd ht (fun q => kt q H locs ls hP hD hS h) (fun q => kf q H locs ls hP hD hS h)
theorem vn_if_ge (hX : Xc p s m args meth c E nL A cc own Ts) {x : Int32} {off : Int} {tgt : Nat} (hd : decode cc pc = .ok (.ifCond .ge off, 3)) (ht : (pc : Int) + off = (tgt : Int)) (kt : 0 ≤ x → VC p l e R s m args below meth c E nL A Q ce sl ws lv tgt st) (kf : ¬ 0 ≤ x → VC p l e R s m args below meth c E nL A Q ce sl ws lv (pc + 3) st) : VC p l e R s m args below meth c E nL A Q ce sl ws lv pc (.int x :: st) :=
  fun H locs ls hP hD hS h => lv_if_ge hX.1 hX.2.1 hd ht (fun q => kt q H locs ls hP hD hS h) (fun q => kf q H locs ls hP hD hS h)
theorem vn_icmp_eq (hX : Xc p s m args meth c E nL A cc own Ts) {x y : Int32} {off : Int} {tgt : Nat} (hd : decode cc pc = .ok (.if_icmp .eq off, 3)) (ht : (pc : Int) + off = (tgt : Int)) (kt : x = y → VC p l e R s m args below meth c E nL A Q ce sl ws lv tgt st) (kf : ¬ x = y → VC p l e R s m args below meth c E nL A Q ce sl ws lv (pc + 3) st) : VC p l e R s m args below meth c E nL A Q ce sl ws lv pc (.int y :: .int x :: st) :=
  fun H locs ls hP hD hS h => lv_icmp_eq hX.1 hX.2.1 hd ht (fun q => kt q H locs ls hP hD hS h) (fun q => kf q H locs ls hP hD hS h)
theorem vn_icmp_ne (hX : Xc p s m args meth c E nL A cc own Ts) {x y : Int32} {off : Int} {tgt : Nat} (hd : decode cc pc = .ok (.if_icmp .ne off, 3)) (ht : (pc : Int) + off = (tgt : Int)) (kt : ¬ x = y → VC p l e R s m args below meth c E nL A Q ce sl ws lv tgt st) (kf : x = y → VC p l e R s m args below meth c E nL A Q ce sl ws lv (pc + 3) st) : VC p l e R s m args below meth c E nL A Q ce sl ws lv pc (.int y :: .int x :: st) :=
  fun H locs ls hP hD hS h => lv_icmp_ne hX.1 hX.2.1 hd ht (fun q => kt q H locs ls hP hD hS h) (fun q => kf q H locs ls hP hD hS h)
theorem vn_fewer (n : Nat) (h : lv.take n = lv') (k : VC p l e R s m args below meth c E nL A Q ce sl ws lv' pc st) : VC p l e R s m args below meth c E nL A Q ce sl ws lv pc st :=
  fun H locs ls hP hD hS hl => k H locs ls hP hD hS ⟨hl.1, hl.2.1, fun q hq => hl.2.2 q (li_take lv 0 n q (by rw [h]; exact hq))⟩
variable {y : MethodName} {bytes : ByteArray} {maxL n index : Nat} {ret : Option FieldType} {wsy : List Cond} {rm : Room} {pre wc wc' post : va_W} {As : List Value} {b : Nat} {r : Int32} {C : String}
theorem vn_callVi (hX : Xc p s m args meth c E nL A cc own Ts) (hM : ∀ sz, Met l y wsy rm (mPc E (.ref b :: As) sz wc) (mQi E r wc wc' sz) 0 0 (va_A wc sz)) (cw : CallW R s args own C index y bytes maxL ret wsy rm 0 0 n)
    (pre post : va_W) (hs : ws = pre ++ (wc ++ post)) (hs' : pre ++ (wc' ++ post) = ws') (ha : wc'.map Prod.fst = wc.map Prod.fst) {ci q0 : Nat} {k : vw_C} {fs : List Value} (hc : vwCl[ci]? = some k) (hkC : k.1 = C) (he : wc[q0]? = some (b, .inr (ci, fs)))
    (hn : As.length = n) (hst : st = As.reverse ++ .ref b :: rest) (hcat : (rest.map fun v => v.category).sum ≤ 8) (hf : ce + 0 ≤ R.cells ∧ sl + 0 ≤ R.slots) (hd : decode cc pc = .ok (.invokevirtual index, 3)) (kk : VC p l e R s m args below meth c E nL A Q ce sl ws' lv (pc + 3) (.int r :: rest)) : VC p l e R s m args below meth c E nL A Q ce sl ws lv pc st := by
  intro H locs ls hP hD hS h
  subst hs; subst hs'; subst hkC
  refine va_calli (va_runV (As := As) (rest := rest) ⟨hX.1, hX.2.1, hX.2.2.1, hX.2.2.2.1, hX.2.2.2.2.1⟩ (hM H.size) cw ⟨blind_mPc _ _ _ _, va_recv hX.2.2.2.2.2.1 (vP_mid hP) hc he, preW hX hP hD⟩ rfl hn h.1 hst (lv_room hcat) hd hf) hS (fun q _ h => vA_mid hD hS hX.2.2.2.2.2.2.1 q h) (vA_mid hD hS hX.2.2.2.2.2.2.1) (fun r1 u t H1 locs1 ht hvm hw hB hz1 hk1 hS1 => ?_)
  subst hw
  rw [ht] at hB
  obtain ⟨hP1, hD1⟩ := jn hP hD hk1 hB ha
  exact kk H1 locs1 ls hP1 hD1 hS1 h
theorem vn_callSi (hX : Xc p s m args meth c E nL A cc own Ts) (hM : ∀ sz, Met l y wsy rm (mPc E As sz wc) (mQi E r wc wc' sz) 0 0 (va_A wc sz)) (cw : CallB R s args own index y bytes maxL ret wsy rm 0 0 n ∧ (Cond.static y).before args s = true)
    (pre post : va_W) (hs : ws = pre ++ (wc ++ post)) (hs' : pre ++ (wc' ++ post) = ws') (ha : wc'.map Prod.fst = wc.map Prod.fst)
    (hn : As.length = n) (hst : st = As.reverse ++ rest) (hcat : (rest.map fun v => v.category).sum ≤ 8) (hf : ce + 0 ≤ R.cells ∧ sl + 0 ≤ R.slots) (hd : decode cc pc = .ok (.invokestatic index, 3)) (kk : VC p l e R s m args below meth c E nL A Q ce sl ws' lv (pc + 3) (.int r :: rest)) : VC p l e R s m args below meth c E nL A Q ce sl ws lv pc st := by
  intro H locs ls hP hD hS h
  subst hs; subst hs'
  refine va_calli (va_runS (As := As) (rest := rest) ⟨hX.1, hX.2.1, hX.2.2.1, hX.2.2.2.1, hX.2.2.2.2.1⟩ (hM H.size) cw ⟨blind_mPc _ _ _ _, preW hX hP hD⟩ rfl hn h.1 hst (lv_room hcat) hd hf) hS (fun q _ h => vA_mid hD hS hX.2.2.2.2.2.2.1 q h) (vA_mid hD hS hX.2.2.2.2.2.2.1) (fun r1 u t H1 locs1 ht hvm hw hB hz1 hk1 hS1 => ?_)
  subst hw
  rw [ht] at hB
  obtain ⟨hP1, hD1⟩ := jn hP hD hk1 hB ha
  exact kk H1 locs1 ls hP1 hD1 hS1 h
theorem vn_callCell (hX : Xc p s m args meth c E nL A cc own Ts) {b0 L : Nat} {xs : Nat → Int32} (hx : va_X b0 L xs s s.heap) (hbl : b0 < s.heap.size) (hbA : ¬ A b0) (hM : ∀ sz, Met l y wsy rm (mPx E As sz b0 L xs) (mQi E r [] [] sz) 0 0 (va_A [] sz)) (cw : CallB R s args own index y bytes maxL ret wsy rm 0 0 n ∧ (Cond.static y).before args s = true)
    (hn : As.length = n) (hst : st = As.reverse ++ rest) (hcat : (rest.map fun v => v.category).sum ≤ 8) (hf : ce + 0 ≤ R.cells ∧ sl + 0 ≤ R.slots) (hd : decode cc pc = .ok (.invokestatic index, 3)) (kk : VC p l e R s m args below meth c E nL A Q ce sl ws lv (pc + 3) (.int r :: rest)) : VC p l e R s m args below meth c E nL A Q ce sl ws lv pc st := by
  intro H locs ls hP hD hS h
  have hD0 : va_D A ([] ++ ([] ++ ws)) := hD
  have hP0 : va_P E.1 vwCl ([] ++ ([] ++ ws)) H := hP
  have hpre : ∀ U : State, U.heap = H → s.WarmedH U.vm → mPx E As H.size b0 L xs As.toArray U := fun U hU hW => ⟨rfl, by rw [hU], by rw [hU]; exact vP_mid hP0, va_K.moved hW.alike hX.2.2.2.2.2.1, vD_mid hD0 (fun _ => trivial), hX.2.2.2.2.2.2.2.2.warm hW, by rw [hU]; exact va_X.moved hW.alike (hx.kept (hS.2.1 b0 hbl hbA)), by rw [hU]; exact Nat.lt_of_lt_of_le hbl hS.1⟩
  refine va_calli (va_runS (As := As) (rest := rest) ⟨hX.1, hX.2.1, hX.2.2.1, hX.2.2.2.1, hX.2.2.2.2.1⟩ (hM H.size) cw ⟨blind_mPx _ _ _ _ _ _, hpre⟩ rfl hn h.1 hst (lv_room hcat) hd hf) hS (fun q _ h => vA_mid hD0 hS hX.2.2.2.2.2.2.1 q h) (vA_mid hD0 hS hX.2.2.2.2.2.2.1) (fun r1 u t H1 locs1 ht hvm hw hB hz1 hk1 hS1 => ?_)
  subst hw
  rw [ht] at hB
  obtain ⟨hP1, hD1⟩ := jn (wc' := []) hP0 hD0 hk1 hB rfl
  exact kk H1 locs1 ls hP1 hD1 hS1 h
end VL1
/-- where the law stands -/
def LX (p : Program) (s : State) (m : MethodId) (meth : Method) (c : Code) (E : ET) (b0 L : Nat) (xs : Nat → Int32) : Prop := Xc p s m #[Value.ref b0] meth c E 8 (fun q => s.heap.size ≤ q) code RL wsL_law ∧ va_X b0 L xs s s.heap ∧ b0 < s.heap.size ∧ L ≤ 260
abbrev VL (p : Program) (l : Launch) (e : Env) (s : State) (m : MethodId) (below : List Frame) (meth : Method) (c : Code) (E : ET) (b0 : Nat) (ws : va_W) (lv : List Value) (pc : Nat) (st : List Value) : Prop := VC p l e room_1 s m #[Value.ref b0] below meth c E 8 (fun q => s.heap.size ≤ q) (lw_Z below #[Value.ref b0] s) 564 9860 ws lv pc st
theorem JV_mono {m : MV} {B : Nat} (h : JV m B) : JV m (B + 1) := ⟨h.1, h.2.1, TI_same h.2.2 (fun _ _ => rfl) rfl⟩
theorem ao_JV {x : XV} {B : Nat} {a : Int32 × XV} (h : AO x B a) (hJ : JV x.1 B) : JV a.2.1 (B + 1) := by
  rcases h with h | h
  · rw [h.2]; exact JV_mono hJ
  · exact h.2.1
theorem ao_neg {x : XV} {B : Nat} {a : Int32 × XV} (h : AO x B a) (hn : ¬ 0 ≤ a.1) : a.2 = x := by
  rcases h with h | h
  · exact h.2
  · exact absurd h.1 hn
theorem undo_act {x v1 v2 : XV} {B : Nat} {a : Int32 × XV} (h : AO x B a) (h0 : 0 ≤ a.1) (e1 : v1 = a.2) (e2 : v2 = (X_undo v1).2) : (X_undo v1).1 = nI (if x.2.2.2.1.2.2.val = 4 then 3 else x.2.2.2.1.2.2.val) ∧ v2.1 = x.1 := by
  rcases h with h | h
  · exact absurd h.1 (i_nlt.mpr h0)
  · subst e2
    rw [e1, h.2.2]
    exact undo_rec x _
theorem LW_fin {N : Nat} (h0 : 0 < N) (h : N ≤ 256) (v : Int32) : ∃ n : Fin 256, LW v (nI N) = nI n.val := by
  obtain ⟨k, hk, e⟩ := LW_nI v h0 (by omega)
  exact ⟨⟨k, by omega⟩, e⟩
theorem JV_i : JV iX.1 0 := by
  refine ⟨IM_iM, ⟨fun o => ⟨fun _ _ => rfl, fun c => by show (0 : Int32) ≤ 9; decide⟩, by show (3 : Int32) ≤ 9; decide, by show (0 : Int32) < 20; decide⟩, fun _ _ => 0, 0, 0, fun _ _ _ => rfl, rfl, fun _ _ _ => Nat.le_refl _, fun _ _ => Nat.le_refl _, Nat.le_refl _, Nat.le_refl _, rfl⟩
