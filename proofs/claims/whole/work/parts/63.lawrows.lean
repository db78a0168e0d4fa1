/-! THE CLAIM OUT OF ONE WALK OF THE LAW'S BODY. Your part is whole_start (and what it stands on); all else here is the same for every law, but numbers. -/
def R_law : String := "SnoopFilterLaw"
def lw_P (b : Addr) (xs : List Int32) (args : Array Value) (s : State) : Prop := args = #[.ref b] ∧ s.IntsAt b xs ∧ xs.length ≤ 2560 ∧ (Jvm.Cond.and given_1 narrow_1).before args s = true
def lw_Q (_ : Array Value) (s : State) (o : Outcome) (t : State) : Prop := o = .returned (some (.int 1)) ∧ Framed s o t [] 600000 7302249
def lw_Z (below : List Frame) (a : Array Value) (s : State) : State → Prop := fun t => ∃ o, t.status = .running ∧ Ended t below o ∧ lw_Q a s o t
/-- the law's own end, with 1 on the stack, nothing written that was there before, its room as the claim has it -/
theorem lw_ret {p : Program} {l : Launch} {e : Env} {s : State} {m : MethodId} {below : List Frame} {meth : Method} {c : Code} {b : Nat} (hx : p.tables.exec = Jvm.exec) (hb : c.code = code) (hr : meth.sig.returnType = ret) (hlocks : meth.locks = false) {pc : Nat} {H : Heap} {ls : Array Slot} (hdg : decode code pc = .ok (.ireturn, 1)) : W p l e room_1 s m #[Value.ref b] below meth c H [] 600000 7302249 (lw_Z below #[Value.ref b] s) (F0 m pc ls [.int 1]) := by
  intro T hT X
  obtain ⟨fs, hret, hrun, hended, hW, hframe⟩ := X.leave (v := some (.int 1)) (hlocks := hlocks) (fun h => by rw [hr] at h; cases h)
  have hmeth' : T.vm.method? m = some meth := X.method'
  refine ⟨T.setFrames fs, ?_, .returned (some (.int 1)), hrun, hended, rfl, ⟨_, rfl⟩, hW, hframe⟩
  jvm_step X.here [X.here.top, hx, hb, hdg, hmeth', hr, ret, narrow_b1]
  (try refine ⟨rfl, ?_⟩); (try refine ⟨rfl, ?_⟩)
  first | (intro acts; rw [hret _ acts rfl rfl rfl]) | rw [hret _ _ rfl rfl rfl]
  exact Steps.refl _
/-- what holds at the law's entry: the machine, the code, the tables' words (any of lw_tbl by 'hts w (by decide +kernel)'), the script of L ints xs at the cell b, what the Statement gives of the start (any of its parts by flat_of_before) -/
def lw_At (p : Program) (s : State) (m : MethodId) (meth : Method) (c : Code) (b L : Nat) (xs : Nat → Int32) : Prop :=
  p.tables.exec = Jvm.exec ∧ c.code = code ∧ meth.sig.returnType = ret ∧ c.maxLocals = 4 ∧ s.vm.findClass R_law = some m.cls ∧ (∀ w ∈ lw_tbl, w.before #[Value.ref b] s = true) ∧ va_X b L xs s s.heap ∧ b < s.heap.size ∧ meth.locks = false ∧ (Jvm.Cond.and given_1 narrow_1).before #[Value.ref b] s = true
/-! ===== rows of the law ===== -/
section VL1
variable {p : Program} {l : Launch} {e : Env} {R : Room} {s : State} {m : MethodId} {args : Array Value} {below : List Frame} {meth : Method} {c : Code} {E : ET} {nL : Nat} {A : Nat → Prop} {Q : State → Prop} {ce sl : Nat} {cc : ByteArray} {own : String} {Ts : List Cond} {ws ws' : va_W} {lv lv' : List Value} {pc : Nat} {st rest : List Value}
theorem vn_astore_n (hX : Xc p s m args meth c E nL A cc own Ts) {i : Fin 4} {x : Nat} {lv' : List Value} (hd : decode cc pc = .ok (.astore_n i, 1)) (hi : (i : Nat) < nL) (hi2 : (i : Nat) ≤ lv.length) (hc : (lv.all fun w => w.category == 1) = true) (hl : lset lv (i : Nat) (.ref x) = lv') (k : VC p l e R s m args below meth c E nL A Q ce sl ws lv' (pc + 1) st) : VC p l e R s m args below meth c E nL A Q ce sl ws lv pc (.ref x :: st) :=
  fun H locs ls hP hD hS h => lv_astore_n hX.1 hX.2.1 hd rfl h hi rfl (fun ls' h' => k H locs ls' hP hD hS (hl ▸ li_store hi2 hc rfl h'))
theorem vn_isub (hX : Xc p s m args meth c E nL A cc own Ts) {x y z : Int32} (hd : decode cc pc = .ok (.isub, 1)) (hz : x - y = z) (k : VC p l e R s m args below meth c E nL A Q ce sl ws lv (pc + 1) (.int z :: st)) : VC p l e R s m args below meth c E nL A Q ce sl ws lv pc (.int y :: .int x :: st) :=
  fun H locs ls hP hD hS h => lv_isub hX.1 hX.2.1 hd (by rw [hz]; exact k H locs ls hP hD hS h)
theorem vn_iand (hX : Xc p s m args meth c E nL A cc own Ts) {x y z : Int32} (hd : decode cc pc = .ok (.iand, 1)) (hz : x &&& y = z) (k : VC p l e R s m args below meth c E nL A Q ce sl ws lv (pc + 1) (.int z :: st)) : VC p l e R s m args below meth c E nL A Q ce sl ws lv pc (.int y :: .int x :: st) :=
  fun H locs ls hP hD hS h => lv_iand hX.1 hX.2.1 hd (by rw [hz]; exact k H locs ls hP hD hS h)
theorem vn_i2c (hX : Xc p s m args meth c E nL A cc own Ts) {x z : Int32} (hd : decode cc pc = .ok (.i2c, 1)) (hz : (x.toUInt32 % 65536).toInt32 = z) (k : VC p l e R s m args below meth c E nL A Q ce sl ws lv (pc + 1) (.int z :: st)) : VC p l e R s m args below meth c E nL A Q ce sl ws lv pc (.int x :: st) :=
  fun H locs ls hP hD hS h => lv_i2c hX.1 hX.2.1 hd hz (k H locs ls hP hD hS h)
theorem vn_if_eq (hX : Xc p s m args meth c E nL A cc own Ts) {x : Int32} {off : Int} {tgt : Nat} (hd : decode cc pc = .ok (.ifCond .eq off, 3)) (ht : (pc : Int) + off = (tgt : Int)) (kt : x = 0 → VC p l e R s m args below meth c E nL A Q ce sl ws lv tgt st) (kf : ¬ x = 0 → VC p l e R s m args below meth c E nL A Q ce sl ws lv (pc + 3) st) : VC p l e R s m args below meth c E nL A Q ce sl ws lv pc (.int x :: st) :=
  fun H locs ls hP hD hS h => lv_if_eq hX.1 hX.2.1 hd ht (fun q => kt q H locs ls hP hD hS h) (fun q => kf q H locs ls hP hD hS h)
theorem vn_icmp_eq (hX : Xc p s m args meth c E nL A cc own Ts) {x y : Int32} {off : Int} {tgt : Nat} (hd : decode cc pc = .ok (.if_icmp .eq off, 3)) (ht : (pc : Int) + off = (tgt : Int)) (kt : x = y → VC p l e R s m args below meth c E nL A Q ce sl ws lv tgt st) (kf : ¬ x = y → VC p l e R s m args below meth c E nL A Q ce sl ws lv (pc + 3) st) : VC p l e R s m args below meth c E nL A Q ce sl ws lv pc (.int y :: .int x :: st) :=
  fun H locs ls hP hD hS h => lv_icmp_eq hX.1 hX.2.1 hd ht (fun q => kt q H locs ls hP hD hS h) (fun q => kf q H locs ls hP hD hS h)
theorem vn_icmp_gt (hX : Xc p s m args meth c E nL A cc own Ts) {x y : Int32} {off : Int} {tgt : Nat} (hd : decode cc pc = .ok (.if_icmp .gt off, 3)) (ht : (pc : Int) + off = (tgt : Int)) (kt : y < x → VC p l e R s m args below meth c E nL A Q ce sl ws lv tgt st) (kf : ¬ y < x → VC p l e R s m args below meth c E nL A Q ce sl ws lv (pc + 3) st) : VC p l e R s m args below meth c E nL A Q ce sl ws lv pc (.int y :: .int x :: st) :=
  fun H locs ls hP hD hS h => lv_icmp_gt hX.1 hX.2.1 hd ht (fun q => kt q H locs ls hP hD hS h) (fun q => kf q H locs ls hP hD hS h)
theorem vn_tabOut (hX : Xc p s m args meth c E nL A cc own Ts) {dflt lo hi : Int} {offs : Array Int} {len : Nat} {x : Int32} {tgt : Nat} (hd : decode cc pc = .ok (.tableswitch dflt lo hi offs, len)) (h : x.toInt < lo ∨ hi < x.toInt) (ht : (pc : Int) + dflt = (tgt : Int)) (k : VC p l e R s m args below meth c E nL A Q ce sl ws lv tgt st) : VC p l e R s m args below meth c E nL A Q ce sl ws lv pc (.int x :: st) :=
  fun H locs ls hP hD hS hl => lv_tableOut hX.1 hX.2.1 hd h ht (k H locs ls hP hD hS hl)
theorem vn_tabIn (hX : Xc p s m args meth c E nL A cc own Ts) {dflt lo hi : Int} {offs : Array Int} {len : Nat} {x : Int32} {off : Int} {tgt : Nat} (hd : decode cc pc = .ok (.tableswitch dflt lo hi offs, len)) (h1 : ¬ x.toInt < lo) (h2 : ¬ hi < x.toInt) (ho : offs[(x.toInt - lo).toNat]? = some off) (ht : (pc : Int) + off = (tgt : Int)) (k : VC p l e R s m args below meth c E nL A Q ce sl ws lv tgt st) : VC p l e R s m args below meth c E nL A Q ce sl ws lv pc (.int x :: st) :=
  fun H locs ls hP hD hS hl => lv_tableIn hX.1 hX.2.1 hd h1 h2 ho ht (k H locs ls hP hD hS hl)
theorem vn_sld (hX : Xc p s m args meth c E nL A cc own Ts) {b L : Nat} {xs : Nat → Int32} (hx : va_X b L xs s s.heap) (hbl : b < s.heap.size) (hbA : ¬ A b) {i : Nat} (hi : i < L) (hL : L < 2 ^ 31) (hd : decode cc pc = .ok (.iaload, 1)) (k : VC p l e R s m args below meth c E nL A Q ce sl ws lv (pc + 1) (.int (xs i) :: st)) : VC p l e R s m args below meth c E nL A Q ce sl ws lv pc (.int (nI i) :: .ref b :: st) :=
  fun H locs ls hP hD hS h => va_sld hX.1 hX.2.1 hx hbl hbA hS (vp_in_nI hi hL) hd (by rw [nI_clamp (Nat.lt_trans hi hL)]; exact k H locs ls hP hD hS h)
theorem vn_slen (hX : Xc p s m args meth c E nL A cc own Ts) {b L : Nat} {xs : Nat → Int32} (hx : va_X b L xs s s.heap) (hbl : b < s.heap.size) (hbA : ¬ A b) (hd : decode cc pc = .ok (.arraylength, 1)) (k : VC p l e R s m args below meth c E nL A Q ce sl ws lv (pc + 1) (.int (nI L) :: st)) : VC p l e R s m args below meth c E nL A Q ce sl ws lv pc (.ref b :: st) :=
  fun H locs ls hP hD hS h => va_slen hX.1 hX.2.1 hx hbl hbA hS hd (k H locs ls hP hD hS h)
theorem vn_callVi (hX : Xc p s m args meth c E nL A cc own Ts) {y : MethodName} {bytes : ByteArray} {maxL n index b : Nat} {ret : Option FieldType} {wsy : List Cond} {rm : Room} {wc wc' : va_W} {As : List Value} {r : Int32} {C : String} (hM : ∀ sz, Met l y wsy rm (mPc E (.ref b :: As) sz wc) (mQi E r wc wc' sz) 0 0 (va_A wc sz)) (cw : CallW R s args own C index y bytes maxL ret wsy rm 0 0 n)
    (pre post : va_W) (hs : ws = pre ++ (wc ++ post)) (hs' : pre ++ (wc' ++ post) = ws') (ha : wc'.map Prod.fst = wc.map Prod.fst) {ci q0 : Nat} {k : vw_C} {fs : List Value} (hc : vwCl[ci]? = some k) (hkC : k.1 = C) (he : wc[q0]? = some (b, .inr (ci, fs)))
    (hn : As.length = n) (hst : st = As.reverse ++ .ref b :: rest) (hcat : (rest.map fun v => v.category).sum ≤ 8) (hf : ce + 0 ≤ R.cells ∧ sl + 0 ≤ R.slots) (hd : decode cc pc = .ok (.invokevirtual index, 3)) (kk : VC p l e R s m args below meth c E nL A Q ce sl ws' lv (pc + 3) (.int r :: rest)) : VC p l e R s m args below meth c E nL A Q ce sl ws lv pc st := by
  intro H locs ls hP hD hS h
  subst hs; subst hs'; subst hkC
  refine va_calli (va_runV (As := As) (rest := rest) ⟨hX.1, hX.2.1, hX.2.2.1, hX.2.2.2.1, hX.2.2.2.2.1⟩ (hM H.size) cw ⟨blind_mPc _ _ _ _, va_recv hX.2.2.2.2.2.1 (vP_mid hP) hc he, preW hX hP hD⟩ rfl hn h.1 hst (lv_room hcat) hd hf) hS (fun q _ h => vA_mid hD hS hX.2.2.2.2.2.2.1 q h) (vA_mid hD hS hX.2.2.2.2.2.2.1) (fun r1 u t H1 locs1 ht hvm hw hB hz1 hk1 hS1 => ?_)
  subst hw
  rw [ht] at hB
  obtain ⟨hP1, hD1⟩ := jn hP hD hk1 hB ha
  exact kk H1 locs1 ls hP1 hD1 hS1 h
end VL1
theorem and31 (w : Int32) : ∃ j, j < 32 ∧ w &&& 31 = nI j := by
  refine ⟨w.toBitVec.toNat &&& 31, ?_, ?_⟩
  · have := Nat.and_le_right (n := w.toBitVec.toNat) (m := 31)
    omega
  · apply Int32.toBitVec_inj.mp
    show w.toBitVec &&& BitVec.ofNat 32 31 = BitVec.ofNat 32 (w.toBitVec.toNat &&& 31)
    rw [BitVec.ofNat_and, BitVec.ofNat_toNat]
    rfl
/-- where the law stands -/
def LX (p : Program) (s : State) (m : MethodId) (meth : Method) (c : Code) (E : ET) (b0 L : Nat) (xs : Nat → Int32) : Prop := Xc p s m #[Value.ref b0] meth c E 4 (fun q => s.heap.size ≤ q) code RL wsL_law ∧ va_X b0 L xs s s.heap ∧ b0 < s.heap.size ∧ L ≤ 2560
abbrev VL (p : Program) (l : Launch) (e : Env) (s : State) (m : MethodId) (below : List Frame) (meth : Method) (c : Code) (E : ET) (b0 : Nat) (ws : va_W) (lv : List Value) (pc : Nat) (st : List Value) : Prop := VC p l e room_1 s m #[Value.ref b0] below meth c E 4 (fun q => s.heap.size ≤ q) (lw_Z below #[Value.ref b0] s) 288 8836 ws lv pc st
