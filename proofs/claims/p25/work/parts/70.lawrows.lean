/-! ===== more rows, for the law's own methods ===== -/
section VR1
variable {p : Program} {l : Launch} {e : Env} {R : Room} {s : State} {m : MethodId} {args : Array Value} {below : List Frame} {meth : Method} {c : Code} {E : ET} {nL : Nat} {A : Nat → Prop} {Q : State → Prop} {cc : ByteArray} {own : String} {Ts : List Cond} {ws ws' : va_W} {lv : List Value} {pc : Nat} {st : List Value}
theorem v_ldc (hX : Xc p s m args meth c E nL A cc own Ts) {index : Nat} {v : Int32} (hc : Cond.constant own index v ∈ Ts) (hd : decode cc pc = .ok (.ldc index, 2)) (k : V p l e R s m args below meth c E nL A Q ws lv (pc + 2) (.int v :: st)) : V p l e R s m args below meth c E nL A Q ws lv pc st :=
  fun H locs ls hP hD hS h => lv_ldc hX.1 hX.2.1 hX.2.2.2.1 (hX.2.2.2.2.1 _ hc) hd (k H locs ls hP hD hS h)
theorem v_ixor (hX : Xc p s m args meth c E nL A cc own Ts) {x y z : Int32} (hd : decode cc pc = .ok (.ixor, 1)) (hz : x ^^^ y = z) (k : V p l e R s m args below meth c E nL A Q ws lv (pc + 1) (.int z :: st)) : V p l e R s m args below meth c E nL A Q ws lv pc (.int y :: .int x :: st) :=
  fun H locs ls hP hD hS h => lv_ixor hX.1 hX.2.1 hd (by rw [hz]; exact k H locs ls hP hD hS h)
theorem v_sld (hX : Xc p s m args meth c E nL A cc own Ts) {b L : Nat} {xs : Nat → Int32} (hx : va_X b L xs s s.heap) (hbl : b < s.heap.size) (hbA : ¬ A b) {i : Nat} (hi : i < L) (hL : L < 2 ^ 31) (hd : decode cc pc = .ok (.iaload, 1)) (k : V p l e R s m args below meth c E nL A Q ws lv (pc + 1) (.int (xs i) :: st)) : V p l e R s m args below meth c E nL A Q ws lv pc (.int (nI i) :: .ref b :: st) :=
  fun H locs ls hP hD hS h => va_sld hX.1 hX.2.1 hx hbl hbA hS (vp_in_nI hi hL) hd (by rw [nI_clamp (Nat.lt_trans hi hL)]; exact k H locs ls hP hD hS h)
theorem v_slen (hX : Xc p s m args meth c E nL A cc own Ts) {b L : Nat} {xs : Nat → Int32} (hx : va_X b L xs s s.heap) (hbl : b < s.heap.size) (hbA : ¬ A b) (hd : decode cc pc = .ok (.arraylength, 1)) (k : V p l e R s m args below meth c E nL A Q ws lv (pc + 1) (.int (nI L) :: st)) : V p l e R s m args below meth c E nL A Q ws lv pc (.ref b :: st) :=
  fun H locs ls hP hD hS h => va_slen hX.1 hX.2.1 hx hbl hbA hS hd (k H locs ls hP hD hS h)
end VR1
abbrev mPx (E : ET) (av : List Value) (sz b0 L : Nat) (xs : Nat → Int32) : Array Value → State → Prop := va_Pc av (fun U => U.heap.size = sz ∧ va_P E.1 vwCl [] U.heap ∧ va_K E.1 vwCl (tysE E) U ∧ va_D (fun _ => True) [] ∧ Nst U ∧ va_X b0 L xs U U.heap ∧ b0 < U.heap.size)
theorem blind_mPx (E : ET) (av : List Value) (sz b0 L : Nat) (xs : Nat → Int32) : FrameBlind (mPx E av sz b0 L xs) := fun a U g mk q => by
  obtain ⟨q0, q1, qP, qK, qD, qN, qX, qb⟩ := q
  exact ⟨q0, q1, qP, va_K.moved (u := U) (U := U.calling g mk a) (Vm.Alike.refl U.vm) qK, qD, Nst.same (u := U) rfl qN, va_X.moved (u := U) (U := U.calling g mk a) (Vm.Alike.refl U.vm) qX, qb⟩
theorem v_startX {E : ET} {cc : ByteArray} {l : Launch} {y : MethodName} {wsy wsy' : List Cond} {rm : Room} {maxL : Nat} {ret : Option FieldType} {av : List Value} {sz b0 L : Nat} {xs : Nat → Int32} {Qc : Array Value → State → Outcome → State → Prop} (hy : plainName y.cls = true) (hw : wsy = Cond.code y cc maxL ret :: wsy') (hav : (lg_sl av).length ≤ maxL) (hli : lv_args 0 av = li 0 av)
    (body : ∀ (p : Program) (e : Env) (s : State) (m : MethodId) (args : Array Value) (below : List Frame) (meth : Method) (c : Code), s.heap.size = sz → meth.sig.returnType = ret → Xc p s m args meth c E maxL (va_A [] sz) cc y.cls wsy → va_X b0 L xs s s.heap → b0 < s.heap.size → V p l e rm s m args below meth c E maxL (va_A [] sz) (MQ below Qc args s 0 0 (va_A [] sz)) [] av 0 []) :
    Met l y wsy rm (mPx E av sz b0 L xs) Qc 0 0 (va_A [] sz) := by
  refine Met.ofW (cc := cc) (maxL := maxL) (ret := ret) hy hw ?_
  intro p e s m args below meth c s₁ B hml hv
  obtain ⟨rfl, hsz, hP, hK, hD0, hN, hx, hbl⟩ := hv
  rw [lg_entry_eq]
  have h := body p e s m av.toArray below meth c hsz B.returns ⟨B.exec, B.bytes, hml, findClass_of_methodNamed B.named, atoms_spec (ws := wsy) B.pre, hK, fun q h => Or.inr (by rw [← hsz]; exact h), B.notSynchronized, hN⟩ hx hbl
  refine h s.heap [] _ hP (hD0.self) va_S.rf ?_
  rw [← hli]
  exact lv_entry av hav
/-- a cell of the script, or a number of its own where the script is shorter -/
def LC (L : Nat) (xs : Nat → Int32) (k : Nat) : Int32 := if k < L then xs k else 7919 * nI (k + 7) * nI (k + 173)
theorem c_L_cell (l : Launch) (E : ET) (sz b0 L : Nat) (xs : Nat → Int32) (k : Nat) (hL : L < 2 ^ 31) (hk : k < 1000) : Met l yL_cell wsL_cell ({ frames := 0, cells := 0, slots := 0, locals := 0 }) (mPx E [.ref b0, .int (nI k)] sz b0 L xs) (mQi E (LC L xs k) [] [] sz) 0 0 (va_A [] sz) := by
  refine v_startX (cc := cL_cell) (maxL := 2) (ret := (some .int)) (by decide) rfl (Nat.le_of_ble_eq_true rfl) rfl ?_
  intro p e s m args below meth c hsz hr hX hx hbl
  have hX : Xc p s m args meth c E 2 (va_A [] sz) cL_cell RL wsL_cell := hX
  have hbA : ¬ (va_A [] sz) b0 := by
    rintro (⟨k, e, h⟩ | h)
    · simp at h
    · omega
  refine v_iload_n hX dL_cell_0 rfl ?_
  refine v_aload_n hX dL_cell_1 rfl ?_
  refine v_slen hX hx hbl hbA dL_cell_2 ?_
  refine v_icmp_ge (tgt := 12) hX dL_cell_3 (by decide) (fun c1 => ?_) (fun c1 => ?_)
  · replace c1 := (nI_leI (a := L) (b := k) (by omega) (by omega)).mp c1
    refine v_sipush (x := (7919 : Int32)) hX dL_cell_12 (by decide) ?_
    refine v_iload_n hX dL_cell_15 rfl ?_
    refine v_bipush (x := (7 : Int32)) hX dL_cell_16 (by decide) ?_
    refine v_iadd (z := nI (k + 7)) hX dL_cell_18 (nI_add k 7) ?_
    refine v_imul (z := 7919 * nI (k + 7)) hX dL_cell_19 rfl ?_
    refine v_iload_n hX dL_cell_20 rfl ?_
    refine v_sipush (x := (173 : Int32)) hX dL_cell_21 (by decide) ?_
    refine v_iadd (z := nI (k + 173)) hX dL_cell_24 (nI_add k 173) ?_
    refine v_imul (z := 7919 * nI (k + 7) * nI (k + 173)) hX dL_cell_25 rfl ?_
    exact v_iret hX hr hsz dL_cell_26 rfl rfl (by unfold LC; rw [if_neg (by omega)]) rfl
  · replace c1 := (not_congr (nI_leI (a := L) (b := k) (by omega) (by omega))).mp c1
    refine v_aload_n hX dL_cell_6 rfl ?_
    refine v_iload_n hX dL_cell_7 rfl ?_
    refine v_sld (i := k) hX hx hbl hbA (by omega) hL dL_cell_8 ?_
    refine v_goto (tgt := 26) hX dL_cell_9 (by decide) ?_
    exact v_iret hX hr hsz dL_cell_26 rfl rfl (by unfold LC; rw [if_pos (by omega)]) rfl
