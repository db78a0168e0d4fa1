/-! ===== constructors: worlds that grow ===== -/
abbrev mPn (E : ET) (av : List Value) (sz : Nat) (ws : va_W) : Array Value → State → Prop := va_Pc av (fun U => U.heap.size = sz ∧ va_P E.1 vwCl ws U.heap ∧ va_K E.1 vwCl (tysE E) U ∧ va_D (fun _ => True) ws ∧ Nst U ∧ va_AO RX0 U ∧ va_AO RX3 U)
abbrev mQc (E : ET) (ws : va_W) (sz : Nat) (G : va_W → Prop) : Array Value → State → Outcome → State → Prop := va_Qv (S := va_W) G (fun u t => va_P E.1 vwCl u t.heap ∧ va_D (va_A ws sz) u) (va_A ws sz)
theorem ao_warm {C : String} {s U : State} (hW : s.WarmedH U.vm) (h : va_AO C s) : va_AO C U := va_AO.moved hW.alike h
theorem blind_mPn (E : ET) (av : List Value) (sz : Nat) (ws : va_W) : FrameBlind (mPn E av sz ws) := fun a U g mk q => by
  obtain ⟨q0, q1, qP, qK, qD, qN, qA, qB⟩ := q
  exact ⟨q0, q1, qP, va_K.moved (u := U) (U := U.calling g mk a) (Vm.Alike.refl U.vm) qK, qD, Nst.same (u := U) rfl qN, va_AO.moved (u := U) (U := U.calling g mk a) (Vm.Alike.refl U.vm) qA, va_AO.moved (u := U) (U := U.calling g mk a) (Vm.Alike.refl U.vm) qB⟩
def VC (p : Program) (l : Launch) (e : Env) (R : Room) (s : State) (m : MethodId) (args : Array Value) (below : List Frame) (meth : Method) (c : Code) (E : ET) (nL : Nat) (A : Nat → Prop) (Q : State → Prop) (ce sl : Nat) (ws : va_W) (lv : List Value) (pc : Nat) (st : List Value) : Prop :=
  ∀ (H : Heap) (locs : List Loc) (ls : Array Slot), va_P E.1 vwCl ws H → va_D A ws → va_S A s.heap H locs → lv_has ls nL (li 0 lv) → W p l e R s m args below meth c H locs ce sl Q (F0 m pc ls st)
section VCA
variable {p : Program} {l : Launch} {e : Env} {R : Room} {s : State} {m : MethodId} {args : Array Value} {below : List Frame} {meth : Method} {c : Code} {E : ET} {nL : Nat} {A : Nat → Prop} {Q : State → Prop} {ce sl : Nat} {cc : ByteArray} {own : String} {Ts : List Cond} {ws ws' : va_W} {lv lv' : List Value} {pc : Nat} {st rest : List Value}
theorem vn_start {y : MethodName} {wsy wsy' : List Cond} {rm : Room} {maxL mc ms : Nat} {ret : Option FieldType} {av : List Value} {sz : Nat} {Qc : Array Value → State → Outcome → State → Prop} (hy : plainName y.cls = true) (hw : wsy = Cond.code y cc maxL ret :: wsy') (hav : (lg_sl av).length ≤ maxL) (hli : lv_args 0 av = li 0 av)
    (body : ∀ (p : Program) (e : Env) (s : State) (m : MethodId) (args : Array Value) (below : List Frame) (meth : Method) (c : Code), s.heap.size = sz → meth.sig.returnType = ret → Xc p s m args meth c E maxL (va_A ws sz) cc y.cls wsy → va_AO RX0 s ∧ va_AO RX3 s → meth.name = y.name → VC p l e rm s m args below meth c E maxL (va_A ws sz) (MQ below Qc args s mc ms (va_A ws sz)) 0 0 ws av 0 []) :
    Met l y wsy rm (mPn E av sz ws) Qc mc ms (va_A ws sz) := by
  refine Met.ofW (cc := cc) (maxL := maxL) (ret := ret) hy hw ?_
  intro p e s m args below meth c s₁ B hml hv
  obtain ⟨rfl, hsz, hP, hK, hD0, hN, hA0, hA3⟩ := hv
  rw [lg_entry_eq]
  have h := body p e s m av.toArray below meth c hsz B.returns ⟨B.exec, B.bytes, hml, findClass_of_methodNamed B.named, atoms_spec (ws := wsy) B.pre, hK, fun q h => Or.inr (by rw [← hsz]; exact h), B.notSynchronized, hN⟩ ⟨hA0, hA3⟩ (name_of_methodNamed B.named B.method).1
  refine h s.heap [] _ hP (hD0.self) va_S.rf ?_
  rw [← hli]
  exact lv_entry av hav
theorem vn_V (k : V p l e R s m args below meth c E nL A Q ws lv pc st) : VC p l e R s m args below meth c E nL A Q 0 0 ws lv pc st := k
theorem vn_aload_n (hX : Xc p s m args meth c E nL A cc own Ts) {i : Fin 4} {x : Nat} (hd : decode cc pc = .ok (.aload_n i, 1)) (hl : lv[(i : Nat)]? = some (.ref x)) (k : VC p l e R s m args below meth c E nL A Q ce sl ws lv (pc + 1) (.ref x :: st)) : VC p l e R s m args below meth c E nL A Q ce sl ws lv pc st :=
  fun H locs ls hP hD hS h => lv_aload_n hX.1 hX.2.1 hd rfl (li_has h hl) (k H locs ls hP hD hS h)
theorem vn_iload_n (hX : Xc p s m args meth c E nL A cc own Ts) {i : Fin 4} {x : Int32} (hd : decode cc pc = .ok (.iload_n i, 1)) (hl : lv[(i : Nat)]? = some (.int x)) (k : VC p l e R s m args below meth c E nL A Q ce sl ws lv (pc + 1) (.int x :: st)) : VC p l e R s m args below meth c E nL A Q ce sl ws lv pc st :=
  fun H locs ls hP hD hS h => lv_iload_n hX.1 hX.2.1 hd rfl (li_has h hl) (k H locs ls hP hD hS h)
theorem vn_istore_n (hX : Xc p s m args meth c E nL A cc own Ts) {i : Fin 4} {x : Int32} {lv' : List Value} (hd : decode cc pc = .ok (.istore_n i, 1)) (hi : (i : Nat) < nL) (hi2 : (i : Nat) ≤ lv.length) (hc : (lv.all fun w => w.category == 1) = true) (hl : lset lv (i : Nat) (.int x) = lv') (k : VC p l e R s m args below meth c E nL A Q ce sl ws lv' (pc + 1) st) : VC p l e R s m args below meth c E nL A Q ce sl ws lv pc (.int x :: st) :=
  fun H locs ls hP hD hS h => lv_istore_n hX.1 hX.2.1 hd rfl h hi rfl (fun ls' h' => k H locs ls' hP hD hS (hl ▸ li_store hi2 hc rfl h'))
theorem vn_iinc (hX : Xc p s m args meth c E nL A cc own Ts) {i : Nat} {n : Int} {x y : Int32} {lv' : List Value} (hd : decode cc pc = .ok (.iinc i n, 3)) (hx : lv[i]? = some (.int x)) (hv : x + Int32.ofInt n = y) (hi : i < nL) (hi2 : i ≤ lv.length) (hc : (lv.all fun w => w.category == 1) = true) (hl : lset lv i (.int y) = lv') (k : VC p l e R s m args below meth c E nL A Q ce sl ws lv' (pc + 3) st) : VC p l e R s m args below meth c E nL A Q ce sl ws lv pc st :=
  fun H locs ls hP hD hS h => lv_iinc hX.1 hX.2.1 hd h (k := i) (by rw [li_get, hx]; simp) hv hi rfl (fun ls' h' => k H locs ls' hP hD hS (hl ▸ li_store hi2 hc rfl h'))
theorem vn_iconst (hX : Xc p s m args meth c E nL A cc own Ts) {n : Int} {x : Int32} (hd : decode cc pc = .ok (.iconst n, 1)) (hv : Int32.ofInt n = x) (k : VC p l e R s m args below meth c E nL A Q ce sl ws lv (pc + 1) (.int x :: st)) : VC p l e R s m args below meth c E nL A Q ce sl ws lv pc st :=
  fun H locs ls hP hD hS h => lv_iconst hX.1 hX.2.1 hd hv (k H locs ls hP hD hS h)
theorem vn_bipush (hX : Xc p s m args meth c E nL A cc own Ts) {n : Int} {x : Int32} (hd : decode cc pc = .ok (.bipush n, 2)) (hv : (Int8.ofInt n).toInt32 = x) (k : VC p l e R s m args below meth c E nL A Q ce sl ws lv (pc + 2) (.int x :: st)) : VC p l e R s m args below meth c E nL A Q ce sl ws lv pc st :=
  fun H locs ls hP hD hS h => lv_bipush hX.1 hX.2.1 hd hv (k H locs ls hP hD hS h)
theorem vn_sipush (hX : Xc p s m args meth c E nL A cc own Ts) {n : Int} {x : Int32} (hd : decode cc pc = .ok (.sipush n, 3)) (hv : (Int16.ofInt n).toInt32 = x) (k : VC p l e R s m args below meth c E nL A Q ce sl ws lv (pc + 3) (.int x :: st)) : VC p l e R s m args below meth c E nL A Q ce sl ws lv pc st :=
  fun H locs ls hP hD hS h => lv_sipush hX.1 hX.2.1 hd hv (k H locs ls hP hD hS h)
theorem vn_iadd (hX : Xc p s m args meth c E nL A cc own Ts) {x y z : Int32} (hd : decode cc pc = .ok (.iadd, 1)) (hz : x + y = z) (k : VC p l e R s m args below meth c E nL A Q ce sl ws lv (pc + 1) (.int z :: st)) : VC p l e R s m args below meth c E nL A Q ce sl ws lv pc (.int y :: .int x :: st) :=
  fun H locs ls hP hD hS h => lv_iadd hX.1 hX.2.1 hd (by rw [hz]; exact k H locs ls hP hD hS h)
theorem vn_dup (hX : Xc p s m args meth c E nL A cc own Ts) {x : Nat} (hd : decode cc pc = .ok (.dup, 1)) (k : VC p l e R s m args below meth c E nL A Q ce sl ws lv (pc + 1) (.ref x :: .ref x :: st)) : VC p l e R s m args below meth c E nL A Q ce sl ws lv pc (.ref x :: st) :=
  fun H locs ls hP hD hS h => lv_dup hX.1 hX.2.1 hd rfl (k H locs ls hP hD hS h)
theorem vn_goto (hX : Xc p s m args meth c E nL A cc own Ts) {off : Int} {tgt : Nat} (hd : decode cc pc = .ok (.goto off, 3)) (ht : (pc : Int) + off = (tgt : Int)) (k : VC p l e R s m args below meth c E nL A Q ce sl ws lv tgt st) : VC p l e R s m args below meth c E nL A Q ce sl ws lv pc st :=
  fun H locs ls hP hD hS h => lv_goto hX.1 hX.2.1 hd ht (k H locs ls hP hD hS h)
theorem vn_icmp_ge (hX : Xc p s m args meth c E nL A cc own Ts) {x y : Int32} {off : Int} {tgt : Nat} (hd : decode cc pc = .ok (.if_icmp .ge off, 3)) (ht : (pc : Int) + off = (tgt : Int)) (kt : y ≤ x → VC p l e R s m args below meth c E nL A Q ce sl ws lv tgt st) (kf : ¬ y ≤ x → VC p l e R s m args below meth c E nL A Q ce sl ws lv (pc + 3) st) : VC p l e R s m args below meth c E nL A Q ce sl ws lv pc (.int y :: .int x :: st) :=
  fun H locs ls hP hD hS h => lv_icmp_ge hX.1 hX.2.1 hd ht (fun q => kt q H locs ls hP hD hS h) (fun q => kf q H locs ls hP hD hS h)
theorem vn_get (hX : Xc p s m args meth c E nL A cc own Ts) {ref C : String} {T : u_T} {N ci index a : Nat} (hin : ∀ w ∈ u_ws C T N, w ∈ Ts) (q0 : Nat) {fs : List Value} (he : ws[q0]? = some (a, .inr (ci, fs))) (hc : vwCl[ci]? = some (C, T, N)) (k : Nat) (hk : k < N) (hlink : Cond.fieldLink own index ref (T k).2.1 (T k).2.2.1 ∈ Ts) (hr : (T k).1 = ref) {v : Value} (hv : fs[k]? = some v) (hd : decode cc pc = .ok (.getfield index, 3))
    (kk : VC p l e R s m args below meth c E nL A Q ce sl ws lv (pc + 3) (v :: st)) : VC p l e R s m args below meth c E nL A Q ce sl ws lv pc (.ref a :: st) :=
  fun H locs ls hP hD hS h => va_get hX.1 hX.2.1 hX.2.2.2.2.1 hin hX.2.2.2.1 hX.2.2.2.2.2.1 hP q0 he hc k hk (hX.2.2.2.2.1 _ hlink) (fun _ h9 => hr ▸ h9) hv hd (kk H locs ls hP hD hS h)
theorem vn_put (hX : Xc p s m args meth c E nL A cc own Ts) {ref C : String} {T : u_T} {N ci index a : Nat} (hin : ∀ w ∈ u_ws C T N, w ∈ Ts) (ty0 : Nat → FieldType) (hty : ∀ k, k < N → parseFieldDescriptor (T k).2.2.1 = some (ty0 k)) (hnm : ∀ a, a < N → ∀ b, b < N → a ≠ b → (T a).2.1 ≠ (T b).2.1) (q0 : Nat) {fs : List Value} (he : ws[q0]? = some (a, .inr (ci, fs))) (hc : vwCl[ci]? = some (C, T, N)) (k : Nat) (hk : k < N) (hlink : Cond.fieldLink own index ref (T k).2.1 (T k).2.2.1 ∈ Ts) (hr : (T k).1 = ref) (hfin : (T k).2.2.2 = false) {ty : FieldType} {v : Value} (hd0 : parseFieldDescriptor (T k).2.2.1 = some ty) (hn : narrow ty v = v) (hfit : fits ty v = true) (hl : k < fs.length) (hd : decode cc pc = .ok (.putfield index, 3)) (hw : ws.set q0 (a, .inr (ci, fs.set k v)) = ws')
    (kk : VC p l e R s m args below meth c E nL A Q ce sl ws' lv (pc + 3) st) : VC p l e R s m args below meth c E nL A Q ce sl ws lv pc (v :: .ref a :: st) :=
  fun H locs ls hP hD hS h => va_put hX.1 hX.2.1 hX.2.2.2.2.1 hin ty0 hty hnm hX.2.2.2.1 hX.2.2.2.2.2.1 hP hD hS q0 he hc k hk (hX.2.2.2.2.1 _ hlink) (fun _ h9 => hr ▸ h9) hfin hd0 hn hfit hl hd (fun H1 locs1 hP1 hD1 hS1 => kk H1 locs1 ls (hw ▸ hP1) (hw ▸ hD1) hS1 h)
theorem vn_putF (hX : Xc p s m args meth c E nL A cc own Ts) (hI : meth.name = "<init>") {ref C : String} {T : u_T} {N ci index a : Nat} (hin : ∀ w ∈ u_ws C T N, w ∈ Ts) (ty0 : Nat → FieldType) (hty : ∀ k, k < N → parseFieldDescriptor (T k).2.2.1 = some (ty0 k)) (hnm : ∀ a, a < N → ∀ b, b < N → a ≠ b → (T a).2.1 ≠ (T b).2.1) (q0 : Nat) {fs : List Value} (he : ws[q0]? = some (a, .inr (ci, fs))) (hc : vwCl[ci]? = some (C, T, N)) (k : Nat) (hk : k < N) (hlink : Cond.fieldLink own index ref (T k).2.1 (T k).2.2.1 ∈ Ts) (hr : (T k).1 = ref) (hfin : (T k).2.2.2 = true) (hdecl : (T k).1 = own) {ty : FieldType} {v : Value} (hd0 : parseFieldDescriptor (T k).2.2.1 = some ty) (hn : narrow ty v = v) (hfit : fits ty v = true) (hl : k < fs.length) (hd : decode cc pc = .ok (.putfield index, 3)) (hw : ws.set q0 (a, .inr (ci, fs.set k v)) = ws')
    (kk : VC p l e R s m args below meth c E nL A Q ce sl ws' lv (pc + 3) st) : VC p l e R s m args below meth c E nL A Q ce sl ws lv pc (v :: .ref a :: st) :=
  fun H locs ls hP hD hS h => va_putF hX.1 hX.2.1 hX.2.2.2.2.1 hin ty0 hty hnm hX.2.2.2.1 hX.2.2.2.2.2.1 hP hD hS q0 he hc k hk (hX.2.2.2.2.1 _ hlink) (fun _ h9 => hr ▸ h9) hfin hI hdecl hd0 hn hfit hl hd (fun H1 locs1 hP1 hD1 hS1 => kk H1 locs1 ls (hw ▸ hP1) (hw ▸ hD1) hS1 h)
theorem vn_iast (hX : Xc p s m args meth c E nL A cc own Ts) (q0 : Nat) {a n : Nat} {f : Nat → Int32} (ha : ws[q0]? = some (a, .inl (E.2 0, n, .inl f))) {i x : Int32} (hin : vp_in i n) (hw : ws.set q0 (a, .inl (E.2 0, n, .inl (upd f i.toNatClampNeg x))) = ws') (hd : decode cc pc = .ok (.iastore, 1))
    (k : VC p l e R s m args below meth c E nL A Q ce sl ws' lv (pc + 1) st) : VC p l e R s m args below meth c E nL A Q ce sl ws lv pc (.int x :: .int i :: .ref a :: st) :=
  fun H locs ls hP hD hS h => va_iast hX.1 hX.2.1 hX.2.2.2.2.2.1 hP hD hS q0 0 ha rfl hin hd (fun H1 locs1 hP1 hD1 hS1 => k H1 locs1 ls (hw ▸ hP1) (hw ▸ hD1) hS1 h)
theorem vn_astq (hX : Xc p s m args meth c E nL A cc own Ts) (q0 t0 qk ci : Nat) {a n v : Nat} {cA : ClassId} {r : vw_C} {vs : List Value} {f : Nat → Option Nat} (ha : ws[q0]? = some (a, .inl (cA, n, .inr (.inr (.inr (.inr f)))))) (ht : (tysE E)[t0]? = some (cA, .object r.1)) (hv : ws[qk]? = some (v, .inr (ci, vs))) (hc : vwCl[ci]? = some r) {i : Int32} (hin : vp_in i n) (hw : ws.set q0 (a, .inl (cA, n, .inr (.inr (.inr (.inr (va_up f i.toNatClampNeg (some v))))))) = ws') (hd : decode cc pc = .ok (.aastore, 1))
    (k : VC p l e R s m args below meth c E nL A Q ce sl ws' lv (pc + 1) st) : VC p l e R s m args below meth c E nL A Q ce sl ws lv pc (.ref v :: .int i :: .ref a :: st) :=
  fun H locs ls hP hD hS h => va_astq hX.1 hX.2.1 hX.2.2.2.2.2.1 hP hD hS q0 t0 qk ci ha ht hv hc hin hd (fun H1 locs1 hP1 hD1 hS1 => k H1 locs1 ls (hw ▸ hP1) (hw ▸ hD1) hS1 h)
theorem ra_one {D : va_G} {s : State} {t0 : Nat} {c0 cA : ClassId} {ty : FieldType} (h0 : (tysE E)[t0]? = some (c0, ty)) (hK : va_K D vwCl (tysE E ++ [(cA, ty)]) s) : cA = c0 := by
  have hl : t0 < 5 := (List.getElem?_eq_some_iff.mp h0).1
  have a1 := (hK.2 t0 (c0, ty) (by rw [List.getElem?_append_left hl]; exact h0)).2
  have a2 := (hK.2 5 (cA, ty) rfl).2
  cases ty with
  | object C =>
    obtain ⟨_, _, _, _, _, b1⟩ := a1
    obtain ⟨_, _, _, _, _, b2⟩ := a2
    exact Option.some.inj (b2.symm.trans b1)
  | _ => exact Option.some.inj (Eq.trans (Eq.symm a2) a1)
theorem vn_newa (hX : Xc p s m args meth c E nL A cc own Ts) {atype : ArrayType} (harr : Cond.arrayClass (newarray.typeOf atype) ∈ Ts) {ty : FieldType} (hty : newarray.typeOf atype = ty) (t0 : Nat) {c0 : ClassId} (ht : (tysE E)[t0]? = some (c0, ty)) (hdf : defaultValue ty = .int 0) {n : Int32} {N : Nat} (hn : ¬ n < 0) (hN : n.toNatClampNeg = N) (hbytes : N * componentBytes ty ≤ 536870912) (hcells : ce + 1 ≤ R.cells) (hslots : sl + N ≤ R.slots) (hd : decode cc pc = .ok (.newarray atype, 2)) {wf : Nat → va_W} (hw : ∀ b, ws ++ [(b, .inl (c0, N, .inl (fun _ => 0)))] = wf b)
    (k : ∀ b, VC p l e R s m args below meth c E nL A Q (ce + 1) (sl + N) (wf b) lv (pc + 2) (.ref b :: st)) : VC p l e R s m args below meth c E nL A Q ce sl ws lv pc (.int n :: st) :=
  fun H locs ls hP hD hS h => va_newa (a0 := (N, .inl (fun _ => 0))) hX.1 hX.2.1 (hX.2.2.2.2.1 _ harr) hty hX.2.2.2.2.2.1 hP hD hS hX.2.2.2.2.2.2.1 (fun cA => by rw [hdf]; rfl) hn hN hbytes hcells hslots hd (fun b cA H1 hK1 hP1 hD1 hS1 => by
    have e1 := ra_one ht hK1
    subst e1
    rw [hw b] at hP1 hD1
    exact k b H1 locs ls hP1 hD1 hS1 h)
theorem vn_newq (hX : Xc p s m args meth c E nL A cc own Ts) {C : String} {index : Nat} (hcl : Cond.classLink own index C ∈ Ts) (hover : va_AO C s) (t0 : Nat) {c0 : ClassId} (ht : (tysE E)[t0]? = some (c0, .object C)) {n : Int32} {N : Nat} (hn : ¬ n < 0) (hN : n.toNatClampNeg = N) (hbytes : N * 4 ≤ 536870912) (hcells : ce + 1 ≤ R.cells) (hslots : sl + N ≤ R.slots) (hd : decode cc pc = .ok (.anewarray index, 3)) {wf : Nat → va_W} (hw : ∀ b, ws ++ [(b, .inl (c0, N, .inr (.inr (.inr (.inr (fun _ => none))))))] = wf b)
    (k : ∀ b, VC p l e R s m args below meth c E nL A Q (ce + 1) (sl + N) (wf b) lv (pc + 3) (.ref b :: st)) : VC p l e R s m args below meth c E nL A Q ce sl ws lv pc (.int n :: st) :=
  fun H locs ls hP hD hS h => va_newq hX.1 hX.2.1 hX.2.2.2.1 (hX.2.2.2.2.1 _ hcl) hover hX.2.2.2.2.2.1 hP hD hS hX.2.2.2.2.2.2.1 hn hN hbytes hcells hslots hd (fun b cA H1 hK1 hP1 hD1 hS1 => by
    have e1 := ra_one ht hK1
    subst e1
    rw [hw b] at hP1 hD1
    exact k b H1 locs ls hP1 hD1 hS1 h)
theorem vn_new (hX : Xc p s m args meth c E nL A cc own Ts) {C : String} {T : u_T} {N ci index : Nat} (hin : ∀ w ∈ u_ws C T N, w ∈ Ts) (ty : Nat → FieldType) (hty : ∀ k, k < N → parseFieldDescriptor (T k).2.2.1 = some (ty k)) (hcl : Cond.classLink own index C ∈ Ts) (hinst : Cond.instantiable C N ∈ Ts) (hini : Cond.initialized C ∈ Ts) (hc : vwCl[ci]? = some (C, T, N)) {fs : List Value} (hfs : ∀ j, j < N → defaultValue (ty j) = vp_V fs j) (hcells : ce + 1 ≤ R.cells) (hslots : sl + N ≤ R.slots) (hd : decode cc pc = .ok (.new index, 3))
    (k : ∀ b, VC p l e R s m args below meth c E nL A Q (ce + 1) (sl + N) (ws ++ [(b, .inr (ci, fs))]) lv (pc + 3) (.ref b :: st)) : VC p l e R s m args below meth c E nL A Q ce sl ws lv pc st :=
  fun H locs ls hP hD hS h => va_new hX.1 hX.2.1 hX.2.2.2.2.1 hin ty hty hX.2.2.2.1 (hX.2.2.2.2.1 _ hcl) (hX.2.2.2.2.1 _ hinst) (hX.2.2.2.2.1 _ hini) hX.2.2.2.2.2.1 hP hD hS hX.2.2.2.2.2.2.1 hc hfs hcells hslots hd (fun b H1 hP1 hD1 hS1 => k b H1 locs ls hP1 hD1 hS1 h)
theorem vn_obj (hX : Xc p s m args meth c E nL A cc own Ts) {index a : Nat} (hlink : Cond.methodLink own index objectInit ∈ Ts) (hinst : Cond.instanceMethod objectInit ∈ Ts) (hcode : Cond.code objectInit ⟨#[0xb1]⟩ 1 none ∈ Ts) (hd : decode cc pc = .ok (.invokespecial index, 3)) (hframes : 1 ≤ R.frames) (hlocals : (st.map fun v => v.category).sum + 12 ≤ R.locals)
    (k : VC p l e R s m args below meth c E nL A Q ce sl ws lv (pc + 3) st) : VC p l e R s m args below meth c E nL A Q ce sl ws lv pc (.ref a :: st) := by
  intro H locs ls hP hD hS h
  refine W.objInit hX.1 hX.2.1 hX.2.2.2.1 (hX.2.2.2.2.1 _ hlink) (hX.2.2.2.2.1 _ hinst) (hX.2.2.2.2.1 _ hcode) rfl (by rw [hX.2.2.1]; exact h.1) rfl hd hframes (by show 2 * 0 + _ + 12 ≤ _; omega) ?_
  exact W.eq (g2 := F0 m (pc + 3) ls st) rfl (k H locs ls hP hD hS h)
theorem jnC {A0 : Nat → Prop} {D : va_G} {cl : List vw_C} {pre wc u : va_W} {H H1 : Heap} (hP : va_P D cl (pre ++ wc) H) (hD : va_D A0 (pre ++ wc)) (hk : ∀ q : Nat, q < H.size → ¬ va_A wc H.size q → H1[q]? = H[q]?) (hP1 : va_P D cl u H1) (hD1 : va_D (va_A wc H.size) u) (hA : ∀ q, va_A wc H.size q → A0 q) :
    va_P D cl (pre ++ u) H1 ∧ va_D A0 (pre ++ u) := by
  have out : ∀ (i : Nat) (q : Nat × va_E), pre[i]? = some q → ¬ va_A wc H.size q.1 := by
    intro i q hi
    have hl := (List.getElem?_eq_some_iff.mp hi).1
    have hi2 : (pre ++ wc)[i]? = some q := by rw [List.getElem?_append_left hl]; exact hi
    rintro (⟨k, e, h⟩ | h)
    · have h2 : (pre ++ wc)[pre.length + k]? = some (q.1, e) := by
        rw [List.getElem?_append_right (by omega), Nat.add_sub_cancel_left]
        exact h
      have := hD.1 i _ q (q.1, e) hi2 h2 rfl
      omega
    · have := (hP i q hi2).lt
      omega
  refine ⟨fun k q hq => ?_, fun i j x y hi hj hxy => ?_, fun k q hq => ?_⟩
  · by_cases h1 : k < pre.length
    · rw [List.getElem?_append_left h1] at hq
      have hi2 : (pre ++ wc)[k]? = some q := by rw [List.getElem?_append_left h1]; exact hq
      exact (hP k q hi2).kept (hk q.1 (hP k q hi2).lt (out k q hq))
    · rw [List.getElem?_append_right (by omega)] at hq
      exact hP1 _ q hq
  · by_cases h1 : i < pre.length
    · rw [List.getElem?_append_left h1] at hi
      by_cases h2 : j < pre.length
      · rw [List.getElem?_append_left h2] at hj
        exact hD.1 i j x y (by rw [List.getElem?_append_left h1]; exact hi) (by rw [List.getElem?_append_left h2]; exact hj) hxy
      · rw [List.getElem?_append_right (by omega)] at hj
        exact absurd (hxy ▸ hD1.2 _ y hj) (out i x hi)
    · rw [List.getElem?_append_right (by omega)] at hi
      by_cases h2 : j < pre.length
      · rw [List.getElem?_append_left h2] at hj
        exact absurd (hxy ▸ hD1.2 _ x hi) (out j y hj)
      · rw [List.getElem?_append_right (by omega)] at hj
        have := hD1.1 _ _ x y hi hj hxy
        omega
  · by_cases h1 : k < pre.length
    · rw [List.getElem?_append_left h1] at hq
      exact hD.2 k q (by rw [List.getElem?_append_left h1]; exact hq)
    · rw [List.getElem?_append_right (by omega)] at hq
      exact hA _ (hD1.2 _ q hq)
theorem vn_free {pre wc : va_W} {H : Heap} {locs : List Loc} (hD : va_D A (pre ++ wc)) (hS : va_S A s.heap H locs) (hA : ∀ q, s.heap.size ≤ q → A q) : ∀ q, va_A wc H.size q → A q := by
  intro q h
  rcases h with ⟨k, e, h⟩ | h
  · exact hD.2 (pre.length + k) (q, e) (by rw [List.getElem?_append_right (by omega), Nat.add_sub_cancel_left]; exact h)
  · exact hA q (Nat.le_trans hS.1 h)
theorem preC (hX : Xc p s m args meth c E nL A cc own Ts) (hO : va_AO RX0 s ∧ va_AO RX3 s) {pre wc : va_W} {H : Heap} (hP : va_P E.1 vwCl (pre ++ wc) H) (hD : va_D A (pre ++ wc)) {av : List Value} : ∀ U : State, U.heap = H → s.WarmedH U.vm → mPn E av H.size wc av.toArray U :=
  fun U hU hW => ⟨rfl, by rw [hU], by rw [hU]; exact vP_mid (pre := pre) (post := []) (by rw [List.append_nil]; exact hP), va_K.moved hW.alike hX.2.2.2.2.2.1, vD_mid (pre := pre) (post := []) (by rw [List.append_nil]; exact hD) (fun _ => trivial), hX.2.2.2.2.2.2.2.2.warm hW, ao_warm hW hO.1, ao_warm hW hO.2⟩
theorem vn_callI (hX : Xc p s m args meth c E nL A cc own Ts) (hO : va_AO RX0 s ∧ va_AO RX3 s) {y : MethodName} {bytes : ByteArray} {maxL n index mc ms b : Nat} {wsy : List Cond} {rm : Room} {pre wc : va_W} {G : va_W → Prop} (hM : ∀ sz, Met l y wsy rm (mPn E [.ref b] sz wc) (mQc E wc sz G) mc ms (va_A wc sz)) (cw : CallB R s args own index y bytes maxL none wsy rm mc ms 0 ∧ y.name = "<init>" ∧ (Cond.instanceMethod y).before args s = true)
    (hcat : (st.map fun v => v.category).sum ≤ 8) (hf : ce + mc ≤ R.cells ∧ sl + ms ≤ R.slots) (hd : decode cc pc = .ok (.invokespecial index, 3)) (kk : ∀ u, G u → VC p l e R s m args below meth c E nL A Q (ce + mc) (sl + ms) (pre ++ u) lv (pc + 3) st) : VC p l e R s m args below meth c E nL A Q ce sl (pre ++ wc) lv pc (.ref b :: st) := by
  intro H locs ls hP hD hS h
  refine va_callv (va_runI (As := []) (rest := st) ⟨hX.1, hX.2.1, hX.2.2.1, hX.2.2.2.1, hX.2.2.2.2.1⟩ (hM H.size) cw ⟨blind_mPn _ _ _ _, preC hX hO hP hD⟩ rfl rfl h.1 rfl (lv_room hcat) hd hf) hS (fun q _ h => vn_free hD hS hX.2.2.2.2.2.2.1 q h) (vn_free hD hS hX.2.2.2.2.2.2.1) (fun u t H1 locs1 ht hvm hg hB hz1 hk1 hS1 => ?_)
  rw [ht] at hB
  obtain ⟨hP1, hD1⟩ := jnC hP hD hk1 hB.1 hB.2 (vn_free hD hS hX.2.2.2.2.2.2.1)
  exact kk u hg H1 locs1 ls hP1 hD1 hS1 h
theorem vn_callIN (hX : Xc p s m args meth c E nL A cc own Ts) (hO : va_AO RX0 s ∧ va_AO RX3 s) {y : MethodName} {bytes : ByteArray} {maxL n index mc ms b : Nat} {host : String} {wsy : List Cond} {rm : Room} {pre wc : va_W} {G : va_W → Prop} (hM : ∀ sz, Met l y wsy rm (mPn E [.ref b] sz wc) (mQc E wc sz G) mc ms (va_A wc sz)) (cw : va_CN R s args own index y host bytes maxL none wsy rm mc ms 0 ∧ y.name = "<init>" ∧ (Cond.instanceMethod y).before args s = true)
    (hcat : (st.map fun v => v.category).sum ≤ 8) (hf : ce + mc ≤ R.cells ∧ sl + ms ≤ R.slots) (hd : decode cc pc = .ok (.invokespecial index, 3)) (kk : ∀ u, G u → VC p l e R s m args below meth c E nL A Q (ce + mc) (sl + ms) (pre ++ u) lv (pc + 3) st) : VC p l e R s m args below meth c E nL A Q ce sl (pre ++ wc) lv pc (.ref b :: st) := by
  intro H locs ls hP hD hS h
  refine va_callv (va_runIN (As := []) (rest := st) ⟨hX.1, hX.2.1, hX.2.2.1, hX.2.2.2.1, hX.2.2.2.2.1⟩ (hM H.size) cw ⟨blind_mPn _ _ _ _, preC hX hO hP hD⟩ rfl rfl h.1 rfl (lv_room hcat) hd hf) hS (fun q _ h => vn_free hD hS hX.2.2.2.2.2.2.1 q h) (vn_free hD hS hX.2.2.2.2.2.2.1) (fun u t H1 locs1 ht hvm hg hB hz1 hk1 hS1 => ?_)
  rw [ht] at hB
  obtain ⟨hP1, hD1⟩ := jnC hP hD hk1 hB.1 hB.2 (vn_free hD hS hX.2.2.2.2.2.2.1)
  exact kk u hg H1 locs1 ls hP1 hD1 hS1 h
theorem vn_weq {w2 : va_W} (hp : wEq ws w2) (k : VC p l e R s m args below meth c E nL A Q ce sl w2 lv pc st) : VC p l e R s m args below meth c E nL A Q ce sl ws lv pc st :=
  fun H locs ls hP hD hS h => k H locs ls (wEq_P hp hP) (wEq_D hp hD) hS h
theorem vn_eq (hp : ws = ws') (k : VC p l e R s m args below meth c E nL A Q ce sl ws' lv pc st) : VC p l e R s m args below meth c E nL A Q ce sl ws lv pc st := hp ▸ k
theorem vn_vret (hX : Xc p s m args meth c E nL A cc own Ts) (hr : meth.sig.returnType = none) {ws0 : va_W} {sz : Nat} {fr : Addr → Prop} {G : va_W → Prop} (hd : decode cc pc = .ok (.return_, 1)) (hA : A = va_A ws0 sz) (hfr : fr = va_A ws0 sz) (hG : G ws) :
    VC p l e R s m args below meth c E nL A (MQ below (mQc E ws0 sz G) args s ce sl fr) ce sl ws lv pc [] := by
  intro H locs ls hP hD hS h
  subst hA; subst hfr
  exact W.vret hX.1 hX.2.1 hr (fun t ht hW => ⟨⟨ws, rfl, hG, by show va_P E.1 vwCl ws t.heap; rw [ht]; exact hP, hD⟩, hS.F ht⟩) hS.2.2 hd hX.2.2.2.2.2.2.2.1
end VCA
theorem cell_congrR {c : ClassId} {n : Nat} {f g : Nat → Option Nat} (h : ∀ j, j < n → f j = g j) : vp_cell c (n, .inr (.inr (.inr (.inr f)))) = vp_cell c (n, .inr (.inr (.inr (.inr g)))) := by
  have e : (Array.ofFn (n := n) fun j => va_rf (f j.val)) = Array.ofFn (n := n) fun j => va_rf (g j.val) := by
    congr 1
    funext j
    rw [h j.val j.isLt]
  rw [vp_cell_q, vp_cell_q]
  unfold arrV
  rw [e]
