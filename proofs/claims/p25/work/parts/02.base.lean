/-! ===== BASE: worlds of fixed cells, a judgement over (world, locals, pc, stack), and its rows ===== -/
abbrev ET : Type := va_G × (Nat → ClassId)
abbrev tysE (E : ET) : List (ClassId × FieldType) := [(E.2 0, .int), (E.2 1, .boolean), (E.2 2, .char), (E.2 3, .object RX0), (E.2 4, .object RX3)]
def nsts : List Cond := [.methodLinkNest RX0 27 yX1_init "SnoopFilter", .methodLinkNest RX5 31 yX4_init "SnoopFilter", .methodLinkNest RX1 41 yX5_howManyAreTrue "SnoopFilter", .methodLinkNest RX0 50 yX5_howManyAreTrue "SnoopFilter"]
def Nst (U : State) : Prop := ∀ w ∈ nsts, va_Nw w U
theorem Nst.warm {s U : State} (hW : s.WarmedH U.vm) (h : Nst s) : Nst U := by
  intro w hw
  have hh := h w hw
  simp only [nsts, List.mem_cons, List.not_mem_nil, or_false] at hw
  rcases hw with rfl | rfl | rfl | rfl <;> exact va_Nw.warmM hW hh
theorem Nst.same {u U : State} (hv : u.vm = U.vm) (h : Nst u) : Nst U := by
  intro w hw
  have hh := h w hw
  simp only [nsts, List.mem_cons, List.not_mem_nil, or_false] at hw
  rcases hw with rfl | rfl | rfl | rfl <;> exact va_Nw.same rfl hv hh
abbrev mPc (E : ET) (av : List Value) (sz : Nat) (ws : va_W) : Array Value → State → Prop := va_Pc av (fun U => U.heap.size = sz ∧ va_P E.1 vwCl ws U.heap ∧ va_K E.1 vwCl (tysE E) U ∧ va_D (fun _ => True) ws ∧ Nst U)
abbrev mQi (E : ET) (r : Int32) (ws ws' : va_W) (sz : Nat) : Array Value → State → Outcome → State → Prop := va_Qi (fun (r' : Int32) (_ : Unit) => r' = r) (fun _ t => va_P E.1 vwCl ws' t.heap) (va_A ws sz)
abbrev mQv (E : ET) (ws ws' : va_W) (sz : Nat) : Array Value → State → Outcome → State → Prop := va_Qv (fun (_ : Unit) => True) (fun _ t => va_P E.1 vwCl ws' t.heap) (va_A ws sz)
def li : Nat → List Value → List (Nat × Value)
  | _, [] => []
  | k, v :: t => (k, v) :: li (k + 1) t
def lset : List Value → Nat → Value → List Value
  | [], _, v => [v]
  | _ :: t, 0, v => v :: t
  | a :: t, i + 1, v => a :: lset t i v
theorem li_get : ∀ (lv : List Value) (b k : Nat), (li b lv)[k]? = (lv[k]?).map (fun v => (b + k, v))
  | [], b, k => by simp [li]
  | v :: t, b, 0 => by simp [li]
  | v :: t, b, k + 1 => by
    simp only [li, List.getElem?_cons_succ]
    rw [li_get t (b + 1) k]
    cases t[k]? with
    | none => rfl
    | some w => simp only [Option.map]; rw [show b + 1 + k = b + (k + 1) from by omega]
theorem li_mem {lv : List Value} {q : Nat × Value} (h : q ∈ li 0 lv) : lv[q.1]? = some q.2 := by
  obtain ⟨k, hk⟩ := List.getElem?_of_mem h
  rw [li_get] at hk
  cases hv : lv[k]? with
  | none => rw [hv] at hk; cases hk
  | some w =>
    rw [hv] at hk
    simp only [Option.map] at hk
    cases hk
    simp only [Nat.zero_add]
    exact hv
theorem lset_get : ∀ (lv : List Value) (i j : Nat) (v w : Value), i ≤ lv.length → (lset lv i v)[j]? = some w → (j = i ∧ w = v) ∨ (j ≠ i ∧ lv[j]? = some w)
  | [], i, j, v, w, h, hw => by
    have hi : i = 0 := by simpa using h
    subst hi
    cases j with
    | zero => simp [lset] at hw; exact Or.inl ⟨rfl, hw.symm⟩
    | succ j => simp [lset] at hw
  | a :: t, 0, 0, v, w, _, hw => by simp [lset] at hw; exact Or.inl ⟨rfl, hw.symm⟩
  | a :: t, 0, j + 1, v, w, _, hw => by simp [lset] at hw; exact Or.inr ⟨by omega, by simpa using hw⟩
  | a :: t, i + 1, 0, v, w, _, hw => by simp [lset] at hw; exact Or.inr ⟨by omega, by simpa using hw⟩
  | a :: t, i + 1, j + 1, v, w, h, hw => by
    simp only [lset, List.getElem?_cons_succ] at hw
    rcases lset_get t i j v w (by simpa using h) hw with ⟨h1, h2⟩ | ⟨h1, h2⟩
    · exact Or.inl ⟨by omega, h2⟩
    · exact Or.inr ⟨by omega, by simpa using h2⟩
theorem li_has {ls : Array Slot} {n : Nat} {lv : List Value} (h : lv_has ls n (li 0 lv)) {i : Nat} {v : Value} (hi : lv[i]? = some v) : ls[i]? = some (.val v) := by
  refine h.2.2 (i, v) (List.mem_of_getElem? (i := i) ?_)
  rw [li_get, hi]
  simp
theorem li_store {ls : Array Slot} {n : Nat} {lv : List Value} {i : Nat} {v : Value} (hi : i ≤ lv.length) (hc : (lv.all fun w => w.category == 1) = true) {l' : List (Nat × Value)}
    (hl' : (i, v) :: (li 0 lv).filter (fun q => !(q.1 == i) && !(q.1 + 1 == i && q.2.category == 2)) = l') (h : lv_has ls n l') : lv_has ls n (li 0 (lset lv i v)) := by
  refine ⟨h.1, h.2.1, fun q hq => h.2.2 q ?_⟩
  have hg := li_mem hq
  rw [← hl']
  rcases lset_get lv i q.1 v q.2 hi hg with ⟨h1, h2⟩ | ⟨h1, h2⟩
  · obtain ⟨a, b⟩ := q
    simp only at h1 h2
    subst h1; subst h2
    exact List.mem_cons_self
  · refine List.mem_cons_of_mem _ (List.mem_filter.mpr ⟨?_, ?_⟩)
    · refine List.mem_of_getElem? (i := q.1) ?_
      rw [li_get, h2]
      simp
    · have hcat : q.2.category = 1 := by
        have := List.all_eq_true.mp hc q.2 (List.mem_of_getElem? h2)
        simpa using this
      simp [h1, hcat]
def V (p : Program) (l : Launch) (e : Env) (R : Room) (s : State) (m : MethodId) (args : Array Value) (below : List Frame) (meth : Method) (c : Code) (E : ET) (nL : Nat) (A : Nat → Prop) (Q : State → Prop) (ws : va_W) (lv : List Value) (pc : Nat) (st : List Value) : Prop :=
  ∀ (H : Heap) (locs : List Loc) (ls : Array Slot), va_P E.1 vwCl ws H → va_D A ws → va_S A s.heap H locs → lv_has ls nL (li 0 lv) → W p l e R s m args below meth c H locs 0 0 Q (F0 m pc ls st)
def Xc (p : Program) (s : State) (m : MethodId) (args : Array Value) (meth : Method) (c : Code) (E : ET) (nL : Nat) (A : Nat → Prop) (cc : ByteArray) (own : String) (Ts : List Cond) : Prop :=
  p.tables.exec = Jvm.exec ∧ c.code = cc ∧ c.maxLocals = nL ∧ s.vm.findClass own = some m.cls ∧ (∀ w ∈ Ts, w.before args s = true) ∧ va_K E.1 vwCl (tysE E) s ∧ (∀ q, s.heap.size ≤ q → A q) ∧ meth.locks = false ∧ Nst s
section VB
variable {p : Program} {l : Launch} {e : Env} {R : Room} {s : State} {m : MethodId} {args : Array Value} {below : List Frame} {meth : Method} {c : Code} {E : ET} {nL : Nat} {A : Nat → Prop} {Q : State → Prop} {cc : ByteArray} {own : String} {Ts : List Cond} {ws ws' : va_W} {lv : List Value} {pc : Nat} {st : List Value}
theorem v_start {y : MethodName} {wsy wsy' : List Cond} {rm : Room} {maxL : Nat} {ret : Option FieldType} {av : List Value} {sz : Nat} {Qc : Array Value → State → Outcome → State → Prop} (hy : plainName y.cls = true) (hw : wsy = Cond.code y cc maxL ret :: wsy') (hav : (lg_sl av).length ≤ maxL) (hli : lv_args 0 av = li 0 av)
    (body : ∀ (p : Program) (e : Env) (s : State) (m : MethodId) (args : Array Value) (below : List Frame) (meth : Method) (c : Code), s.heap.size = sz → meth.sig.returnType = ret → Xc p s m args meth c E maxL (va_A ws sz) cc y.cls wsy → V p l e rm s m args below meth c E maxL (va_A ws sz) (MQ below Qc args s 0 0 (va_A ws sz)) ws av 0 []) :
    Met l y wsy rm (mPc E av sz ws) Qc 0 0 (va_A ws sz) := by
  refine Met.ofW (cc := cc) (maxL := maxL) (ret := ret) hy hw ?_
  intro p e s m args below meth c s₁ B hml hv
  obtain ⟨rfl, hsz, hP, hK, hD0, hN⟩ := hv
  rw [lg_entry_eq]
  have h := body p e s m av.toArray below meth c hsz B.returns ⟨B.exec, B.bytes, hml, findClass_of_methodNamed B.named, atoms_spec (ws := wsy) B.pre, hK, fun q h => Or.inr (by rw [← hsz]; exact h), B.notSynchronized, hN⟩
  refine h s.heap [] _ hP (hD0.self) va_S.rf ?_
  rw [← hli]
  exact lv_entry av hav
theorem v_iload (hX : Xc p s m args meth c E nL A cc own Ts) {i : Nat} {x : Int32} (hd : decode cc pc = .ok (.iload i, 2)) (hl : lv[i]? = some (.int x)) (k : V p l e R s m args below meth c E nL A Q ws lv (pc + 2) (.int x :: st)) : V p l e R s m args below meth c E nL A Q ws lv pc st :=
  fun H locs ls hP hD hS h => lv_iload hX.1 hX.2.1 hd (li_has h hl) (k H locs ls hP hD hS h)
theorem v_iload_n (hX : Xc p s m args meth c E nL A cc own Ts) {i : Fin 4} {x : Int32} (hd : decode cc pc = .ok (.iload_n i, 1)) (hl : lv[(i : Nat)]? = some (.int x)) (k : V p l e R s m args below meth c E nL A Q ws lv (pc + 1) (.int x :: st)) : V p l e R s m args below meth c E nL A Q ws lv pc st :=
  fun H locs ls hP hD hS h => lv_iload_n hX.1 hX.2.1 hd rfl (li_has h hl) (k H locs ls hP hD hS h)
theorem v_aload (hX : Xc p s m args meth c E nL A cc own Ts) {i : Nat} {x : Nat} (hd : decode cc pc = .ok (.aload i, 2)) (hl : lv[i]? = some (.ref x)) (k : V p l e R s m args below meth c E nL A Q ws lv (pc + 2) (.ref x :: st)) : V p l e R s m args below meth c E nL A Q ws lv pc st :=
  fun H locs ls hP hD hS h => lv_aload hX.1 hX.2.1 hd (li_has h hl) (k H locs ls hP hD hS h)
theorem v_aload_n (hX : Xc p s m args meth c E nL A cc own Ts) {i : Fin 4} {x : Nat} (hd : decode cc pc = .ok (.aload_n i, 1)) (hl : lv[(i : Nat)]? = some (.ref x)) (k : V p l e R s m args below meth c E nL A Q ws lv (pc + 1) (.ref x :: st)) : V p l e R s m args below meth c E nL A Q ws lv pc st :=
  fun H locs ls hP hD hS h => lv_aload_n hX.1 hX.2.1 hd rfl (li_has h hl) (k H locs ls hP hD hS h)
theorem v_istore (hX : Xc p s m args meth c E nL A cc own Ts) {i : Nat} {x : Int32} {lv' : List Value} (hd : decode cc pc = .ok (.istore i, 2)) (hi : i < nL) (hi2 : i ≤ lv.length) (hc : (lv.all fun w => w.category == 1) = true) (hl : lset lv i (.int x) = lv') (k : V p l e R s m args below meth c E nL A Q ws lv' (pc + 2) st) : V p l e R s m args below meth c E nL A Q ws lv pc (.int x :: st) :=
  fun H locs ls hP hD hS h => lv_istore hX.1 hX.2.1 hd h hi rfl (fun ls' h' => k H locs ls' hP hD hS (hl ▸ li_store hi2 hc rfl h'))
theorem v_istore_n (hX : Xc p s m args meth c E nL A cc own Ts) {i : Fin 4} {x : Int32} {lv' : List Value} (hd : decode cc pc = .ok (.istore_n i, 1)) (hi : (i : Nat) < nL) (hi2 : (i : Nat) ≤ lv.length) (hc : (lv.all fun w => w.category == 1) = true) (hl : lset lv (i : Nat) (.int x) = lv') (k : V p l e R s m args below meth c E nL A Q ws lv' (pc + 1) st) : V p l e R s m args below meth c E nL A Q ws lv pc (.int x :: st) :=
  fun H locs ls hP hD hS h => lv_istore_n hX.1 hX.2.1 hd rfl h hi rfl (fun ls' h' => k H locs ls' hP hD hS (hl ▸ li_store hi2 hc rfl h'))
theorem v_astore (hX : Xc p s m args meth c E nL A cc own Ts) {i : Nat} {x : Nat} {lv' : List Value} (hd : decode cc pc = .ok (.astore i, 2)) (hi : i < nL) (hi2 : i ≤ lv.length) (hc : (lv.all fun w => w.category == 1) = true) (hl : lset lv i (.ref x) = lv') (k : V p l e R s m args below meth c E nL A Q ws lv' (pc + 2) st) : V p l e R s m args below meth c E nL A Q ws lv pc (.ref x :: st) :=
  fun H locs ls hP hD hS h => lv_astore hX.1 hX.2.1 hd h hi rfl (fun ls' h' => k H locs ls' hP hD hS (hl ▸ li_store hi2 hc rfl h'))
theorem v_astore_n (hX : Xc p s m args meth c E nL A cc own Ts) {i : Fin 4} {x : Nat} {lv' : List Value} (hd : decode cc pc = .ok (.astore_n i, 1)) (hi : (i : Nat) < nL) (hi2 : (i : Nat) ≤ lv.length) (hc : (lv.all fun w => w.category == 1) = true) (hl : lset lv (i : Nat) (.ref x) = lv') (k : V p l e R s m args below meth c E nL A Q ws lv' (pc + 1) st) : V p l e R s m args below meth c E nL A Q ws lv pc (.ref x :: st) :=
  fun H locs ls hP hD hS h => lv_astore_n hX.1 hX.2.1 hd rfl h hi rfl (fun ls' h' => k H locs ls' hP hD hS (hl ▸ li_store hi2 hc rfl h'))
theorem v_iinc (hX : Xc p s m args meth c E nL A cc own Ts) {i : Nat} {n : Int} {x y : Int32} {lv' : List Value} (hd : decode cc pc = .ok (.iinc i n, 3)) (hx : lv[i]? = some (.int x)) (hv : x + Int32.ofInt n = y) (hi : i < nL) (hi2 : i ≤ lv.length) (hc : (lv.all fun w => w.category == 1) = true) (hl : lset lv i (.int y) = lv') (k : V p l e R s m args below meth c E nL A Q ws lv' (pc + 3) st) : V p l e R s m args below meth c E nL A Q ws lv pc st :=
  fun H locs ls hP hD hS h => lv_iinc hX.1 hX.2.1 hd h (k := i) (by rw [li_get, hx]; simp) hv hi rfl (fun ls' h' => k H locs ls' hP hD hS (hl ▸ li_store hi2 hc rfl h'))
theorem v_iconst (hX : Xc p s m args meth c E nL A cc own Ts) {n : Int} {x : Int32} (hd : decode cc pc = .ok (.iconst n, 1)) (hv : Int32.ofInt n = x) (k : V p l e R s m args below meth c E nL A Q ws lv (pc + 1) (.int x :: st)) : V p l e R s m args below meth c E nL A Q ws lv pc st :=
  fun H locs ls hP hD hS h => lv_iconst hX.1 hX.2.1 hd hv (k H locs ls hP hD hS h)
theorem v_bipush (hX : Xc p s m args meth c E nL A cc own Ts) {n : Int} {x : Int32} (hd : decode cc pc = .ok (.bipush n, 2)) (hv : (Int8.ofInt n).toInt32 = x) (k : V p l e R s m args below meth c E nL A Q ws lv (pc + 2) (.int x :: st)) : V p l e R s m args below meth c E nL A Q ws lv pc st :=
  fun H locs ls hP hD hS h => lv_bipush hX.1 hX.2.1 hd hv (k H locs ls hP hD hS h)
theorem v_sipush (hX : Xc p s m args meth c E nL A cc own Ts) {n : Int} {x : Int32} (hd : decode cc pc = .ok (.sipush n, 3)) (hv : (Int16.ofInt n).toInt32 = x) (k : V p l e R s m args below meth c E nL A Q ws lv (pc + 3) (.int x :: st)) : V p l e R s m args below meth c E nL A Q ws lv pc st :=
  fun H locs ls hP hD hS h => lv_sipush hX.1 hX.2.1 hd hv (k H locs ls hP hD hS h)
theorem v_iadd (hX : Xc p s m args meth c E nL A cc own Ts) {x y z : Int32} (hd : decode cc pc = .ok (.iadd, 1)) (hz : x + y = z) (k : V p l e R s m args below meth c E nL A Q ws lv (pc + 1) (.int z :: st)) : V p l e R s m args below meth c E nL A Q ws lv pc (.int y :: .int x :: st) :=
  fun H locs ls hP hD hS h => lv_iadd hX.1 hX.2.1 hd (by rw [hz]; exact k H locs ls hP hD hS h)
theorem v_isub (hX : Xc p s m args meth c E nL A cc own Ts) {x y z : Int32} (hd : decode cc pc = .ok (.isub, 1)) (hz : x - y = z) (k : V p l e R s m args below meth c E nL A Q ws lv (pc + 1) (.int z :: st)) : V p l e R s m args below meth c E nL A Q ws lv pc (.int y :: .int x :: st) :=
  fun H locs ls hP hD hS h => lv_isub hX.1 hX.2.1 hd (by rw [hz]; exact k H locs ls hP hD hS h)
theorem v_imul (hX : Xc p s m args meth c E nL A cc own Ts) {x y z : Int32} (hd : decode cc pc = .ok (.imul, 1)) (hz : x * y = z) (k : V p l e R s m args below meth c E nL A Q ws lv (pc + 1) (.int z :: st)) : V p l e R s m args below meth c E nL A Q ws lv pc (.int y :: .int x :: st) :=
  fun H locs ls hP hD hS h => lv_imul hX.1 hX.2.1 hd (by rw [hz]; exact k H locs ls hP hD hS h)
theorem v_iand (hX : Xc p s m args meth c E nL A cc own Ts) {x y z : Int32} (hd : decode cc pc = .ok (.iand, 1)) (hz : x &&& y = z) (k : V p l e R s m args below meth c E nL A Q ws lv (pc + 1) (.int z :: st)) : V p l e R s m args below meth c E nL A Q ws lv pc (.int y :: .int x :: st) :=
  fun H locs ls hP hD hS h => lv_iand hX.1 hX.2.1 hd (by rw [hz]; exact k H locs ls hP hD hS h)
theorem v_ior (hX : Xc p s m args meth c E nL A cc own Ts) {x y z : Int32} (hd : decode cc pc = .ok (.ior, 1)) (hz : x ||| y = z) (k : V p l e R s m args below meth c E nL A Q ws lv (pc + 1) (.int z :: st)) : V p l e R s m args below meth c E nL A Q ws lv pc (.int y :: .int x :: st) :=
  fun H locs ls hP hD hS h => lv_ior hX.1 hX.2.1 hd (by rw [hz]; exact k H locs ls hP hD hS h)
theorem v_ishl (hX : Xc p s m args meth c E nL A cc own Ts) {x y z : Int32} (hd : decode cc pc = .ok (.ishl, 1)) (hz : x <<< (y &&& 31) = z) (k : V p l e R s m args below meth c E nL A Q ws lv (pc + 1) (.int z :: st)) : V p l e R s m args below meth c E nL A Q ws lv pc (.int y :: .int x :: st) :=
  fun H locs ls hP hD hS h => lv_ishl hX.1 hX.2.1 hd (by rw [hz]; exact k H locs ls hP hD hS h)
theorem v_ishr (hX : Xc p s m args meth c E nL A cc own Ts) {x y z : Int32} (hd : decode cc pc = .ok (.ishr, 1)) (hz : x >>> (y &&& 31) = z) (k : V p l e R s m args below meth c E nL A Q ws lv (pc + 1) (.int z :: st)) : V p l e R s m args below meth c E nL A Q ws lv pc (.int y :: .int x :: st) :=
  fun H locs ls hP hD hS h => lv_ishr hX.1 hX.2.1 hd (by rw [hz]; exact k H locs ls hP hD hS h)
theorem v_irem (hX : Xc p s m args meth c E nL A cc own Ts) {x y z : Int32} (hd : decode cc pc = .ok (.irem, 1)) (hne : ¬ y = 0) (hz : x - x / y * y = z) (k : V p l e R s m args below meth c E nL A Q ws lv (pc + 1) (.int z :: st)) : V p l e R s m args below meth c E nL A Q ws lv pc (.int y :: .int x :: st) :=
  fun H locs ls hP hD hS h => lv_irem hX.1 hX.2.1 hd hne (by rw [hz]; exact k H locs ls hP hD hS h)
theorem v_idiv (hX : Xc p s m args meth c E nL A cc own Ts) {x y z : Int32} (hd : decode cc pc = .ok (.idiv, 1)) (hne : ¬ y = 0) (hz : x / y = z) (k : V p l e R s m args below meth c E nL A Q ws lv (pc + 1) (.int z :: st)) : V p l e R s m args below meth c E nL A Q ws lv pc (.int y :: .int x :: st) :=
  fun H locs ls hP hD hS h => lv_idiv hX.1 hX.2.1 hd hne (by rw [hz]; exact k H locs ls hP hD hS h)
theorem v_i2c (hX : Xc p s m args meth c E nL A cc own Ts) {x z : Int32} (hd : decode cc pc = .ok (.i2c, 1)) (hz : (x.toUInt32 % 65536).toInt32 = z) (k : V p l e R s m args below meth c E nL A Q ws lv (pc + 1) (.int z :: st)) : V p l e R s m args below meth c E nL A Q ws lv pc (.int x :: st) :=
  fun H locs ls hP hD hS h => lv_i2c hX.1 hX.2.1 hd hz (k H locs ls hP hD hS h)
theorem v_dup (hX : Xc p s m args meth c E nL A cc own Ts) {v : Value} (hd : decode cc pc = .ok (.dup, 1)) (hc : v.category = 1) (k : V p l e R s m args below meth c E nL A Q ws lv (pc + 1) (v :: v :: st)) : V p l e R s m args below meth c E nL A Q ws lv pc (v :: st) :=
  fun H locs ls hP hD hS h => lv_dup hX.1 hX.2.1 hd hc (k H locs ls hP hD hS h)
theorem v_pop (hX : Xc p s m args meth c E nL A cc own Ts) {v : Value} (hd : decode cc pc = .ok (.pop, 1)) (hc : v.category = 1) (k : V p l e R s m args below meth c E nL A Q ws lv (pc + 1) st) : V p l e R s m args below meth c E nL A Q ws lv pc (v :: st) :=
  fun H locs ls hP hD hS h => lv_pop hX.1 hX.2.1 hd hc (k H locs ls hP hD hS h)
theorem v_dup2 (hX : Xc p s m args meth c E nL A cc own Ts) {v w : Value} (hd : decode cc pc = .ok (.dup2, 1)) (hc : v.category = 1) (hc2 : w.category = 1) (k : V p l e R s m args below meth c E nL A Q ws lv (pc + 1) (v :: w :: v :: w :: st)) : V p l e R s m args below meth c E nL A Q ws lv pc (v :: w :: st) :=
  fun H locs ls hP hD hS h => lv_dup2_11 hX.1 hX.2.1 hd hc hc2 (k H locs ls hP hD hS h)
theorem v_dup_x1 (hX : Xc p s m args meth c E nL A cc own Ts) {v w : Value} (hd : decode cc pc = .ok (.dup_x1, 1)) (hc : v.category = 1) (hc2 : w.category = 1) (k : V p l e R s m args below meth c E nL A Q ws lv (pc + 1) (v :: w :: v :: st)) : V p l e R s m args below meth c E nL A Q ws lv pc (v :: w :: st) :=
  fun H locs ls hP hD hS h => lv_dup_x1 hX.1 hX.2.1 hd hc hc2 (k H locs ls hP hD hS h)
theorem v_goto (hX : Xc p s m args meth c E nL A cc own Ts) {off : Int} {tgt : Nat} (hd : decode cc pc = .ok (.goto off, 3)) (ht : (pc : Int) + off = (tgt : Int)) (k : V p l e R s m args below meth c E nL A Q ws lv tgt st) : V p l e R s m args below meth c E nL A Q ws lv pc st :=
  fun H locs ls hP hD hS h => lv_goto hX.1 hX.2.1 hd ht (k H locs ls hP hD hS h)
theorem v_if_eq (hX : Xc p s m args meth c E nL A cc own Ts) {x : Int32} {off : Int} {tgt : Nat} (hd : decode cc pc = .ok (.ifCond .eq off, 3)) (ht : (pc : Int) + off = (tgt : Int)) (kt : x = 0 → V p l e R s m args below meth c E nL A Q ws lv tgt st) (kf : ¬ x = 0 → V p l e R s m args below meth c E nL A Q ws lv (pc + 3) st) : V p l e R s m args below meth c E nL A Q ws lv pc (.int x :: st) :=
  fun H locs ls hP hD hS h => lv_if_eq hX.1 hX.2.1 hd ht (fun q => kt q H locs ls hP hD hS h) (fun q => kf q H locs ls hP hD hS h)
theorem v_if_ne (hX : Xc p s m args meth c E nL A cc own Ts) {x : Int32} {off : Int} {tgt : Nat} (hd : decode cc pc = .ok (.ifCond .ne off, 3)) (ht : (pc : Int) + off = (tgt : Int)) (kt : ¬ x = 0 → V p l e R s m args below meth c E nL A Q ws lv tgt st) (kf : x = 0 → V p l e R s m args below meth c E nL A Q ws lv (pc + 3) st) : V p l e R s m args below meth c E nL A Q ws lv pc (.int x :: st) :=
  fun H locs ls hP hD hS h => lv_if_ne hX.1 hX.2.1 hd ht (fun q => kt q H locs ls hP hD hS h) (fun q => kf q H locs ls hP hD hS h)
theorem v_if_lt (hX : Xc p s m args meth c E nL A cc own Ts) {x : Int32} {off : Int} {tgt : Nat} (hd : decode cc pc = .ok (.ifCond .lt off, 3)) (ht : (pc : Int) + off = (tgt : Int)) (kt : x < 0 → V p l e R s m args below meth c E nL A Q ws lv tgt st) (kf : ¬ x < 0 → V p l e R s m args below meth c E nL A Q ws lv (pc + 3) st) : V p l e R s m args below meth c E nL A Q ws lv pc (.int x :: st) :=
  fun H locs ls hP hD hS h => lv_if_lt hX.1 hX.2.1 hd ht (fun q => kt q H locs ls hP hD hS h) (fun q => kf q H locs ls hP hD hS h)
theorem v_if_ge (hX : Xc p s m args meth c E nL A cc own Ts) {x : Int32} {off : Int} {tgt : Nat} (hd : decode cc pc = .ok (.ifCond .ge off, 3)) (ht : (pc : Int) + off = (tgt : Int)) (kt : 0 ≤ x → V p l e R s m args below meth c E nL A Q ws lv tgt st) (kf : ¬ 0 ≤ x → V p l e R s m args below meth c E nL A Q ws lv (pc + 3) st) : V p l e R s m args below meth c E nL A Q ws lv pc (.int x :: st) :=
  fun H locs ls hP hD hS h => lv_if_ge hX.1 hX.2.1 hd ht (fun q => kt q H locs ls hP hD hS h) (fun q => kf q H locs ls hP hD hS h)
theorem v_if_gt (hX : Xc p s m args meth c E nL A cc own Ts) {x : Int32} {off : Int} {tgt : Nat} (hd : decode cc pc = .ok (.ifCond .gt off, 3)) (ht : (pc : Int) + off = (tgt : Int)) (kt : 0 < x → V p l e R s m args below meth c E nL A Q ws lv tgt st) (kf : ¬ 0 < x → V p l e R s m args below meth c E nL A Q ws lv (pc + 3) st) : V p l e R s m args below meth c E nL A Q ws lv pc (.int x :: st) :=
  fun H locs ls hP hD hS h => lv_if_gt hX.1 hX.2.1 hd ht (fun q => kt q H locs ls hP hD hS h) (fun q => kf q H locs ls hP hD hS h)
theorem v_if_le (hX : Xc p s m args meth c E nL A cc own Ts) {x : Int32} {off : Int} {tgt : Nat} (hd : decode cc pc = .ok (.ifCond .le off, 3)) (ht : (pc : Int) + off = (tgt : Int)) (kt : x ≤ 0 → V p l e R s m args below meth c E nL A Q ws lv tgt st) (kf : ¬ x ≤ 0 → V p l e R s m args below meth c E nL A Q ws lv (pc + 3) st) : V p l e R s m args below meth c E nL A Q ws lv pc (.int x :: st) :=
  fun H locs ls hP hD hS h => lv_if_le hX.1 hX.2.1 hd ht (fun q => kt q H locs ls hP hD hS h) (fun q => kf q H locs ls hP hD hS h)
theorem v_icmp_eq (hX : Xc p s m args meth c E nL A cc own Ts) {x y : Int32} {off : Int} {tgt : Nat} (hd : decode cc pc = .ok (.if_icmp .eq off, 3)) (ht : (pc : Int) + off = (tgt : Int)) (kt : x = y → V p l e R s m args below meth c E nL A Q ws lv tgt st) (kf : ¬ x = y → V p l e R s m args below meth c E nL A Q ws lv (pc + 3) st) : V p l e R s m args below meth c E nL A Q ws lv pc (.int y :: .int x :: st) :=
  fun H locs ls hP hD hS h => lv_icmp_eq hX.1 hX.2.1 hd ht (fun q => kt q H locs ls hP hD hS h) (fun q => kf q H locs ls hP hD hS h)
theorem v_icmp_ne (hX : Xc p s m args meth c E nL A cc own Ts) {x y : Int32} {off : Int} {tgt : Nat} (hd : decode cc pc = .ok (.if_icmp .ne off, 3)) (ht : (pc : Int) + off = (tgt : Int)) (kt : ¬ x = y → V p l e R s m args below meth c E nL A Q ws lv tgt st) (kf : x = y → V p l e R s m args below meth c E nL A Q ws lv (pc + 3) st) : V p l e R s m args below meth c E nL A Q ws lv pc (.int y :: .int x :: st) :=
  fun H locs ls hP hD hS h => lv_icmp_ne hX.1 hX.2.1 hd ht (fun q => kt q H locs ls hP hD hS h) (fun q => kf q H locs ls hP hD hS h)
theorem v_icmp_lt (hX : Xc p s m args meth c E nL A cc own Ts) {x y : Int32} {off : Int} {tgt : Nat} (hd : decode cc pc = .ok (.if_icmp .lt off, 3)) (ht : (pc : Int) + off = (tgt : Int)) (kt : x < y → V p l e R s m args below meth c E nL A Q ws lv tgt st) (kf : ¬ x < y → V p l e R s m args below meth c E nL A Q ws lv (pc + 3) st) : V p l e R s m args below meth c E nL A Q ws lv pc (.int y :: .int x :: st) :=
  fun H locs ls hP hD hS h => lv_icmp_lt hX.1 hX.2.1 hd ht (fun q => kt q H locs ls hP hD hS h) (fun q => kf q H locs ls hP hD hS h)
theorem v_icmp_ge (hX : Xc p s m args meth c E nL A cc own Ts) {x y : Int32} {off : Int} {tgt : Nat} (hd : decode cc pc = .ok (.if_icmp .ge off, 3)) (ht : (pc : Int) + off = (tgt : Int)) (kt : y ≤ x → V p l e R s m args below meth c E nL A Q ws lv tgt st) (kf : ¬ y ≤ x → V p l e R s m args below meth c E nL A Q ws lv (pc + 3) st) : V p l e R s m args below meth c E nL A Q ws lv pc (.int y :: .int x :: st) :=
  fun H locs ls hP hD hS h => lv_icmp_ge hX.1 hX.2.1 hd ht (fun q => kt q H locs ls hP hD hS h) (fun q => kf q H locs ls hP hD hS h)
theorem v_icmp_gt (hX : Xc p s m args meth c E nL A cc own Ts) {x y : Int32} {off : Int} {tgt : Nat} (hd : decode cc pc = .ok (.if_icmp .gt off, 3)) (ht : (pc : Int) + off = (tgt : Int)) (kt : y < x → V p l e R s m args below meth c E nL A Q ws lv tgt st) (kf : ¬ y < x → V p l e R s m args below meth c E nL A Q ws lv (pc + 3) st) : V p l e R s m args below meth c E nL A Q ws lv pc (.int y :: .int x :: st) :=
  fun H locs ls hP hD hS h => lv_icmp_gt hX.1 hX.2.1 hd ht (fun q => kt q H locs ls hP hD hS h) (fun q => kf q H locs ls hP hD hS h)
theorem v_icmp_le (hX : Xc p s m args meth c E nL A cc own Ts) {x y : Int32} {off : Int} {tgt : Nat} (hd : decode cc pc = .ok (.if_icmp .le off, 3)) (ht : (pc : Int) + off = (tgt : Int)) (kt : x ≤ y → V p l e R s m args below meth c E nL A Q ws lv tgt st) (kf : ¬ x ≤ y → V p l e R s m args below meth c E nL A Q ws lv (pc + 3) st) : V p l e R s m args below meth c E nL A Q ws lv pc (.int y :: .int x :: st) :=
  fun H locs ls hP hD hS h => lv_icmp_le hX.1 hX.2.1 hd ht (fun q => kt q H locs ls hP hD hS h) (fun q => kf q H locs ls hP hD hS h)
theorem v_tableOut (hX : Xc p s m args meth c E nL A cc own Ts) {dflt lo hi : Int} {offs : Array Int} {len : Nat} {x : Int32} {tgt : Nat} (hd : decode cc pc = .ok (.tableswitch dflt lo hi offs, len)) (h : x.toInt < lo ∨ hi < x.toInt) (ht : (pc : Int) + dflt = (tgt : Int)) (k : V p l e R s m args below meth c E nL A Q ws lv tgt st) : V p l e R s m args below meth c E nL A Q ws lv pc (.int x :: st) :=
  fun H locs ls hP hD hS hl => lv_tableOut hX.1 hX.2.1 hd h ht (k H locs ls hP hD hS hl)
theorem v_tableIn (hX : Xc p s m args meth c E nL A cc own Ts) {dflt lo hi : Int} {offs : Array Int} {len : Nat} {x : Int32} {off : Int} {tgt : Nat} (hd : decode cc pc = .ok (.tableswitch dflt lo hi offs, len)) (h1 : ¬ x.toInt < lo) (h2 : ¬ hi < x.toInt) (ho : offs[(x.toInt - lo).toNat]? = some off) (ht : (pc : Int) + off = (tgt : Int)) (k : V p l e R s m args below meth c E nL A Q ws lv tgt st) : V p l e R s m args below meth c E nL A Q ws lv pc (.int x :: st) :=
  fun H locs ls hP hD hS hl => lv_tableIn hX.1 hX.2.1 hd h1 h2 ho ht (k H locs ls hP hD hS hl)
theorem v_get (hX : Xc p s m args meth c E nL A cc own Ts) {ref C : String} {T : u_T} {N ci index a : Nat} (hin : ∀ w ∈ u_ws C T N, w ∈ Ts) (q0 : Nat) {fs : List Value} (he : ws[q0]? = some (a, .inr (ci, fs))) (hc : vwCl[ci]? = some (C, T, N)) (k : Nat) (hk : k < N) (hlink : Cond.fieldLink own index ref (T k).2.1 (T k).2.2.1 ∈ Ts) (hr : (T k).1 = ref) {v : Value} (hv : fs[k]? = some v) (hd : decode cc pc = .ok (.getfield index, 3))
    (kk : V p l e R s m args below meth c E nL A Q ws lv (pc + 3) (v :: st)) : V p l e R s m args below meth c E nL A Q ws lv pc (.ref a :: st) :=
  fun H locs ls hP hD hS h => va_get hX.1 hX.2.1 hX.2.2.2.2.1 hin hX.2.2.2.1 hX.2.2.2.2.2.1 hP q0 he hc k hk (hX.2.2.2.2.1 _ hlink) (fun _ h9 => hr ▸ h9) hv hd (kk H locs ls hP hD hS h)
theorem v_put (hX : Xc p s m args meth c E nL A cc own Ts) {ref C : String} {T : u_T} {N ci index a : Nat} (hin : ∀ w ∈ u_ws C T N, w ∈ Ts) (ty0 : Nat → FieldType) (hty : ∀ k, k < N → parseFieldDescriptor (T k).2.2.1 = some (ty0 k)) (hnm : ∀ a, a < N → ∀ b, b < N → a ≠ b → (T a).2.1 ≠ (T b).2.1) (q0 : Nat) {fs : List Value} (he : ws[q0]? = some (a, .inr (ci, fs))) (hc : vwCl[ci]? = some (C, T, N)) (k : Nat) (hk : k < N) (hlink : Cond.fieldLink own index ref (T k).2.1 (T k).2.2.1 ∈ Ts) (hr : (T k).1 = ref) (hfin : (T k).2.2.2 = false) {ty : FieldType} {v : Value} (hd0 : parseFieldDescriptor (T k).2.2.1 = some ty) (hn : narrow ty v = v) (hfit : fits ty v = true) (hl : k < fs.length) (hd : decode cc pc = .ok (.putfield index, 3)) (hw : ws.set q0 (a, .inr (ci, fs.set k v)) = ws')
    (kk : V p l e R s m args below meth c E nL A Q ws' lv (pc + 3) st) : V p l e R s m args below meth c E nL A Q ws lv pc (v :: .ref a :: st) :=
  fun H locs ls hP hD hS h => va_put hX.1 hX.2.1 hX.2.2.2.2.1 hin ty0 hty hnm hX.2.2.2.1 hX.2.2.2.2.2.1 hP hD hS q0 he hc k hk (hX.2.2.2.2.1 _ hlink) (fun _ h9 => hr ▸ h9) hfin hd0 hn hfit hl hd (fun H1 locs1 hP1 hD1 hS1 => kk H1 locs1 ls (hw ▸ hP1) (hw ▸ hD1) hS1 h)
theorem v_iald (hX : Xc p s m args meth c E nL A cc own Ts) (q0 : Nat) {a n : Nat} {f : Nat → Int32} (ha : ws[q0]? = some (a, .inl (E.2 0, n, .inl f))) {i z : Int32} (hin : vp_in i n) (hz : f i.toNatClampNeg = z) (hd : decode cc pc = .ok (.iaload, 1))
    (k : V p l e R s m args below meth c E nL A Q ws lv (pc + 1) (.int z :: st)) : V p l e R s m args below meth c E nL A Q ws lv pc (.int i :: .ref a :: st) :=
  fun H locs ls hP hD hS h => va_iald hX.1 hX.2.1 hX.2.2.2.2.2.1 hP q0 0 ha rfl hin hd (by rw [hz]; exact k H locs ls hP hD hS h)
theorem v_zald (hX : Xc p s m args meth c E nL A cc own Ts) (q0 : Nat) {a n : Nat} {f : Nat → Int32} (ha : ws[q0]? = some (a, .inl (E.2 1, n, .inl f))) {i z : Int32} (hin : vp_in i n) (hz : f i.toNatClampNeg = z) (hd : decode cc pc = .ok (.baload, 1))
    (k : V p l e R s m args below meth c E nL A Q ws lv (pc + 1) (.int z :: st)) : V p l e R s m args below meth c E nL A Q ws lv pc (.int i :: .ref a :: st) :=
  fun H locs ls hP hD hS h => va_zald hX.1 hX.2.1 hX.2.2.2.2.2.1 hP q0 1 ha rfl hin hd (by rw [hz]; exact k H locs ls hP hD hS h)
theorem v_cald (hX : Xc p s m args meth c E nL A cc own Ts) (q0 : Nat) {a n : Nat} {f : Nat → Int32} (ha : ws[q0]? = some (a, .inl (E.2 2, n, .inl f))) {i z : Int32} (hin : vp_in i n) (hz : f i.toNatClampNeg = z) (hd : decode cc pc = .ok (.caload, 1))
    (k : V p l e R s m args below meth c E nL A Q ws lv (pc + 1) (.int z :: st)) : V p l e R s m args below meth c E nL A Q ws lv pc (.int i :: .ref a :: st) :=
  fun H locs ls hP hD hS h => va_cald hX.1 hX.2.1 hX.2.2.2.2.2.1 hP q0 2 ha rfl hin hd (by rw [hz]; exact k H locs ls hP hD hS h)
theorem v_aaldK (hX : Xc p s m args meth c E nL A cc own Ts) (q0 : Nat) {a n b : Nat} {f : Nat → Option Nat} (ha : ws[q0]? = some (a, .inl (E.2 3, n, .inr (.inr (.inr (.inr f)))))) {i : Int32} (hin : vp_in i n) (hz : f i.toNatClampNeg = some b) (hd : decode cc pc = .ok (.aaload, 1))
    (k : V p l e R s m args below meth c E nL A Q ws lv (pc + 1) (.ref b :: st)) : V p l e R s m args below meth c E nL A Q ws lv pc (.int i :: .ref a :: st) :=
  fun H locs ls hP hD hS h => va_aldq hX.1 hX.2.1 hX.2.2.2.2.2.1 hP q0 3 ha rfl hin hd (by rw [hz]; exact k H locs ls hP hD hS h)
theorem v_aaldM (hX : Xc p s m args meth c E nL A cc own Ts) (q0 : Nat) {a n b : Nat} {f : Nat → Option Nat} (ha : ws[q0]? = some (a, .inl (E.2 4, n, .inr (.inr (.inr (.inr f)))))) {i : Int32} (hin : vp_in i n) (hz : f i.toNatClampNeg = some b) (hd : decode cc pc = .ok (.aaload, 1))
    (k : V p l e R s m args below meth c E nL A Q ws lv (pc + 1) (.ref b :: st)) : V p l e R s m args below meth c E nL A Q ws lv pc (.int i :: .ref a :: st) :=
  fun H locs ls hP hD hS h => va_aldq hX.1 hX.2.1 hX.2.2.2.2.2.1 hP q0 4 ha rfl hin hd (by rw [hz]; exact k H locs ls hP hD hS h)
theorem v_alen (hX : Xc p s m args meth c E nL A cc own Ts) (q0 : Nat) {a t0 n : Nat} {cA : ClassId} {ty : FieldType} {f : (Nat → Int32) ⊕ (Nat → Int64) ⊕ (Nat → UInt32) ⊕ (Nat → UInt64) ⊕ (Nat → Option Nat)} (ha : ws[q0]? = some (a, .inl (cA, n, f))) (ht : (tysE E)[t0]? = some (cA, ty)) {z : Int32} (hz : Int32.ofNat n = z) (hd : decode cc pc = .ok (.arraylength, 1))
    (k : V p l e R s m args below meth c E nL A Q ws lv (pc + 1) (.int z :: st)) : V p l e R s m args below meth c E nL A Q ws lv pc (.ref a :: st) :=
  fun H locs ls hP hD hS h => va_alen hX.1 hX.2.1 hX.2.2.2.2.2.1 hP q0 t0 ha ht hz hd (k H locs ls hP hD hS h)
theorem v_iast (hX : Xc p s m args meth c E nL A cc own Ts) (q0 : Nat) {a n : Nat} {f : Nat → Int32} (ha : ws[q0]? = some (a, .inl (E.2 0, n, .inl f))) {i x : Int32} (hin : vp_in i n) (hw : ws.set q0 (a, .inl (E.2 0, n, .inl (upd f i.toNatClampNeg x))) = ws') (hd : decode cc pc = .ok (.iastore, 1))
    (k : V p l e R s m args below meth c E nL A Q ws' lv (pc + 1) st) : V p l e R s m args below meth c E nL A Q ws lv pc (.int x :: .int i :: .ref a :: st) :=
  fun H locs ls hP hD hS h => va_iast hX.1 hX.2.1 hX.2.2.2.2.2.1 hP hD hS q0 0 ha rfl hin hd (fun H1 locs1 hP1 hD1 hS1 => k H1 locs1 ls (hw ▸ hP1) (hw ▸ hD1) hS1 h)
theorem v_zast (hX : Xc p s m args meth c E nL A cc own Ts) (q0 : Nat) {a n : Nat} {f : Nat → Int32} (ha : ws[q0]? = some (a, .inl (E.2 1, n, .inl f))) {i x : Int32} (hin : vp_in i n) (hw : ws.set q0 (a, .inl (E.2 1, n, .inl (upd f i.toNatClampNeg (vp_nar .boolean x)))) = ws') (hd : decode cc pc = .ok (.bastore, 1))
    (k : V p l e R s m args below meth c E nL A Q ws' lv (pc + 1) st) : V p l e R s m args below meth c E nL A Q ws lv pc (.int x :: .int i :: .ref a :: st) :=
  fun H locs ls hP hD hS h => va_zast hX.1 hX.2.1 hX.2.2.2.2.2.1 hP hD hS q0 1 ha rfl hin hd (fun H1 locs1 hP1 hD1 hS1 => k H1 locs1 ls (hw ▸ hP1) (hw ▸ hD1) hS1 h)
theorem v_cast (hX : Xc p s m args meth c E nL A cc own Ts) (q0 : Nat) {a n : Nat} {f : Nat → Int32} (ha : ws[q0]? = some (a, .inl (E.2 2, n, .inl f))) {i x : Int32} (hin : vp_in i n) (hw : ws.set q0 (a, .inl (E.2 2, n, .inl (upd f i.toNatClampNeg (vp_nar .char x)))) = ws') (hd : decode cc pc = .ok (.castore, 1))
    (k : V p l e R s m args below meth c E nL A Q ws' lv (pc + 1) st) : V p l e R s m args below meth c E nL A Q ws lv pc (.int x :: .int i :: .ref a :: st) :=
  fun H locs ls hP hD hS h => va_cast hX.1 hX.2.1 hX.2.2.2.2.2.1 hP hD hS q0 2 ha rfl hin hd (fun H1 locs1 hP1 hD1 hS1 => k H1 locs1 ls (hw ▸ hP1) (hw ▸ hD1) hS1 h)
theorem v_copy (hX : Xc p s m args meth c E nL A cc own Ts) {index : Nat} (hlink : Cond.methodLink own index arraycopyName ∈ Ts) (hnat : Cond.native arraycopyName ∈ Ts) (hstat : Cond.static arraycopyName ∈ Ts) (hini : Cond.initialized "java/lang/System" ∈ Ts) (q0 q1 t0 : Nat) {a a0 : Nat} {ca : ClassId} {n0 n1 : Nat} {f g : Nat → Int32} {ty : FieldType} (ha0 : ws[q0]? = some (a0, .inl (ca, n0, .inl f))) (ha1 : ws[q1]? = some (a, .inl (ca, n1, .inl g))) (ht : (tysE E)[t0]? = some (ca, ty)) (hprim : refKind ty = false)
    {sp dp n : Int32} (h1 : ¬ sp < 0) (h2 : ¬ dp < 0) (h3 : ¬ n < 0) (h4 : sp.toNatClampNeg + n.toNatClampNeg ≤ n0) (h5 : dp.toNatClampNeg + n.toNatClampNeg ≤ n1) (hfit : ∀ i, i < n.toNatClampNeg → fits ty (.int (f (sp.toNatClampNeg + i))) = true)
    (hframes : 1 ≤ R.frames) (hlocals : (st.map fun v => v.category).sum + (nativeFrameWords "java/lang/System" "arraycopy" 5 + 11) ≤ R.locals) (hd : decode cc pc = .ok (.invokestatic index, 3))
    (hw : ws.set q1 (a, .inl (ca, n1, .inl (va_cpy f g sp.toNatClampNeg dp.toNatClampNeg n.toNatClampNeg))) = ws')
    (kk : V p l e R s m args below meth c E nL A Q ws' lv (pc + 3) st) : V p l e R s m args below meth c E nL A Q ws lv pc (.int n :: .int dp :: .ref a :: .int sp :: .ref a0 :: st) :=
  fun H locs ls hP hD hS h => va_copyi hX.1 hX.2.1 (hX.2.2.1.trans h.1.symm) hX.2.2.2.1 (hX.2.2.2.2.1 _ hlink) (hX.2.2.2.2.1 _ hnat) (hX.2.2.2.2.1 _ hstat) (hX.2.2.2.2.1 _ hini) hX.2.2.2.2.2.1 hP hD hS q0 q1 t0 t0 ha0 ha1 ht ht hprim h1 h2 h3 h4 h5 hfit hframes hlocals hd (fun H1 locs1 hP1 hD1 hS1 => kk H1 locs1 ls (hw ▸ hP1) (hw ▸ hD1) hS1 h)
theorem v_iret (hX : Xc p s m args meth c E nL A cc own Ts) (hr : meth.sig.returnType = some .int) {r r' : Int32} {ws0 : va_W} {sz : Nat} {fr : Addr → Prop} (hsz : s.heap.size = sz) (hd : decode cc pc = .ok (.ireturn, 1)) (hA : A = va_A ws0 sz) (hfr : fr = va_A ws0 sz) (e1 : r' = r) (e2 : ws = ws') :
    V p l e R s m args below meth c E nL A (MQ below (mQi E r ws0 ws' sz) args s 0 0 fr) ws lv pc [.int r'] := by
  intro H locs ls hP hD hS h
  subst hA; subst hfr; subst e1; subst e2
  exact W.iret hX.1 hX.2.1 hr (fun t ht hW => ⟨⟨r', (), rfl, rfl, by show va_P E.1 vwCl ws t.heap; rw [ht]; exact hP⟩, hS.F ht⟩) hS.2.2 hd hX.2.2.2.2.2.2.2.1
theorem v_zret (hX : Xc p s m args meth c E nL A cc own Ts) (hr : meth.sig.returnType = some .boolean) {r r' : Int32} {ws0 : va_W} {sz : Nat} {fr : Addr → Prop} (hsz : s.heap.size = sz) (hd : decode cc pc = .ok (.ireturn, 1)) (hA : A = va_A ws0 sz) (hfr : fr = va_A ws0 sz) (hn : narrow .boolean (.int r') = .int r') (e1 : r' = r) (e2 : ws = ws') :
    V p l e R s m args below meth c E nL A (MQ below (mQi E r ws0 ws' sz) args s 0 0 fr) ws lv pc [.int r'] := by
  intro H locs ls hP hD hS h
  subst hA; subst hfr; subst e1; subst e2
  exact W.zret hX.1 hX.2.1 hr hn (fun t ht hW => ⟨⟨r', (), rfl, rfl, by show va_P E.1 vwCl ws t.heap; rw [ht]; exact hP⟩, hS.F ht⟩) hS.2.2 hd hX.2.2.2.2.2.2.2.1
theorem v_vret (hX : Xc p s m args meth c E nL A cc own Ts) (hr : meth.sig.returnType = none) {ws0 : va_W} {sz : Nat} {fr : Addr → Prop} (hsz : s.heap.size = sz) (hd : decode cc pc = .ok (.return_, 1)) (hA : A = va_A ws0 sz) (hfr : fr = va_A ws0 sz) (e2 : ws = ws') :
    V p l e R s m args below meth c E nL A (MQ below (mQv E ws0 ws' sz) args s 0 0 fr) ws lv pc [] := by
  intro H locs ls hP hD hS h
  subst hA; subst hfr; subst e2
  exact W.vret hX.1 hX.2.1 hr (fun t ht hW => ⟨⟨(), rfl, trivial, by show va_P E.1 vwCl ws t.heap; rw [ht]; exact hP⟩, hS.F ht⟩) hS.2.2 hd hX.2.2.2.2.2.2.2.1
end VB
theorem fst_get {ws ws' : va_W} (h : ws'.map Prod.fst = ws.map Prod.fst) {i : Nat} {q : Nat × va_E} (hi : ws'[i]? = some q) : ∃ q0, ws[i]? = some q0 ∧ q0.1 = q.1 := by
  have h1 : (ws'.map Prod.fst)[i]? = some q.1 := by rw [List.getElem?_map, hi]; rfl
  rw [h, List.getElem?_map] at h1
  cases hw : ws[i]? with
  | none => rw [hw] at h1; cases h1
  | some q0 => rw [hw] at h1; exact ⟨q0, rfl, Option.some.inj h1⟩
theorem vD_fst {A : Nat → Prop} {ws ws' : va_W} (hD : va_D A ws) (h : ws'.map Prod.fst = ws.map Prod.fst) : va_D A ws' := by
  refine ⟨fun i j x y hi hj hxy => ?_, fun k q hk => ?_⟩
  · obtain ⟨x0, h1, h2⟩ := fst_get h hi
    obtain ⟨y0, h3, h4⟩ := fst_get h hj
    exact hD.1 i j x0 y0 h1 h3 (h2.trans (hxy.trans h4.symm))
  · obtain ⟨q0, h1, h2⟩ := fst_get h hk
    rw [← h2]
    exact hD.2 k q0 h1
theorem vD_mid {A : Nat → Prop} {pre wc post : va_W} (hD : va_D A (pre ++ (wc ++ post))) {B : Nat → Prop} (hB : ∀ q, B q) : va_D B wc := by
  have at' : ∀ (k : Nat) (q : Nat × va_E), wc[k]? = some q → (pre ++ (wc ++ post))[pre.length + k]? = some q := by
    intro k q hk
    have hl := (List.getElem?_eq_some_iff.mp hk).1
    rw [List.getElem?_append_right (by omega), Nat.add_sub_cancel_left, List.getElem?_append_left hl]
    exact hk
  refine ⟨fun i j x y hi hj hxy => ?_, fun k q _ => hB q.1⟩
  have := hD.1 _ _ x y (at' i x hi) (at' j y hj) hxy
  omega
theorem vP_mid {D : va_G} {cl : List vw_C} {pre wc post : va_W} {H : Heap} (hP : va_P D cl (pre ++ (wc ++ post)) H) : va_P D cl wc H := by
  intro k q hk
  have hm : q ∈ pre ++ (wc ++ post) := List.mem_append_right _ (List.mem_append_left _ (List.mem_of_getElem? hk))
  obtain ⟨i, hi⟩ := List.getElem?_of_mem hm
  exact hP i q hi
theorem vA_mid {A0 : Nat → Prop} {pre wc post : va_W} {H0 H : Heap} {locs : List Loc} (hD : va_D A0 (pre ++ (wc ++ post))) (hS : va_S A0 H0 H locs) (hA : ∀ q, H0.size ≤ q → A0 q) : ∀ q, va_A wc H.size q → A0 q := by
  intro q h
  rcases h with ⟨k, e, h⟩ | h
  · have hm : (q, e) ∈ pre ++ (wc ++ post) := List.mem_append_right _ (List.mem_append_left _ (List.mem_of_getElem? h))
    obtain ⟨i, hi⟩ := List.getElem?_of_mem hm
    exact hD.2 i (q, e) hi
  · exact hA q (Nat.le_trans hS.1 h)
theorem jn {A0 : Nat → Prop} {D : va_G} {cl : List vw_C} {pre wc post wc' : va_W} {H H1 : Heap} (hP : va_P D cl (pre ++ (wc ++ post)) H) (hD : va_D A0 (pre ++ (wc ++ post))) (hk : ∀ q : Nat, q < H.size → ¬ va_A wc H.size q → H1[q]? = H[q]?) (hP1 : va_P D cl wc' H1) (ha : wc'.map Prod.fst = wc.map Prod.fst) :
    va_P D cl (pre ++ (wc' ++ post)) H1 ∧ va_D A0 (pre ++ (wc' ++ post)) := by
  have hlen : wc'.length = wc.length := by have := congrArg List.length ha; simpa using this
  refine ⟨?_, vD_fst hD (by simp [ha])⟩
  have keep : ∀ (i : Nat) (q : Nat × va_E), (pre ++ (wc ++ post))[i]? = some q → (i < pre.length ∨ pre.length + wc.length ≤ i) → va_at D cl q H1 := by
    intro i q hi hout
    have hat := hP i q hi
    refine hat.kept (hk q.1 hat.lt ?_)
    rintro (⟨k, e, h⟩ | h)
    · have hl := (List.getElem?_eq_some_iff.mp h).1
      have h2 : (pre ++ (wc ++ post))[pre.length + k]? = some (q.1, e) := by
        rw [List.getElem?_append_right (by omega), Nat.add_sub_cancel_left, List.getElem?_append_left hl]
        exact h
      have := hD.1 i _ q (q.1, e) hi h2 rfl
      omega
    · have := hat.lt
      omega
  intro k q hq
  by_cases h1 : k < pre.length
  · rw [List.getElem?_append_left h1] at hq
    exact keep k q (by rw [List.getElem?_append_left h1]; exact hq) (Or.inl h1)
  · rw [List.getElem?_append_right (by omega)] at hq
    by_cases h2 : k - pre.length < wc'.length
    · rw [List.getElem?_append_left h2] at hq
      exact hP1 _ q hq
    · rw [List.getElem?_append_right (by omega)] at hq
      refine keep k q ?_ (Or.inr (by omega))
      rw [List.getElem?_append_right (by omega), List.getElem?_append_right (by omega), ← hlen]
      exact hq
theorem blind_mPc (E : ET) (av : List Value) (sz : Nat) (ws : va_W) : FrameBlind (mPc E av sz ws) := fun a U g mk q => by
  obtain ⟨q0, q1, qP, qK, qD, qN⟩ := q
  exact ⟨q0, q1, qP, va_K.moved (u := U) (U := U.calling g mk a) (Vm.Alike.refl U.vm) qK, qD, Nst.same (u := U) rfl qN⟩
section VC
variable {p : Program} {l : Launch} {e : Env} {R : Room} {s : State} {m : MethodId} {args : Array Value} {below : List Frame} {meth : Method} {c : Code} {E : ET} {nL : Nat} {A : Nat → Prop} {Q : State → Prop} {cc : ByteArray} {own : String} {Ts : List Cond} {ws ws' : va_W} {lv : List Value} {pc : Nat} {st rest : List Value}
variable {y : MethodName} {bytes : ByteArray} {maxL n index : Nat} {ret : Option FieldType} {wsy : List Cond} {rm : Room} {pre wc wc' post : va_W} {As : List Value} {b : Nat} {r : Int32} {C : String} {host : String}
theorem preW (hX : Xc p s m args meth c E nL A cc own Ts) {H : Heap} (hP : va_P E.1 vwCl (pre ++ (wc ++ post)) H) (hD : va_D A (pre ++ (wc ++ post))) {av : List Value} : ∀ U : State, U.heap = H → s.WarmedH U.vm → mPc E av H.size wc av.toArray U :=
  fun U hU hW => ⟨rfl, by rw [hU], by rw [hU]; exact vP_mid hP, va_K.moved hW.alike hX.2.2.2.2.2.1, vD_mid hD (fun _ => trivial), hX.2.2.2.2.2.2.2.2.warm hW⟩
theorem v_callVi (hX : Xc p s m args meth c E nL A cc own Ts) (hM : ∀ sz, Met l y wsy rm (mPc E (.ref b :: As) sz wc) (mQi E r wc wc' sz) 0 0 (va_A wc sz)) (cw : CallW R s args own C index y bytes maxL ret wsy rm 0 0 n)
    (pre post : va_W) (hs : ws = pre ++ (wc ++ post)) (hs' : pre ++ (wc' ++ post) = ws') (ha : wc'.map Prod.fst = wc.map Prod.fst) {ci q0 : Nat} {k : vw_C} {fs : List Value} (hc : vwCl[ci]? = some k) (hkC : k.1 = C) (he : wc[q0]? = some (b, .inr (ci, fs)))
    (hn : As.length = n) (hst : st = As.reverse ++ .ref b :: rest) (hcat : (rest.map fun v => v.category).sum ≤ 8) (hd : decode cc pc = .ok (.invokevirtual index, 3)) (kk : V p l e R s m args below meth c E nL A Q ws' lv (pc + 3) (.int r :: rest)) : V p l e R s m args below meth c E nL A Q ws lv pc st := by
  intro H locs ls hP hD hS h
  subst hs; subst hs'; subst hkC
  refine va_calli (va_runV (As := As) (rest := rest) ⟨hX.1, hX.2.1, hX.2.2.1, hX.2.2.2.1, hX.2.2.2.2.1⟩ (hM H.size) cw ⟨blind_mPc _ _ _ _, va_recv hX.2.2.2.2.2.1 (vP_mid hP) hc he, preW hX hP hD⟩ rfl hn h.1 hst (lv_room hcat) hd ⟨Nat.zero_le _, Nat.zero_le _⟩) hS (fun q _ h => vA_mid hD hS hX.2.2.2.2.2.2.1 q h) (vA_mid hD hS hX.2.2.2.2.2.2.1) (fun r1 u t H1 locs1 ht hvm hw hB hz1 hk1 hS1 => ?_)
  subst hw
  rw [ht] at hB
  obtain ⟨hP1, hD1⟩ := jn hP hD hk1 hB ha
  exact kk H1 locs1 ls hP1 hD1 hS1 h
theorem v_callVv (hX : Xc p s m args meth c E nL A cc own Ts) (hM : ∀ sz, Met l y wsy rm (mPc E (.ref b :: As) sz wc) (mQv E wc wc' sz) 0 0 (va_A wc sz)) (cw : CallW R s args own C index y bytes maxL ret wsy rm 0 0 n)
    (pre post : va_W) (hs : ws = pre ++ (wc ++ post)) (hs' : pre ++ (wc' ++ post) = ws') (ha : wc'.map Prod.fst = wc.map Prod.fst) {ci q0 : Nat} {k : vw_C} {fs : List Value} (hc : vwCl[ci]? = some k) (hkC : k.1 = C) (he : wc[q0]? = some (b, .inr (ci, fs)))
    (hn : As.length = n) (hst : st = As.reverse ++ .ref b :: rest) (hcat : (rest.map fun v => v.category).sum ≤ 8) (hd : decode cc pc = .ok (.invokevirtual index, 3)) (kk : V p l e R s m args below meth c E nL A Q ws' lv (pc + 3) rest) : V p l e R s m args below meth c E nL A Q ws lv pc st := by
  intro H locs ls hP hD hS h
  subst hs; subst hs'; subst hkC
  refine va_callv (va_runV (As := As) (rest := rest) ⟨hX.1, hX.2.1, hX.2.2.1, hX.2.2.2.1, hX.2.2.2.2.1⟩ (hM H.size) cw ⟨blind_mPc _ _ _ _, va_recv hX.2.2.2.2.2.1 (vP_mid hP) hc he, preW hX hP hD⟩ rfl hn h.1 hst (lv_room hcat) hd ⟨Nat.zero_le _, Nat.zero_le _⟩) hS (fun q _ h => vA_mid hD hS hX.2.2.2.2.2.2.1 q h) (vA_mid hD hS hX.2.2.2.2.2.2.1) (fun u t H1 locs1 ht hvm hw hB hz1 hk1 hS1 => ?_)
  rw [ht] at hB
  obtain ⟨hP1, hD1⟩ := jn hP hD hk1 hB ha
  exact kk H1 locs1 ls hP1 hD1 hS1 h
theorem v_callSi (hX : Xc p s m args meth c E nL A cc own Ts) (hM : ∀ sz, Met l y wsy rm (mPc E As sz wc) (mQi E r wc wc' sz) 0 0 (va_A wc sz)) (cw : CallB R s args own index y bytes maxL ret wsy rm 0 0 n ∧ (Cond.static y).before args s = true)
    (pre post : va_W) (hs : ws = pre ++ (wc ++ post)) (hs' : pre ++ (wc' ++ post) = ws') (ha : wc'.map Prod.fst = wc.map Prod.fst)
    (hn : As.length = n) (hst : st = As.reverse ++ rest) (hcat : (rest.map fun v => v.category).sum ≤ 8) (hd : decode cc pc = .ok (.invokestatic index, 3)) (kk : V p l e R s m args below meth c E nL A Q ws' lv (pc + 3) (.int r :: rest)) : V p l e R s m args below meth c E nL A Q ws lv pc st := by
  intro H locs ls hP hD hS h
  subst hs; subst hs'
  refine va_calli (va_runS (As := As) (rest := rest) ⟨hX.1, hX.2.1, hX.2.2.1, hX.2.2.2.1, hX.2.2.2.2.1⟩ (hM H.size) cw ⟨blind_mPc _ _ _ _, preW hX hP hD⟩ rfl hn h.1 hst (lv_room hcat) hd ⟨Nat.zero_le _, Nat.zero_le _⟩) hS (fun q _ h => vA_mid hD hS hX.2.2.2.2.2.2.1 q h) (vA_mid hD hS hX.2.2.2.2.2.2.1) (fun r1 u t H1 locs1 ht hvm hw hB hz1 hk1 hS1 => ?_)
  subst hw
  rw [ht] at hB
  obtain ⟨hP1, hD1⟩ := jn hP hD hk1 hB ha
  exact kk H1 locs1 ls hP1 hD1 hS1 h
theorem v_callSNi (hX : Xc p s m args meth c E nL A cc own Ts) (hM : ∀ sz, Met l y wsy rm (mPc E As sz wc) (mQi E r wc wc' sz) 0 0 (va_A wc sz)) (cw : va_CN R s args own index y host bytes maxL ret wsy rm 0 0 n ∧ (Cond.static y).before args s = true ∧ True)
    (pre post : va_W) (hs : ws = pre ++ (wc ++ post)) (hs' : pre ++ (wc' ++ post) = ws') (ha : wc'.map Prod.fst = wc.map Prod.fst)
    (hn : As.length = n) (hst : st = As.reverse ++ rest) (hcat : (rest.map fun v => v.category).sum ≤ 8) (hd : decode cc pc = .ok (.invokestatic index, 3)) (kk : V p l e R s m args below meth c E nL A Q ws' lv (pc + 3) (.int r :: rest)) : V p l e R s m args below meth c E nL A Q ws lv pc st := by
  intro H locs ls hP hD hS h
  subst hs; subst hs'
  refine va_calli (va_runSN (As := As) (rest := rest) ⟨hX.1, hX.2.1, hX.2.2.1, hX.2.2.2.1, hX.2.2.2.2.1⟩ (hM H.size) cw ⟨blind_mPc _ _ _ _, preW hX hP hD⟩ rfl hn h.1 hst (lv_room hcat) hd ⟨Nat.zero_le _, Nat.zero_le _⟩) hS (fun q _ h => vA_mid hD hS hX.2.2.2.2.2.2.1 q h) (vA_mid hD hS hX.2.2.2.2.2.2.1) (fun r1 u t H1 locs1 ht hvm hw hB hz1 hk1 hS1 => ?_)
  subst hw
  rw [ht] at hB
  obtain ⟨hP1, hD1⟩ := jn hP hD hk1 hB ha
  exact kk H1 locs1 ls hP1 hD1 hS1 h
theorem vD_perm {A : Nat → Prop} {w1 w2 : va_W} (hD : va_D A w1) (hp : w1.Perm w2) : va_D A w2 := by
  have n1 : (w1.map Prod.fst).Nodup := by
    refine List.pairwise_iff_getElem.mpr ?_
    intro i j h1 h2 hij h
    rw [List.length_map] at h1 h2
    rw [List.getElem_map, List.getElem_map] at h
    have := hD.1 i j w1[i] w1[j] (List.getElem?_eq_getElem h1) (List.getElem?_eq_getElem h2) h
    omega
  have n2 : (w2.map Prod.fst).Nodup := (hp.map Prod.fst).nodup_iff.mp n1
  have n3 := List.pairwise_iff_getElem.mp n2
  have n4 : ∀ (i j : Nat) (x z : Nat × va_E), w2[i]? = some x → w2[j]? = some z → i < j → x.1 ≠ z.1 := by
    intro i j x z hi hj hij h
    obtain ⟨l1, e1⟩ := List.getElem?_eq_some_iff.mp hi
    obtain ⟨l2, e2⟩ := List.getElem?_eq_some_iff.mp hj
    refine n3 i j (by rw [List.length_map]; exact l1) (by rw [List.length_map]; exact l2) hij ?_
    rw [List.getElem_map, List.getElem_map, e1, e2]
    exact h
  refine ⟨fun i j x z hi hj hxz => ?_, fun k q hk => ?_⟩
  · rcases Nat.lt_trichotomy i j with h | h | h
    · exact absurd hxz (n4 i j x z hi hj h)
    · exact h
    · exact absurd hxz.symm (n4 j i z x hj hi h)
  · have hm := hp.symm.subset (List.mem_of_getElem? hk)
    obtain ⟨i, hi⟩ := List.getElem?_of_mem hm
    exact hD.2 i q hi
theorem vP_perm {D : va_G} {cl : List vw_C} {w1 w2 : va_W} {H : Heap} (hP : va_P D cl w1 H) (hp : w1.Perm w2) : va_P D cl w2 H := by
  intro k q hk
  have hm := hp.symm.subset (List.mem_of_getElem? hk)
  obtain ⟨i, hi⟩ := List.getElem?_of_mem hm
  exact hP i q hi
theorem v_perm {w2 : va_W} (hp : ws.Perm w2) (k : V p l e R s m args below meth c E nL A Q w2 lv pc st) : V p l e R s m args below meth c E nL A Q ws lv pc st :=
  fun H locs ls hP hD hS h => k H locs ls (vP_perm hP hp) (vD_perm hD hp) hS h
/-- worlds whose cells are the same cells -/
def wEq (w1 w2 : va_W) : Prop := w1.map (fun q => (q.1, match q.2 with | .inl a => (Sum.inl (vp_cell a.1 a.2) : Cell ⊕ (Nat × List Value)) | .inr o => Sum.inr o)) = w2.map (fun q => (q.1, match q.2 with | .inl a => (Sum.inl (vp_cell a.1 a.2) : Cell ⊕ (Nat × List Value)) | .inr o => Sum.inr o))
theorem wEq_at {w1 w2 : va_W} (h : wEq w1 w2) {k : Nat} {q : Nat × va_E} (hk : w2[k]? = some q) : ∃ q0, w1[k]? = some q0 ∧ q0.1 = q.1 ∧ ∀ (D : va_G) (cl : List vw_C) (H : Heap), va_at D cl q0 H → va_at D cl q H := by
  have h1 := congrArg (fun w => w[k]?) h
  simp only [List.getElem?_map, hk] at h1
  cases hw : w1[k]? with
  | none => rw [hw] at h1; cases h1
  | some q0 =>
    rw [hw] at h1
    refine ⟨q0, rfl, ?_, ?_⟩
    · have := congrArg Prod.fst (Option.some.inj h1)
      exact this
    · intro D cl H ha
      obtain ⟨a0, e0⟩ := q0
      obtain ⟨a1, e1⟩ := q
      have e := Option.some.inj h1
      cases e0 <;> cases e1 <;> simp only [Prod.mk.injEq, Sum.inl.injEq, Sum.inr.injEq, reduceCtorEq, and_false] at e
      · obtain ⟨rfl, e⟩ := e
        show H[_]? = some _
        rw [← e]; exact ha
      · obtain ⟨rfl, rfl⟩ := e
        exact ha
theorem wEq_P {w1 w2 : va_W} (h : wEq w1 w2) {D : va_G} {cl : List vw_C} {H : Heap} (hP : va_P D cl w1 H) : va_P D cl w2 H := by
  intro k q hk
  obtain ⟨q0, h1, -, h3⟩ := wEq_at h hk
  exact h3 D cl H (hP k q0 h1)
theorem wEq_D {w1 w2 : va_W} (h : wEq w1 w2) {A : Nat → Prop} (hD : va_D A w1) : va_D A w2 := by
  refine ⟨fun i j x z hi hj hxz => ?_, fun k q hk => ?_⟩
  · obtain ⟨x0, h1, h2, -⟩ := wEq_at h hi
    obtain ⟨y0, h3, h4, -⟩ := wEq_at h hj
    exact hD.1 i j x0 y0 h1 h3 (h2.trans (hxz.trans h4.symm))
  · obtain ⟨q0, h1, h2, -⟩ := wEq_at h hk
    rw [← h2]
    exact hD.2 k q0 h1
theorem v_weq {w2 : va_W} (hp : wEq ws w2) (k : V p l e R s m args below meth c E nL A Q w2 lv pc st) : V p l e R s m args below meth c E nL A Q ws lv pc st :=
  fun H locs ls hP hD hS h => k H locs ls (wEq_P hp hP) (wEq_D hp hD) hS h
theorem cell_congr {c : ClassId} {n : Nat} {f g : Nat → Int32} (h : ∀ j, j < n → f j = g j) : vp_cell c (n, .inl f) = vp_cell c (n, .inl g) := by
  have e : (Array.ofFn (n := n) fun j => Value.int (f j.val)) = Array.ofFn (n := n) fun j => Value.int (g j.val) := by
    congr 1
    funext j
    rw [h j.val j.isLt]
  show arrV c n (fun j => .int (f j)) = arrV c n (fun j => .int (g j))
  simp only [arrV, e]
end VC
