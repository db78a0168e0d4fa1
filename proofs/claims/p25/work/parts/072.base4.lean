section VG
variable {p : Program} {l : Launch} {e : Env} {R : Room} {s : State} {m : MethodId} {args : Array Value} {below : List Frame} {meth : Method} {c : Code} {E : ET} {nL : Nat} {A : Nat → Prop} {Q : State → Prop} {cc : ByteArray} {own : String} {Ts : List Cond} {ws ws' : va_W} {lv : List Value} {pc : Nat} {st rest : List Value}
variable {y : MethodName} {bytes : ByteArray} {maxL n index : Nat} {ret : Option FieldType} {wsy : List Cond} {rm : Room} {x1 x2 x1' x2' : va_W} {As : List Value} {b : Nat} {C : String} {r : Int32}
/-- a call whose world is two parts of ours, in the other order; both may change -/
theorem v_callVvB (hX : Xc p s m args meth c E nL A cc own Ts) (hM : ∀ sz, Met l y wsy rm (mPc E (.ref b :: As) sz (x1 ++ x2)) (mQv E (x1 ++ x2) (x1' ++ x2') sz) 0 0 (va_A (x1 ++ x2) sz)) (cw : CallW R s args own C index y bytes maxL ret wsy rm 0 0 n)
    (p1 p2 p3 : va_W) (hs : ws = p1 ++ (x2 ++ (p2 ++ (x1 ++ p3)))) (hs' : p1 ++ (x2' ++ (p2 ++ (x1' ++ p3))) = ws') (ha : x1'.map Prod.fst = x1.map Prod.fst) (ha2 : x2'.map Prod.fst = x2.map Prod.fst) {ci q0 : Nat} {k : vw_C} {fs : List Value} (hc : vwCl[ci]? = some k) (hkC : k.1 = C) (he : (x1 ++ x2)[q0]? = some (b, .inr (ci, fs)))
    (hn : As.length = n) (hst : st = As.reverse ++ .ref b :: rest) (hcat : (rest.map fun v => v.category).sum ≤ 8) (hd : decode cc pc = .ok (.invokevirtual index, 3)) (kk : V p l e R s m args below meth c E nL A Q ws' lv (pc + 3) rest) : V p l e R s m args below meth c E nL A Q ws lv pc st := by
  subst hs
  refine v_perm (perm2s p1 x1 p2 x2 p3) ?_
  refine v_callVv hX hM cw [] (p1 ++ (p2 ++ p3)) rfl rfl (by rw [List.map_append, List.map_append, ha, ha2]) hc hkC he hn hst hcat hd ?_
  refine v_perm (perm2s p1 x1' p2 x2' p3).symm ?_
  rw [hs']
  exact kk
theorem v_callViB (hX : Xc p s m args meth c E nL A cc own Ts) (hM : ∀ sz, Met l y wsy rm (mPc E (.ref b :: As) sz (x1 ++ x2)) (mQi E r (x1 ++ x2) (x1' ++ x2') sz) 0 0 (va_A (x1 ++ x2) sz)) (cw : CallW R s args own C index y bytes maxL ret wsy rm 0 0 n)
    (p1 p2 p3 : va_W) (hs : ws = p1 ++ (x2 ++ (p2 ++ (x1 ++ p3)))) (hs' : p1 ++ (x2' ++ (p2 ++ (x1' ++ p3))) = ws') (ha : x1'.map Prod.fst = x1.map Prod.fst) (ha2 : x2'.map Prod.fst = x2.map Prod.fst) {ci q0 : Nat} {k : vw_C} {fs : List Value} (hc : vwCl[ci]? = some k) (hkC : k.1 = C) (he : (x1 ++ x2)[q0]? = some (b, .inr (ci, fs)))
    (hn : As.length = n) (hst : st = As.reverse ++ .ref b :: rest) (hcat : (rest.map fun v => v.category).sum ≤ 8) (hd : decode cc pc = .ok (.invokevirtual index, 3)) (kk : V p l e R s m args below meth c E nL A Q ws' lv (pc + 3) (.int r :: rest)) : V p l e R s m args below meth c E nL A Q ws lv pc st := by
  subst hs
  refine v_perm (perm2s p1 x1 p2 x2 p3) ?_
  refine v_callVi hX hM cw [] (p1 ++ (p2 ++ p3)) rfl rfl (by rw [List.map_append, List.map_append, ha, ha2]) hc hkC he hn hst hcat hd ?_
  refine v_perm (perm2s p1 x1' p2 x2' p3).symm ?_
  rw [hs']
  exact kk
theorem v_lookup (hX : Xc p s m args meth c E nL A cc own Ts) {dflt : Int} {ps : Array (Int × Int)} {len : Nat} {x : Int32} {off : Int} {tgt : Nat} (hd : decode cc pc = .ok (.lookupswitch dflt ps, len)) (hp : (ps.toList.zip (ps.toList.drop 1)).all (fun (a, next) => a.1 < next.1) = true) (ho : Op.lookupswitch.offset ps.toList dflt x.toInt = off) (ht : (pc : Int) + off = (tgt : Int)) (k : V p l e R s m args below meth c E nL A Q ws lv tgt st) : V p l e R s m args below meth c E nL A Q ws lv pc (.int x :: st) :=
  fun H locs ls hP hD hS hl => lv_lookup hX.1 hX.2.1 hd hp ho ht (k H locs ls hP hD hS hl)
end VG
theorem atL {y z : va_W} {k : Nat} {q : Nat × va_E} (h : y[k]? = some q) : (y ++ z)[k]? = some q := by
  rw [List.getElem?_append_left (List.getElem?_eq_some_iff.mp h).1]
  exact h
theorem atR {y z : va_W} {k : Nat} {q : Nat × va_E} (h : z[k]? = some q) : (y ++ z)[y.length + k]? = some q := by
  rw [List.getElem?_append_right (by omega), Nat.add_sub_cancel_left]
  exact h
theorem stL {y y' z : va_W} {k : Nat} {q : Nat × va_E} (hk : k < y.length) (h : y.set k q = y') : (y ++ z).set k q = y' ++ z := by
  rw [List.set_append_left _ _ hk, h]
theorem stR {y z z' : va_W} {k : Nat} {q : Nat × va_E} (h : z.set k q = z') : (y ++ z).set (y.length + k) q = y ++ z' := by
  rw [List.set_append_right _ _ (by omega), Nat.add_sub_cancel_left, h]
theorem i_lt0 {x : Int32} (h : x < 0) : x.toInt < 0 := by
  have := Int32.lt_iff_toInt_lt.mp h
  simpa using this
theorem i_hi {x : Int32} {n : Nat} (h : nI n ≤ x) (hn : n < 2 ^ 31) : (n : Int) ≤ x.toInt := by
  have := Int32.le_iff_toInt_le.mp h
  rwa [nI_toInt hn] at this
