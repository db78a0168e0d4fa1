section VE
variable {p : Program} {l : Launch} {e : Env} {R : Room} {s : State} {m : MethodId} {args : Array Value} {below : List Frame} {meth : Method} {c : Code} {E : ET} {nL : Nat} {A : Nat → Prop} {Q : State → Prop} {cc : ByteArray} {own : String} {Ts : List Cond} {ws ws' : va_W} {lv : List Value} {pc : Nat} {st rest : List Value}
variable {y : MethodName} {bytes : ByteArray} {maxL n index : Nat} {ret : Option FieldType} {wsy : List Cond} {rm : Room} {x1 x2 x1' : va_W} {As : List Value} {b : Nat} {C : String}
theorem perm2 (p1 x p2 y p3 : va_W) : (p1 ++ (x ++ (p2 ++ (y ++ p3)))).Perm ([] ++ ((x ++ y) ++ (p1 ++ (p2 ++ p3)))) := by
  refine (List.perm_append_comm_assoc p1 x _).trans ?_
  rw [List.nil_append, List.append_assoc]
  refine List.Perm.append_left x ?_
  refine (List.perm_append_comm_assoc p1 p2 _).trans ?_
  refine (List.Perm.append_left p2 (List.perm_append_comm_assoc p1 y p3)).trans ?_
  refine (List.perm_append_comm_assoc p2 y _).trans ?_
  exact List.Perm.append_left y (List.perm_append_comm_assoc p2 p1 p3)
theorem perm2s (p1 x p2 y p3 : va_W) : (p1 ++ (y ++ (p2 ++ (x ++ p3)))).Perm ([] ++ ((x ++ y) ++ (p1 ++ (p2 ++ p3)))) := by
  refine (perm2 p1 y p2 x p3).trans ?_
  rw [List.nil_append, List.nil_append]
  exact List.Perm.append_right _ List.perm_append_comm
/-- a call whose world is two parts of ours, the first of them changes -/
theorem v_callVv2 (hX : Xc p s m args meth c E nL A cc own Ts) (hM : ∀ sz, Met l y wsy rm (mPc E (.ref b :: As) sz (x1 ++ x2)) (mQv E (x1 ++ x2) (x1' ++ x2) sz) 0 0 (va_A (x1 ++ x2) sz)) (cw : CallW R s args own C index y bytes maxL ret wsy rm 0 0 n)
    (p1 p2 p3 : va_W) (hs : ws = p1 ++ (x1 ++ (p2 ++ (x2 ++ p3)))) (hs' : p1 ++ (x1' ++ (p2 ++ (x2 ++ p3))) = ws') (ha : x1'.map Prod.fst = x1.map Prod.fst) {ci q0 : Nat} {k : vw_C} {fs : List Value} (hc : vwCl[ci]? = some k) (hkC : k.1 = C) (he : (x1 ++ x2)[q0]? = some (b, .inr (ci, fs)))
    (hn : As.length = n) (hst : st = As.reverse ++ .ref b :: rest) (hcat : (rest.map fun v => v.category).sum ≤ 8) (hd : decode cc pc = .ok (.invokevirtual index, 3)) (kk : V p l e R s m args below meth c E nL A Q ws' lv (pc + 3) rest) : V p l e R s m args below meth c E nL A Q ws lv pc st := by
  subst hs
  refine v_perm (perm2 p1 x1 p2 x2 p3) ?_
  refine v_callVv hX hM cw [] (p1 ++ (p2 ++ p3)) rfl rfl (by rw [List.map_append, List.map_append, ha]) hc hkC he hn hst hcat hd ?_
  refine v_perm (perm2 p1 x1' p2 x2 p3).symm ?_
  rw [hs']
  exact kk
theorem v_callVv2s (hX : Xc p s m args meth c E nL A cc own Ts) (hM : ∀ sz, Met l y wsy rm (mPc E (.ref b :: As) sz (x1 ++ x2)) (mQv E (x1 ++ x2) (x1' ++ x2) sz) 0 0 (va_A (x1 ++ x2) sz)) (cw : CallW R s args own C index y bytes maxL ret wsy rm 0 0 n)
    (p1 p2 p3 : va_W) (hs : ws = p1 ++ (x2 ++ (p2 ++ (x1 ++ p3)))) (hs' : p1 ++ (x2 ++ (p2 ++ (x1' ++ p3))) = ws') (ha : x1'.map Prod.fst = x1.map Prod.fst) {ci q0 : Nat} {k : vw_C} {fs : List Value} (hc : vwCl[ci]? = some k) (hkC : k.1 = C) (he : (x1 ++ x2)[q0]? = some (b, .inr (ci, fs)))
    (hn : As.length = n) (hst : st = As.reverse ++ .ref b :: rest) (hcat : (rest.map fun v => v.category).sum ≤ 8) (hd : decode cc pc = .ok (.invokevirtual index, 3)) (kk : V p l e R s m args below meth c E nL A Q ws' lv (pc + 3) rest) : V p l e R s m args below meth c E nL A Q ws lv pc st := by
  subst hs
  refine v_perm (perm2s p1 x1 p2 x2 p3) ?_
  refine v_callVv hX hM cw [] (p1 ++ (p2 ++ p3)) rfl rfl (by rw [List.map_append, List.map_append, ha]) hc hkC he hn hst hcat hd ?_
  refine v_perm (perm2s p1 x1' p2 x2 p3).symm ?_
  rw [hs']
  exact kk
end VE
