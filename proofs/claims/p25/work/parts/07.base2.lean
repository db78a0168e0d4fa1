section VD
variable {p : Program} {l : Launch} {e : Env} {R : Room} {s : State} {m : MethodId} {args : Array Value} {below : List Frame} {meth : Method} {c : Code} {E : ET} {nL : Nat} {A : Nat → Prop} {Q : State → Prop} {cc : ByteArray} {own : String} {Ts : List Cond} {ws ws' : va_W} {lv lv' : List Value} {pc : Nat} {st rest : List Value}
theorem li_take : ∀ (lv : List Value) (b n : Nat) (q : Nat × Value), q ∈ li b (lv.take n) → q ∈ li b lv
  | [], b, n, q, h => by simpa using h
  | v :: t, b, 0, q, h => by simp [li] at h
  | v :: t, b, n + 1, q, h => by
    simp only [List.take_succ_cons, li, List.mem_cons] at h ⊢
    rcases h with h | h
    · exact Or.inl h
    · exact Or.inr (li_take t (b + 1) n q h)
theorem v_fewer (n : Nat) (h : lv.take n = lv') (k : V p l e R s m args below meth c E nL A Q ws lv' pc st) : V p l e R s m args below meth c E nL A Q ws lv pc st :=
  fun H locs ls hP hD hS hl => k H locs ls hP hD hS ⟨hl.1, hl.2.1, fun q hq => hl.2.2 q (li_take lv 0 n q (by rw [h]; exact hq))⟩
theorem wEq_set {w : va_W} (q1 : Nat) (a : Nat) {ca : ClassId} {n : Nat} {f g : Nat → Int32} (h : ∀ j, j < n → f j = g j) : wEq (w.set q1 (a, .inl (ca, n, .inl f))) (w.set q1 (a, .inl (ca, n, .inl g))) := by
  unfold wEq
  rw [List.map_set, List.map_set]
  simp only [cell_congr h]
theorem v_copyAll (hX : Xc p s m args meth c E nL A cc own Ts) {index : Nat} (hlink : Cond.methodLink own index arraycopyName ∈ Ts) (hnat : Cond.native arraycopyName ∈ Ts) (hstat : Cond.static arraycopyName ∈ Ts) (hini : Cond.initialized "java/lang/System" ∈ Ts) (q0 q1 t0 : Nat) {a a0 : Nat} {ca : ClassId} {n : Nat} {f g : Nat → Int32} {ty : FieldType} (ha0 : ws[q0]? = some (a0, .inl (ca, n, .inl f))) (ha1 : ws[q1]? = some (a, .inl (ca, n, .inl g))) (ht : (tysE E)[t0]? = some (ca, ty)) (hprim : refKind ty = false)
    {x : Int32} (hx : x = nI n) (hn : n < 2 ^ 31) (hfit : ∀ i, fits ty (.int (f i)) = true)
    (hframes : 1 ≤ R.frames) (hlocals : (st.map fun v => v.category).sum + (nativeFrameWords "java/lang/System" "arraycopy" 5 + 11) ≤ R.locals) (hd : decode cc pc = .ok (.invokestatic index, 3))
    (hw : ws.set q1 (a, .inl (ca, n, .inl f)) = ws')
    (kk : V p l e R s m args below meth c E nL A Q ws' lv (pc + 3) st) : V p l e R s m args below meth c E nL A Q ws lv pc (.int x :: .int 0 :: .ref a :: .int 0 :: .ref a0 :: st) := by
  subst hx
  refine v_copy hX hlink hnat hstat hini q0 q1 t0 ha0 ha1 ht hprim (sp := 0) (dp := 0) (by decide) (by decide) (nI_pos hn) ?_ ?_ (fun i _ => hfit _) hframes hlocals hd rfl (v_weq ?_ kk)
  · rw [nI_clamp hn]; show 0 + n ≤ n; omega
  · rw [nI_clamp hn]; show 0 + n ≤ n; omega
  · rw [← hw]
    refine wEq_set q1 a (fun j hj => ?_)
    rw [nI_clamp hn]
    show va_cpy f g 0 0 n j = f j
    rw [pk_cpy_in (Nat.zero_le j) (by omega)]
    simp
end VD
theorem isLtI {b : Bool} : (bI b = 1) ↔ b = true := by cases b <;> decide
def wZ (E : ET) (a : Nat → Nat) (v : Nat × (Nat → Bool)) : va_W := [(a 0, .inl (E.2 1, v.1, .inl (fun j => bI (v.2 j))))]
theorem wZ_fst (E : ET) (a : Nat → Nat) (v w : Nat × (Nat → Bool)) : (wZ E a v).map Prod.fst = (wZ E a w).map Prod.fst := rfl
