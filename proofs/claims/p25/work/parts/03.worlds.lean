/-! ===== the state in words: values of a filter, a core, a machine; their worlds ===== -/
def bI (b : Bool) : Int32 := if b = true then 1 else 0
def encL (x : Option (Fin 256)) : Int32 := match x with
  | none => -1
  | some n => nI n.val
theorem bI_0 {b : Bool} : bI b = 0 ↔ b = false := by cases b <;> decide
theorem bI_n0 {b : Bool} : ¬ bI b = 0 ↔ b = true := by cases b <;> decide
theorem bI_nar (b : Bool) : vp_nar .boolean (bI b) = bI b := by cases b <;> decide
theorem bI_narrow (b : Bool) : narrow .boolean (.int (bI b)) = .int (bI b) := by cases b <;> decide
theorem bI_fits (b : Bool) : fits .boolean (.int (bI b)) = true := by cases b <;> decide
theorem bI_st (s : Nat → Bool) (k : Nat) (b : Bool) : upd (fun j => bI (s j)) k (vp_nar .boolean (bI b)) = fun j => bI (va_up s k b j) := by
  funext j
  rw [bI_nar]
  by_cases h : j = k <;> simp [upd, va_up, h]
theorem nI_m1 {n : Nat} (h : n < 2 ^ 31) : ¬ nI n = -1 := by
  intro q
  have a := nI_toInt h
  rw [q] at a
  exact absurd a (by rw [show (-1 : Int32).toInt = -1 from by decide]; omega)
theorem encL_m1 {x : Option (Fin 256)} : encL x = -1 ↔ x = none := by
  cases x with
  | none => simp [encL]
  | some n => simp only [encL, reduceCtorEq, iff_false]; exact nI_m1 (by have := n.isLt; omega)
theorem encL_ex {x : Option (Fin 256)} (h : ¬ encL x = -1) : ∃ n : Fin 256, x = some n := by
  cases x with
  | none => exact absurd rfl h
  | some n => exact ⟨n, rfl⟩
theorem encL_eq {x : Option (Fin 256)} {n : Fin 256} : encL x = nI n.val ↔ x = some n := by
  have hn := n.isLt
  cases x with
  | none => simp only [encL, reduceCtorEq, iff_false]; exact fun q => nI_m1 (n := n.val) (by omega) q.symm
  | some k =>
    have hk := k.isLt
    simp only [encL, Option.some.injEq]
    rw [nI_eq (by omega) (by omega)]
    exact Fin.val_inj
theorem encL_st (s : Nat → Option (Fin 256)) (k : Nat) (x : Option (Fin 256)) : upd (fun j => encL (s j)) k (encL x) = fun j => encL (va_up s k x j) := by
  funext j
  by_cases h : j = k <;> simp [upd, va_up, h]
theorem cl {α : Type} {k : Nat} (h : k < 2 ^ 31) (f : Nat → α) : f (nI k).toNatClampNeg = f k := by rw [nI_clamp h]
theorem rem_c (a c : Nat) (ha : a < 2 ^ 31) (h0 : 0 < c) (hc : c < 2 ^ 31) : nI a - nI a / nI c * nI c = nI (a % c) := pk_rem ha h0 hc
theorem div_c (a c : Nat) (ha : a < 2 ^ 31) (h0 : 0 < c) (hc : c < 2 ^ 31) : nI a / nI c = nI (a / c) := pk_div ha h0 hc
theorem nI_inc (n : Nat) : nI n + Int32.ofInt 1 = nI (n + 1) := nI_1 n
def it {σ : Type} (f : Nat → σ → σ) : Nat → σ → σ
  | 0, x => x
  | n + 1, x => f n (it f n x)
abbrev FV : Type := (Nat → Int32) × (Nat → Bool) × (Nat → Bool)
abbrev KV : Type := (Nat → Option (Fin 256)) × (Nat → Int32) × (Nat → Bool) × (Nat → Int32) × FV
abbrev MV : Type := (Nat → Int32) × (Nat → KV) × Int32 × Int32 × Int32 × Int32
def wF (E : ET) (a : Nat → Nat) (v : FV) : va_W := [(a 0, .inr (1, [.ref (a 1), .ref (a 2), .ref (a 3)])), (a 1, .inl (E.2 0, 24, .inl v.1)), (a 2, .inl (E.2 1, 24, .inl (fun j => bI (v.2.1 j)))), (a 3, .inl (E.2 1, 16, .inl (fun j => bI (v.2.2 j))))]
def w5 (E : ET) (a : Nat → Nat) (v : KV) : va_W := [(a 0, .inr (0, [.ref (a 1), .ref (a 2), .ref (a 3), .ref (a 4), .ref (a 5)])), (a 1, .inl (E.2 0, 8, .inl (fun j => encL (v.1 j)))), (a 2, .inl (E.2 0, 8, .inl v.2.1)), (a 3, .inl (E.2 1, 8, .inl (fun j => bI (v.2.2.1 j)))), (a 4, .inl (E.2 0, 6, .inl v.2.2.2.1))]
abbrev fA (a : Nat → Nat) : Nat → Nat := fun j => a (5 + j)
def wK (E : ET) (a : Nat → Nat) (v : KV) : va_W := w5 E a v ++ (wF E (fA a) v.2.2.2.2 ++ [])
abbrev kA (a : Nat → Nat) (i : Nat) : Nat → Nat := fun j => a (3 + 9 * i + j)
def w3 (E : ET) (a : Nat → Nat) (v : MV) : va_W := [(a 0, .inr (3, [.ref (a 1), .ref (a 2), .int v.2.2.1, .int v.2.2.2.1, .int v.2.2.2.2.1, .int v.2.2.2.2.2])), (a 1, .inl (E.2 0, 256, .inl v.1)), (a 2, .inl (E.2 3, 4, .inr (.inr (.inr (.inr (fun j => some (a (3 + 9 * j))))))))]
def wM (E : ET) (a : Nat → Nat) (v : MV) : va_W := w3 E a v ++ (wK E (kA a 0) (v.2.1 0) ++ (wK E (kA a 1) (v.2.1 1) ++ (wK E (kA a 2) (v.2.1 2) ++ wK E (kA a 3) (v.2.1 3))))
-- setters
def F_setC (v : FV) (k : Nat) (x : Int32) : FV := (upd v.1 k x, v.2.1, v.2.2)
def F_setS (v : FV) (k : Nat) (b : Bool) : FV := (v.1, va_up v.2.1 k b, v.2.2)
def F_setB (v : FV) (k : Nat) (b : Bool) : FV := (v.1, v.2.1, va_up v.2.2 k b)
def K_setL (v : KV) (k : Nat) (x : Option (Fin 256)) : KV := (va_up v.1 k x, v.2.1, v.2.2.1, v.2.2.2.1, v.2.2.2.2)
def K_setV (v : KV) (k : Nat) (x : Int32) : KV := (v.1, upd v.2.1 k x, v.2.2.1, v.2.2.2.1, v.2.2.2.2)
def K_setD (v : KV) (k : Nat) (b : Bool) : KV := (v.1, v.2.1, va_up v.2.2.1 k b, v.2.2.2.1, v.2.2.2.2)
def K_setT (v : KV) (k : Nat) (x : Int32) : KV := (v.1, v.2.1, v.2.2.1, upd v.2.2.2.1 k x, v.2.2.2.2)
def K_setF (v : KV) (f : FV) : KV := (v.1, v.2.1, v.2.2.1, v.2.2.2.1, f)
def M_setMem (v : MV) (k : Nat) (x : Int32) : MV := (upd v.1 k x, v.2.1, v.2.2.1, v.2.2.2.1, v.2.2.2.2.1, v.2.2.2.2.2)
def M_setK (v : MV) (i : Nat) (k : KV) : MV := (v.1, va_up v.2.1 i k, v.2.2.1, v.2.2.2.1, v.2.2.2.2.1, v.2.2.2.2.2)
def M_setLim (v : MV) (x : Int32) : MV := (v.1, v.2.1, x, v.2.2.2.1, v.2.2.2.2.1, v.2.2.2.2.2)
def M_setFull (v : MV) (x : Int32) : MV := (v.1, v.2.1, v.2.2.1, x, v.2.2.2.2.1, v.2.2.2.2.2)
def M_setBack (v : MV) (x : Int32) : MV := (v.1, v.2.1, v.2.2.1, v.2.2.2.1, x, v.2.2.2.2.2)
def M_setWr (v : MV) (x : Int32) : MV := (v.1, v.2.1, v.2.2.1, v.2.2.2.1, v.2.2.2.2.1, x)
-- what a store into a row makes of the world
theorem sF_C (E : ET) (a : Nat → Nat) (v : FV) {k : Nat} (hk : k < 2 ^ 31) (x : Int32) : (wF E a v).set 1 (a 1, .inl (E.2 0, 24, .inl (upd v.1 (nI k).toNatClampNeg x))) = wF E a (F_setC v k x) := by rw [nI_clamp hk]; rfl
theorem sF_S (E : ET) (a : Nat → Nat) (v : FV) {k : Nat} (hk : k < 2 ^ 31) (b : Bool) : (wF E a v).set 2 (a 2, .inl (E.2 1, 24, .inl (upd (fun j => bI (v.2.1 j)) (nI k).toNatClampNeg (vp_nar .boolean (bI b))))) = wF E a (F_setS v k b) := by rw [nI_clamp hk, bI_st]; rfl
theorem sF_B (E : ET) (a : Nat → Nat) (v : FV) {k : Nat} (hk : k < 2 ^ 31) (b : Bool) : (wF E a v).set 3 (a 3, .inl (E.2 1, 16, .inl (upd (fun j => bI (v.2.2 j)) (nI k).toNatClampNeg (vp_nar .boolean (bI b))))) = wF E a (F_setB v k b) := by rw [nI_clamp hk, bI_st]; rfl
theorem sK_L (E : ET) (a : Nat → Nat) (v : KV) {k : Nat} (hk : k < 2 ^ 31) (x : Option (Fin 256)) : (wK E a v).set 1 (a 1, .inl (E.2 0, 8, .inl (upd (fun j => encL (v.1 j)) (nI k).toNatClampNeg (encL x)))) = wK E a (K_setL v k x) := by rw [nI_clamp hk, encL_st]; rfl
theorem sK_V (E : ET) (a : Nat → Nat) (v : KV) {k : Nat} (hk : k < 2 ^ 31) (x : Int32) : (wK E a v).set 2 (a 2, .inl (E.2 0, 8, .inl (upd v.2.1 (nI k).toNatClampNeg x))) = wK E a (K_setV v k x) := by rw [nI_clamp hk]; rfl
theorem sK_D (E : ET) (a : Nat → Nat) (v : KV) {k : Nat} (hk : k < 2 ^ 31) (b : Bool) : (wK E a v).set 3 (a 3, .inl (E.2 1, 8, .inl (upd (fun j => bI (v.2.2.1 j)) (nI k).toNatClampNeg (vp_nar .boolean (bI b))))) = wK E a (K_setD v k b) := by rw [nI_clamp hk, bI_st]; rfl
theorem sK_T (E : ET) (a : Nat → Nat) (v : KV) {k : Nat} (hk : k < 2 ^ 31) (x : Int32) : (wK E a v).set 4 (a 4, .inl (E.2 0, 6, .inl (upd v.2.2.2.1 (nI k).toNatClampNeg x))) = wK E a (K_setT v k x) := by rw [nI_clamp hk]; rfl
theorem four {P : Nat → Prop} (h0 : P 0) (h1 : P 1) (h2 : P 2) (h3 : P 3) {i : Nat} (h : i < 4) : P i := by
  match i, h with
  | 0, _ => exact h0
  | 1, _ => exact h1
  | 2, _ => exact h2
  | 3, _ => exact h3
-- a machine's world, cut at the core i
def mPre (E : ET) (a : Nat → Nat) (v : MV) (i : Nat) : va_W := w3 E a v ++ (match i with
  | 0 => []
  | 1 => wK E (kA a 0) (v.2.1 0)
  | 2 => wK E (kA a 0) (v.2.1 0) ++ wK E (kA a 1) (v.2.1 1)
  | _ => wK E (kA a 0) (v.2.1 0) ++ (wK E (kA a 1) (v.2.1 1) ++ wK E (kA a 2) (v.2.1 2)))
def mPost (E : ET) (a : Nat → Nat) (v : MV) (i : Nat) : va_W := match i with
  | 0 => wK E (kA a 1) (v.2.1 1) ++ (wK E (kA a 2) (v.2.1 2) ++ wK E (kA a 3) (v.2.1 3))
  | 1 => wK E (kA a 2) (v.2.1 2) ++ wK E (kA a 3) (v.2.1 3)
  | 2 => wK E (kA a 3) (v.2.1 3)
  | _ => []
theorem wM_cut (E : ET) (a : Nat → Nat) (v : MV) {i : Nat} (hi : i < 4) : wM E a v = mPre E a v i ++ (wK E (kA a i) (v.2.1 i) ++ mPost E a v i) := by
  refine four (P := fun i => wM E a v = mPre E a v i ++ (wK E (kA a i) (v.2.1 i) ++ mPost E a v i)) ?_ ?_ ?_ ?_ hi <;> simp [wM, mPre, mPost]
theorem wM_put (E : ET) (a : Nat → Nat) (v : MV) {i : Nat} (hi : i < 4) (k : KV) : mPre E a v i ++ (wK E (kA a i) k ++ mPost E a v i) = wM E a (M_setK v i k) := by
  refine four (P := fun i => mPre E a v i ++ (wK E (kA a i) k ++ mPost E a v i) = wM E a (M_setK v i k)) ?_ ?_ ?_ ?_ hi <;> simp [wM, mPre, mPost, M_setK, w3, va_up]
def fPre (E : ET) (a : Nat → Nat) (v : MV) (i : Nat) : va_W := mPre E a v i ++ w5 E (kA a i) (v.2.1 i)
theorem wM_cutF (E : ET) (a : Nat → Nat) (v : MV) {i : Nat} (hi : i < 4) : wM E a v = fPre E a v i ++ (wF E (fA (kA a i)) (v.2.1 i).2.2.2.2 ++ mPost E a v i) := by
  rw [wM_cut E a v hi, fPre, wK]; simp
theorem wM_putF (E : ET) (a : Nat → Nat) (v : MV) {i : Nat} (hi : i < 4) (f : FV) : fPre E a v i ++ (wF E (fA (kA a i)) f ++ mPost E a v i) = wM E a (M_setK v i (K_setF (v.2.1 i) f)) := by
  rw [← wM_put E a v hi, fPre, wK]; simp [w5, K_setF]
theorem wF_fst (E : ET) (a : Nat → Nat) (v w : FV) : (wF E a v).map Prod.fst = (wF E a w).map Prod.fst := rfl
theorem wK_fst (E : ET) (a : Nat → Nat) (v w : KV) : (wK E a v).map Prod.fst = (wK E a w).map Prod.fst := rfl
theorem wM_fst (E : ET) (a : Nat → Nat) (v w : MV) : (wM E a v).map Prod.fst = (wM E a w).map Prod.fst := rfl
-- the cells of the core i in a machine's world
theorem mAt (E : ET) (a : Nat → Nat) (v : MV) {i : Nat} (hi : i < 4) (j : Nat) {q : Nat × va_E} (h : (wK E (kA a i) (v.2.1 i))[j]? = some q) : (wM E a v)[3 + 9 * i + j]? = some q := by
  have hl : j < 9 := (List.getElem?_eq_some_iff.mp h).1
  rw [wM_cut E a v hi]
  have hp : (mPre E a v i).length = 3 + 9 * i := by refine four (P := fun i => (mPre E a v i).length = 3 + 9 * i) rfl rfl rfl rfl hi
  rw [List.getElem?_append_right (by omega), hp, Nat.add_sub_cancel_left, List.getElem?_append_left hl]
  exact h
theorem mSt (E : ET) (a : Nat → Nat) (v : MV) {i : Nat} (hi : i < 4) (j : Nat) {q : Nat × va_E} {k : KV} (hj : j < 9) (h : (wK E (kA a i) (v.2.1 i)).set j q = wK E (kA a i) k) : (wM E a v).set (3 + 9 * i + j) q = wM E a (M_setK v i k) := by
  have hp : (mPre E a v i).length = 3 + 9 * i := by refine four (P := fun i => (mPre E a v i).length = 3 + 9 * i) rfl rfl rfl rfl hi
  have hl : (wK E (kA a i) (v.2.1 i)).length = 9 := rfl
  rw [wM_cut E a v hi, ← wM_put E a v hi, List.set_append_right _ _ (by omega), hp, Nat.add_sub_cancel_left, List.set_append_left _ _ (by omega), h]
theorem sM_mem (E : ET) (a : Nat → Nat) (v : MV) {k : Nat} (hk : k < 2 ^ 31) (x : Int32) : (wM E a v).set 1 (a 1, .inl (E.2 0, 256, .inl (upd v.1 (nI k).toNatClampNeg x))) = wM E a (M_setMem v k x) := by rw [nI_clamp hk]; rfl
