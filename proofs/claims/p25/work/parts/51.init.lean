def mixF (i : Nat) (f g : Nat → Int32) : Nat → Int32 := fun j => if j < i then f j else g j
theorem mixF_0 (f g : Nat → Int32) : mixF 0 f g = g := by funext j; simp [mixF]
theorem mixF_st (f g : Nat → Int32) (i : Nat) : upd (mixF i f g) i (f i) = mixF (i + 1) f g := by
  funext j
  unfold mixF upd
  by_cases h : j = i
  · subst h; simp
  · rw [if_neg h]
    show (if j < i then f j else g j) = _
    by_cases h2 : j < i
    · rw [if_pos h2, if_pos (by omega)]
    · rw [if_neg h2, if_neg (by omega)]
theorem mixF_lt {f g : Nat → Int32} {n j : Nat} (h : j < n) : mixF n f g j = f j := by simp [mixF, h]
/-! ===== what constructors leave ===== -/
def iF : FV := (fun _ => 0, fun _ => false, fun _ => false)
def iK : KV := (fun _ => none, fun _ => 0, fun _ => false, fun _ => 0, iF)
def iM : MV := (fun _ => 0, fun _ => iK, 3, 20, 0, 0)
def iH : HV := (fun _ => iM, 0, 0)
def iP : PV := (fun _ => 0, fun _ => 0, fun _ => 0, fun _ => 0, fun _ => 0, 0, 0, 0)
def iX : XV := (iM, iM, iM, iH, iP, false, false, 0, 0)
def aF (h q1 q2 q3 : Nat) : Nat → Nat := fun n => match n with
  | 0 => h
  | 1 => q1
  | 2 => q2
  | _ => q3
def aK (h q1 q2 q3 q4 : Nat) (f : Nat → Nat) : Nat → Nat := fun n => match n with
  | 0 => h
  | 1 => q1
  | 2 => q2
  | 3 => q3
  | 4 => q4
  | n + 5 => f n
def aM (h q1 q2 : Nat) (k0 k1 k2 k3 : Nat → Nat) : Nat → Nat := fun n => match n with
  | 0 => h
  | 1 => q1
  | 2 => q2
  | n + 3 => if n < 9 then k0 n else if n < 18 then k1 (n - 9) else if n < 27 then k2 (n - 18) else k3 (n - 27)
def aH (h q1 : Nat) (m0 m1 m2 m3 : Nat → Nat) : Nat → Nat → Nat := fun n => match n with
  | 0 => fun j => if j = 0 then h else q1
  | 1 => m0
  | 2 => m1
  | 3 => m2
  | _ => m3
def aP (h q1 q2 q3 q4 q5 : Nat) : Nat → Nat := fun n => match n with
  | 0 => h
  | 1 => q1
  | 2 => q2
  | 3 => q3
  | 4 => q4
  | _ => q5
def aX (h : Nat) (m1 m2 m3 : Nat → Nat) (hb : Nat → Nat → Nat) (pb : Nat → Nat) : Nat → Nat → Nat := fun n => match n with
  | 0 => fun _ => h
  | 1 => m1
  | 2 => m2
  | 3 => m3
  | 4 => hb 0
  | 5 => hb 1
  | 6 => hb 2
  | 7 => hb 3
  | 8 => hb 4
  | _ => pb
theorem wEq_setR {w : va_W} (q1 : Nat) (a : Nat) {ca : ClassId} {n : Nat} {f g : Nat → Option Nat} (h : ∀ j, j < n → f j = g j) : wEq (w.set q1 (a, .inl (ca, n, .inr (.inr (.inr (.inr f)))))) (w.set q1 (a, .inl (ca, n, .inr (.inr (.inr (.inr g)))))) := by
  unfold wEq
  rw [List.map_set, List.map_set]
  simp only [cell_congrR h]
theorem wF_congr (E : ET) {a b : Nat → Nat} (v : FV) (h : ∀ j, j < 4 → a j = b j) : wF E a v = wF E b v := by
  unfold wF
  rw [h 0 (by omega), h 1 (by omega), h 2 (by omega), h 3 (by omega)]
theorem w5_congr (E : ET) {a b : Nat → Nat} (v : KV) (h : ∀ j, j < 6 → a j = b j) : w5 E a v = w5 E b v := by
  unfold w5
  rw [h 0 (by omega), h 1 (by omega), h 2 (by omega), h 3 (by omega), h 4 (by omega), h 5 (by omega)]
theorem wK_congr (E : ET) {a b : Nat → Nat} (v : KV) (h : ∀ j, j < 9 → a j = b j) : wK E a v = wK E b v := by
  unfold wK
  rw [w5_congr E v (fun j hj => h j (by omega)), wF_congr E (a := fA a) (b := fA b) v.2.2.2.2 (fun j hj => h (5 + j) (by omega))]
theorem aM_0 (h q1 q2 : Nat) (k0 k1 k2 k3 : Nat → Nat) (j : Nat) (hj : j < 9) : kA (aM h q1 q2 k0 k1 k2 k3) 0 j = k0 j := by
  show aM h q1 q2 k0 k1 k2 k3 (3 + 9 * 0 + j) = k0 j
  rw [show 3 + 9 * 0 + j = j + 3 by omega]
  exact if_pos hj
theorem aM_1 (h q1 q2 : Nat) (k0 k1 k2 k3 : Nat → Nat) (j : Nat) (hj : j < 9) : kA (aM h q1 q2 k0 k1 k2 k3) 1 j = k1 j := by
  show aM h q1 q2 k0 k1 k2 k3 (3 + 9 * 1 + j) = k1 j
  rw [show 3 + 9 * 1 + j = (j + 9) + 3 by omega]
  show (if j + 9 < 9 then k0 (j + 9) else if j + 9 < 18 then k1 (j + 9 - 9) else if j + 9 < 27 then k2 (j + 9 - 18) else k3 (j + 9 - 27)) = k1 j
  rw [if_neg (by omega), if_pos (by omega), Nat.add_sub_cancel]
theorem aM_2 (h q1 q2 : Nat) (k0 k1 k2 k3 : Nat → Nat) (j : Nat) (hj : j < 9) : kA (aM h q1 q2 k0 k1 k2 k3) 2 j = k2 j := by
  show aM h q1 q2 k0 k1 k2 k3 (3 + 9 * 2 + j) = k2 j
  rw [show 3 + 9 * 2 + j = (j + 18) + 3 by omega]
  show (if j + 18 < 9 then k0 (j + 18) else if j + 18 < 18 then k1 (j + 18 - 9) else if j + 18 < 27 then k2 (j + 18 - 18) else k3 (j + 18 - 27)) = k2 j
  rw [if_neg (by omega), if_neg (by omega), if_pos (by omega), Nat.add_sub_cancel]
theorem aM_3 (h q1 q2 : Nat) (k0 k1 k2 k3 : Nat → Nat) (j : Nat) (hj : j < 9) : kA (aM h q1 q2 k0 k1 k2 k3) 3 j = k3 j := by
  show aM h q1 q2 k0 k1 k2 k3 (3 + 9 * 3 + j) = k3 j
  rw [show 3 + 9 * 3 + j = (j + 27) + 3 by omega]
  show (if j + 27 < 9 then k0 (j + 27) else if j + 27 < 18 then k1 (j + 27 - 9) else if j + 27 < 27 then k2 (j + 27 - 18) else k3 (j + 27 - 27)) = k3 j
  rw [if_neg (by omega), if_neg (by omega), if_neg (by omega), Nat.add_sub_cancel]
theorem wM_mk (E : ET) (h q1 q2 : Nat) (k0 k1 k2 k3 : Nat → Nat) : wM E (aM h q1 q2 k0 k1 k2 k3) iM = (((w3 E (aM h q1 q2 k0 k1 k2 k3) iM ++ (wK E k0 iK)) ++ (wK E k1 iK)) ++ (wK E k2 iK)) ++ (wK E k3 iK) := by
  show w3 E (aM h q1 q2 k0 k1 k2 k3) iM ++ (wK E (kA (aM h q1 q2 k0 k1 k2 k3) 0) iK ++ (wK E (kA (aM h q1 q2 k0 k1 k2 k3) 1) iK ++ (wK E (kA (aM h q1 q2 k0 k1 k2 k3) 2) iK ++ wK E (kA (aM h q1 q2 k0 k1 k2 k3) 3) iK))) = _
  rw [wK_congr E iK (aM_0 h q1 q2 k0 k1 k2 k3), wK_congr E iK (aM_1 h q1 q2 k0 k1 k2 k3), wK_congr E iK (aM_2 h q1 q2 k0 k1 k2 k3), wK_congr E iK (aM_3 h q1 q2 k0 k1 k2 k3)]
  simp only [List.append_assoc]
theorem wH_mk (E : ET) (h q1 : Nat) (m0 m1 m2 m3 : Nat → Nat) : wH E (aH h q1 m0 m1 m2 m3) iH = (((wH1 E (aH h q1 m0 m1 m2 m3) iH ++ (wM E m0 iM)) ++ (wM E m1 iM)) ++ (wM E m2 iM)) ++ (wM E m3 iM) := by
  show wH1 E (aH h q1 m0 m1 m2 m3) iH ++ (wM E m0 iM ++ (wM E m1 iM ++ (wM E m2 iM ++ wM E m3 iM))) = _
  simp only [List.append_assoc]
theorem wEq_refl (w : va_W) : wEq w w := rfl
theorem wEq_app {a b c d : va_W} (h : wEq a b) (k : wEq c d) : wEq (a ++ c) (b ++ d) := by
  unfold wEq at h k ⊢
  rw [List.map_append, List.map_append, h, k]
theorem wH_weq (E : ET) {a b : Nat → Nat → Nat} (v : HV) (h : ∀ j, j < 5 → a j = b j) : wEq (wH E a v) (wH E b v) := by
  unfold wH
  rw [h 1 (by omega), h 2 (by omega), h 3 (by omega), h 4 (by omega)]
  refine wEq_app ?_ (wEq_refl _)
  have e : ∀ j, j < 4 → (fun j => some (a (1 + j) 0)) j = (fun j => some (b (1 + j) 0)) j := fun j hj => by
    show some (a (1 + j) 0) = some (b (1 + j) 0)
    rw [h (1 + j) (by omega)]
  unfold wEq wH1
  simp only [List.map]
  rw [cell_congrR e, h 0 (by omega)]
theorem aX_h (h : Nat) (m1 m2 m3 : Nat → Nat) (hb : Nat → Nat → Nat) (pb : Nat → Nat) (j : Nat) (hj : j < 5) : hb j = hA (aX h m1 m2 m3 hb pb) j := by
  rcases (show j = 0 ∨ j = 1 ∨ j = 2 ∨ j = 3 ∨ j = 4 by omega) with h | h | h | h | h <;> subst h <;> rfl
theorem wX_mk (E : ET) (h : Nat) (m1 m2 m3 : Nat → Nat) (hb : Nat → Nat → Nat) (pb : Nat → Nat) : wEq (((((([(h, .inr (5, [.ref (m1 0), .ref (m2 0), .ref (m3 0), .ref (hb 0 0), .ref (pb 0), .int 0, .int 0, .int 0, .int 0]))] : va_W) ++ (wM E m1 iM)) ++ (wM E m2 iM)) ++ (wM E m3 iM)) ++ (wH E hb iH)) ++ (wP E pb iP)) (wX E (aX h m1 m2 m3 hb pb) iX) := by
  have e : wX E (aX h m1 m2 m3 hb pb) iX = w1X (aX h m1 m2 m3 hb pb) iX ++ (wM E m1 iM ++ (wM E m2 iM ++ (wM E m3 iM ++ (wH E (hA (aX h m1 m2 m3 hb pb)) iH ++ wP E pb iP)))) := rfl
  rw [e]
  simp only [List.append_assoc]
  refine wEq_app ?_ (wEq_app (wEq_refl _) (wEq_app (wEq_refl _) (wEq_app (wEq_refl _) (wEq_app (wH_weq E iH (aX_h h m1 m2 m3 hb pb)) (wEq_refl _)))))
  exact wEq_refl (w1X (aX h m1 m2 m3 hb pb) iX)
theorem wK_mk (E : ET) (h q1 q2 q3 q4 : Nat) (k : Nat → Nat) : wEq (([(h, .inr (0, [.ref q1, .ref q2, .ref q3, .ref q4, .ref (k 0)])), (q1, .inl (E.2 0, 8, .inl (mixF (8) (fun _ => -1) (fun _ => 0)))), (q2, .inl (E.2 0, 8, .inl (fun _ => 0))), (q3, .inl (E.2 1, 8, .inl (fun _ => 0))), (q4, .inl (E.2 0, 6, .inl (fun _ => 0)))] : va_W) ++ (wF E k iF)) (wK E (aK h q1 q2 q3 q4 k) iK) := by
  unfold wK
  rw [wF_congr E (a := fA (aK h q1 q2 q3 q4 k)) (b := k) iK.2.2.2.2 (fun j _ => by show aK h q1 q2 q3 q4 k (5 + j) = k j; rw [Nat.add_comm]; rfl), List.append_nil]
  refine wEq_app ?_ (wEq_refl _)
  have e : ∀ j, j < 8 → mixF 8 (fun _ => -1) (fun _ => 0) j = (fun j => encL (iK.1 j)) j := fun j hj => mixF_lt hj
  unfold wEq w5
  simp only [List.map]
  rw [cell_congr e]
  rfl
theorem IM_iM : IM iM := by
  refine ⟨⟨fun o p n h => ?_, fun o p n h => ?_, fun o p n h => ?_, fun o p n h => ?_, fun _ => Int32.le_refl 0⟩, fun o => ⟨fun p n h => ?_, fun c _ => rfl, fun c h => ?_⟩, by decide⟩
  · cases (show (none : Option (Fin 256)) = some n from h)
  · cases (show (none : Option (Fin 256)) = some n from h)
  · cases (show (none : Option (Fin 256)) = some n from h)
  · cases (show (none : Option (Fin 256)) = some n from h)
  · cases (show (none : Option (Fin 256)) = some n from h)
  · cases (show false = true from h)
set_option maxHeartbeats 4000000 in
set_option maxRecDepth 100000 in
theorem c_X1_init (l : Launch) (E : ET) (h0 sz : Nat) : Met l yX1_init wsX1_init ({ frames := 1, cells := 3, slots := 64, locals := 12 } : Room) (mPn E [.ref h0] sz [(h0, .inr (1, [.null, .null, .null]))]) (mQc E [(h0, .inr (1, [.null, .null, .null]))] sz (fun u => ∃ a : Nat → Nat, a 0 = h0 ∧ u = wF E a iF)) 3 64 (va_A [(h0, .inr (1, [.null, .null, .null]))] sz) := by
  refine vn_start (cc := cX1_init) (maxL := 1) (ret := none) (by decide) rfl (Nat.le_of_ble_eq_true rfl) rfl ?_
  intro p e s m args below meth c hsz hr hX hO hI
  have hX : Xc p s m args meth c E 1 (va_A [(h0, .inr (1, [.null, .null, .null]))] sz) cX1_init RX1 wsX1_init := hX
  have hI : meth.name = "<init>" := hI
  have wd_Cond_methodLink_RX1_3_objectInit : Cond.methodLink RX1 3 objectInit ∈ wsX1_init := by decide +kernel
  have wd_Cond_instanceMethod_objectInit : Cond.instanceMethod objectInit ∈ wsX1_init := by decide +kernel
  have wd_code : Cond.code objectInit ⟨#[0xb1]⟩ 1 none ∈ wsX1_init := by decide +kernel
  have ar_int : Cond.arrayClass (newarray.typeOf .int) ∈ wsX1_init := by decide +kernel
  have in_X1 : ∀ w ∈ u_ws RX1 TX1 3, w ∈ wsX1_init := by decide +kernel
  have fl_9 : Cond.fieldLink RX1 9 RX1 "counters" "[I" ∈ wsX1_init := by decide +kernel
  have ar_boolean : Cond.arrayClass (newarray.typeOf .boolean) ∈ wsX1_init := by decide +kernel
  have fl_15 : Cond.fieldLink RX1 15 RX1 "stuck" "[Z" ∈ wsX1_init := by decide +kernel
  have fl_19 : Cond.fieldLink RX1 19 RX1 "bits" "[Z" ∈ wsX1_init := by decide +kernel
  refine vn_aload_n hX dX1_init_0 rfl ?_
  refine vn_obj hX wd_Cond_methodLink_RX1_3_objectInit wd_Cond_instanceMethod_objectInit wd_code dX1_init_1 (Nat.le_of_ble_eq_true rfl) (Nat.le_of_ble_eq_true rfl) ?_
  refine vn_aload_n hX dX1_init_4 rfl ?_
  refine vn_bipush (x := (24 : Int32)) hX dX1_init_5 (by decide) ?_
  refine vn_newa (atype := .int) (ty := .int) (c0 := E.2 0) (N := 24) (wf := fun b => ([(h0, .inr (1, [.null, .null, .null])), (b, .inl (E.2 0, 24, .inl (fun _ => 0)))] : va_W)) hX ar_int rfl 0 rfl rfl (by decide) (by decide) (Nat.le_of_ble_eq_true rfl) (Nat.le_of_ble_eq_true rfl) (Nat.le_of_ble_eq_true rfl) dX1_init_7 (fun _ => rfl) (fun q1 => ?_)
  refine vn_putF (C := RX1) (T := TX1) (N := 3) (ci := 1) (v := .ref q1) (ty := .array .int) (ws' := ([(h0, .inr (1, [.ref q1, .null, .null])), (q1, .inl (E.2 0, 24, .inl (fun _ => 0)))] : va_W)) hX hI in_X1 tyX1 tyX1_ok nmX1 0 rfl rfl 0 (by decide) fl_9 rfl rfl rfl (by decide +kernel) rfl rfl (Nat.le_of_ble_eq_true rfl) dX1_init_9 rfl ?_
  refine vn_aload_n hX dX1_init_12 rfl ?_
  refine vn_bipush (x := (24 : Int32)) hX dX1_init_13 (by decide) ?_
  refine vn_newa (atype := .boolean) (ty := .boolean) (c0 := E.2 1) (N := 24) (wf := fun b => ([(h0, .inr (1, [.ref q1, .null, .null])), (q1, .inl (E.2 0, 24, .inl (fun _ => 0))), (b, .inl (E.2 1, 24, .inl (fun _ => 0)))] : va_W)) hX ar_boolean rfl 1 rfl rfl (by decide) (by decide) (Nat.le_of_ble_eq_true rfl) (Nat.le_of_ble_eq_true rfl) (Nat.le_of_ble_eq_true rfl) dX1_init_15 (fun _ => rfl) (fun q2 => ?_)
  refine vn_putF (C := RX1) (T := TX1) (N := 3) (ci := 1) (v := .ref q2) (ty := .array .boolean) (ws' := ([(h0, .inr (1, [.ref q1, .ref q2, .null])), (q1, .inl (E.2 0, 24, .inl (fun _ => 0))), (q2, .inl (E.2 1, 24, .inl (fun _ => 0)))] : va_W)) hX hI in_X1 tyX1 tyX1_ok nmX1 0 rfl rfl 1 (by decide) fl_15 rfl rfl rfl (by decide +kernel) rfl rfl (Nat.le_of_ble_eq_true rfl) dX1_init_17 rfl ?_
  refine vn_aload_n hX dX1_init_20 rfl ?_
  refine vn_bipush (x := (16 : Int32)) hX dX1_init_21 (by decide) ?_
  refine vn_newa (atype := .boolean) (ty := .boolean) (c0 := E.2 1) (N := 16) (wf := fun b => ([(h0, .inr (1, [.ref q1, .ref q2, .null])), (q1, .inl (E.2 0, 24, .inl (fun _ => 0))), (q2, .inl (E.2 1, 24, .inl (fun _ => 0))), (b, .inl (E.2 1, 16, .inl (fun _ => 0)))] : va_W)) hX ar_boolean rfl 1 rfl rfl (by decide) (by decide) (Nat.le_of_ble_eq_true rfl) (Nat.le_of_ble_eq_true rfl) (Nat.le_of_ble_eq_true rfl) dX1_init_23 (fun _ => rfl) (fun q3 => ?_)
  refine vn_putF (C := RX1) (T := TX1) (N := 3) (ci := 1) (v := .ref q3) (ty := .array .boolean) (ws' := ([(h0, .inr (1, [.ref q1, .ref q2, .ref q3])), (q1, .inl (E.2 0, 24, .inl (fun _ => 0))), (q2, .inl (E.2 1, 24, .inl (fun _ => 0))), (q3, .inl (E.2 1, 16, .inl (fun _ => 0)))] : va_W)) hX hI in_X1 tyX1 tyX1_ok nmX1 0 rfl rfl 2 (by decide) fl_19 rfl rfl rfl (by decide +kernel) rfl rfl (Nat.le_of_ble_eq_true rfl) dX1_init_25 rfl ?_
  exact vn_vret hX hr dX1_init_28 rfl rfl ⟨aF h0 q1 q2 q3, rfl, rfl⟩
set_option maxHeartbeats 4000000 in
set_option maxRecDepth 100000 in
theorem c_X0_init (l : Launch) (E : ET) (h0 sz : Nat) : Met l yX0_init wsX0_init ({ frames := 2, cells := 8, slots := 97, locals := 32 } : Room) (mPn E [.ref h0] sz [(h0, .inr (0, [.null, .null, .null, .null, .null]))]) (mQc E [(h0, .inr (0, [.null, .null, .null, .null, .null]))] sz (fun u => ∃ a : Nat → Nat, a 0 = h0 ∧ u = wK E a iK)) 8 97 (va_A [(h0, .inr (0, [.null, .null, .null, .null, .null]))] sz) := by
  refine vn_start (cc := cX0_init) (maxL := 2) (ret := none) (by decide) rfl (Nat.le_of_ble_eq_true rfl) rfl ?_
  intro p e s m args below meth c hsz hr hX hO hI
  have hX : Xc p s m args meth c E 2 (va_A [(h0, .inr (0, [.null, .null, .null, .null, .null]))] sz) cX0_init RX0 wsX0_init := hX
  have hI : meth.name = "<init>" := hI
  have wd_Cond_methodLink_RX0_3_objectInit : Cond.methodLink RX0 3 objectInit ∈ wsX0_init := by decide +kernel
  have wd_Cond_instanceMethod_objectInit : Cond.instanceMethod objectInit ∈ wsX0_init := by decide +kernel
  have wd_code : Cond.code objectInit ⟨#[0xb1]⟩ 1 none ∈ wsX0_init := by decide +kernel
  have ar_int : Cond.arrayClass (newarray.typeOf .int) ∈ wsX0_init := by decide +kernel
  have in_X0 : ∀ w ∈ u_ws RX0 TX0 5, w ∈ wsX0_init := by decide +kernel
  have fl_9 : Cond.fieldLink RX0 9 RX0 "lines" "[I" ∈ wsX0_init := by decide +kernel
  have fl_15 : Cond.fieldLink RX0 15 RX0 "values" "[I" ∈ wsX0_init := by decide +kernel
  have ar_boolean : Cond.arrayClass (newarray.typeOf .boolean) ∈ wsX0_init := by decide +kernel
  have fl_18 : Cond.fieldLink RX0 18 RX0 "dirty" "[Z" ∈ wsX0_init := by decide +kernel
  have fl_22 : Cond.fieldLink RX0 22 RX0 "tallies" "[I" ∈ wsX0_init := by decide +kernel
  have wd_Cond_classLink_RX0_25_RX1 : Cond.classLink RX0 25 RX1 ∈ wsX0_init := by decide +kernel
  have wd_Cond_instantiable_RX1_3 : Cond.instantiable RX1 3 ∈ wsX0_init := by decide +kernel
  have wd_Cond_initialized_RX1 : Cond.initialized RX1 ∈ wsX0_init := by decide +kernel
  have in_X1 : ∀ w ∈ u_ws RX1 TX1 3, w ∈ wsX0_init := by decide +kernel
  have wd_Cond_instanceMethod_yX1_init : Cond.instanceMethod yX1_init ∈ wsX0_init := by decide +kernel
  have fl_28 : Cond.fieldLink RX0 28 RX0 "filter" "LSnoopFilter$Filter;" ∈ wsX0_init := by decide +kernel
  refine vn_aload_n hX dX0_init_0 rfl ?_
  refine vn_obj hX wd_Cond_methodLink_RX0_3_objectInit wd_Cond_instanceMethod_objectInit wd_code dX0_init_1 (Nat.le_of_ble_eq_true rfl) (Nat.le_of_ble_eq_true rfl) ?_
  refine vn_aload_n hX dX0_init_4 rfl ?_
  refine vn_bipush (x := (8 : Int32)) hX dX0_init_5 (by decide) ?_
  refine vn_newa (atype := .int) (ty := .int) (c0 := E.2 0) (N := 8) (wf := fun b => ([(h0, .inr (0, [.null, .null, .null, .null, .null])), (b, .inl (E.2 0, 8, .inl (fun _ => 0)))] : va_W)) hX ar_int rfl 0 rfl rfl (by decide) (by decide) (Nat.le_of_ble_eq_true rfl) (Nat.le_of_ble_eq_true rfl) (Nat.le_of_ble_eq_true rfl) dX0_init_7 (fun _ => rfl) (fun q1 => ?_)
  refine vn_putF (C := RX0) (T := TX0) (N := 5) (ci := 0) (v := .ref q1) (ty := .array .int) (ws' := ([(h0, .inr (0, [.ref q1, .null, .null, .null, .null])), (q1, .inl (E.2 0, 8, .inl (fun _ => 0)))] : va_W)) hX hI in_X0 tyX0 tyX0_ok nmX0 0 rfl rfl 0 (by decide) fl_9 rfl rfl rfl (by decide +kernel) rfl rfl (Nat.le_of_ble_eq_true rfl) dX0_init_9 rfl ?_
  refine vn_aload_n hX dX0_init_12 rfl ?_
  refine vn_bipush (x := (8 : Int32)) hX dX0_init_13 (by decide) ?_
  refine vn_newa (atype := .int) (ty := .int) (c0 := E.2 0) (N := 8) (wf := fun b => ([(h0, .inr (0, [.ref q1, .null, .null, .null, .null])), (q1, .inl (E.2 0, 8, .inl (fun _ => 0))), (b, .inl (E.2 0, 8, .inl (fun _ => 0)))] : va_W)) hX ar_int rfl 0 rfl rfl (by decide) (by decide) (Nat.le_of_ble_eq_true rfl) (Nat.le_of_ble_eq_true rfl) (Nat.le_of_ble_eq_true rfl) dX0_init_15 (fun _ => rfl) (fun q2 => ?_)
  refine vn_putF (C := RX0) (T := TX0) (N := 5) (ci := 0) (v := .ref q2) (ty := .array .int) (ws' := ([(h0, .inr (0, [.ref q1, .ref q2, .null, .null, .null])), (q1, .inl (E.2 0, 8, .inl (fun _ => 0))), (q2, .inl (E.2 0, 8, .inl (fun _ => 0)))] : va_W)) hX hI in_X0 tyX0 tyX0_ok nmX0 0 rfl rfl 1 (by decide) fl_15 rfl rfl rfl (by decide +kernel) rfl rfl (Nat.le_of_ble_eq_true rfl) dX0_init_17 rfl ?_
  refine vn_aload_n hX dX0_init_20 rfl ?_
  refine vn_bipush (x := (8 : Int32)) hX dX0_init_21 (by decide) ?_
  refine vn_newa (atype := .boolean) (ty := .boolean) (c0 := E.2 1) (N := 8) (wf := fun b => ([(h0, .inr (0, [.ref q1, .ref q2, .null, .null, .null])), (q1, .inl (E.2 0, 8, .inl (fun _ => 0))), (q2, .inl (E.2 0, 8, .inl (fun _ => 0))), (b, .inl (E.2 1, 8, .inl (fun _ => 0)))] : va_W)) hX ar_boolean rfl 1 rfl rfl (by decide) (by decide) (Nat.le_of_ble_eq_true rfl) (Nat.le_of_ble_eq_true rfl) (Nat.le_of_ble_eq_true rfl) dX0_init_23 (fun _ => rfl) (fun q3 => ?_)
  refine vn_putF (C := RX0) (T := TX0) (N := 5) (ci := 0) (v := .ref q3) (ty := .array .boolean) (ws' := ([(h0, .inr (0, [.ref q1, .ref q2, .ref q3, .null, .null])), (q1, .inl (E.2 0, 8, .inl (fun _ => 0))), (q2, .inl (E.2 0, 8, .inl (fun _ => 0))), (q3, .inl (E.2 1, 8, .inl (fun _ => 0)))] : va_W)) hX hI in_X0 tyX0 tyX0_ok nmX0 0 rfl rfl 2 (by decide) fl_18 rfl rfl rfl (by decide +kernel) rfl rfl (Nat.le_of_ble_eq_true rfl) dX0_init_25 rfl ?_
  refine vn_aload_n hX dX0_init_28 rfl ?_
  refine vn_bipush (x := (6 : Int32)) hX dX0_init_29 (by decide) ?_
  refine vn_newa (atype := .int) (ty := .int) (c0 := E.2 0) (N := 6) (wf := fun b => ([(h0, .inr (0, [.ref q1, .ref q2, .ref q3, .null, .null])), (q1, .inl (E.2 0, 8, .inl (fun _ => 0))), (q2, .inl (E.2 0, 8, .inl (fun _ => 0))), (q3, .inl (E.2 1, 8, .inl (fun _ => 0))), (b, .inl (E.2 0, 6, .inl (fun _ => 0)))] : va_W)) hX ar_int rfl 0 rfl rfl (by decide) (by decide) (Nat.le_of_ble_eq_true rfl) (Nat.le_of_ble_eq_true rfl) (Nat.le_of_ble_eq_true rfl) dX0_init_31 (fun _ => rfl) (fun q4 => ?_)
  refine vn_putF (C := RX0) (T := TX0) (N := 5) (ci := 0) (v := .ref q4) (ty := .array .int) (ws' := ([(h0, .inr (0, [.ref q1, .ref q2, .ref q3, .ref q4, .null])), (q1, .inl (E.2 0, 8, .inl (fun _ => 0))), (q2, .inl (E.2 0, 8, .inl (fun _ => 0))), (q3, .inl (E.2 1, 8, .inl (fun _ => 0))), (q4, .inl (E.2 0, 6, .inl (fun _ => 0)))] : va_W)) hX hI in_X0 tyX0 tyX0_ok nmX0 0 rfl rfl 3 (by decide) fl_22 rfl rfl rfl (by decide +kernel) rfl rfl (Nat.le_of_ble_eq_true rfl) dX0_init_33 rfl ?_
  refine vn_aload_n hX dX0_init_36 rfl ?_
  refine vn_new (C := RX1) (T := TX1) (N := 3) (ci := 1) (fs := [.null, .null, .null]) hX in_X1 tyX1 tyX1_ok wd_Cond_classLink_RX0_25_RX1 wd_Cond_instantiable_RX1_3 wd_Cond_initialized_RX1 rfl (fun j hj => by rcases (show j = 0 ∨ j = 1 ∨ j = 2 by omega) with rfl | rfl | rfl <;> rfl) (Nat.le_of_ble_eq_true rfl) (Nat.le_of_ble_eq_true rfl) dX0_init_37 (fun q5 => ?_)
  refine vn_dup hX dX0_init_40 ?_
  refine vn_callIN (n := 0) (pre := ([(h0, .inr (0, [.ref q1, .ref q2, .ref q3, .ref q4, .null])), (q1, .inl (E.2 0, 8, .inl (fun _ => 0))), (q2, .inl (E.2 0, 8, .inl (fun _ => 0))), (q3, .inl (E.2 1, 8, .inl (fun _ => 0))), (q4, .inl (E.2 0, 6, .inl (fun _ => 0)))] : va_W)) (wc := [(q5, .inr (1, [.null, .null, .null]))]) hX hO (fun sz => c_X1_init l E q5 sz) ⟨va_cnB (host := "SnoopFilter") 0 hX.2.2.2.2.1 gX0_init_X1_init_n27 rfl rfl rfl (hX.2.2.2.2.2.2.2.2 _ (by simp [nsts])) (hX.2.2.2.2.1 _ wd_Cond_initialized_RX1) (by decide +kernel) ⟨Nat.le_of_ble_eq_true rfl, Nat.le_of_ble_eq_true rfl⟩, rfl, hX.2.2.2.2.1 _ wd_Cond_instanceMethod_yX1_init⟩ (Nat.le_of_ble_eq_true rfl) ⟨Nat.le_of_ble_eq_true rfl, Nat.le_of_ble_eq_true rfl⟩ dX0_init_41 (fun _ hu => ?_)
  obtain ⟨k5, hk, rfl⟩ := hu
  subst hk
  refine vn_putF (C := RX0) (T := TX0) (N := 5) (ci := 0) (v := .ref (k5 0)) (ty := .object "SnoopFilter$Filter") (ws' := (([(h0, .inr (0, [.ref q1, .ref q2, .ref q3, .ref q4, .ref (k5 0)])), (q1, .inl (E.2 0, 8, .inl (fun _ => 0))), (q2, .inl (E.2 0, 8, .inl (fun _ => 0))), (q3, .inl (E.2 1, 8, .inl (fun _ => 0))), (q4, .inl (E.2 0, 6, .inl (fun _ => 0)))] : va_W) ++ (wF E k5 iF))) hX hI in_X0 tyX0 tyX0_ok nmX0 0 rfl rfl 4 (by decide) fl_28 rfl rfl rfl (by decide +kernel) rfl rfl (Nat.le_of_ble_eq_true rfl) dX0_init_44 rfl ?_
  refine vn_iconst (x := (0 : Int32)) hX dX0_init_47 (by decide) ?_
  refine vn_istore_n (lv' := [.ref h0, .int (0 : Int32)]) hX dX0_init_48 (Nat.le_of_ble_eq_true rfl) (Nat.le_of_ble_eq_true rfl) rfl rfl ?_
  have loop : ∀ (fu i : Nat), i + fu = 8 → VC p l e ({ frames := 2, cells := 8, slots := 97, locals := 32 } : Room) s m args below meth c E 2 (va_A [(h0, .inr (0, [.null, .null, .null, .null, .null]))] sz) (MQ below (mQc E [(h0, .inr (0, [.null, .null, .null, .null, .null]))] sz (fun u => ∃ a : Nat → Nat, a 0 = h0 ∧ u = wK E a iK)) args s 8 97 (va_A [(h0, .inr (0, [.null, .null, .null, .null, .null]))] sz)) 8 97 ((([(h0, .inr (0, [.ref q1, .ref q2, .ref q3, .ref q4, .ref (k5 0)])), (q1, .inl (E.2 0, 8, .inl (mixF (i) (fun _ => -1) (fun _ => 0)))), (q2, .inl (E.2 0, 8, .inl (fun _ => 0))), (q3, .inl (E.2 1, 8, .inl (fun _ => 0))), (q4, .inl (E.2 0, 6, .inl (fun _ => 0)))] : va_W) ++ (wF E k5 iF))) [.ref h0, .int (nI i)] 49 [] := by
    intro fu
    induction fu with
    | zero =>
      intro i hin
      have hi0 : i = 8 := by omega
      subst hi0
      refine vn_iload_n hX dX0_init_49 rfl ?_
      refine vn_bipush (x := (8 : Int32)) hX dX0_init_50 (by decide) ?_
      refine vn_icmp_ge (tgt := 68) hX dX0_init_52 (by decide) (fun c1 => ?_) (fun c1 => ?_)
      · refine vn_weq (w2 := wK E (aK h0 q1 q2 q3 q4 k5) iK) (wK_mk E h0 q1 q2 q3 q4 k5) ?_
        exact vn_vret hX hr dX0_init_68 rfl rfl ⟨aK h0 q1 q2 q3 q4 k5, rfl, rfl⟩
      · exact absurd (show (8 : Int32) ≤ nI 8 by decide) c1
    | succ fu ih =>
      intro i hin
      refine vn_iload_n hX dX0_init_49 rfl ?_
      refine vn_bipush (x := (8 : Int32)) hX dX0_init_50 (by decide) ?_
      refine vn_icmp_ge (tgt := 68) hX dX0_init_52 (by decide) (fun c1 => ?_) (fun c1 => ?_)
      · replace c1 := (nI_leI (a := 8) (b := i) (by omega) (by omega)).mp c1
        exfalso; omega
      · refine vn_aload_n hX dX0_init_55 rfl ?_
        refine vn_get (C := RX0) (T := TX0) (N := 5) (ci := 0) (v := .ref q1) hX in_X0 0 rfl rfl 0 (by decide) fl_9 rfl rfl dX0_init_56 ?_
        refine vn_iload_n hX dX0_init_59 rfl ?_
        refine vn_iconst (x := (-1 : Int32)) hX dX0_init_60 (by decide) ?_
        refine vn_iast (ws' := (([(h0, .inr (0, [.ref q1, .ref q2, .ref q3, .ref q4, .ref (k5 0)])), (q1, .inl (E.2 0, 8, .inl (mixF (i + 1) (fun _ => -1) (fun _ => 0)))), (q2, .inl (E.2 0, 8, .inl (fun _ => 0))), (q3, .inl (E.2 1, 8, .inl (fun _ => 0))), (q4, .inl (E.2 0, 6, .inl (fun _ => 0)))] : va_W) ++ (wF E k5 iF))) hX 1 rfl (vp_in_nI (by omega : i < 8) (by omega)) (by rw [nI_clamp (by omega)]; exact congrArg (fun z => (([(h0, .inr (0, [.ref q1, .ref q2, .ref q3, .ref q4, .ref (k5 0)])), (q1, .inl (E.2 0, 8, .inl z)), (q2, .inl (E.2 0, 8, .inl (fun _ => 0))), (q3, .inl (E.2 1, 8, .inl (fun _ => 0))), (q4, .inl (E.2 0, 6, .inl (fun _ => 0)))] : va_W) ++ (wF E k5 iF))) (mixF_st (fun _ => -1) (fun _ => 0) i)) dX0_init_61 ?_
        refine vn_iinc (y := nI (i + 1)) (lv' := [.ref h0, .int (nI (i + 1))]) hX dX0_init_62 rfl (nI_inc _) (Nat.le_of_ble_eq_true rfl) (Nat.le_of_ble_eq_true rfl) rfl rfl ?_
        refine vn_goto (tgt := 49) hX dX0_init_65 (by decide) ?_
        exact ih (i + 1) (by omega)
  have hs0 := loop 8 0 (by omega)
  rw [mixF_0] at hs0
  exact hs0
set_option maxHeartbeats 4000000 in
set_option maxRecDepth 100000 in
theorem c_X3_init (l : Launch) (E : ET) (h0 sz : Nat) : Met l yX3_init wsX3_init ({ frames := 3, cells := 38, slots := 668, locals := 53 } : Room) (mPn E [.ref h0] sz [(h0, .inr (3, [.null, .null, .int 0, .int 0, .int 0, .int 0]))]) (mQc E [(h0, .inr (3, [.null, .null, .int 0, .int 0, .int 0, .int 0]))] sz (fun u => ∃ a : Nat → Nat, a 0 = h0 ∧ u = wM E a iM)) 38 668 (va_A [(h0, .inr (3, [.null, .null, .int 0, .int 0, .int 0, .int 0]))] sz) := by
  refine vn_start (cc := cX3_init) (maxL := 2) (ret := none) (by decide) rfl (Nat.le_of_ble_eq_true rfl) rfl ?_
  intro p e s m args below meth c hsz hr hX hO hI
  have hX : Xc p s m args meth c E 2 (va_A [(h0, .inr (3, [.null, .null, .int 0, .int 0, .int 0, .int 0]))] sz) cX3_init RX3 wsX3_init := hX
  have hI : meth.name = "<init>" := hI
  have wd_Cond_methodLink_RX3_3_objectInit : Cond.methodLink RX3 3 objectInit ∈ wsX3_init := by decide +kernel
  have wd_Cond_instanceMethod_objectInit : Cond.instanceMethod objectInit ∈ wsX3_init := by decide +kernel
  have wd_code : Cond.code objectInit ⟨#[0xb1]⟩ 1 none ∈ wsX3_init := by decide +kernel
  have ar_int : Cond.arrayClass (newarray.typeOf .int) ∈ wsX3_init := by decide +kernel
  have in_X3 : ∀ w ∈ u_ws RX3 TX3 6, w ∈ wsX3_init := by decide +kernel
  have fl_9 : Cond.fieldLink RX3 9 RX3 "memory" "[I" ∈ wsX3_init := by decide +kernel
  have wd_Cond_classLink_RX3_15_RX0 : Cond.classLink RX3 15 RX0 ∈ wsX3_init := by decide +kernel
  have fl_17 : Cond.fieldLink RX3 17 RX3 "cores" "[LSnoopFilter$Core;" ∈ wsX3_init := by decide +kernel
  have fl_21 : Cond.fieldLink RX3 21 RX3 "limit" "I" ∈ wsX3_init := by decide +kernel
  have fl_25 : Cond.fieldLink RX3 25 RX3 "fullFrom" "I" ∈ wsX3_init := by decide +kernel
  have wd_Cond_instantiable_RX0_5 : Cond.instantiable RX0 5 ∈ wsX3_init := by decide +kernel
  have wd_Cond_initialized_RX0 : Cond.initialized RX0 ∈ wsX3_init := by decide +kernel
  have in_X0 : ∀ w ∈ u_ws RX0 TX0 5, w ∈ wsX3_init := by decide +kernel
  have wd_Cond_instanceMethod_yX0_init : Cond.instanceMethod yX0_init ∈ wsX3_init := by decide +kernel
  have wd_Cond_methodLink_RX3_28_yX0_init : Cond.methodLink RX3 28 yX0_init ∈ wsX3_init := by decide +kernel
  refine vn_aload_n hX dX3_init_0 rfl ?_
  refine vn_obj hX wd_Cond_methodLink_RX3_3_objectInit wd_Cond_instanceMethod_objectInit wd_code dX3_init_1 (Nat.le_of_ble_eq_true rfl) (Nat.le_of_ble_eq_true rfl) ?_
  refine vn_aload_n hX dX3_init_4 rfl ?_
  refine vn_sipush (x := (256 : Int32)) hX dX3_init_5 (by decide) ?_
  refine vn_newa (atype := .int) (ty := .int) (c0 := E.2 0) (N := 256) (wf := fun b => ([(h0, .inr (3, [.null, .null, .int 0, .int 0, .int 0, .int 0])), (b, .inl (E.2 0, 256, .inl (fun _ => 0)))] : va_W)) hX ar_int rfl 0 rfl rfl (by decide) (by decide) (Nat.le_of_ble_eq_true rfl) (Nat.le_of_ble_eq_true rfl) (Nat.le_of_ble_eq_true rfl) dX3_init_8 (fun _ => rfl) (fun q1 => ?_)
  refine vn_putF (C := RX3) (T := TX3) (N := 6) (ci := 3) (v := .ref q1) (ty := .array .int) (ws' := ([(h0, .inr (3, [.ref q1, .null, .int 0, .int 0, .int 0, .int 0])), (q1, .inl (E.2 0, 256, .inl (fun _ => 0)))] : va_W)) hX hI in_X3 tyX3 tyX3_ok nmX3 0 rfl rfl 0 (by decide) fl_9 rfl rfl rfl (by decide +kernel) rfl rfl (Nat.le_of_ble_eq_true rfl) dX3_init_10 rfl ?_
  refine vn_aload_n hX dX3_init_13 rfl ?_
  refine vn_iconst (x := (4 : Int32)) hX dX3_init_14 (by decide) ?_
  refine vn_newq (C := RX0) (c0 := E.2 3) (N := 4) (wf := fun b => ([(h0, .inr (3, [.ref q1, .null, .int 0, .int 0, .int 0, .int 0])), (q1, .inl (E.2 0, 256, .inl (fun _ => 0))), (b, .inl (E.2 3, 4, .inr (.inr (.inr (.inr (fun _ => none))))))] : va_W)) hX wd_Cond_classLink_RX3_15_RX0 hO.1 3 rfl (by decide) (by decide) (Nat.le_of_ble_eq_true rfl) (Nat.le_of_ble_eq_true rfl) (Nat.le_of_ble_eq_true rfl) dX3_init_15 (fun _ => rfl) (fun q2 => ?_)
  refine vn_putF (C := RX3) (T := TX3) (N := 6) (ci := 3) (v := .ref q2) (ty := .array (.object "SnoopFilter$Core")) (ws' := ([(h0, .inr (3, [.ref q1, .ref q2, .int 0, .int 0, .int 0, .int 0])), (q1, .inl (E.2 0, 256, .inl (fun _ => 0))), (q2, .inl (E.2 3, 4, .inr (.inr (.inr (.inr (fun _ => none))))))] : va_W)) hX hI in_X3 tyX3 tyX3_ok nmX3 0 rfl rfl 1 (by decide) fl_17 rfl rfl rfl (by decide +kernel) rfl rfl (Nat.le_of_ble_eq_true rfl) dX3_init_18 rfl ?_
  refine vn_aload_n hX dX3_init_21 rfl ?_
  refine vn_iconst (x := (3 : Int32)) hX dX3_init_22 (by decide) ?_
  refine vn_put (C := RX3) (T := TX3) (N := 6) (ci := 3) (v := .int (3 : Int32)) (ty := .int) (ws' := ([(h0, .inr (3, [.ref q1, .ref q2, .int (3 : Int32), .int 0, .int 0, .int 0])), (q1, .inl (E.2 0, 256, .inl (fun _ => 0))), (q2, .inl (E.2 3, 4, .inr (.inr (.inr (.inr (fun _ => none))))))] : va_W)) hX in_X3 tyX3 tyX3_ok nmX3 0 rfl rfl 2 (by decide) fl_21 rfl rfl (by decide +kernel) rfl rfl (Nat.le_of_ble_eq_true rfl) dX3_init_23 rfl ?_
  refine vn_aload_n hX dX3_init_26 rfl ?_
  refine vn_bipush (x := (20 : Int32)) hX dX3_init_27 (by decide) ?_
  refine vn_put (C := RX3) (T := TX3) (N := 6) (ci := 3) (v := .int (20 : Int32)) (ty := .int) (ws' := ([(h0, .inr (3, [.ref q1, .ref q2, .int (3 : Int32), .int (20 : Int32), .int 0, .int 0])), (q1, .inl (E.2 0, 256, .inl (fun _ => 0))), (q2, .inl (E.2 3, 4, .inr (.inr (.inr (.inr (fun _ => none))))))] : va_W)) hX in_X3 tyX3 tyX3_ok nmX3 0 rfl rfl 3 (by decide) fl_25 rfl rfl (by decide +kernel) rfl rfl (Nat.le_of_ble_eq_true rfl) dX3_init_29 rfl ?_
  refine vn_iconst (x := (0 : Int32)) hX dX3_init_32 (by decide) ?_
  refine vn_istore_n (lv' := [.ref h0, .int (0 : Int32)]) hX dX3_init_33 (Nat.le_of_ble_eq_true rfl) (Nat.le_of_ble_eq_true rfl) rfl rfl ?_
  refine vn_iload_n hX dX3_init_34 rfl ?_
  refine vn_iconst (x := (4 : Int32)) hX dX3_init_35 (by decide) ?_
  refine vn_icmp_ge (tgt := 58) hX dX3_init_36 (by decide) (fun c => absurd c (by decide)) (fun _ => ?_)
  refine vn_aload_n hX dX3_init_39 rfl ?_
  refine vn_get (C := RX3) (T := TX3) (N := 6) (ci := 3) (v := .ref q2) hX in_X3 0 rfl rfl 1 (by decide) fl_17 rfl rfl dX3_init_40 ?_
  refine vn_iload_n hX dX3_init_43 rfl ?_
  refine vn_new (C := RX0) (T := TX0) (N := 5) (ci := 0) (fs := [.null, .null, .null, .null, .null]) hX in_X0 tyX0 tyX0_ok wd_Cond_classLink_RX3_15_RX0 wd_Cond_instantiable_RX0_5 wd_Cond_initialized_RX0 rfl (fun j hj => by rcases (show j = 0 ∨ j = 1 ∨ j = 2 ∨ j = 3 ∨ j = 4 by omega) with rfl | rfl | rfl | rfl | rfl <;> rfl) (Nat.le_of_ble_eq_true rfl) (Nat.le_of_ble_eq_true rfl) dX3_init_44 (fun q3 => ?_)
  refine vn_dup hX dX3_init_47 ?_
  refine vn_callI (n := 0) (pre := ([(h0, .inr (3, [.ref q1, .ref q2, .int (3 : Int32), .int (20 : Int32), .int 0, .int 0])), (q1, .inl (E.2 0, 256, .inl (fun _ => 0))), (q2, .inl (E.2 3, 4, .inr (.inr (.inr (.inr (fun _ => none))))))] : va_W)) (wc := [(q3, .inr (0, [.null, .null, .null, .null, .null]))]) hX hO (fun sz => c_X0_init l E q3 sz) (cwI 0 hX.2.2.2.2.1 gX3_init_X0_init rfl rfl rfl (hX.2.2.2.2.1 _ wd_Cond_initialized_RX0) (hX.2.2.2.2.1 _ wd_Cond_methodLink_RX3_28_yX0_init) (hX.2.2.2.2.1 _ wd_Cond_instanceMethod_yX0_init) rfl (by decide +kernel) ⟨Nat.le_of_ble_eq_true rfl, Nat.le_of_ble_eq_true rfl⟩) (Nat.le_of_ble_eq_true rfl) ⟨Nat.le_of_ble_eq_true rfl, Nat.le_of_ble_eq_true rfl⟩ dX3_init_48 (fun _ hu => ?_)
  obtain ⟨k3, hk, rfl⟩ := hu
  subst hk
  refine vn_astq (r := (RX0, TX0, 5)) (ws' := (([(h0, .inr (3, [.ref q1, .ref q2, .int (3 : Int32), .int (20 : Int32), .int 0, .int 0])), (q1, .inl (E.2 0, 256, .inl (fun _ => 0))), (q2, .inl (E.2 3, 4, .inr (.inr (.inr (.inr (va_up (fun _ => none) 0 (some ((k3 0)))))))))] : va_W) ++ (wK E k3 iK))) hX 2 3 3 0 rfl rfl rfl rfl (vp_in_nI (by omega : 0 < 4) (by omega)) rfl dX3_init_51 ?_
  refine vn_iinc (y := (1 : Int32)) (lv' := [.ref h0, .int (1 : Int32)]) hX dX3_init_52 rfl (by decide) (Nat.le_of_ble_eq_true rfl) (Nat.le_of_ble_eq_true rfl) rfl rfl ?_
  refine vn_goto (tgt := 34) hX dX3_init_55 (by decide) ?_
  refine vn_iload_n hX dX3_init_34 rfl ?_
  refine vn_iconst (x := (4 : Int32)) hX dX3_init_35 (by decide) ?_
  refine vn_icmp_ge (tgt := 58) hX dX3_init_36 (by decide) (fun c => absurd c (by decide)) (fun _ => ?_)
  refine vn_aload_n hX dX3_init_39 rfl ?_
  refine vn_get (C := RX3) (T := TX3) (N := 6) (ci := 3) (v := .ref q2) hX in_X3 0 rfl rfl 1 (by decide) fl_17 rfl rfl dX3_init_40 ?_
  refine vn_iload_n hX dX3_init_43 rfl ?_
  refine vn_new (C := RX0) (T := TX0) (N := 5) (ci := 0) (fs := [.null, .null, .null, .null, .null]) hX in_X0 tyX0 tyX0_ok wd_Cond_classLink_RX3_15_RX0 wd_Cond_instantiable_RX0_5 wd_Cond_initialized_RX0 rfl (fun j hj => by rcases (show j = 0 ∨ j = 1 ∨ j = 2 ∨ j = 3 ∨ j = 4 by omega) with rfl | rfl | rfl | rfl | rfl <;> rfl) (Nat.le_of_ble_eq_true rfl) (Nat.le_of_ble_eq_true rfl) dX3_init_44 (fun q4 => ?_)
  refine vn_dup hX dX3_init_47 ?_
  refine vn_callI (n := 0) (pre := (([(h0, .inr (3, [.ref q1, .ref q2, .int (3 : Int32), .int (20 : Int32), .int 0, .int 0])), (q1, .inl (E.2 0, 256, .inl (fun _ => 0))), (q2, .inl (E.2 3, 4, .inr (.inr (.inr (.inr (va_up (fun _ => none) 0 (some ((k3 0)))))))))] : va_W) ++ (wK E k3 iK))) (wc := [(q4, .inr (0, [.null, .null, .null, .null, .null]))]) hX hO (fun sz => c_X0_init l E q4 sz) (cwI 0 hX.2.2.2.2.1 gX3_init_X0_init rfl rfl rfl (hX.2.2.2.2.1 _ wd_Cond_initialized_RX0) (hX.2.2.2.2.1 _ wd_Cond_methodLink_RX3_28_yX0_init) (hX.2.2.2.2.1 _ wd_Cond_instanceMethod_yX0_init) rfl (by decide +kernel) ⟨Nat.le_of_ble_eq_true rfl, Nat.le_of_ble_eq_true rfl⟩) (Nat.le_of_ble_eq_true rfl) ⟨Nat.le_of_ble_eq_true rfl, Nat.le_of_ble_eq_true rfl⟩ dX3_init_48 (fun _ hu => ?_)
  obtain ⟨k4, hk, rfl⟩ := hu
  subst hk
  refine vn_astq (r := (RX0, TX0, 5)) (ws' := ((([(h0, .inr (3, [.ref q1, .ref q2, .int (3 : Int32), .int (20 : Int32), .int 0, .int 0])), (q1, .inl (E.2 0, 256, .inl (fun _ => 0))), (q2, .inl (E.2 3, 4, .inr (.inr (.inr (.inr (va_up (va_up (fun _ => none) 0 (some ((k3 0)))) 1 (some ((k4 0)))))))))] : va_W) ++ (wK E k3 iK)) ++ (wK E k4 iK))) hX 2 3 12 0 rfl rfl rfl rfl (vp_in_nI (by omega : 1 < 4) (by omega)) rfl dX3_init_51 ?_
  refine vn_iinc (y := (2 : Int32)) (lv' := [.ref h0, .int (2 : Int32)]) hX dX3_init_52 rfl (by decide) (Nat.le_of_ble_eq_true rfl) (Nat.le_of_ble_eq_true rfl) rfl rfl ?_
  refine vn_goto (tgt := 34) hX dX3_init_55 (by decide) ?_
  refine vn_iload_n hX dX3_init_34 rfl ?_
  refine vn_iconst (x := (4 : Int32)) hX dX3_init_35 (by decide) ?_
  refine vn_icmp_ge (tgt := 58) hX dX3_init_36 (by decide) (fun c => absurd c (by decide)) (fun _ => ?_)
  refine vn_aload_n hX dX3_init_39 rfl ?_
  refine vn_get (C := RX3) (T := TX3) (N := 6) (ci := 3) (v := .ref q2) hX in_X3 0 rfl rfl 1 (by decide) fl_17 rfl rfl dX3_init_40 ?_
  refine vn_iload_n hX dX3_init_43 rfl ?_
  refine vn_new (C := RX0) (T := TX0) (N := 5) (ci := 0) (fs := [.null, .null, .null, .null, .null]) hX in_X0 tyX0 tyX0_ok wd_Cond_classLink_RX3_15_RX0 wd_Cond_instantiable_RX0_5 wd_Cond_initialized_RX0 rfl (fun j hj => by rcases (show j = 0 ∨ j = 1 ∨ j = 2 ∨ j = 3 ∨ j = 4 by omega) with rfl | rfl | rfl | rfl | rfl <;> rfl) (Nat.le_of_ble_eq_true rfl) (Nat.le_of_ble_eq_true rfl) dX3_init_44 (fun q5 => ?_)
  refine vn_dup hX dX3_init_47 ?_
  refine vn_callI (n := 0) (pre := ((([(h0, .inr (3, [.ref q1, .ref q2, .int (3 : Int32), .int (20 : Int32), .int 0, .int 0])), (q1, .inl (E.2 0, 256, .inl (fun _ => 0))), (q2, .inl (E.2 3, 4, .inr (.inr (.inr (.inr (va_up (va_up (fun _ => none) 0 (some ((k3 0)))) 1 (some ((k4 0)))))))))] : va_W) ++ (wK E k3 iK)) ++ (wK E k4 iK))) (wc := [(q5, .inr (0, [.null, .null, .null, .null, .null]))]) hX hO (fun sz => c_X0_init l E q5 sz) (cwI 0 hX.2.2.2.2.1 gX3_init_X0_init rfl rfl rfl (hX.2.2.2.2.1 _ wd_Cond_initialized_RX0) (hX.2.2.2.2.1 _ wd_Cond_methodLink_RX3_28_yX0_init) (hX.2.2.2.2.1 _ wd_Cond_instanceMethod_yX0_init) rfl (by decide +kernel) ⟨Nat.le_of_ble_eq_true rfl, Nat.le_of_ble_eq_true rfl⟩) (Nat.le_of_ble_eq_true rfl) ⟨Nat.le_of_ble_eq_true rfl, Nat.le_of_ble_eq_true rfl⟩ dX3_init_48 (fun _ hu => ?_)
  obtain ⟨k5, hk, rfl⟩ := hu
  subst hk
  refine vn_astq (r := (RX0, TX0, 5)) (ws' := (((([(h0, .inr (3, [.ref q1, .ref q2, .int (3 : Int32), .int (20 : Int32), .int 0, .int 0])), (q1, .inl (E.2 0, 256, .inl (fun _ => 0))), (q2, .inl (E.2 3, 4, .inr (.inr (.inr (.inr (va_up (va_up (va_up (fun _ => none) 0 (some ((k3 0)))) 1 (some ((k4 0)))) 2 (some ((k5 0)))))))))] : va_W) ++ (wK E k3 iK)) ++ (wK E k4 iK)) ++ (wK E k5 iK))) hX 2 3 21 0 rfl rfl rfl rfl (vp_in_nI (by omega : 2 < 4) (by omega)) rfl dX3_init_51 ?_
  refine vn_iinc (y := (3 : Int32)) (lv' := [.ref h0, .int (3 : Int32)]) hX dX3_init_52 rfl (by decide) (Nat.le_of_ble_eq_true rfl) (Nat.le_of_ble_eq_true rfl) rfl rfl ?_
  refine vn_goto (tgt := 34) hX dX3_init_55 (by decide) ?_
  refine vn_iload_n hX dX3_init_34 rfl ?_
  refine vn_iconst (x := (4 : Int32)) hX dX3_init_35 (by decide) ?_
  refine vn_icmp_ge (tgt := 58) hX dX3_init_36 (by decide) (fun c => absurd c (by decide)) (fun _ => ?_)
  refine vn_aload_n hX dX3_init_39 rfl ?_
  refine vn_get (C := RX3) (T := TX3) (N := 6) (ci := 3) (v := .ref q2) hX in_X3 0 rfl rfl 1 (by decide) fl_17 rfl rfl dX3_init_40 ?_
  refine vn_iload_n hX dX3_init_43 rfl ?_
  refine vn_new (C := RX0) (T := TX0) (N := 5) (ci := 0) (fs := [.null, .null, .null, .null, .null]) hX in_X0 tyX0 tyX0_ok wd_Cond_classLink_RX3_15_RX0 wd_Cond_instantiable_RX0_5 wd_Cond_initialized_RX0 rfl (fun j hj => by rcases (show j = 0 ∨ j = 1 ∨ j = 2 ∨ j = 3 ∨ j = 4 by omega) with rfl | rfl | rfl | rfl | rfl <;> rfl) (Nat.le_of_ble_eq_true rfl) (Nat.le_of_ble_eq_true rfl) dX3_init_44 (fun q6 => ?_)
  refine vn_dup hX dX3_init_47 ?_
  refine vn_callI (n := 0) (pre := (((([(h0, .inr (3, [.ref q1, .ref q2, .int (3 : Int32), .int (20 : Int32), .int 0, .int 0])), (q1, .inl (E.2 0, 256, .inl (fun _ => 0))), (q2, .inl (E.2 3, 4, .inr (.inr (.inr (.inr (va_up (va_up (va_up (fun _ => none) 0 (some ((k3 0)))) 1 (some ((k4 0)))) 2 (some ((k5 0)))))))))] : va_W) ++ (wK E k3 iK)) ++ (wK E k4 iK)) ++ (wK E k5 iK))) (wc := [(q6, .inr (0, [.null, .null, .null, .null, .null]))]) hX hO (fun sz => c_X0_init l E q6 sz) (cwI 0 hX.2.2.2.2.1 gX3_init_X0_init rfl rfl rfl (hX.2.2.2.2.1 _ wd_Cond_initialized_RX0) (hX.2.2.2.2.1 _ wd_Cond_methodLink_RX3_28_yX0_init) (hX.2.2.2.2.1 _ wd_Cond_instanceMethod_yX0_init) rfl (by decide +kernel) ⟨Nat.le_of_ble_eq_true rfl, Nat.le_of_ble_eq_true rfl⟩) (Nat.le_of_ble_eq_true rfl) ⟨Nat.le_of_ble_eq_true rfl, Nat.le_of_ble_eq_true rfl⟩ dX3_init_48 (fun _ hu => ?_)
  obtain ⟨k6, hk, rfl⟩ := hu
  subst hk
  refine vn_astq (r := (RX0, TX0, 5)) (ws' := ((((([(h0, .inr (3, [.ref q1, .ref q2, .int (3 : Int32), .int (20 : Int32), .int 0, .int 0])), (q1, .inl (E.2 0, 256, .inl (fun _ => 0))), (q2, .inl (E.2 3, 4, .inr (.inr (.inr (.inr (va_up (va_up (va_up (va_up (fun _ => none) 0 (some ((k3 0)))) 1 (some ((k4 0)))) 2 (some ((k5 0)))) 3 (some ((k6 0)))))))))] : va_W) ++ (wK E k3 iK)) ++ (wK E k4 iK)) ++ (wK E k5 iK)) ++ (wK E k6 iK))) hX 2 3 30 0 rfl rfl rfl rfl (vp_in_nI (by omega : 3 < 4) (by omega)) rfl dX3_init_51 ?_
  refine vn_iinc (y := (4 : Int32)) (lv' := [.ref h0, .int (4 : Int32)]) hX dX3_init_52 rfl (by decide) (Nat.le_of_ble_eq_true rfl) (Nat.le_of_ble_eq_true rfl) rfl rfl ?_
  refine vn_goto (tgt := 34) hX dX3_init_55 (by decide) ?_
  refine vn_iload_n hX dX3_init_34 rfl ?_
  refine vn_iconst (x := (4 : Int32)) hX dX3_init_35 (by decide) ?_
  refine vn_icmp_ge (tgt := 58) hX dX3_init_36 (by decide) (fun _ => ?_) (fun c => absurd (by decide) c)
  refine vn_weq (w2 := (((w3 E (aM h0 q1 q2 k3 k4 k5 k6) iM ++ (wK E k3 iK)) ++ (wK E k4 iK)) ++ (wK E k5 iK)) ++ (wK E k6 iK)) (wEq_setR (w := (((((([(h0, .inr (3, [.ref q1, .ref q2, .int (3 : Int32), .int (20 : Int32), .int 0, .int 0])), (q1, .inl (E.2 0, 256, .inl (fun _ => 0))), (q2, .inl (E.2 3, 4, .inr (.inr (.inr (.inr (va_up (va_up (va_up (va_up (fun _ => none) 0 (some ((k3 0)))) 1 (some ((k4 0)))) 2 (some ((k5 0)))) 3 (some ((k6 0)))))))))] : va_W) ++ (wK E k3 iK)) ++ (wK E k4 iK)) ++ (wK E k5 iK)) ++ (wK E k6 iK)) : va_W)) 2 q2 (ca := E.2 3) (n := 4) (f := va_up (va_up (va_up (va_up (fun _ => none) 0 (some ((k3 0)))) 1 (some ((k4 0)))) 2 (some ((k5 0)))) 3 (some ((k6 0)))) (g := fun j => some ((aM h0 q1 q2 k3 k4 k5 k6) (3 + 9 * j))) (fun j hj => four (P := fun j => (va_up (va_up (va_up (va_up (fun _ => none) 0 (some ((k3 0)))) 1 (some ((k4 0)))) 2 (some ((k5 0)))) 3 (some ((k6 0)))) j = some ((aM h0 q1 q2 k3 k4 k5 k6) (3 + 9 * j))) rfl rfl rfl rfl hj)) ?_
  exact vn_vret hX hr dX3_init_58 rfl rfl ⟨(aM h0 q1 q2 k3 k4 k5 k6), rfl, (wM_mk E h0 q1 q2 k3 k4 k5 k6).symm⟩
set_option maxHeartbeats 4000000 in
set_option maxRecDepth 100000 in
theorem c_X2_init (l : Launch) (E : ET) (h0 sz : Nat) : Met l yX2_init wsX2_init ({ frames := 4, cells := 157, slots := 2700, locals := 74 } : Room) (mPn E [.ref h0] sz [(h0, .inr (2, [.null, .int 0, .int 0]))]) (mQc E [(h0, .inr (2, [.null, .int 0, .int 0]))] sz (fun u => ∃ b : Nat → Nat → Nat, b 0 0 = h0 ∧ u = wH E b iH)) 157 2700 (va_A [(h0, .inr (2, [.null, .int 0, .int 0]))] sz) := by
  refine vn_start (cc := cX2_init) (maxL := 2) (ret := none) (by decide) rfl (Nat.le_of_ble_eq_true rfl) rfl ?_
  intro p e s m args below meth c hsz hr hX hO hI
  have hX : Xc p s m args meth c E 2 (va_A [(h0, .inr (2, [.null, .int 0, .int 0]))] sz) cX2_init RX2 wsX2_init := hX
  have hI : meth.name = "<init>" := hI
  have wd_Cond_methodLink_RX2_3_objectInit : Cond.methodLink RX2 3 objectInit ∈ wsX2_init := by decide +kernel
  have wd_Cond_instanceMethod_objectInit : Cond.instanceMethod objectInit ∈ wsX2_init := by decide +kernel
  have wd_code : Cond.code objectInit ⟨#[0xb1]⟩ 1 none ∈ wsX2_init := by decide +kernel
  have wd_Cond_classLink_RX2_9_RX3 : Cond.classLink RX2 9 RX3 ∈ wsX2_init := by decide +kernel
  have in_X2 : ∀ w ∈ u_ws RX2 TX2 3, w ∈ wsX2_init := by decide +kernel
  have fl_11 : Cond.fieldLink RX2 11 RX2 "states" "[LSnoopFilter$Machine;" ∈ wsX2_init := by decide +kernel
  have wd_Cond_instantiable_RX3_6 : Cond.instantiable RX3 6 ∈ wsX2_init := by decide +kernel
  have wd_Cond_initialized_RX3 : Cond.initialized RX3 ∈ wsX2_init := by decide +kernel
  have in_X3 : ∀ w ∈ u_ws RX3 TX3 6, w ∈ wsX2_init := by decide +kernel
  have wd_Cond_instanceMethod_yX3_init : Cond.instanceMethod yX3_init ∈ wsX2_init := by decide +kernel
  have wd_Cond_methodLink_RX2_17_yX3_init : Cond.methodLink RX2 17 yX3_init ∈ wsX2_init := by decide +kernel
  refine vn_aload_n hX dX2_init_0 rfl ?_
  refine vn_obj hX wd_Cond_methodLink_RX2_3_objectInit wd_Cond_instanceMethod_objectInit wd_code dX2_init_1 (Nat.le_of_ble_eq_true rfl) (Nat.le_of_ble_eq_true rfl) ?_
  refine vn_aload_n hX dX2_init_4 rfl ?_
  refine vn_iconst (x := (4 : Int32)) hX dX2_init_5 (by decide) ?_
  refine vn_newq (C := RX3) (c0 := E.2 4) (N := 4) (wf := fun b => ([(h0, .inr (2, [.null, .int 0, .int 0])), (b, .inl (E.2 4, 4, .inr (.inr (.inr (.inr (fun _ => none))))))] : va_W)) hX wd_Cond_classLink_RX2_9_RX3 hO.2 4 rfl (by decide) (by decide) (Nat.le_of_ble_eq_true rfl) (Nat.le_of_ble_eq_true rfl) (Nat.le_of_ble_eq_true rfl) dX2_init_6 (fun _ => rfl) (fun q1 => ?_)
  refine vn_putF (C := RX2) (T := TX2) (N := 3) (ci := 2) (v := .ref q1) (ty := .array (.object "SnoopFilter$Machine")) (ws' := ([(h0, .inr (2, [.ref q1, .int 0, .int 0])), (q1, .inl (E.2 4, 4, .inr (.inr (.inr (.inr (fun _ => none))))))] : va_W)) hX hI in_X2 tyX2 tyX2_ok nmX2 0 rfl rfl 0 (by decide) fl_11 rfl rfl rfl (by decide +kernel) rfl rfl (Nat.le_of_ble_eq_true rfl) dX2_init_9 rfl ?_
  refine vn_iconst (x := (0 : Int32)) hX dX2_init_12 (by decide) ?_
  refine vn_istore_n (lv' := [.ref h0, .int (0 : Int32)]) hX dX2_init_13 (Nat.le_of_ble_eq_true rfl) (Nat.le_of_ble_eq_true rfl) rfl rfl ?_
  refine vn_iload_n hX dX2_init_14 rfl ?_
  refine vn_iconst (x := (4 : Int32)) hX dX2_init_15 (by decide) ?_
  refine vn_icmp_ge (tgt := 38) hX dX2_init_16 (by decide) (fun c => absurd c (by decide)) (fun _ => ?_)
  refine vn_aload_n hX dX2_init_19 rfl ?_
  refine vn_get (C := RX2) (T := TX2) (N := 3) (ci := 2) (v := .ref q1) hX in_X2 0 rfl rfl 0 (by decide) fl_11 rfl rfl dX2_init_20 ?_
  refine vn_iload_n hX dX2_init_23 rfl ?_
  refine vn_new (C := RX3) (T := TX3) (N := 6) (ci := 3) (fs := [.null, .null, .int 0, .int 0, .int 0, .int 0]) hX in_X3 tyX3 tyX3_ok wd_Cond_classLink_RX2_9_RX3 wd_Cond_instantiable_RX3_6 wd_Cond_initialized_RX3 rfl (fun j hj => by rcases (show j = 0 ∨ j = 1 ∨ j = 2 ∨ j = 3 ∨ j = 4 ∨ j = 5 by omega) with rfl | rfl | rfl | rfl | rfl | rfl <;> rfl) (Nat.le_of_ble_eq_true rfl) (Nat.le_of_ble_eq_true rfl) dX2_init_24 (fun q2 => ?_)
  refine vn_dup hX dX2_init_27 ?_
  refine vn_callI (n := 0) (pre := ([(h0, .inr (2, [.ref q1, .int 0, .int 0])), (q1, .inl (E.2 4, 4, .inr (.inr (.inr (.inr (fun _ => none))))))] : va_W)) (wc := [(q2, .inr (3, [.null, .null, .int 0, .int 0, .int 0, .int 0]))]) hX hO (fun sz => c_X3_init l E q2 sz) (cwI 0 hX.2.2.2.2.1 gX2_init_X3_init rfl rfl rfl (hX.2.2.2.2.1 _ wd_Cond_initialized_RX3) (hX.2.2.2.2.1 _ wd_Cond_methodLink_RX2_17_yX3_init) (hX.2.2.2.2.1 _ wd_Cond_instanceMethod_yX3_init) rfl (by decide +kernel) ⟨Nat.le_of_ble_eq_true rfl, Nat.le_of_ble_eq_true rfl⟩) (Nat.le_of_ble_eq_true rfl) ⟨Nat.le_of_ble_eq_true rfl, Nat.le_of_ble_eq_true rfl⟩ dX2_init_28 (fun _ hu => ?_)
  obtain ⟨k2, hk, rfl⟩ := hu
  subst hk
  refine vn_astq (r := (RX3, TX3, 6)) (ws' := (([(h0, .inr (2, [.ref q1, .int 0, .int 0])), (q1, .inl (E.2 4, 4, .inr (.inr (.inr (.inr (va_up (fun _ => none) 0 (some ((k2 0)))))))))] : va_W) ++ (wM E k2 iM))) hX 1 4 2 3 rfl rfl rfl rfl (vp_in_nI (by omega : 0 < 4) (by omega)) rfl dX2_init_31 ?_
  refine vn_iinc (y := (1 : Int32)) (lv' := [.ref h0, .int (1 : Int32)]) hX dX2_init_32 rfl (by decide) (Nat.le_of_ble_eq_true rfl) (Nat.le_of_ble_eq_true rfl) rfl rfl ?_
  refine vn_goto (tgt := 14) hX dX2_init_35 (by decide) ?_
  refine vn_iload_n hX dX2_init_14 rfl ?_
  refine vn_iconst (x := (4 : Int32)) hX dX2_init_15 (by decide) ?_
  refine vn_icmp_ge (tgt := 38) hX dX2_init_16 (by decide) (fun c => absurd c (by decide)) (fun _ => ?_)
  refine vn_aload_n hX dX2_init_19 rfl ?_
  refine vn_get (C := RX2) (T := TX2) (N := 3) (ci := 2) (v := .ref q1) hX in_X2 0 rfl rfl 0 (by decide) fl_11 rfl rfl dX2_init_20 ?_
  refine vn_iload_n hX dX2_init_23 rfl ?_
  refine vn_new (C := RX3) (T := TX3) (N := 6) (ci := 3) (fs := [.null, .null, .int 0, .int 0, .int 0, .int 0]) hX in_X3 tyX3 tyX3_ok wd_Cond_classLink_RX2_9_RX3 wd_Cond_instantiable_RX3_6 wd_Cond_initialized_RX3 rfl (fun j hj => by rcases (show j = 0 ∨ j = 1 ∨ j = 2 ∨ j = 3 ∨ j = 4 ∨ j = 5 by omega) with rfl | rfl | rfl | rfl | rfl | rfl <;> rfl) (Nat.le_of_ble_eq_true rfl) (Nat.le_of_ble_eq_true rfl) dX2_init_24 (fun q3 => ?_)
  refine vn_dup hX dX2_init_27 ?_
  refine vn_callI (n := 0) (pre := (([(h0, .inr (2, [.ref q1, .int 0, .int 0])), (q1, .inl (E.2 4, 4, .inr (.inr (.inr (.inr (va_up (fun _ => none) 0 (some ((k2 0)))))))))] : va_W) ++ (wM E k2 iM))) (wc := [(q3, .inr (3, [.null, .null, .int 0, .int 0, .int 0, .int 0]))]) hX hO (fun sz => c_X3_init l E q3 sz) (cwI 0 hX.2.2.2.2.1 gX2_init_X3_init rfl rfl rfl (hX.2.2.2.2.1 _ wd_Cond_initialized_RX3) (hX.2.2.2.2.1 _ wd_Cond_methodLink_RX2_17_yX3_init) (hX.2.2.2.2.1 _ wd_Cond_instanceMethod_yX3_init) rfl (by decide +kernel) ⟨Nat.le_of_ble_eq_true rfl, Nat.le_of_ble_eq_true rfl⟩) (Nat.le_of_ble_eq_true rfl) ⟨Nat.le_of_ble_eq_true rfl, Nat.le_of_ble_eq_true rfl⟩ dX2_init_28 (fun _ hu => ?_)
  obtain ⟨k3, hk, rfl⟩ := hu
  subst hk
  refine vn_astq (r := (RX3, TX3, 6)) (ws' := ((([(h0, .inr (2, [.ref q1, .int 0, .int 0])), (q1, .inl (E.2 4, 4, .inr (.inr (.inr (.inr (va_up (va_up (fun _ => none) 0 (some ((k2 0)))) 1 (some ((k3 0)))))))))] : va_W) ++ (wM E k2 iM)) ++ (wM E k3 iM))) hX 1 4 41 3 rfl rfl rfl rfl (vp_in_nI (by omega : 1 < 4) (by omega)) rfl dX2_init_31 ?_
  refine vn_iinc (y := (2 : Int32)) (lv' := [.ref h0, .int (2 : Int32)]) hX dX2_init_32 rfl (by decide) (Nat.le_of_ble_eq_true rfl) (Nat.le_of_ble_eq_true rfl) rfl rfl ?_
  refine vn_goto (tgt := 14) hX dX2_init_35 (by decide) ?_
  refine vn_iload_n hX dX2_init_14 rfl ?_
  refine vn_iconst (x := (4 : Int32)) hX dX2_init_15 (by decide) ?_
  refine vn_icmp_ge (tgt := 38) hX dX2_init_16 (by decide) (fun c => absurd c (by decide)) (fun _ => ?_)
  refine vn_aload_n hX dX2_init_19 rfl ?_
  refine vn_get (C := RX2) (T := TX2) (N := 3) (ci := 2) (v := .ref q1) hX in_X2 0 rfl rfl 0 (by decide) fl_11 rfl rfl dX2_init_20 ?_
  refine vn_iload_n hX dX2_init_23 rfl ?_
  refine vn_new (C := RX3) (T := TX3) (N := 6) (ci := 3) (fs := [.null, .null, .int 0, .int 0, .int 0, .int 0]) hX in_X3 tyX3 tyX3_ok wd_Cond_classLink_RX2_9_RX3 wd_Cond_instantiable_RX3_6 wd_Cond_initialized_RX3 rfl (fun j hj => by rcases (show j = 0 ∨ j = 1 ∨ j = 2 ∨ j = 3 ∨ j = 4 ∨ j = 5 by omega) with rfl | rfl | rfl | rfl | rfl | rfl <;> rfl) (Nat.le_of_ble_eq_true rfl) (Nat.le_of_ble_eq_true rfl) dX2_init_24 (fun q4 => ?_)
  refine vn_dup hX dX2_init_27 ?_
  refine vn_callI (n := 0) (pre := ((([(h0, .inr (2, [.ref q1, .int 0, .int 0])), (q1, .inl (E.2 4, 4, .inr (.inr (.inr (.inr (va_up (va_up (fun _ => none) 0 (some ((k2 0)))) 1 (some ((k3 0)))))))))] : va_W) ++ (wM E k2 iM)) ++ (wM E k3 iM))) (wc := [(q4, .inr (3, [.null, .null, .int 0, .int 0, .int 0, .int 0]))]) hX hO (fun sz => c_X3_init l E q4 sz) (cwI 0 hX.2.2.2.2.1 gX2_init_X3_init rfl rfl rfl (hX.2.2.2.2.1 _ wd_Cond_initialized_RX3) (hX.2.2.2.2.1 _ wd_Cond_methodLink_RX2_17_yX3_init) (hX.2.2.2.2.1 _ wd_Cond_instanceMethod_yX3_init) rfl (by decide +kernel) ⟨Nat.le_of_ble_eq_true rfl, Nat.le_of_ble_eq_true rfl⟩) (Nat.le_of_ble_eq_true rfl) ⟨Nat.le_of_ble_eq_true rfl, Nat.le_of_ble_eq_true rfl⟩ dX2_init_28 (fun _ hu => ?_)
  obtain ⟨k4, hk, rfl⟩ := hu
  subst hk
  refine vn_astq (r := (RX3, TX3, 6)) (ws' := (((([(h0, .inr (2, [.ref q1, .int 0, .int 0])), (q1, .inl (E.2 4, 4, .inr (.inr (.inr (.inr (va_up (va_up (va_up (fun _ => none) 0 (some ((k2 0)))) 1 (some ((k3 0)))) 2 (some ((k4 0)))))))))] : va_W) ++ (wM E k2 iM)) ++ (wM E k3 iM)) ++ (wM E k4 iM))) hX 1 4 80 3 rfl rfl rfl rfl (vp_in_nI (by omega : 2 < 4) (by omega)) rfl dX2_init_31 ?_
  refine vn_iinc (y := (3 : Int32)) (lv' := [.ref h0, .int (3 : Int32)]) hX dX2_init_32 rfl (by decide) (Nat.le_of_ble_eq_true rfl) (Nat.le_of_ble_eq_true rfl) rfl rfl ?_
  refine vn_goto (tgt := 14) hX dX2_init_35 (by decide) ?_
  refine vn_iload_n hX dX2_init_14 rfl ?_
  refine vn_iconst (x := (4 : Int32)) hX dX2_init_15 (by decide) ?_
  refine vn_icmp_ge (tgt := 38) hX dX2_init_16 (by decide) (fun c => absurd c (by decide)) (fun _ => ?_)
  refine vn_aload_n hX dX2_init_19 rfl ?_
  refine vn_get (C := RX2) (T := TX2) (N := 3) (ci := 2) (v := .ref q1) hX in_X2 0 rfl rfl 0 (by decide) fl_11 rfl rfl dX2_init_20 ?_
  refine vn_iload_n hX dX2_init_23 rfl ?_
  refine vn_new (C := RX3) (T := TX3) (N := 6) (ci := 3) (fs := [.null, .null, .int 0, .int 0, .int 0, .int 0]) hX in_X3 tyX3 tyX3_ok wd_Cond_classLink_RX2_9_RX3 wd_Cond_instantiable_RX3_6 wd_Cond_initialized_RX3 rfl (fun j hj => by rcases (show j = 0 ∨ j = 1 ∨ j = 2 ∨ j = 3 ∨ j = 4 ∨ j = 5 by omega) with rfl | rfl | rfl | rfl | rfl | rfl <;> rfl) (Nat.le_of_ble_eq_true rfl) (Nat.le_of_ble_eq_true rfl) dX2_init_24 (fun q5 => ?_)
  refine vn_dup hX dX2_init_27 ?_
  refine vn_callI (n := 0) (pre := (((([(h0, .inr (2, [.ref q1, .int 0, .int 0])), (q1, .inl (E.2 4, 4, .inr (.inr (.inr (.inr (va_up (va_up (va_up (fun _ => none) 0 (some ((k2 0)))) 1 (some ((k3 0)))) 2 (some ((k4 0)))))))))] : va_W) ++ (wM E k2 iM)) ++ (wM E k3 iM)) ++ (wM E k4 iM))) (wc := [(q5, .inr (3, [.null, .null, .int 0, .int 0, .int 0, .int 0]))]) hX hO (fun sz => c_X3_init l E q5 sz) (cwI 0 hX.2.2.2.2.1 gX2_init_X3_init rfl rfl rfl (hX.2.2.2.2.1 _ wd_Cond_initialized_RX3) (hX.2.2.2.2.1 _ wd_Cond_methodLink_RX2_17_yX3_init) (hX.2.2.2.2.1 _ wd_Cond_instanceMethod_yX3_init) rfl (by decide +kernel) ⟨Nat.le_of_ble_eq_true rfl, Nat.le_of_ble_eq_true rfl⟩) (Nat.le_of_ble_eq_true rfl) ⟨Nat.le_of_ble_eq_true rfl, Nat.le_of_ble_eq_true rfl⟩ dX2_init_28 (fun _ hu => ?_)
  obtain ⟨k5, hk, rfl⟩ := hu
  subst hk
  refine vn_astq (r := (RX3, TX3, 6)) (ws' := ((((([(h0, .inr (2, [.ref q1, .int 0, .int 0])), (q1, .inl (E.2 4, 4, .inr (.inr (.inr (.inr (va_up (va_up (va_up (va_up (fun _ => none) 0 (some ((k2 0)))) 1 (some ((k3 0)))) 2 (some ((k4 0)))) 3 (some ((k5 0)))))))))] : va_W) ++ (wM E k2 iM)) ++ (wM E k3 iM)) ++ (wM E k4 iM)) ++ (wM E k5 iM))) hX 1 4 119 3 rfl rfl rfl rfl (vp_in_nI (by omega : 3 < 4) (by omega)) rfl dX2_init_31 ?_
  refine vn_iinc (y := (4 : Int32)) (lv' := [.ref h0, .int (4 : Int32)]) hX dX2_init_32 rfl (by decide) (Nat.le_of_ble_eq_true rfl) (Nat.le_of_ble_eq_true rfl) rfl rfl ?_
  refine vn_goto (tgt := 14) hX dX2_init_35 (by decide) ?_
  refine vn_iload_n hX dX2_init_14 rfl ?_
  refine vn_iconst (x := (4 : Int32)) hX dX2_init_15 (by decide) ?_
  refine vn_icmp_ge (tgt := 38) hX dX2_init_16 (by decide) (fun _ => ?_) (fun c => absurd (by decide) c)
  refine vn_weq (w2 := (((wH1 E (aH h0 q1 k2 k3 k4 k5) iH ++ (wM E k2 iM)) ++ (wM E k3 iM)) ++ (wM E k4 iM)) ++ (wM E k5 iM)) (wEq_setR (w := (((((([(h0, .inr (2, [.ref q1, .int 0, .int 0])), (q1, .inl (E.2 4, 4, .inr (.inr (.inr (.inr (va_up (va_up (va_up (va_up (fun _ => none) 0 (some ((k2 0)))) 1 (some ((k3 0)))) 2 (some ((k4 0)))) 3 (some ((k5 0)))))))))] : va_W) ++ (wM E k2 iM)) ++ (wM E k3 iM)) ++ (wM E k4 iM)) ++ (wM E k5 iM)) : va_W)) 1 q1 (ca := E.2 4) (n := 4) (f := va_up (va_up (va_up (va_up (fun _ => none) 0 (some ((k2 0)))) 1 (some ((k3 0)))) 2 (some ((k4 0)))) 3 (some ((k5 0)))) (g := fun j => some ((aH h0 q1 k2 k3 k4 k5) (1 + j) 0)) (fun j hj => four (P := fun j => (va_up (va_up (va_up (va_up (fun _ => none) 0 (some ((k2 0)))) 1 (some ((k3 0)))) 2 (some ((k4 0)))) 3 (some ((k5 0)))) j = some ((aH h0 q1 k2 k3 k4 k5) (1 + j) 0)) rfl rfl rfl rfl hj)) ?_
  exact vn_vret hX hr dX2_init_38 rfl rfl ⟨(aH h0 q1 k2 k3 k4 k5), rfl, (wH_mk E h0 q1 k2 k3 k4 k5).symm⟩
set_option maxHeartbeats 4000000 in
set_option maxRecDepth 100000 in
theorem c_X4_init (l : Launch) (E : ET) (h0 sz : Nat) : Met l yX4_init wsX4_init ({ frames := 1, cells := 5, slots := 188, locals := 12 } : Room) (mPn E [.ref h0] sz [(h0, .inr (4, [.null, .null, .null, .null, .null, .int 0, .int 0, .int 0]))]) (mQc E [(h0, .inr (4, [.null, .null, .null, .null, .null, .int 0, .int 0, .int 0]))] sz (fun u => ∃ a : Nat → Nat, a 0 = h0 ∧ u = wP E a iP)) 5 188 (va_A [(h0, .inr (4, [.null, .null, .null, .null, .null, .int 0, .int 0, .int 0]))] sz) := by
  refine vn_start (cc := cX4_init) (maxL := 1) (ret := none) (by decide) rfl (Nat.le_of_ble_eq_true rfl) rfl ?_
  intro p e s m args below meth c hsz hr hX hO hI
  have hX : Xc p s m args meth c E 1 (va_A [(h0, .inr (4, [.null, .null, .null, .null, .null, .int 0, .int 0, .int 0]))] sz) cX4_init RX4 wsX4_init := hX
  have hI : meth.name = "<init>" := hI
  have wd_Cond_methodLink_RX4_3_objectInit : Cond.methodLink RX4 3 objectInit ∈ wsX4_init := by decide +kernel
  have wd_Cond_instanceMethod_objectInit : Cond.instanceMethod objectInit ∈ wsX4_init := by decide +kernel
  have wd_code : Cond.code objectInit ⟨#[0xb1]⟩ 1 none ∈ wsX4_init := by decide +kernel
  have ar_char : Cond.arrayClass (newarray.typeOf .char) ∈ wsX4_init := by decide +kernel
  have in_X4 : ∀ w ∈ u_ws RX4 TX4 8, w ∈ wsX4_init := by decide +kernel
  have fl_9 : Cond.fieldLink RX4 9 RX4 "text" "[C" ∈ wsX4_init := by decide +kernel
  have fl_15 : Cond.fieldLink RX4 15 RX4 "kinds" "[C" ∈ wsX4_init := by decide +kernel
  have ar_int : Cond.arrayClass (newarray.typeOf .int) ∈ wsX4_init := by decide +kernel
  have fl_18 : Cond.fieldLink RX4 18 RX4 "coresOf" "[I" ∈ wsX4_init := by decide +kernel
  have fl_22 : Cond.fieldLink RX4 22 RX4 "linesOf" "[I" ∈ wsX4_init := by decide +kernel
  have fl_25 : Cond.fieldLink RX4 25 RX4 "valuesOf" "[I" ∈ wsX4_init := by decide +kernel
  refine vn_aload_n hX dX4_init_0 rfl ?_
  refine vn_obj hX wd_Cond_methodLink_RX4_3_objectInit wd_Cond_instanceMethod_objectInit wd_code dX4_init_1 (Nat.le_of_ble_eq_true rfl) (Nat.le_of_ble_eq_true rfl) ?_
  refine vn_aload_n hX dX4_init_4 rfl ?_
  refine vn_bipush (x := (80 : Int32)) hX dX4_init_5 (by decide) ?_
  refine vn_newa (atype := .char) (ty := .char) (c0 := E.2 2) (N := 80) (wf := fun b => ([(h0, .inr (4, [.null, .null, .null, .null, .null, .int 0, .int 0, .int 0])), (b, .inl (E.2 2, 80, .inl (fun _ => 0)))] : va_W)) hX ar_char rfl 2 rfl rfl (by decide) (by decide) (Nat.le_of_ble_eq_true rfl) (Nat.le_of_ble_eq_true rfl) (Nat.le_of_ble_eq_true rfl) dX4_init_7 (fun _ => rfl) (fun q1 => ?_)
  refine vn_putF (C := RX4) (T := TX4) (N := 8) (ci := 4) (v := .ref q1) (ty := .array .char) (ws' := ([(h0, .inr (4, [.ref q1, .null, .null, .null, .null, .int 0, .int 0, .int 0])), (q1, .inl (E.2 2, 80, .inl (fun _ => 0)))] : va_W)) hX hI in_X4 tyX4 tyX4_ok nmX4 0 rfl rfl 0 (by decide) fl_9 rfl rfl rfl (by decide +kernel) rfl rfl (Nat.le_of_ble_eq_true rfl) dX4_init_9 rfl ?_
  refine vn_aload_n hX dX4_init_12 rfl ?_
  refine vn_bipush (x := (27 : Int32)) hX dX4_init_13 (by decide) ?_
  refine vn_newa (atype := .char) (ty := .char) (c0 := E.2 2) (N := 27) (wf := fun b => ([(h0, .inr (4, [.ref q1, .null, .null, .null, .null, .int 0, .int 0, .int 0])), (q1, .inl (E.2 2, 80, .inl (fun _ => 0))), (b, .inl (E.2 2, 27, .inl (fun _ => 0)))] : va_W)) hX ar_char rfl 2 rfl rfl (by decide) (by decide) (Nat.le_of_ble_eq_true rfl) (Nat.le_of_ble_eq_true rfl) (Nat.le_of_ble_eq_true rfl) dX4_init_15 (fun _ => rfl) (fun q2 => ?_)
  refine vn_putF (C := RX4) (T := TX4) (N := 8) (ci := 4) (v := .ref q2) (ty := .array .char) (ws' := ([(h0, .inr (4, [.ref q1, .ref q2, .null, .null, .null, .int 0, .int 0, .int 0])), (q1, .inl (E.2 2, 80, .inl (fun _ => 0))), (q2, .inl (E.2 2, 27, .inl (fun _ => 0)))] : va_W)) hX hI in_X4 tyX4 tyX4_ok nmX4 0 rfl rfl 1 (by decide) fl_15 rfl rfl rfl (by decide +kernel) rfl rfl (Nat.le_of_ble_eq_true rfl) dX4_init_17 rfl ?_
  refine vn_aload_n hX dX4_init_20 rfl ?_
  refine vn_bipush (x := (27 : Int32)) hX dX4_init_21 (by decide) ?_
  refine vn_newa (atype := .int) (ty := .int) (c0 := E.2 0) (N := 27) (wf := fun b => ([(h0, .inr (4, [.ref q1, .ref q2, .null, .null, .null, .int 0, .int 0, .int 0])), (q1, .inl (E.2 2, 80, .inl (fun _ => 0))), (q2, .inl (E.2 2, 27, .inl (fun _ => 0))), (b, .inl (E.2 0, 27, .inl (fun _ => 0)))] : va_W)) hX ar_int rfl 0 rfl rfl (by decide) (by decide) (Nat.le_of_ble_eq_true rfl) (Nat.le_of_ble_eq_true rfl) (Nat.le_of_ble_eq_true rfl) dX4_init_23 (fun _ => rfl) (fun q3 => ?_)
  refine vn_putF (C := RX4) (T := TX4) (N := 8) (ci := 4) (v := .ref q3) (ty := .array .int) (ws' := ([(h0, .inr (4, [.ref q1, .ref q2, .ref q3, .null, .null, .int 0, .int 0, .int 0])), (q1, .inl (E.2 2, 80, .inl (fun _ => 0))), (q2, .inl (E.2 2, 27, .inl (fun _ => 0))), (q3, .inl (E.2 0, 27, .inl (fun _ => 0)))] : va_W)) hX hI in_X4 tyX4 tyX4_ok nmX4 0 rfl rfl 2 (by decide) fl_18 rfl rfl rfl (by decide +kernel) rfl rfl (Nat.le_of_ble_eq_true rfl) dX4_init_25 rfl ?_
  refine vn_aload_n hX dX4_init_28 rfl ?_
  refine vn_bipush (x := (27 : Int32)) hX dX4_init_29 (by decide) ?_
  refine vn_newa (atype := .int) (ty := .int) (c0 := E.2 0) (N := 27) (wf := fun b => ([(h0, .inr (4, [.ref q1, .ref q2, .ref q3, .null, .null, .int 0, .int 0, .int 0])), (q1, .inl (E.2 2, 80, .inl (fun _ => 0))), (q2, .inl (E.2 2, 27, .inl (fun _ => 0))), (q3, .inl (E.2 0, 27, .inl (fun _ => 0))), (b, .inl (E.2 0, 27, .inl (fun _ => 0)))] : va_W)) hX ar_int rfl 0 rfl rfl (by decide) (by decide) (Nat.le_of_ble_eq_true rfl) (Nat.le_of_ble_eq_true rfl) (Nat.le_of_ble_eq_true rfl) dX4_init_31 (fun _ => rfl) (fun q4 => ?_)
  refine vn_putF (C := RX4) (T := TX4) (N := 8) (ci := 4) (v := .ref q4) (ty := .array .int) (ws' := ([(h0, .inr (4, [.ref q1, .ref q2, .ref q3, .ref q4, .null, .int 0, .int 0, .int 0])), (q1, .inl (E.2 2, 80, .inl (fun _ => 0))), (q2, .inl (E.2 2, 27, .inl (fun _ => 0))), (q3, .inl (E.2 0, 27, .inl (fun _ => 0))), (q4, .inl (E.2 0, 27, .inl (fun _ => 0)))] : va_W)) hX hI in_X4 tyX4 tyX4_ok nmX4 0 rfl rfl 3 (by decide) fl_22 rfl rfl rfl (by decide +kernel) rfl rfl (Nat.le_of_ble_eq_true rfl) dX4_init_33 rfl ?_
  refine vn_aload_n hX dX4_init_36 rfl ?_
  refine vn_bipush (x := (27 : Int32)) hX dX4_init_37 (by decide) ?_
  refine vn_newa (atype := .int) (ty := .int) (c0 := E.2 0) (N := 27) (wf := fun b => ([(h0, .inr (4, [.ref q1, .ref q2, .ref q3, .ref q4, .null, .int 0, .int 0, .int 0])), (q1, .inl (E.2 2, 80, .inl (fun _ => 0))), (q2, .inl (E.2 2, 27, .inl (fun _ => 0))), (q3, .inl (E.2 0, 27, .inl (fun _ => 0))), (q4, .inl (E.2 0, 27, .inl (fun _ => 0))), (b, .inl (E.2 0, 27, .inl (fun _ => 0)))] : va_W)) hX ar_int rfl 0 rfl rfl (by decide) (by decide) (Nat.le_of_ble_eq_true rfl) (Nat.le_of_ble_eq_true rfl) (Nat.le_of_ble_eq_true rfl) dX4_init_39 (fun _ => rfl) (fun q5 => ?_)
  refine vn_putF (C := RX4) (T := TX4) (N := 8) (ci := 4) (v := .ref q5) (ty := .array .int) (ws' := ([(h0, .inr (4, [.ref q1, .ref q2, .ref q3, .ref q4, .ref q5, .int 0, .int 0, .int 0])), (q1, .inl (E.2 2, 80, .inl (fun _ => 0))), (q2, .inl (E.2 2, 27, .inl (fun _ => 0))), (q3, .inl (E.2 0, 27, .inl (fun _ => 0))), (q4, .inl (E.2 0, 27, .inl (fun _ => 0))), (q5, .inl (E.2 0, 27, .inl (fun _ => 0)))] : va_W)) hX hI in_X4 tyX4 tyX4_ok nmX4 0 rfl rfl 4 (by decide) fl_25 rfl rfl rfl (by decide +kernel) rfl rfl (Nat.le_of_ble_eq_true rfl) dX4_init_41 rfl ?_
  exact vn_vret hX hr dX4_init_44 rfl rfl ⟨aP h0 q1 q2 q3 q4 q5, rfl, rfl⟩
set_option maxHeartbeats 4000000 in
set_option maxRecDepth 100000 in
theorem c_X5_init (l : Launch) (E : ET) (h0 sz : Nat) : Met l yX5_init wsX5_init ({ frames := 5, cells := 281, slots := 4921, locals := 95 } : Room) (mPn E [.ref h0] sz [(h0, .inr (5, [.null, .null, .null, .null, .null, .int 0, .int 0, .int 0, .int 0]))]) (mQc E [(h0, .inr (5, [.null, .null, .null, .null, .null, .int 0, .int 0, .int 0, .int 0]))] sz (fun u => ∃ b : Nat → Nat → Nat, b 0 0 = h0 ∧ u = wX E b iX)) 281 4921 (va_A [(h0, .inr (5, [.null, .null, .null, .null, .null, .int 0, .int 0, .int 0, .int 0]))] sz) := by
  refine vn_start (cc := cX5_init) (maxL := 1) (ret := none) (by decide) rfl (Nat.le_of_ble_eq_true rfl) rfl ?_
  intro p e s m args below meth c hsz hr hX hO hI
  have hX : Xc p s m args meth c E 1 (va_A [(h0, .inr (5, [.null, .null, .null, .null, .null, .int 0, .int 0, .int 0, .int 0]))] sz) cX5_init RX5 wsX5_init := hX
  have hI : meth.name = "<init>" := hI
  have wd_Cond_methodLink_RX5_3_objectInit : Cond.methodLink RX5 3 objectInit ∈ wsX5_init := by decide +kernel
  have wd_Cond_instanceMethod_objectInit : Cond.instanceMethod objectInit ∈ wsX5_init := by decide +kernel
  have wd_code : Cond.code objectInit ⟨#[0xb1]⟩ 1 none ∈ wsX5_init := by decide +kernel
  have wd_Cond_classLink_RX5_9_RX3 : Cond.classLink RX5 9 RX3 ∈ wsX5_init := by decide +kernel
  have wd_Cond_instantiable_RX3_6 : Cond.instantiable RX3 6 ∈ wsX5_init := by decide +kernel
  have wd_Cond_initialized_RX3 : Cond.initialized RX3 ∈ wsX5_init := by decide +kernel
  have in_X3 : ∀ w ∈ u_ws RX3 TX3 6, w ∈ wsX5_init := by decide +kernel
  have wd_Cond_instanceMethod_yX3_init : Cond.instanceMethod yX3_init ∈ wsX5_init := by decide +kernel
  have wd_Cond_methodLink_RX5_11_yX3_init : Cond.methodLink RX5 11 yX3_init ∈ wsX5_init := by decide +kernel
  have in_X5 : ∀ w ∈ u_ws RX5 TX5 9, w ∈ wsX5_init := by decide +kernel
  have fl_12 : Cond.fieldLink RX5 12 RX5 "now" "LSnoopFilter$Machine;" ∈ wsX5_init := by decide +kernel
  have fl_16 : Cond.fieldLink RX5 16 RX5 "trial" "LSnoopFilter$Machine;" ∈ wsX5_init := by decide +kernel
  have fl_19 : Cond.fieldLink RX5 19 RX5 "snapshot" "LSnoopFilter$Machine;" ∈ wsX5_init := by decide +kernel
  have wd_Cond_classLink_RX5_22_RX2 : Cond.classLink RX5 22 RX2 ∈ wsX5_init := by decide +kernel
  have wd_Cond_instantiable_RX2_3 : Cond.instantiable RX2 3 ∈ wsX5_init := by decide +kernel
  have wd_Cond_initialized_RX2 : Cond.initialized RX2 ∈ wsX5_init := by decide +kernel
  have in_X2 : ∀ w ∈ u_ws RX2 TX2 3, w ∈ wsX5_init := by decide +kernel
  have wd_Cond_instanceMethod_yX2_init : Cond.instanceMethod yX2_init ∈ wsX5_init := by decide +kernel
  have wd_Cond_methodLink_RX5_24_yX2_init : Cond.methodLink RX5 24 yX2_init ∈ wsX5_init := by decide +kernel
  have fl_25 : Cond.fieldLink RX5 25 RX5 "history" "LSnoopFilter$History;" ∈ wsX5_init := by decide +kernel
  have wd_Cond_classLink_RX5_29_RX4 : Cond.classLink RX5 29 RX4 ∈ wsX5_init := by decide +kernel
  have wd_Cond_instantiable_RX4_8 : Cond.instantiable RX4 8 ∈ wsX5_init := by decide +kernel
  have wd_Cond_initialized_RX4 : Cond.initialized RX4 ∈ wsX5_init := by decide +kernel
  have in_X4 : ∀ w ∈ u_ws RX4 TX4 8, w ∈ wsX5_init := by decide +kernel
  have wd_Cond_instanceMethod_yX4_init : Cond.instanceMethod yX4_init ∈ wsX5_init := by decide +kernel
  have fl_32 : Cond.fieldLink RX5 32 RX5 "program" "LSnoopFilter$Program;" ∈ wsX5_init := by decide +kernel
  refine vn_aload_n hX dX5_init_0 rfl ?_
  refine vn_obj hX wd_Cond_methodLink_RX5_3_objectInit wd_Cond_instanceMethod_objectInit wd_code dX5_init_1 (Nat.le_of_ble_eq_true rfl) (Nat.le_of_ble_eq_true rfl) ?_
  refine vn_aload_n hX dX5_init_4 rfl ?_
  refine vn_new (C := RX3) (T := TX3) (N := 6) (ci := 3) (fs := [.null, .null, .int 0, .int 0, .int 0, .int 0]) hX in_X3 tyX3 tyX3_ok wd_Cond_classLink_RX5_9_RX3 wd_Cond_instantiable_RX3_6 wd_Cond_initialized_RX3 rfl (fun j hj => by rcases (show j = 0 ∨ j = 1 ∨ j = 2 ∨ j = 3 ∨ j = 4 ∨ j = 5 by omega) with rfl | rfl | rfl | rfl | rfl | rfl <;> rfl) (Nat.le_of_ble_eq_true rfl) (Nat.le_of_ble_eq_true rfl) dX5_init_5 (fun q1 => ?_)
  refine vn_dup hX dX5_init_8 ?_
  refine vn_callI (n := 0) (pre := ([(h0, .inr (5, [.null, .null, .null, .null, .null, .int 0, .int 0, .int 0, .int 0]))] : va_W)) (wc := [(q1, .inr (3, [.null, .null, .int 0, .int 0, .int 0, .int 0]))]) hX hO (fun sz => c_X3_init l E q1 sz) (cwI 0 hX.2.2.2.2.1 gX5_init_X3_init rfl rfl rfl (hX.2.2.2.2.1 _ wd_Cond_initialized_RX3) (hX.2.2.2.2.1 _ wd_Cond_methodLink_RX5_11_yX3_init) (hX.2.2.2.2.1 _ wd_Cond_instanceMethod_yX3_init) rfl (by decide +kernel) ⟨Nat.le_of_ble_eq_true rfl, Nat.le_of_ble_eq_true rfl⟩) (Nat.le_of_ble_eq_true rfl) ⟨Nat.le_of_ble_eq_true rfl, Nat.le_of_ble_eq_true rfl⟩ dX5_init_9 (fun _ hu => ?_)
  obtain ⟨k1, hk, rfl⟩ := hu
  subst hk
  refine vn_putF (C := RX5) (T := TX5) (N := 9) (ci := 5) (v := .ref (k1 0)) (ty := .object "SnoopFilter$Machine") (ws' := (([(h0, .inr (5, [.ref (k1 0), .null, .null, .null, .null, .int 0, .int 0, .int 0, .int 0]))] : va_W) ++ (wM E k1 iM))) hX hI in_X5 tyX5 tyX5_ok nmX5 0 rfl rfl 0 (by decide) fl_12 rfl rfl rfl (by decide +kernel) rfl rfl (Nat.le_of_ble_eq_true rfl) dX5_init_12 rfl ?_
  refine vn_aload_n hX dX5_init_15 rfl ?_
  refine vn_new (C := RX3) (T := TX3) (N := 6) (ci := 3) (fs := [.null, .null, .int 0, .int 0, .int 0, .int 0]) hX in_X3 tyX3 tyX3_ok wd_Cond_classLink_RX5_9_RX3 wd_Cond_instantiable_RX3_6 wd_Cond_initialized_RX3 rfl (fun j hj => by rcases (show j = 0 ∨ j = 1 ∨ j = 2 ∨ j = 3 ∨ j = 4 ∨ j = 5 by omega) with rfl | rfl | rfl | rfl | rfl | rfl <;> rfl) (Nat.le_of_ble_eq_true rfl) (Nat.le_of_ble_eq_true rfl) dX5_init_16 (fun q2 => ?_)
  refine vn_dup hX dX5_init_19 ?_
  refine vn_callI (n := 0) (pre := (([(h0, .inr (5, [.ref (k1 0), .null, .null, .null, .null, .int 0, .int 0, .int 0, .int 0]))] : va_W) ++ (wM E k1 iM))) (wc := [(q2, .inr (3, [.null, .null, .int 0, .int 0, .int 0, .int 0]))]) hX hO (fun sz => c_X3_init l E q2 sz) (cwI 0 hX.2.2.2.2.1 gX5_init_X3_init rfl rfl rfl (hX.2.2.2.2.1 _ wd_Cond_initialized_RX3) (hX.2.2.2.2.1 _ wd_Cond_methodLink_RX5_11_yX3_init) (hX.2.2.2.2.1 _ wd_Cond_instanceMethod_yX3_init) rfl (by decide +kernel) ⟨Nat.le_of_ble_eq_true rfl, Nat.le_of_ble_eq_true rfl⟩) (Nat.le_of_ble_eq_true rfl) ⟨Nat.le_of_ble_eq_true rfl, Nat.le_of_ble_eq_true rfl⟩ dX5_init_20 (fun _ hu => ?_)
  obtain ⟨k2, hk, rfl⟩ := hu
  subst hk
  refine vn_putF (C := RX5) (T := TX5) (N := 9) (ci := 5) (v := .ref (k2 0)) (ty := .object "SnoopFilter$Machine") (ws' := ((([(h0, .inr (5, [.ref (k1 0), .ref (k2 0), .null, .null, .null, .int 0, .int 0, .int 0, .int 0]))] : va_W) ++ (wM E k1 iM)) ++ (wM E k2 iM))) hX hI in_X5 tyX5 tyX5_ok nmX5 0 rfl rfl 1 (by decide) fl_16 rfl rfl rfl (by decide +kernel) rfl rfl (Nat.le_of_ble_eq_true rfl) dX5_init_23 rfl ?_
  refine vn_aload_n hX dX5_init_26 rfl ?_
  refine vn_new (C := RX3) (T := TX3) (N := 6) (ci := 3) (fs := [.null, .null, .int 0, .int 0, .int 0, .int 0]) hX in_X3 tyX3 tyX3_ok wd_Cond_classLink_RX5_9_RX3 wd_Cond_instantiable_RX3_6 wd_Cond_initialized_RX3 rfl (fun j hj => by rcases (show j = 0 ∨ j = 1 ∨ j = 2 ∨ j = 3 ∨ j = 4 ∨ j = 5 by omega) with rfl | rfl | rfl | rfl | rfl | rfl <;> rfl) (Nat.le_of_ble_eq_true rfl) (Nat.le_of_ble_eq_true rfl) dX5_init_27 (fun q3 => ?_)
  refine vn_dup hX dX5_init_30 ?_
  refine vn_callI (n := 0) (pre := ((([(h0, .inr (5, [.ref (k1 0), .ref (k2 0), .null, .null, .null, .int 0, .int 0, .int 0, .int 0]))] : va_W) ++ (wM E k1 iM)) ++ (wM E k2 iM))) (wc := [(q3, .inr (3, [.null, .null, .int 0, .int 0, .int 0, .int 0]))]) hX hO (fun sz => c_X3_init l E q3 sz) (cwI 0 hX.2.2.2.2.1 gX5_init_X3_init rfl rfl rfl (hX.2.2.2.2.1 _ wd_Cond_initialized_RX3) (hX.2.2.2.2.1 _ wd_Cond_methodLink_RX5_11_yX3_init) (hX.2.2.2.2.1 _ wd_Cond_instanceMethod_yX3_init) rfl (by decide +kernel) ⟨Nat.le_of_ble_eq_true rfl, Nat.le_of_ble_eq_true rfl⟩) (Nat.le_of_ble_eq_true rfl) ⟨Nat.le_of_ble_eq_true rfl, Nat.le_of_ble_eq_true rfl⟩ dX5_init_31 (fun _ hu => ?_)
  obtain ⟨k3, hk, rfl⟩ := hu
  subst hk
  refine vn_putF (C := RX5) (T := TX5) (N := 9) (ci := 5) (v := .ref (k3 0)) (ty := .object "SnoopFilter$Machine") (ws' := (((([(h0, .inr (5, [.ref (k1 0), .ref (k2 0), .ref (k3 0), .null, .null, .int 0, .int 0, .int 0, .int 0]))] : va_W) ++ (wM E k1 iM)) ++ (wM E k2 iM)) ++ (wM E k3 iM))) hX hI in_X5 tyX5 tyX5_ok nmX5 0 rfl rfl 2 (by decide) fl_19 rfl rfl rfl (by decide +kernel) rfl rfl (Nat.le_of_ble_eq_true rfl) dX5_init_34 rfl ?_
  refine vn_aload_n hX dX5_init_37 rfl ?_
  refine vn_new (C := RX2) (T := TX2) (N := 3) (ci := 2) (fs := [.null, .int 0, .int 0]) hX in_X2 tyX2 tyX2_ok wd_Cond_classLink_RX5_22_RX2 wd_Cond_instantiable_RX2_3 wd_Cond_initialized_RX2 rfl (fun j hj => by rcases (show j = 0 ∨ j = 1 ∨ j = 2 by omega) with rfl | rfl | rfl <;> rfl) (Nat.le_of_ble_eq_true rfl) (Nat.le_of_ble_eq_true rfl) dX5_init_38 (fun q4 => ?_)
  refine vn_dup hX dX5_init_41 ?_
  refine vn_callI (n := 0) (pre := (((([(h0, .inr (5, [.ref (k1 0), .ref (k2 0), .ref (k3 0), .null, .null, .int 0, .int 0, .int 0, .int 0]))] : va_W) ++ (wM E k1 iM)) ++ (wM E k2 iM)) ++ (wM E k3 iM))) (wc := [(q4, .inr (2, [.null, .int 0, .int 0]))]) hX hO (fun sz => c_X2_init l E q4 sz) (cwI 0 hX.2.2.2.2.1 gX5_init_X2_init rfl rfl rfl (hX.2.2.2.2.1 _ wd_Cond_initialized_RX2) (hX.2.2.2.2.1 _ wd_Cond_methodLink_RX5_24_yX2_init) (hX.2.2.2.2.1 _ wd_Cond_instanceMethod_yX2_init) rfl (by decide +kernel) ⟨Nat.le_of_ble_eq_true rfl, Nat.le_of_ble_eq_true rfl⟩) (Nat.le_of_ble_eq_true rfl) ⟨Nat.le_of_ble_eq_true rfl, Nat.le_of_ble_eq_true rfl⟩ dX5_init_42 (fun _ hu => ?_)
  obtain ⟨k4, hk, rfl⟩ := hu
  subst hk
  refine vn_putF (C := RX5) (T := TX5) (N := 9) (ci := 5) (v := .ref (k4 0 0)) (ty := .object "SnoopFilter$History") (ws' := ((((([(h0, .inr (5, [.ref (k1 0), .ref (k2 0), .ref (k3 0), .ref (k4 0 0), .null, .int 0, .int 0, .int 0, .int 0]))] : va_W) ++ (wM E k1 iM)) ++ (wM E k2 iM)) ++ (wM E k3 iM)) ++ (wH E k4 iH))) hX hI in_X5 tyX5 tyX5_ok nmX5 0 rfl rfl 3 (by decide) fl_25 rfl rfl rfl (by decide +kernel) rfl rfl (Nat.le_of_ble_eq_true rfl) dX5_init_45 rfl ?_
  refine vn_aload_n hX dX5_init_48 rfl ?_
  refine vn_new (C := RX4) (T := TX4) (N := 8) (ci := 4) (fs := [.null, .null, .null, .null, .null, .int 0, .int 0, .int 0]) hX in_X4 tyX4 tyX4_ok wd_Cond_classLink_RX5_29_RX4 wd_Cond_instantiable_RX4_8 wd_Cond_initialized_RX4 rfl (fun j hj => by rcases (show j = 0 ∨ j = 1 ∨ j = 2 ∨ j = 3 ∨ j = 4 ∨ j = 5 ∨ j = 6 ∨ j = 7 by omega) with rfl | rfl | rfl | rfl | rfl | rfl | rfl | rfl <;> rfl) (Nat.le_of_ble_eq_true rfl) (Nat.le_of_ble_eq_true rfl) dX5_init_49 (fun q5 => ?_)
  refine vn_dup hX dX5_init_52 ?_
  refine vn_callIN (n := 0) (pre := ((((([(h0, .inr (5, [.ref (k1 0), .ref (k2 0), .ref (k3 0), .ref (k4 0 0), .null, .int 0, .int 0, .int 0, .int 0]))] : va_W) ++ (wM E k1 iM)) ++ (wM E k2 iM)) ++ (wM E k3 iM)) ++ (wH E k4 iH))) (wc := [(q5, .inr (4, [.null, .null, .null, .null, .null, .int 0, .int 0, .int 0]))]) hX hO (fun sz => c_X4_init l E q5 sz) ⟨va_cnB (host := "SnoopFilter") 0 hX.2.2.2.2.1 gX5_init_X4_init_n31 rfl rfl rfl (hX.2.2.2.2.2.2.2.2 _ (by simp [nsts])) (hX.2.2.2.2.1 _ wd_Cond_initialized_RX4) (by decide +kernel) ⟨Nat.le_of_ble_eq_true rfl, Nat.le_of_ble_eq_true rfl⟩, rfl, hX.2.2.2.2.1 _ wd_Cond_instanceMethod_yX4_init⟩ (Nat.le_of_ble_eq_true rfl) ⟨Nat.le_of_ble_eq_true rfl, Nat.le_of_ble_eq_true rfl⟩ dX5_init_53 (fun _ hu => ?_)
  obtain ⟨k5, hk, rfl⟩ := hu
  subst hk
  refine vn_putF (C := RX5) (T := TX5) (N := 9) (ci := 5) (v := .ref (k5 0)) (ty := .object "SnoopFilter$Program") (ws' := (((((([(h0, .inr (5, [.ref (k1 0), .ref (k2 0), .ref (k3 0), .ref (k4 0 0), .ref (k5 0), .int 0, .int 0, .int 0, .int 0]))] : va_W) ++ (wM E k1 iM)) ++ (wM E k2 iM)) ++ (wM E k3 iM)) ++ (wH E k4 iH)) ++ (wP E k5 iP))) hX hI in_X5 tyX5 tyX5_ok nmX5 0 rfl rfl 4 (by decide) fl_32 rfl rfl rfl (by decide +kernel) rfl rfl (Nat.le_of_ble_eq_true rfl) dX5_init_56 rfl ?_
  refine vn_weq (w2 := wX E (aX h0 k1 k2 k3 k4 k5) iX) (wX_mk E h0 k1 k2 k3 k4 k5) ?_
  exact vn_vret hX hr dX5_init_59 rfl rfl ⟨aX h0 k1 k2 k3 k4 k5, rfl, rfl⟩
