def bnd1 {α β : Type} (o : Option α) (k : α → Option β) : Option β := match o with
  | none => none
  | some x => k x
theorem bd1 {α β : Type} {o : Option α} {k : α → Option β} {R : β} (h : bnd1 o k = some R) : ∃ r : α, o = some r ∧ k r = some R := by
  cases o with
  | none => cases h
  | some x => exact ⟨x, rfl, h⟩
theorem zb {v : Int32} (h : v = 0 ∨ v = 1) : narrow .boolean (.int v) = .int v := by
  rcases h with h | h <;> subst h <;> rfl
theorem sw_out6 {x : Int32} (h0 : ¬ x = 0) (h1 : ¬ x = 1) (h2 : ¬ x = 2) (h3 : ¬ x = 3) (h4 : ¬ x = 4) (h5 : ¬ x = 5) (h6 : ¬ x = 6) : x.toInt < 0 ∨ 6 < x.toInt := by
  have e : ∀ y : Int32, ¬ x = y → x.toInt ≠ y.toInt := fun y h q => h (Int32.toInt_inj.mp q)
  have a0 := e 0 h0
  have a1 := e 1 h1
  have a2 := e 2 h2
  have a3 := e 3 h3
  have a4 := e 4 h4
  have a5 := e 5 h5
  have a6 := e 6 h6
  simp at a0 a1 a2 a3 a4 a5 a6
  omega
abbrev rmX8_bad : Room := { frames := 0, cells := 0, slots := 0, locals := 0 }
theorem iX8_bad_X8 : ∀ x ∈ wsX80, x ∈ wsX8_bad := by decide +kernel
theorem nd_X8_bad : yX8_bad.cls = RX8 ∧ yX8_bad.cls ≠ "java/lang/invoke/MethodHandle" ∧ yX8_bad.cls ≠ "java/lang/invoke/VarHandle" ∧ (parseMethodDescriptor yX8_bad.desc).map (fun d => d.parameters.length) = some 2 := by decide +kernel
def f_X8_bad (fu : Nat) (σ : SS) (x1 : Int32) (x2 : Int32) : Option (Int32 × SS) :=
  (if x1 = 0 then if (x1 = 0 ∨ x1 = 1) then some (x1, σ) else none else if (x1 = 0 ∨ x1 = 1) then some (x1, (sI σ 0 x2)) else none)
section
variable {p : Program} {l : Launch} {e : Env} {s : State} {m : MethodId} {args : Array Value} {below : List Frame} {meth : Method} {c : Code} {g : Gm} {A : Nat → Prop} {fu : Nat} {R : Int32 × SS}
set_option maxHeartbeats 4000000 in
set_option maxRecDepth 100000 in
theorem w_X8_bad_0 {σ : SS} {x1 : Int32} {x2 : Int32} (C : Cx p l s m args meth c cX8_bad 3 wsX8_bad (some .boolean) RX8 g A) (h : f_X8_bad fu σ x1 x2 = some R) {H : Heap} {locs : List Loc} {ls : Array Slot} (hA : Aw g A s.heap (wM g σ) H locs) (hl : lv_has ls 3 [(0, .ref (g.2.1 0)), (1, .int x1), (2, .int x2)]) : W p l e rmX8_bad s m args below meth c H locs 0 0 (MQ below (Qi g A (wM g R.2) R.1) args s 0 0 A) (F0 m 0 ls []) := by
  have hx := C.1.1
  have hb := C.1.2.1
  unfold f_X8_bad at h
  refine lv_iload_n hx hb dX8_bad_0 rfl (lv_at hl 1 rfl) ?_
  refine lv_if_eq (tgt := 9) hx hb dX8_bad_1 (by decide) (fun c1 => ?_) (fun c1 => ?_)
  · replace h := (if_pos c1).symm.trans h
    refine lv_iload_n hx hb dX8_bad_9 rfl (lv_at hl 1 rfl) ?_
    obtain ⟨g2, h⟩ := gd h
    obtain rfl := Option.some.inj h
    exact r_zret (v := x1) C hA (zb g2) dX8_bad_10
  · replace h := (if_neg c1).symm.trans h
    refine lv_aload_n hx hb dX8_bad_4 rfl (lv_at hl 0 rfl) ?_
    refine lv_iload_n hx hb dX8_bad_5 rfl (lv_at hl 2 rfl) ?_
    refine Mp_X8_thrown C hA iX8_bad_X8 (by decide +kernel) dX8_bad_6 (fun H locs hA => ?_)
    refine lv_iload_n hx hb dX8_bad_9 rfl (lv_at hl 1 rfl) ?_
    obtain ⟨g3, h⟩ := gd h
    obtain rfl := Option.some.inj h
    exact r_zret (v := x1) C hA (zb g3) dX8_bad_10
end
set_option maxRecDepth 100000 in
theorem k_X8_bad {l : Launch} {g : Gm} {fu : Nat} {σ : SS} {x1 : Int32} {x2 : Int32} {R : Int32 × SS} (hlt : l.stackTraces = false) (h : f_X8_bad fu σ x1 x2 = some R) (sz : Nat) : Met l yX8_bad wsX8_bad rmX8_bad (Pw g (wM g σ) [.ref (g.2.1 0), .int x1, .int x2] sz) (Qi g (va_A (wM g σ) sz) (wM g R.2) R.1) 0 0 (va_A (wM g σ) sz) :=
  ofM (own := RX8) hlt (by decide) rfl rfl (Nat.le_of_ble_eq_true rfl) (fun p e s m below meth c hsz C hA ls hl => w_X8_bad_0 C h hA hl)
abbrev rmX8_isChief : Room := { frames := 0, cells := 0, slots := 0, locals := 0 }
theorem iX8_isChief_X8 : ∀ x ∈ wsX80, x ∈ wsX8_isChief := by decide +kernel
theorem nd_X8_isChief : yX8_isChief.cls = RX8 ∧ yX8_isChief.cls ≠ "java/lang/invoke/MethodHandle" ∧ yX8_isChief.cls ≠ "java/lang/invoke/VarHandle" ∧ (parseMethodDescriptor yX8_isChief.desc).map (fun d => d.parameters.length) = some 1 := by decide +kernel
def f_X8_isChief (fu : Nat) (σ : SS) (x1 : Int32) : Option (Int32) :=
  (if x1 < 0 then some (0 : Int32) else (if (σ.1 4) ≤ x1 then some (0 : Int32) else some (1 : Int32)))
section
variable {p : Program} {l : Launch} {e : Env} {s : State} {m : MethodId} {args : Array Value} {below : List Frame} {meth : Method} {c : Code} {g : Gm} {A : Nat → Prop} {fu : Nat} {R : Int32}
set_option maxHeartbeats 4000000 in
set_option maxRecDepth 100000 in
theorem w_X8_isChief_0 {σ : SS} {x1 : Int32} (C : Cx p l s m args meth c cX8_isChief 2 wsX8_isChief (some .boolean) RX8 g A) (h : f_X8_isChief fu σ x1 = some R) {H : Heap} {locs : List Loc} {ls : Array Slot} (hA : Aw g A s.heap (wM g σ) H locs) (hl : lv_has ls 2 [(0, .ref (g.2.1 0)), (1, .int x1)]) : W p l e rmX8_isChief s m args below meth c H locs 0 0 (MQ below (Qi g A (wM g σ) R) args s 0 0 A) (F0 m 0 ls []) := by
  have hx := C.1.1
  have hb := C.1.2.1
  unfold f_X8_isChief at h
  refine lv_iload_n hx hb dX8_isChief_0 rfl (lv_at hl 1 rfl) ?_
  refine lv_if_lt (tgt := 16) hx hb dX8_isChief_1 (by decide) (fun c1 => ?_) (fun c1 => ?_)
  · replace h := (if_pos c1).symm.trans h
    refine lv_iconst (v := 0) hx hb dX8_isChief_16 (by decide) ?_
    obtain rfl := Option.some.inj h
    exact r_zret (v := (0 : Int32)) C hA (zb (Or.inl rfl)) dX8_isChief_17
  · replace h := (if_neg c1).symm.trans h
    refine lv_iload_n hx hb dX8_isChief_4 rfl (lv_at hl 1 rfl) ?_
    refine lv_aload_n hx hb dX8_isChief_5 rfl (lv_at hl 0 rfl) ?_
    refine Mg_X8_chiefs (v := (σ.1 4)) C hA rfl iX8_isChief_X8 (by decide +kernel) dX8_isChief_6 ?_
    refine lv_icmp_ge (tgt := 16) hx hb dX8_isChief_9 (by decide) (fun c2 => ?_) (fun c2 => ?_)
    · replace h := (if_pos c2).symm.trans h
      refine lv_iconst (v := 0) hx hb dX8_isChief_16 (by decide) ?_
      obtain rfl := Option.some.inj h
      exact r_zret (v := (0 : Int32)) C hA (zb (Or.inl rfl)) dX8_isChief_17
    · replace h := (if_neg c2).symm.trans h
      refine lv_iconst (v := 1) hx hb dX8_isChief_12 (by decide) ?_
      refine lv_goto (tgt := 17) hx hb dX8_isChief_13 (by decide) ?_
      obtain rfl := Option.some.inj h
      exact r_zret (v := (1 : Int32)) C hA (zb (Or.inr rfl)) dX8_isChief_17
end
set_option maxRecDepth 100000 in
theorem k_X8_isChief {l : Launch} {g : Gm} {fu : Nat} {σ : SS} {x1 : Int32} {R : Int32} (hlt : l.stackTraces = false) (h : f_X8_isChief fu σ x1 = some R) (sz : Nat) : Met l yX8_isChief wsX8_isChief rmX8_isChief (Pw g (wM g σ) [.ref (g.2.1 0), .int x1] sz) (Qi g (va_A (wM g σ) sz) (wM g σ) R) 0 0 (va_A (wM g σ) sz) :=
  ofM (own := RX8) hlt (by decide) rfl rfl (Nat.le_of_ble_eq_true rfl) (fun p e s m below meth c hsz C hA ls hl => w_X8_isChief_0 C h hA hl)
abbrev rmX8_forceOf : Room := { frames := 0, cells := 0, slots := 0, locals := 0 }
theorem iX8_forceOf_X8 : ∀ x ∈ wsX80, x ∈ wsX8_forceOf := by decide +kernel
theorem nd_X8_forceOf : yX8_forceOf.cls = RX8 ∧ yX8_forceOf.cls ≠ "java/lang/invoke/MethodHandle" ∧ yX8_forceOf.cls ≠ "java/lang/invoke/VarHandle" ∧ (parseMethodDescriptor yX8_forceOf.desc).map (fun d => d.parameters.length) = some 1 := by decide +kernel
def f_X8_forceOf_43 (fu : Nat) (k4 : SS → (Int32 × Int32 × Int32) → Option (Int32)) (σ : SS) (x1 : Int32) (x2 : Int32) (x3 : Int32) : Option (Int32) :=
  k4 σ (x1, x2, (x3 + 1))
def f_X8_forceOf_41 (fu : Nat) (k4 : SS → (Int32 × Int32 × Int32) → Option (Int32)) (σ : SS) (x1 : Int32) (x3 : Int32) : Option (Int32) :=
  f_X8_forceOf_43 fu k4 σ x1 x3 x3
def f_X8_forceOf_4 (fu : Nat) (k4 : SS → (Int32 × Int32 × Int32) → Option (Int32)) (σ : SS) (x1 : Int32) (x2 : Int32) (x3 : Int32) : Option (Int32) :=
  (if (σ.1 14) ≤ x3 then some x2 else if inB x3 20 then (if x1 < (σ.2.1 12 (x3).toNatClampNeg) then f_X8_forceOf_43 fu k4 σ x1 x2 x3 else (if x2 < 0 then f_X8_forceOf_41 fu k4 σ x1 x3 else if inB x2 20 then (if (σ.2.1 12 (x3).toNatClampNeg) < (σ.2.1 12 (x2).toNatClampNeg) then f_X8_forceOf_43 fu k4 σ x1 x2 x3 else f_X8_forceOf_41 fu k4 σ x1 x3) else none)) else none)
def f_X8_forceOf_L4 (fu : Nat) : SS → (Int32 × Int32 × Int32) → Option (Int32) := loopN (fun k4 σ x => f_X8_forceOf_4 fu k4 σ x.1 x.2.1 x.2.2) fu
def f_X8_forceOf (fu : Nat) (σ : SS) (x1 : Int32) : Option (Int32) :=
  f_X8_forceOf_L4 fu σ (x1, (-1), (0 : Int32))
section
variable {p : Program} {l : Launch} {e : Env} {s : State} {m : MethodId} {args : Array Value} {below : List Frame} {meth : Method} {c : Code} {g : Gm} {A : Nat → Prop} {fu : Nat} {R : Int32}
set_option maxHeartbeats 4000000 in
set_option maxRecDepth 100000 in
theorem w_X8_forceOf_43 {σ : SS} {x1 : Int32} {x2 : Int32} {x3 : Int32} (C : Cx p l s m args meth c cX8_forceOf 4 wsX8_forceOf (some .int) RX8 g A) {k4 : SS → (Int32 × Int32 × Int32) → Option (Int32)} (hk4 : ∀ (σ1 : SS) (x : Int32 × Int32 × Int32), σ1 = σ → k4 σ1 x = some R → ∀ (H : Heap) (locs : List Loc) (ls : Array Slot), Aw g A s.heap (wM g σ) H locs → lv_has ls 4 [(0, .ref (g.2.1 0)), (1, .int x.1), (2, .int x.2.1), (3, .int x.2.2)] → W p l e rmX8_forceOf s m args below meth c H locs 0 0 (MQ below (Qi g A (wM g σ) R) args s 0 0 A) (F0 m 4 ls [])) (h : f_X8_forceOf_43 fu k4 σ x1 x2 x3 = some R) {H : Heap} {locs : List Loc} {ls : Array Slot} (hA : Aw g A s.heap (wM g σ) H locs) (hl : lv_has ls 4 [(0, .ref (g.2.1 0)), (1, .int x1), (2, .int x2), (3, .int x3)]) : W p l e rmX8_forceOf s m args below meth c H locs 0 0 (MQ below (Qi g A (wM g σ) R) args s 0 0 A) (F0 m 43 ls []) := by
  have hx := C.1.1
  have hb := C.1.2.1
  unfold f_X8_forceOf_43 at h
  refine lv_iinc (v := (x3 + 1)) (lv' := [(3, .int (x3 + 1)), (0, .ref (g.2.1 0)), (1, .int x1), (2, .int x2)]) hx hb dX8_forceOf_43 hl (k := 3) rfl rfl (by decide) rfl (fun ls hl => ?_)
  refine lv_goto (tgt := 4) hx hb dX8_forceOf_46 (by decide) ?_
  exact hk4 _ _ rfl h _ _ _ hA (lv_sub hl [1, 2, 3, 0] rfl)
set_option maxHeartbeats 4000000 in
set_option maxRecDepth 100000 in
theorem w_X8_forceOf_41 {σ : SS} {x1 : Int32} {x3 : Int32} (C : Cx p l s m args meth c cX8_forceOf 4 wsX8_forceOf (some .int) RX8 g A) {k4 : SS → (Int32 × Int32 × Int32) → Option (Int32)} (hk4 : ∀ (σ1 : SS) (x : Int32 × Int32 × Int32), σ1 = σ → k4 σ1 x = some R → ∀ (H : Heap) (locs : List Loc) (ls : Array Slot), Aw g A s.heap (wM g σ) H locs → lv_has ls 4 [(0, .ref (g.2.1 0)), (1, .int x.1), (2, .int x.2.1), (3, .int x.2.2)] → W p l e rmX8_forceOf s m args below meth c H locs 0 0 (MQ below (Qi g A (wM g σ) R) args s 0 0 A) (F0 m 4 ls [])) (h : f_X8_forceOf_41 fu k4 σ x1 x3 = some R) {H : Heap} {locs : List Loc} {ls : Array Slot} (hA : Aw g A s.heap (wM g σ) H locs) (hl : lv_has ls 4 [(0, .ref (g.2.1 0)), (1, .int x1), (3, .int x3)]) : W p l e rmX8_forceOf s m args below meth c H locs 0 0 (MQ below (Qi g A (wM g σ) R) args s 0 0 A) (F0 m 41 ls []) := by
  have hx := C.1.1
  have hb := C.1.2.1
  unfold f_X8_forceOf_41 at h
  refine lv_iload_n hx hb dX8_forceOf_41 rfl (lv_at hl 2 rfl) ?_
  refine lv_istore_n (lv' := [(2, .int x3), (0, .ref (g.2.1 0)), (1, .int x1), (3, .int x3)]) hx hb dX8_forceOf_42 rfl hl (by decide) rfl (fun ls hl => ?_)
  exact w_X8_forceOf_43 C hk4 h hA (lv_sub hl [1, 2, 0, 3] rfl)
set_option maxHeartbeats 4000000 in
set_option maxRecDepth 100000 in
theorem w_X8_forceOf_4 {σ : SS} {x1 : Int32} {x2 : Int32} {x3 : Int32} (C : Cx p l s m args meth c cX8_forceOf 4 wsX8_forceOf (some .int) RX8 g A) {k4 : SS → (Int32 × Int32 × Int32) → Option (Int32)} (hk4 : ∀ (σ1 : SS) (x : Int32 × Int32 × Int32), σ1 = σ → k4 σ1 x = some R → ∀ (H : Heap) (locs : List Loc) (ls : Array Slot), Aw g A s.heap (wM g σ) H locs → lv_has ls 4 [(0, .ref (g.2.1 0)), (1, .int x.1), (2, .int x.2.1), (3, .int x.2.2)] → W p l e rmX8_forceOf s m args below meth c H locs 0 0 (MQ below (Qi g A (wM g σ) R) args s 0 0 A) (F0 m 4 ls [])) (h : f_X8_forceOf_4 fu k4 σ x1 x2 x3 = some R) {H : Heap} {locs : List Loc} {ls : Array Slot} (hA : Aw g A s.heap (wM g σ) H locs) (hl : lv_has ls 4 [(0, .ref (g.2.1 0)), (1, .int x1), (2, .int x2), (3, .int x3)]) : W p l e rmX8_forceOf s m args below meth c H locs 0 0 (MQ below (Qi g A (wM g σ) R) args s 0 0 A) (F0 m 4 ls []) := by
  have hx := C.1.1
  have hb := C.1.2.1
  unfold f_X8_forceOf_4 at h
  refine lv_iload_n hx hb dX8_forceOf_4 rfl (lv_at hl 3 rfl) ?_
  refine lv_aload_n hx hb dX8_forceOf_5 rfl (lv_at hl 0 rfl) ?_
  refine Mg_X8_customs (v := (σ.1 14)) C hA rfl iX8_forceOf_X8 (by decide +kernel) dX8_forceOf_6 ?_
  refine lv_icmp_ge (tgt := 49) hx hb dX8_forceOf_9 (by decide) (fun c1 => ?_) (fun c1 => ?_)
  · replace h := (if_pos c1).symm.trans h
    refine lv_iload_n hx hb dX8_forceOf_49 rfl (lv_at hl 2 rfl) ?_
    obtain rfl := Option.some.inj h
    exact r_iret C hA dX8_forceOf_50
  · replace h := (if_neg c1).symm.trans h
    refine lv_aload_n hx hb dX8_forceOf_12 rfl (lv_at hl 0 rfl) ?_
    refine Mg_X8_since C hA iX8_forceOf_X8 (by decide +kernel) dX8_forceOf_13 ?_
    refine lv_iload_n hx hb dX8_forceOf_16 rfl (lv_at hl 3 rfl) ?_
    obtain ⟨g2, h⟩ := gd h
    refine Mld_12 (v := (σ.2.1 12 (x3).toNatClampNeg)) C hA rfl g2 dX8_forceOf_17 ?_
    refine lv_iload_n hx hb dX8_forceOf_18 rfl (lv_at hl 1 rfl) ?_
    refine lv_icmp_gt (tgt := 43) hx hb dX8_forceOf_19 (by decide) (fun c3 => ?_) (fun c3 => ?_)
    · replace h := (if_pos c3).symm.trans h
      exact w_X8_forceOf_43 C hk4 h hA (lv_sub hl [0, 1, 2, 3] rfl)
    · replace h := (if_neg c3).symm.trans h
      refine lv_iload_n hx hb dX8_forceOf_22 rfl (lv_at hl 2 rfl) ?_
      refine lv_if_lt (tgt := 41) hx hb dX8_forceOf_23 (by decide) (fun c4 => ?_) (fun c4 => ?_)
      · replace h := (if_pos c4).symm.trans h
        exact w_X8_forceOf_41 C hk4 h hA (lv_sub hl [0, 1, 3] rfl)
      · replace h := (if_neg c4).symm.trans h
        refine lv_aload_n hx hb dX8_forceOf_26 rfl (lv_at hl 0 rfl) ?_
        refine Mg_X8_since C hA iX8_forceOf_X8 (by decide +kernel) dX8_forceOf_27 ?_
        refine lv_iload_n hx hb dX8_forceOf_30 rfl (lv_at hl 3 rfl) ?_
        refine Mld_12 (v := (σ.2.1 12 (x3).toNatClampNeg)) C hA rfl g2 dX8_forceOf_31 ?_
        refine lv_aload_n hx hb dX8_forceOf_32 rfl (lv_at hl 0 rfl) ?_
        refine Mg_X8_since C hA iX8_forceOf_X8 (by decide +kernel) dX8_forceOf_33 ?_
        refine lv_iload_n hx hb dX8_forceOf_36 rfl (lv_at hl 2 rfl) ?_
        obtain ⟨g5, h⟩ := gd h
        refine Mld_12 (v := (σ.2.1 12 (x2).toNatClampNeg)) C hA rfl g5 dX8_forceOf_37 ?_
        refine lv_icmp_lt (tgt := 43) hx hb dX8_forceOf_38 (by decide) (fun c6 => ?_) (fun c6 => ?_)
        · replace h := (if_pos c6).symm.trans h
          exact w_X8_forceOf_43 C hk4 h hA (lv_sub hl [0, 1, 2, 3] rfl)
        · replace h := (if_neg c6).symm.trans h
          exact w_X8_forceOf_41 C hk4 h hA (lv_sub hl [0, 1, 3] rfl)
set_option maxHeartbeats 4000000 in
theorem w_X8_forceOf_L4 {σ : SS} {x : Int32 × Int32 × Int32} (C : Cx p l s m args meth c cX8_forceOf 4 wsX8_forceOf (some .int) RX8 g A) (h : f_X8_forceOf_L4 fu σ x = some R) {H : Heap} {locs : List Loc} {ls : Array Slot} (hA : Aw g A s.heap (wM g σ) H locs) (hl : lv_has ls 4 [(0, .ref (g.2.1 0)), (1, .int x.1), (2, .int x.2.1), (3, .int x.2.2)]) : W p l e rmX8_forceOf s m args below meth c H locs 0 0 (MQ below (Qi g A (wM g σ) R) args s 0 0 A) (F0 m 4 ls []) := by
  refine loopW (P := fun σ1 x => σ1 = σ → ∀ (H : Heap) (locs : List Loc) (ls : Array Slot), Aw g A s.heap (wM g σ) H locs → lv_has ls 4 [(0, .ref (g.2.1 0)), (1, .int x.1), (2, .int x.2.1), (3, .int x.2.2)] → W p l e rmX8_forceOf s m args below meth c H locs 0 0 (MQ below (Qi g A (wM g σ) R) args s 0 0 A) (F0 m 4 ls [])) (fun k hk σ1 x h9 e1 H locs ls hA9 hl9 => ?_) fu σ x h rfl H locs ls hA hl
  subst e1
  exact w_X8_forceOf_4 C (fun σ2 x e2 h2 => hk σ2 x h2 e2) h9 hA9 hl9
set_option maxHeartbeats 4000000 in
set_option maxRecDepth 100000 in
theorem w_X8_forceOf_0 {σ : SS} {x1 : Int32} (C : Cx p l s m args meth c cX8_forceOf 4 wsX8_forceOf (some .int) RX8 g A) (h : f_X8_forceOf fu σ x1 = some R) {H : Heap} {locs : List Loc} {ls : Array Slot} (hA : Aw g A s.heap (wM g σ) H locs) (hl : lv_has ls 4 [(0, .ref (g.2.1 0)), (1, .int x1)]) : W p l e rmX8_forceOf s m args below meth c H locs 0 0 (MQ below (Qi g A (wM g σ) R) args s 0 0 A) (F0 m 0 ls []) := by
  have hx := C.1.1
  have hb := C.1.2.1
  unfold f_X8_forceOf at h
  refine lv_iconst (v := (-1)) hx hb dX8_forceOf_0 (by decide) ?_
  refine lv_istore_n (lv' := [(2, .int (-1)), (0, .ref (g.2.1 0)), (1, .int x1)]) hx hb dX8_forceOf_1 rfl hl (by decide) rfl (fun ls hl => ?_)
  refine lv_iconst (v := 0) hx hb dX8_forceOf_2 (by decide) ?_
  refine lv_istore_n (lv' := [(3, .int (0 : Int32)), (2, .int (-1)), (0, .ref (g.2.1 0)), (1, .int x1)]) hx hb dX8_forceOf_3 rfl hl (by decide) rfl (fun ls hl => ?_)
  exact w_X8_forceOf_L4 C h hA (lv_sub hl [2, 3, 1, 0] rfl)
end
set_option maxRecDepth 100000 in
theorem k_X8_forceOf {l : Launch} {g : Gm} {fu : Nat} {σ : SS} {x1 : Int32} {R : Int32} (hlt : l.stackTraces = false) (h : f_X8_forceOf fu σ x1 = some R) (sz : Nat) : Met l yX8_forceOf wsX8_forceOf rmX8_forceOf (Pw g (wM g σ) [.ref (g.2.1 0), .int x1] sz) (Qi g (va_A (wM g σ) sz) (wM g σ) R) 0 0 (va_A (wM g σ) sz) :=
  ofM (own := RX8) hlt (by decide) rfl rfl (Nat.le_of_ble_eq_true rfl) (fun p e s m below meth c hsz C hA ls hl => w_X8_forceOf_0 C h hA hl)
abbrev rmX8_term : Room := { frames := 1, cells := 0, slots := 0, locals := 23 }
theorem iX8_term_X8 : ∀ x ∈ wsX80, x ∈ wsX8_term := by decide +kernel
theorem nd_X8_term : yX8_term.cls = RX8 ∧ yX8_term.cls ≠ "java/lang/invoke/MethodHandle" ∧ yX8_term.cls ≠ "java/lang/invoke/VarHandle" ∧ (parseMethodDescriptor yX8_term.desc).map (fun d => d.parameters.length) = some 1 := by decide +kernel
def f_X8_term (fu : Nat) (σ : SS) (x1 : Int32) : Option (Int32) :=
  bnd1 (f_X8_forceOf fu σ (σ.1 5)) (fun r1 => (if 0 ≤ r1 then if inB (((6 : Int32) * r1) + x1) 126 then some (σ.2.1 13 ((((6 : Int32) * r1) + x1)).toNatClampNeg) else none else some (0 : Int32)))
section
variable {p : Program} {l : Launch} {e : Env} {s : State} {m : MethodId} {args : Array Value} {below : List Frame} {meth : Method} {c : Code} {g : Gm} {A : Nat → Prop} {fu : Nat} {R : Int32}
set_option maxHeartbeats 4000000 in
set_option maxRecDepth 100000 in
theorem w_X8_term_0 {σ : SS} {x1 : Int32} (C : Cx p l s m args meth c cX8_term 3 wsX8_term (some .int) RX8 g A) (h : f_X8_term fu σ x1 = some R) {H : Heap} {locs : List Loc} {ls : Array Slot} (hA : Aw g A s.heap (wM g σ) H locs) (hl : lv_has ls 3 [(0, .ref (g.2.1 0)), (1, .int x1)]) : W p l e rmX8_term s m args below meth c H locs 0 0 (MQ below (Qi g A (wM g σ) R) args s 0 0 A) (F0 m 0 ls []) := by
  have hx := C.1.1
  have hb := C.1.2.1
  unfold f_X8_term at h
  refine lv_aload_n hx hb dX8_term_0 rfl (lv_at hl 0 rfl) ?_
  refine lv_aload_n hx hb dX8_term_1 rfl (lv_at hl 0 rfl) ?_
  refine Mg_X8_now (v := (σ.1 5)) C hA rfl iX8_term_X8 (by decide +kernel) dX8_term_2 ?_
  obtain ⟨r1, hc2, h⟩ := bd1 h
  refine r_callVi (r := r1) (w1 := wM g σ) (As := [.int (σ.1 5)]) (rest := []) C hA hl.1 (k_X8_forceOf C.2.2.2.2.2.2 hc2) (cwV 1 C.1.2.2.2.2 gX8_term_X8_forceOf rfl rfl rfl nd_X8_forceOf ⟨Nat.le_of_ble_eq_true rfl, Nat.le_of_ble_eq_true rfl⟩) 0 rfl rfl rfl rfl (Nat.le_of_ble_eq_true rfl) dX8_term_5 ⟨Nat.le_of_ble_eq_true rfl, Nat.le_of_ble_eq_true rfl⟩ (fun H locs hA => ?_)
  refine lv_istore_n (lv' := [(2, .int r1), (0, .ref (g.2.1 0)), (1, .int x1)]) hx hb dX8_term_8 rfl hl (by decide) rfl (fun ls hl => ?_)
  refine lv_iload_n hx hb dX8_term_9 rfl (lv_at hl 0 rfl) ?_
  refine lv_if_ge (tgt := 17) hx hb dX8_term_10 (by decide) (fun c3 => ?_) (fun c3 => ?_)
  · replace h := (if_pos c3).symm.trans h
    refine lv_aload_n hx hb dX8_term_17 rfl (lv_at hl 1 rfl) ?_
    refine Mg_X8_terms C hA iX8_term_X8 (by decide +kernel) dX8_term_18 ?_
    refine lv_bipush (v := 6) hx hb dX8_term_21 (by decide) ?_
    refine lv_iload_n hx hb dX8_term_23 rfl (lv_at hl 0 rfl) ?_
    refine lv_imul hx hb dX8_term_24 ?_
    refine lv_iload_n hx hb dX8_term_25 rfl (lv_at hl 2 rfl) ?_
    refine lv_iadd hx hb dX8_term_26 ?_
    obtain ⟨g4, h⟩ := gd h
    refine Mld_13 (v := (σ.2.1 13 ((((6 : Int32) * r1) + x1)).toNatClampNeg)) C hA rfl g4 dX8_term_27 ?_
    obtain rfl := Option.some.inj h
    exact r_iret C hA dX8_term_28
  · replace h := (if_neg c3).symm.trans h
    refine lv_iconst (v := 0) hx hb dX8_term_13 (by decide) ?_
    refine lv_goto (tgt := 28) hx hb dX8_term_14 (by decide) ?_
    obtain rfl := Option.some.inj h
    exact r_iret C hA dX8_term_28
end
set_option maxRecDepth 100000 in
theorem k_X8_term {l : Launch} {g : Gm} {fu : Nat} {σ : SS} {x1 : Int32} {R : Int32} (hlt : l.stackTraces = false) (h : f_X8_term fu σ x1 = some R) (sz : Nat) : Met l yX8_term wsX8_term rmX8_term (Pw g (wM g σ) [.ref (g.2.1 0), .int x1] sz) (Qi g (va_A (wM g σ) sz) (wM g σ) R) 0 0 (va_A (wM g σ) sz) :=
  ofM (own := RX8) hlt (by decide) rfl rfl (Nat.le_of_ble_eq_true rfl) (fun p e s m below meth c hsz C hA ls hl => w_X8_term_0 C h hA hl)
abbrev rmX8_thrown : Room := { frames := 0, cells := 0, slots := 0, locals := 0 }
theorem iX8_thrown_X8 : ∀ x ∈ wsX80, x ∈ wsX8_thrown := by decide +kernel
theorem nd_X8_thrown : yX8_thrown.cls = RX8 ∧ yX8_thrown.cls ≠ "java/lang/invoke/MethodHandle" ∧ yX8_thrown.cls ≠ "java/lang/invoke/VarHandle" ∧ (parseMethodDescriptor yX8_thrown.desc).map (fun d => d.parameters.length) = some 0 := by decide +kernel
def f_X8_thrown (fu : Nat) (σ : SS) : Option (Int32) :=
  some (σ.1 0)
section
variable {p : Program} {l : Launch} {e : Env} {s : State} {m : MethodId} {args : Array Value} {below : List Frame} {meth : Method} {c : Code} {g : Gm} {A : Nat → Prop} {fu : Nat} {R : Int32}
set_option maxHeartbeats 4000000 in
set_option maxRecDepth 100000 in
theorem w_X8_thrown_0 {σ : SS} (C : Cx p l s m args meth c cX8_thrown 1 wsX8_thrown (some .int) RX8 g A) (h : f_X8_thrown fu σ = some R) {H : Heap} {locs : List Loc} {ls : Array Slot} (hA : Aw g A s.heap (wM g σ) H locs) (hl : lv_has ls 1 [(0, .ref (g.2.1 0))]) : W p l e rmX8_thrown s m args below meth c H locs 0 0 (MQ below (Qi g A (wM g σ) R) args s 0 0 A) (F0 m 0 ls []) := by
  have hx := C.1.1
  have hb := C.1.2.1
  unfold f_X8_thrown at h
  refine lv_aload_n hx hb dX8_thrown_0 rfl (lv_at hl 0 rfl) ?_
  refine Mg_X8_thrown (v := (σ.1 0)) C hA rfl iX8_thrown_X8 (by decide +kernel) dX8_thrown_1 ?_
  obtain rfl := Option.some.inj h
  exact r_iret C hA dX8_thrown_4
end
set_option maxRecDepth 100000 in
theorem k_X8_thrown {l : Launch} {g : Gm} {fu : Nat} {σ : SS} {R : Int32} (hlt : l.stackTraces = false) (h : f_X8_thrown fu σ = some R) (sz : Nat) : Met l yX8_thrown wsX8_thrown rmX8_thrown (Pw g (wM g σ) [.ref (g.2.1 0)] sz) (Qi g (va_A (wM g σ) sz) (wM g σ) R) 0 0 (va_A (wM g σ) sz) :=
  ofM (own := RX8) hlt (by decide) rfl rfl (Nat.le_of_ble_eq_true rfl) (fun p e s m below meth c hsz C hA ls hl => w_X8_thrown_0 C h hA hl)
abbrev rmX8_chief : Room := { frames := 1, cells := 0, slots := 0, locals := 22 }
theorem iX8_chief_X8 : ∀ x ∈ wsX80, x ∈ wsX8_chief := by decide +kernel
theorem nd_X8_chief : yX8_chief.cls = RX8 ∧ yX8_chief.cls ≠ "java/lang/invoke/MethodHandle" ∧ yX8_chief.cls ≠ "java/lang/invoke/VarHandle" ∧ (parseMethodDescriptor yX8_chief.desc).map (fun d => d.parameters.length) = some 1 := by decide +kernel
def f_X8_chief_43 (fu : Nat) (σ : SS) (x1 : Int32) (y0 : Int32) : Option (Int32 × SS) :=
  bnd (f_X8_bad fu σ y0 (2 : Int32)) (fun r1 t3 => (if r1 = 0 then if inB (t3.1 4) 12 then some ((((t3.1 4) + (1 : Int32)) - (1 : Int32)), (sI (sA t3 1 ((t3.1 4)).toNatClampNeg x1) 4 ((t3.1 4) + (1 : Int32)))) else none else some ((0 : Int32), t3)))
def f_X8_chief_21 (fu : Nat) (σ : SS) (x1 : Int32) (y0 : Int32) : Option (Int32 × SS) :=
  bnd (f_X8_bad fu σ y0 (1 : Int32)) (fun r1 t3 => (if r1 = 0 then (if (t3.1 4) = (12 : Int32) then f_X8_chief_43 fu t3 x1 (1 : Int32) else f_X8_chief_43 fu t3 x1 (0 : Int32)) else some ((0 : Int32), t3)))
def f_X8_chief_16 (fu : Nat) (σ : SS) (x1 : Int32) : Option (Int32 × SS) :=
  f_X8_chief_21 fu σ x1 (1 : Int32)
def f_X8_chief (fu : Nat) (σ : SS) (x1 : Int32) : Option (Int32 × SS) :=
  (if x1 < 0 then f_X8_chief_16 fu (sI σ 0 (0 : Int32)) x1 else (if x1 ≤ (1000000 : Int32) then f_X8_chief_21 fu (sI σ 0 (0 : Int32)) x1 (0 : Int32) else f_X8_chief_16 fu (sI σ 0 (0 : Int32)) x1))
section
variable {p : Program} {l : Launch} {e : Env} {s : State} {m : MethodId} {args : Array Value} {below : List Frame} {meth : Method} {c : Code} {g : Gm} {A : Nat → Prop} {fu : Nat} {R : Int32 × SS}
set_option maxHeartbeats 4000000 in
set_option maxRecDepth 100000 in
theorem w_X8_chief_43 {σ : SS} {x1 : Int32} {y0 : Int32} (C : Cx p l s m args meth c cX8_chief 2 wsX8_chief (some .int) RX8 g A) (h : f_X8_chief_43 fu σ x1 y0 = some R) {H : Heap} {locs : List Loc} {ls : Array Slot} (hA : Aw g A s.heap (wM g σ) H locs) (hl : lv_has ls 2 [(0, .ref (g.2.1 0)), (1, .int x1)]) : W p l e rmX8_chief s m args below meth c H locs 0 0 (MQ below (Qi g A (wM g R.2) R.1) args s 0 0 A) (F0 m 43 ls [.int y0, .ref (g.2.1 0)]) := by
  have hx := C.1.1
  have hb := C.1.2.1
  unfold f_X8_chief_43 at h
  refine lv_iconst (v := 2) hx hb dX8_chief_43 (by decide) ?_
  obtain ⟨r1, t3, hc2, h⟩ := bd h
  refine r_callVi (r := r1) (w1 := wM g t3) (As := [.int y0, .int (2 : Int32)]) (rest := []) C hA hl.1 (k_X8_bad C.2.2.2.2.2.2 hc2) (cwV 2 C.1.2.2.2.2 gX8_chief_X8_bad rfl rfl rfl nd_X8_bad ⟨Nat.le_of_ble_eq_true rfl, Nat.le_of_ble_eq_true rfl⟩) 0 rfl rfl rfl rfl (Nat.le_of_ble_eq_true rfl) dX8_chief_44 ⟨Nat.le_of_ble_eq_true rfl, Nat.le_of_ble_eq_true rfl⟩ (fun H locs hA => ?_)
  refine lv_if_eq (tgt := 52) hx hb dX8_chief_47 (by decide) (fun c4 => ?_) (fun c4 => ?_)
  · replace h := (if_pos c4).symm.trans h
    refine lv_aload_n hx hb dX8_chief_52 rfl (lv_at hl 0 rfl) ?_
    refine Mg_X8_blankets C hA iX8_chief_X8 (by decide +kernel) dX8_chief_53 ?_
    refine lv_aload_n hx hb dX8_chief_56 rfl (lv_at hl 0 rfl) ?_
    refine Mg_X8_chiefs (v := (t3.1 4)) C hA rfl iX8_chief_X8 (by decide +kernel) dX8_chief_57 ?_
    refine lv_iload_n hx hb dX8_chief_60 rfl (lv_at hl 1 rfl) ?_
    obtain ⟨g5, h⟩ := gd h
    refine Mst_1 C hA g5 dX8_chief_61 (fun H locs hA => ?_)
    refine lv_aload_n hx hb dX8_chief_62 rfl (lv_at hl 0 rfl) ?_
    refine lv_dup hx hb dX8_chief_63 rfl ?_
    refine Mg_X8_chiefs (v := (t3.1 4)) C hA rfl iX8_chief_X8 (by decide +kernel) dX8_chief_64 ?_
    refine lv_iconst (v := 1) hx hb dX8_chief_67 (by decide) ?_
    refine lv_iadd hx hb dX8_chief_68 ?_
    refine Mp_X8_chiefs C hA iX8_chief_X8 (by decide +kernel) dX8_chief_69 (fun H locs hA => ?_)
    refine lv_aload_n hx hb dX8_chief_72 rfl (lv_at hl 0 rfl) ?_
    refine Mg_X8_chiefs (v := ((t3.1 4) + (1 : Int32))) C hA rfl iX8_chief_X8 (by decide +kernel) dX8_chief_73 ?_
    refine lv_iconst (v := 1) hx hb dX8_chief_76 (by decide) ?_
    refine lv_isub hx hb dX8_chief_77 ?_
    obtain rfl := Option.some.inj h
    exact r_iret C hA dX8_chief_78
  · replace h := (if_neg c4).symm.trans h
    refine lv_iconst (v := 0) hx hb dX8_chief_50 (by decide) ?_
    obtain rfl := Option.some.inj h
    exact r_iret C hA dX8_chief_51
set_option maxHeartbeats 4000000 in
set_option maxRecDepth 100000 in
theorem w_X8_chief_21 {σ : SS} {x1 : Int32} {y0 : Int32} (C : Cx p l s m args meth c cX8_chief 2 wsX8_chief (some .int) RX8 g A) (h : f_X8_chief_21 fu σ x1 y0 = some R) {H : Heap} {locs : List Loc} {ls : Array Slot} (hA : Aw g A s.heap (wM g σ) H locs) (hl : lv_has ls 2 [(0, .ref (g.2.1 0)), (1, .int x1)]) : W p l e rmX8_chief s m args below meth c H locs 0 0 (MQ below (Qi g A (wM g R.2) R.1) args s 0 0 A) (F0 m 21 ls [.int y0, .ref (g.2.1 0)]) := by
  have hx := C.1.1
  have hb := C.1.2.1
  unfold f_X8_chief_21 at h
  refine lv_iconst (v := 1) hx hb dX8_chief_21 (by decide) ?_
  obtain ⟨r1, t3, hc2, h⟩ := bd h
  refine r_callVi (r := r1) (w1 := wM g t3) (As := [.int y0, .int (1 : Int32)]) (rest := []) C hA hl.1 (k_X8_bad C.2.2.2.2.2.2 hc2) (cwV 2 C.1.2.2.2.2 gX8_chief_X8_bad rfl rfl rfl nd_X8_bad ⟨Nat.le_of_ble_eq_true rfl, Nat.le_of_ble_eq_true rfl⟩) 0 rfl rfl rfl rfl (Nat.le_of_ble_eq_true rfl) dX8_chief_22 ⟨Nat.le_of_ble_eq_true rfl, Nat.le_of_ble_eq_true rfl⟩ (fun H locs hA => ?_)
  refine lv_if_ne (tgt := 50) hx hb dX8_chief_25 (by decide) (fun c4 => ?_) (fun c4 => ?_)
  · replace h := (if_neg c4).symm.trans h
    refine lv_iconst (v := 0) hx hb dX8_chief_50 (by decide) ?_
    obtain rfl := Option.some.inj h
    exact r_iret C hA dX8_chief_51
  · replace h := (if_pos c4).symm.trans h
    refine lv_aload_n hx hb dX8_chief_28 rfl (lv_at hl 0 rfl) ?_
    refine lv_aload_n hx hb dX8_chief_29 rfl (lv_at hl 0 rfl) ?_
    refine Mg_X8_chiefs (v := (t3.1 4)) C hA rfl iX8_chief_X8 (by decide +kernel) dX8_chief_30 ?_
    refine lv_bipush (v := 12) hx hb dX8_chief_33 (by decide) ?_
    refine lv_icmp_ne (tgt := 42) hx hb dX8_chief_35 (by decide) (fun c5 => ?_) (fun c5 => ?_)
    · replace h := (if_neg c5).symm.trans h
      refine lv_iconst (v := 0) hx hb dX8_chief_42 (by decide) ?_
      exact w_X8_chief_43 C h hA (lv_sub hl [0, 1] rfl)
    · replace h := (if_pos c5).symm.trans h
      refine lv_iconst (v := 1) hx hb dX8_chief_38 (by decide) ?_
      refine lv_goto (tgt := 43) hx hb dX8_chief_39 (by decide) ?_
      exact w_X8_chief_43 C h hA (lv_sub hl [0, 1] rfl)
set_option maxHeartbeats 4000000 in
set_option maxRecDepth 100000 in
theorem w_X8_chief_16 {σ : SS} {x1 : Int32} (C : Cx p l s m args meth c cX8_chief 2 wsX8_chief (some .int) RX8 g A) (h : f_X8_chief_16 fu σ x1 = some R) {H : Heap} {locs : List Loc} {ls : Array Slot} (hA : Aw g A s.heap (wM g σ) H locs) (hl : lv_has ls 2 [(0, .ref (g.2.1 0)), (1, .int x1)]) : W p l e rmX8_chief s m args below meth c H locs 0 0 (MQ below (Qi g A (wM g R.2) R.1) args s 0 0 A) (F0 m 16 ls [.ref (g.2.1 0)]) := by
  have hx := C.1.1
  have hb := C.1.2.1
  unfold f_X8_chief_16 at h
  refine lv_iconst (v := 1) hx hb dX8_chief_16 (by decide) ?_
  refine lv_goto (tgt := 21) hx hb dX8_chief_17 (by decide) ?_
  exact w_X8_chief_21 C h hA (lv_sub hl [0, 1] rfl)
set_option maxHeartbeats 4000000 in
set_option maxRecDepth 100000 in
theorem w_X8_chief_0 {σ : SS} {x1 : Int32} (C : Cx p l s m args meth c cX8_chief 2 wsX8_chief (some .int) RX8 g A) (h : f_X8_chief fu σ x1 = some R) {H : Heap} {locs : List Loc} {ls : Array Slot} (hA : Aw g A s.heap (wM g σ) H locs) (hl : lv_has ls 2 [(0, .ref (g.2.1 0)), (1, .int x1)]) : W p l e rmX8_chief s m args below meth c H locs 0 0 (MQ below (Qi g A (wM g R.2) R.1) args s 0 0 A) (F0 m 0 ls []) := by
  have hx := C.1.1
  have hb := C.1.2.1
  unfold f_X8_chief at h
  refine lv_aload_n hx hb dX8_chief_0 rfl (lv_at hl 0 rfl) ?_
  refine lv_iconst (v := 0) hx hb dX8_chief_1 (by decide) ?_
  refine Mp_X8_thrown C hA iX8_chief_X8 (by decide +kernel) dX8_chief_2 (fun H locs hA => ?_)
  refine lv_aload_n hx hb dX8_chief_5 rfl (lv_at hl 0 rfl) ?_
  refine lv_iload_n hx hb dX8_chief_6 rfl (lv_at hl 1 rfl) ?_
  refine lv_if_lt (tgt := 16) hx hb dX8_chief_7 (by decide) (fun c1 => ?_) (fun c1 => ?_)
  · replace h := (if_pos c1).symm.trans h
    exact w_X8_chief_16 C h hA (lv_sub hl [0, 1] rfl)
  · replace h := (if_neg c1).symm.trans h
    refine lv_iload_n hx hb dX8_chief_10 rfl (lv_at hl 1 rfl) ?_
    refine lv_ldc (v := 1000000) hx hb C.1.2.2.2.1 (C.1.2.2.2.2 (.constant RX8 77 (1000000)) (by decide +kernel)) dX8_chief_11 ?_
    refine lv_icmp_le (tgt := 20) hx hb dX8_chief_13 (by decide) (fun c2 => ?_) (fun c2 => ?_)
    · replace h := (if_pos c2).symm.trans h
      refine lv_iconst (v := 0) hx hb dX8_chief_20 (by decide) ?_
      exact w_X8_chief_21 C h hA (lv_sub hl [0, 1] rfl)
    · replace h := (if_neg c2).symm.trans h
      exact w_X8_chief_16 C h hA (lv_sub hl [0, 1] rfl)
end
set_option maxRecDepth 100000 in
theorem k_X8_chief {l : Launch} {g : Gm} {fu : Nat} {σ : SS} {x1 : Int32} {R : Int32 × SS} (hlt : l.stackTraces = false) (h : f_X8_chief fu σ x1 = some R) (sz : Nat) : Met l yX8_chief wsX8_chief rmX8_chief (Pw g (wM g σ) [.ref (g.2.1 0), .int x1] sz) (Qi g (va_A (wM g σ) sz) (wM g R.2) R.1) 0 0 (va_A (wM g σ) sz) :=
  ofM (own := RX8) hlt (by decide) rfl rfl (Nat.le_of_ble_eq_true rfl) (fun p e s m below meth c hsz C hA ls hl => w_X8_chief_0 C h hA hl)
abbrev rmX8_feed : Room := { frames := 0, cells := 0, slots := 0, locals := 0 }
theorem iX8_feed_X8 : ∀ x ∈ wsX80, x ∈ wsX8_feed := by decide +kernel
theorem nd_X8_feed : yX8_feed.cls = RX8 ∧ yX8_feed.cls ≠ "java/lang/invoke/MethodHandle" ∧ yX8_feed.cls ≠ "java/lang/invoke/VarHandle" ∧ (parseMethodDescriptor yX8_feed.desc).map (fun d => d.parameters.length) = some 5 := by decide +kernel
def f_X8_feed_77 (fu : Nat) (k23 : SS → (Int32 × Int32 × Int32 × Int32 × Int32 × Int32) → Option (Int32 × SS)) (k77 : SS → (Int32 × Int32 × Int32 × Int32 × Int32 × Int32 × Int32 × Int32) → Option (Int32 × SS)) (σ : SS) (x1 : Int32) (x2 : Int32) (x3 : Int32) (x4 : Int32) (x5 : Int32) (x6 : Int32) (x7 : Int32) (x8 : Int32) : Option (Int32 × SS) :=
  (if x8 < 0 then k23 σ (x1, x2, x3, x4, x5, (x6 + 1)) else if inB (σ.1 7) 200 then k77 (sI (sA σ 6 ((σ.1 7)).toNatClampNeg (vp_nar .byte ((x7 >>> (x8 &&& 31))).toInt8.toInt32)) 7 ((σ.1 7) + (1 : Int32))) (x1, x2, x3, x4, x5, x6, x7, (x8 + (-8))) else none)
def f_X8_feed_L77 (fu : Nat) (k23 : SS → (Int32 × Int32 × Int32 × Int32 × Int32 × Int32) → Option (Int32 × SS)) : SS → (Int32 × Int32 × Int32 × Int32 × Int32 × Int32 × Int32 × Int32) → Option (Int32 × SS) := loopN (fun k77 σ x => f_X8_feed_77 fu k23 k77 σ x.1 x.2.1 x.2.2.1 x.2.2.2.1 x.2.2.2.2.1 x.2.2.2.2.2.1 x.2.2.2.2.2.2.1 x.2.2.2.2.2.2.2) fu
def f_X8_feed_71 (fu : Nat) (k23 : SS → (Int32 × Int32 × Int32 × Int32 × Int32 × Int32) → Option (Int32 × SS)) (σ : SS) (x1 : Int32) (x2 : Int32) (x3 : Int32) (x4 : Int32) (x5 : Int32) (x6 : Int32) (y0 : Int32) : Option (Int32 × SS) :=
  f_X8_feed_L77 fu k23 σ (x1, x2, x3, x4, x5, x6, y0, (24 : Int32))
def f_X8_feed_23 (fu : Nat) (k23 : SS → (Int32 × Int32 × Int32 × Int32 × Int32 × Int32) → Option (Int32 × SS)) (σ : SS) (x1 : Int32) (x2 : Int32) (x3 : Int32) (x4 : Int32) (x5 : Int32) (x6 : Int32) : Option (Int32 × SS) :=
  (if (5 : Int32) ≤ x6 then some ((σ.1 7), σ) else (if x6 = 0 then f_X8_feed_71 fu k23 σ x1 x2 x3 x4 x5 x6 x1 else (if x6 = (1 : Int32) then f_X8_feed_71 fu k23 σ x1 x2 x3 x4 x5 x6 x2 else (if x6 = (2 : Int32) then f_X8_feed_71 fu k23 σ x1 x2 x3 x4 x5 x6 x3 else (if x6 = (3 : Int32) then f_X8_feed_71 fu k23 σ x1 x2 x3 x4 x5 x6 x4 else f_X8_feed_71 fu k23 σ x1 x2 x3 x4 x5 x6 x5)))))
def f_X8_feed_L23 (fu : Nat) : SS → (Int32 × Int32 × Int32 × Int32 × Int32 × Int32) → Option (Int32 × SS) := loopN (fun k23 σ x => f_X8_feed_23 fu k23 σ x.1 x.2.1 x.2.2.1 x.2.2.2.1 x.2.2.2.2.1 x.2.2.2.2.2) fu
def f_X8_feed (fu : Nat) (σ : SS) (x1 : Int32) (x2 : Int32) (x3 : Int32) (x4 : Int32) (x5 : Int32) : Option (Int32 × SS) :=
  (if ((σ.1 7) + (20 : Int32)) ≤ (200 : Int32) then f_X8_feed_L23 fu (sI σ 0 (0 : Int32)) (x1, x2, x3, x4, x5, (0 : Int32)) else some ((-1), (sI σ 0 (0 : Int32))))
section
variable {p : Program} {l : Launch} {e : Env} {s : State} {m : MethodId} {args : Array Value} {below : List Frame} {meth : Method} {c : Code} {g : Gm} {A : Nat → Prop} {fu : Nat} {R : Int32 × SS}
set_option maxHeartbeats 4000000 in
set_option maxRecDepth 100000 in
theorem w_X8_feed_77 {σ : SS} {x1 : Int32} {x2 : Int32} {x3 : Int32} {x4 : Int32} {x5 : Int32} {x6 : Int32} {x7 : Int32} {x8 : Int32} (C : Cx p l s m args meth c cX8_feed 9 wsX8_feed (some .int) RX8 g A) {k23 : SS → (Int32 × Int32 × Int32 × Int32 × Int32 × Int32) → Option (Int32 × SS)} (hk23 : ∀ (σ : SS) (x : Int32 × Int32 × Int32 × Int32 × Int32 × Int32), k23 σ x = some R → ∀ (H : Heap) (locs : List Loc) (ls : Array Slot), Aw g A s.heap (wM g σ) H locs → lv_has ls 9 [(0, .ref (g.2.1 0)), (1, .int x.1), (2, .int x.2.1), (3, .int x.2.2.1), (4, .int x.2.2.2.1), (5, .int x.2.2.2.2.1), (6, .int x.2.2.2.2.2)] → W p l e rmX8_feed s m args below meth c H locs 0 0 (MQ below (Qi g A (wM g R.2) R.1) args s 0 0 A) (F0 m 23 ls [])) {k77 : SS → (Int32 × Int32 × Int32 × Int32 × Int32 × Int32 × Int32 × Int32) → Option (Int32 × SS)} (hk77 : ∀ (σ : SS) (x : Int32 × Int32 × Int32 × Int32 × Int32 × Int32 × Int32 × Int32), k77 σ x = some R → ∀ (H : Heap) (locs : List Loc) (ls : Array Slot), Aw g A s.heap (wM g σ) H locs → lv_has ls 9 [(0, .ref (g.2.1 0)), (1, .int x.1), (2, .int x.2.1), (3, .int x.2.2.1), (4, .int x.2.2.2.1), (5, .int x.2.2.2.2.1), (6, .int x.2.2.2.2.2.1), (7, .int x.2.2.2.2.2.2.1), (8, .int x.2.2.2.2.2.2.2)] → W p l e rmX8_feed s m args below meth c H locs 0 0 (MQ below (Qi g A (wM g R.2) R.1) args s 0 0 A) (F0 m 77 ls [])) (h : f_X8_feed_77 fu k23 k77 σ x1 x2 x3 x4 x5 x6 x7 x8 = some R) {H : Heap} {locs : List Loc} {ls : Array Slot} (hA : Aw g A s.heap (wM g σ) H locs) (hl : lv_has ls 9 [(0, .ref (g.2.1 0)), (1, .int x1), (2, .int x2), (3, .int x3), (4, .int x4), (5, .int x5), (6, .int x6), (7, .int x7), (8, .int x8)]) : W p l e rmX8_feed s m args below meth c H locs 0 0 (MQ below (Qi g A (wM g R.2) R.1) args s 0 0 A) (F0 m 77 ls []) := by
  have hx := C.1.1
  have hb := C.1.2.1
  unfold f_X8_feed_77 at h
  refine lv_iload hx hb dX8_feed_77 (lv_at hl 8 rfl) ?_
  refine lv_if_lt (tgt := 113) hx hb dX8_feed_79 (by decide) (fun c1 => ?_) (fun c1 => ?_)
  · replace h := (if_pos c1).symm.trans h
    refine lv_iinc (v := (x6 + 1)) (lv' := [(6, .int (x6 + 1)), (0, .ref (g.2.1 0)), (1, .int x1), (2, .int x2), (3, .int x3), (4, .int x4), (5, .int x5), (7, .int x7), (8, .int x8)]) hx hb dX8_feed_113 hl (k := 6) rfl rfl (by decide) rfl (fun ls hl => ?_)
    refine lv_goto (tgt := 23) hx hb dX8_feed_116 (by decide) ?_
    exact hk23 _ _ h _ _ _ hA (lv_sub hl [1, 2, 3, 4, 5, 6, 0] rfl)
  · replace h := (if_neg c1).symm.trans h
    refine lv_aload_n hx hb dX8_feed_82 rfl (lv_at hl 0 rfl) ?_
    refine Mg_X8_tape C hA iX8_feed_X8 (by decide +kernel) dX8_feed_83 ?_
    refine lv_aload_n hx hb dX8_feed_86 rfl (lv_at hl 0 rfl) ?_
    refine Mg_X8_taped (v := (σ.1 7)) C hA rfl iX8_feed_X8 (by decide +kernel) dX8_feed_87 ?_
    refine lv_iload hx hb dX8_feed_90 (lv_at hl 7 rfl) ?_
    refine lv_iload hx hb dX8_feed_92 (lv_at hl 8 rfl) ?_
    refine lv_ishr hx hb dX8_feed_94 ?_
    refine lv_i2b hx hb dX8_feed_95 rfl ?_
    obtain ⟨g2, h⟩ := gd h
    refine Mst_6 C hA g2 dX8_feed_96 (fun H locs hA => ?_)
    refine lv_aload_n hx hb dX8_feed_97 rfl (lv_at hl 0 rfl) ?_
    refine lv_dup hx hb dX8_feed_98 rfl ?_
    refine Mg_X8_taped (v := (σ.1 7)) C hA rfl iX8_feed_X8 (by decide +kernel) dX8_feed_99 ?_
    refine lv_iconst (v := 1) hx hb dX8_feed_102 (by decide) ?_
    refine lv_iadd hx hb dX8_feed_103 ?_
    refine Mp_X8_taped C hA iX8_feed_X8 (by decide +kernel) dX8_feed_104 (fun H locs hA => ?_)
    refine lv_iinc (v := (x8 + (-8))) (lv' := [(8, .int (x8 + (-8))), (0, .ref (g.2.1 0)), (1, .int x1), (2, .int x2), (3, .int x3), (4, .int x4), (5, .int x5), (6, .int x6), (7, .int x7)]) hx hb dX8_feed_107 hl (k := 8) rfl rfl (by decide) rfl (fun ls hl => ?_)
    refine lv_goto (tgt := 77) hx hb dX8_feed_110 (by decide) ?_
    exact hk77 _ _ h _ _ _ hA (lv_sub hl [1, 2, 3, 4, 5, 6, 7, 8, 0] rfl)
set_option maxHeartbeats 4000000 in
theorem w_X8_feed_L77 {σ : SS} {x : Int32 × Int32 × Int32 × Int32 × Int32 × Int32 × Int32 × Int32} (C : Cx p l s m args meth c cX8_feed 9 wsX8_feed (some .int) RX8 g A) {k23 : SS → (Int32 × Int32 × Int32 × Int32 × Int32 × Int32) → Option (Int32 × SS)} (hk23 : ∀ (σ : SS) (x : Int32 × Int32 × Int32 × Int32 × Int32 × Int32), k23 σ x = some R → ∀ (H : Heap) (locs : List Loc) (ls : Array Slot), Aw g A s.heap (wM g σ) H locs → lv_has ls 9 [(0, .ref (g.2.1 0)), (1, .int x.1), (2, .int x.2.1), (3, .int x.2.2.1), (4, .int x.2.2.2.1), (5, .int x.2.2.2.2.1), (6, .int x.2.2.2.2.2)] → W p l e rmX8_feed s m args below meth c H locs 0 0 (MQ below (Qi g A (wM g R.2) R.1) args s 0 0 A) (F0 m 23 ls [])) (h : f_X8_feed_L77 fu k23 σ x = some R) {H : Heap} {locs : List Loc} {ls : Array Slot} (hA : Aw g A s.heap (wM g σ) H locs) (hl : lv_has ls 9 [(0, .ref (g.2.1 0)), (1, .int x.1), (2, .int x.2.1), (3, .int x.2.2.1), (4, .int x.2.2.2.1), (5, .int x.2.2.2.2.1), (6, .int x.2.2.2.2.2.1), (7, .int x.2.2.2.2.2.2.1), (8, .int x.2.2.2.2.2.2.2)]) : W p l e rmX8_feed s m args below meth c H locs 0 0 (MQ below (Qi g A (wM g R.2) R.1) args s 0 0 A) (F0 m 77 ls []) := by
  refine loopW (P := fun σ x => ∀ (H : Heap) (locs : List Loc) (ls : Array Slot), Aw g A s.heap (wM g σ) H locs → lv_has ls 9 [(0, .ref (g.2.1 0)), (1, .int x.1), (2, .int x.2.1), (3, .int x.2.2.1), (4, .int x.2.2.2.1), (5, .int x.2.2.2.2.1), (6, .int x.2.2.2.2.2.1), (7, .int x.2.2.2.2.2.2.1), (8, .int x.2.2.2.2.2.2.2)] → W p l e rmX8_feed s m args below meth c H locs 0 0 (MQ below (Qi g A (wM g R.2) R.1) args s 0 0 A) (F0 m 77 ls [])) (fun k hk σ x h9 H locs ls hA9 hl9 => ?_) fu σ x h H locs ls hA hl
  exact w_X8_feed_77 C hk23 hk h9 hA9 hl9
set_option maxHeartbeats 4000000 in
set_option maxRecDepth 100000 in
theorem w_X8_feed_71 {σ : SS} {x1 : Int32} {x2 : Int32} {x3 : Int32} {x4 : Int32} {x5 : Int32} {x6 : Int32} {y0 : Int32} (C : Cx p l s m args meth c cX8_feed 9 wsX8_feed (some .int) RX8 g A) {k23 : SS → (Int32 × Int32 × Int32 × Int32 × Int32 × Int32) → Option (Int32 × SS)} (hk23 : ∀ (σ : SS) (x : Int32 × Int32 × Int32 × Int32 × Int32 × Int32), k23 σ x = some R → ∀ (H : Heap) (locs : List Loc) (ls : Array Slot), Aw g A s.heap (wM g σ) H locs → lv_has ls 9 [(0, .ref (g.2.1 0)), (1, .int x.1), (2, .int x.2.1), (3, .int x.2.2.1), (4, .int x.2.2.2.1), (5, .int x.2.2.2.2.1), (6, .int x.2.2.2.2.2)] → W p l e rmX8_feed s m args below meth c H locs 0 0 (MQ below (Qi g A (wM g R.2) R.1) args s 0 0 A) (F0 m 23 ls [])) (h : f_X8_feed_71 fu k23 σ x1 x2 x3 x4 x5 x6 y0 = some R) {H : Heap} {locs : List Loc} {ls : Array Slot} (hA : Aw g A s.heap (wM g σ) H locs) (hl : lv_has ls 9 [(0, .ref (g.2.1 0)), (1, .int x1), (2, .int x2), (3, .int x3), (4, .int x4), (5, .int x5), (6, .int x6)]) : W p l e rmX8_feed s m args below meth c H locs 0 0 (MQ below (Qi g A (wM g R.2) R.1) args s 0 0 A) (F0 m 71 ls [.int y0]) := by
  have hx := C.1.1
  have hb := C.1.2.1
  unfold f_X8_feed_71 at h
  refine lv_istore (lv' := [(7, .int y0), (0, .ref (g.2.1 0)), (1, .int x1), (2, .int x2), (3, .int x3), (4, .int x4), (5, .int x5), (6, .int x6)]) hx hb dX8_feed_71 hl (by decide) rfl (fun ls hl => ?_)
  refine lv_bipush (v := 24) hx hb dX8_feed_73 (by decide) ?_
  refine lv_istore (lv' := [(8, .int (24 : Int32)), (7, .int y0), (0, .ref (g.2.1 0)), (1, .int x1), (2, .int x2), (3, .int x3), (4, .int x4), (5, .int x5), (6, .int x6)]) hx hb dX8_feed_75 hl (by decide) rfl (fun ls hl => ?_)
  exact w_X8_feed_L77 C hk23 h hA (lv_sub hl [2, 3, 4, 5, 6, 7, 8, 1, 0] rfl)
set_option maxHeartbeats 4000000 in
set_option maxRecDepth 100000 in
theorem w_X8_feed_23 {σ : SS} {x1 : Int32} {x2 : Int32} {x3 : Int32} {x4 : Int32} {x5 : Int32} {x6 : Int32} (C : Cx p l s m args meth c cX8_feed 9 wsX8_feed (some .int) RX8 g A) {k23 : SS → (Int32 × Int32 × Int32 × Int32 × Int32 × Int32) → Option (Int32 × SS)} (hk23 : ∀ (σ : SS) (x : Int32 × Int32 × Int32 × Int32 × Int32 × Int32), k23 σ x = some R → ∀ (H : Heap) (locs : List Loc) (ls : Array Slot), Aw g A s.heap (wM g σ) H locs → lv_has ls 9 [(0, .ref (g.2.1 0)), (1, .int x.1), (2, .int x.2.1), (3, .int x.2.2.1), (4, .int x.2.2.2.1), (5, .int x.2.2.2.2.1), (6, .int x.2.2.2.2.2)] → W p l e rmX8_feed s m args below meth c H locs 0 0 (MQ below (Qi g A (wM g R.2) R.1) args s 0 0 A) (F0 m 23 ls [])) (h : f_X8_feed_23 fu k23 σ x1 x2 x3 x4 x5 x6 = some R) {H : Heap} {locs : List Loc} {ls : Array Slot} (hA : Aw g A s.heap (wM g σ) H locs) (hl : lv_has ls 9 [(0, .ref (g.2.1 0)), (1, .int x1), (2, .int x2), (3, .int x3), (4, .int x4), (5, .int x5), (6, .int x6)]) : W p l e rmX8_feed s m args below meth c H locs 0 0 (MQ below (Qi g A (wM g R.2) R.1) args s 0 0 A) (F0 m 23 ls []) := by
  have hx := C.1.1
  have hb := C.1.2.1
  unfold f_X8_feed_23 at h
  refine lv_iload hx hb dX8_feed_23 (lv_at hl 6 rfl) ?_
  refine lv_iconst (v := 5) hx hb dX8_feed_25 (by decide) ?_
  refine lv_icmp_ge (tgt := 119) hx hb dX8_feed_26 (by decide) (fun c1 => ?_) (fun c1 => ?_)
  · replace h := (if_pos c1).symm.trans h
    refine lv_aload_n hx hb dX8_feed_119 rfl (lv_at hl 0 rfl) ?_
    refine Mg_X8_taped (v := (σ.1 7)) C hA rfl iX8_feed_X8 (by decide +kernel) dX8_feed_120 ?_
    obtain rfl := Option.some.inj h
    exact r_iret C hA dX8_feed_123
  · replace h := (if_neg c1).symm.trans h
    refine lv_iload hx hb dX8_feed_29 (lv_at hl 6 rfl) ?_
    refine lv_if_ne (tgt := 38) hx hb dX8_feed_31 (by decide) (fun c2 => ?_) (fun c2 => ?_)
    · replace h := (if_neg c2).symm.trans h
      refine lv_iload hx hb dX8_feed_38 (lv_at hl 6 rfl) ?_
      refine lv_iconst (v := 1) hx hb dX8_feed_40 (by decide) ?_
      refine lv_icmp_ne (tgt := 48) hx hb dX8_feed_41 (by decide) (fun c3 => ?_) (fun c3 => ?_)
      · replace h := (if_neg c3).symm.trans h
        refine lv_iload hx hb dX8_feed_48 (lv_at hl 6 rfl) ?_
        refine lv_iconst (v := 2) hx hb dX8_feed_50 (by decide) ?_
        refine lv_icmp_ne (tgt := 58) hx hb dX8_feed_51 (by decide) (fun c4 => ?_) (fun c4 => ?_)
        · replace h := (if_neg c4).symm.trans h
          refine lv_iload hx hb dX8_feed_58 (lv_at hl 6 rfl) ?_
          refine lv_iconst (v := 3) hx hb dX8_feed_60 (by decide) ?_
          refine lv_icmp_ne (tgt := 69) hx hb dX8_feed_61 (by decide) (fun c5 => ?_) (fun c5 => ?_)
          · replace h := (if_neg c5).symm.trans h
            refine lv_iload hx hb dX8_feed_69 (lv_at hl 5 rfl) ?_
            exact w_X8_feed_71 C hk23 h hA (lv_sub hl [0, 1, 2, 3, 4, 5, 6] rfl)
          · replace h := (if_pos c5).symm.trans h
            refine lv_iload hx hb dX8_feed_64 (lv_at hl 4 rfl) ?_
            refine lv_goto (tgt := 71) hx hb dX8_feed_66 (by decide) ?_
            exact w_X8_feed_71 C hk23 h hA (lv_sub hl [0, 1, 2, 3, 4, 5, 6] rfl)
        · replace h := (if_pos c4).symm.trans h
          refine lv_iload_n hx hb dX8_feed_54 rfl (lv_at hl 3 rfl) ?_
          refine lv_goto (tgt := 71) hx hb dX8_feed_55 (by decide) ?_
          exact w_X8_feed_71 C hk23 h hA (lv_sub hl [0, 1, 2, 3, 4, 5, 6] rfl)
      · replace h := (if_pos c3).symm.trans h
        refine lv_iload_n hx hb dX8_feed_44 rfl (lv_at hl 2 rfl) ?_
        refine lv_goto (tgt := 71) hx hb dX8_feed_45 (by decide) ?_
        exact w_X8_feed_71 C hk23 h hA (lv_sub hl [0, 1, 2, 3, 4, 5, 6] rfl)
    · replace h := (if_pos c2).symm.trans h
      refine lv_iload_n hx hb dX8_feed_34 rfl (lv_at hl 1 rfl) ?_
      refine lv_goto (tgt := 71) hx hb dX8_feed_35 (by decide) ?_
      exact w_X8_feed_71 C hk23 h hA (lv_sub hl [0, 1, 2, 3, 4, 5, 6] rfl)
set_option maxHeartbeats 4000000 in
theorem w_X8_feed_L23 {σ : SS} {x : Int32 × Int32 × Int32 × Int32 × Int32 × Int32} (C : Cx p l s m args meth c cX8_feed 9 wsX8_feed (some .int) RX8 g A) (h : f_X8_feed_L23 fu σ x = some R) {H : Heap} {locs : List Loc} {ls : Array Slot} (hA : Aw g A s.heap (wM g σ) H locs) (hl : lv_has ls 9 [(0, .ref (g.2.1 0)), (1, .int x.1), (2, .int x.2.1), (3, .int x.2.2.1), (4, .int x.2.2.2.1), (5, .int x.2.2.2.2.1), (6, .int x.2.2.2.2.2)]) : W p l e rmX8_feed s m args below meth c H locs 0 0 (MQ below (Qi g A (wM g R.2) R.1) args s 0 0 A) (F0 m 23 ls []) := by
  refine loopW (P := fun σ x => ∀ (H : Heap) (locs : List Loc) (ls : Array Slot), Aw g A s.heap (wM g σ) H locs → lv_has ls 9 [(0, .ref (g.2.1 0)), (1, .int x.1), (2, .int x.2.1), (3, .int x.2.2.1), (4, .int x.2.2.2.1), (5, .int x.2.2.2.2.1), (6, .int x.2.2.2.2.2)] → W p l e rmX8_feed s m args below meth c H locs 0 0 (MQ below (Qi g A (wM g R.2) R.1) args s 0 0 A) (F0 m 23 ls [])) (fun k hk σ x h9 H locs ls hA9 hl9 => ?_) fu σ x h H locs ls hA hl
  exact w_X8_feed_23 C hk h9 hA9 hl9
set_option maxHeartbeats 4000000 in
set_option maxRecDepth 100000 in
theorem w_X8_feed_0 {σ : SS} {x1 : Int32} {x2 : Int32} {x3 : Int32} {x4 : Int32} {x5 : Int32} (C : Cx p l s m args meth c cX8_feed 9 wsX8_feed (some .int) RX8 g A) (h : f_X8_feed fu σ x1 x2 x3 x4 x5 = some R) {H : Heap} {locs : List Loc} {ls : Array Slot} (hA : Aw g A s.heap (wM g σ) H locs) (hl : lv_has ls 9 [(0, .ref (g.2.1 0)), (1, .int x1), (2, .int x2), (3, .int x3), (4, .int x4), (5, .int x5)]) : W p l e rmX8_feed s m args below meth c H locs 0 0 (MQ below (Qi g A (wM g R.2) R.1) args s 0 0 A) (F0 m 0 ls []) := by
  have hx := C.1.1
  have hb := C.1.2.1
  unfold f_X8_feed at h
  refine lv_aload_n hx hb dX8_feed_0 rfl (lv_at hl 0 rfl) ?_
  refine lv_iconst (v := 0) hx hb dX8_feed_1 (by decide) ?_
  refine Mp_X8_thrown C hA iX8_feed_X8 (by decide +kernel) dX8_feed_2 (fun H locs hA => ?_)
  refine lv_aload_n hx hb dX8_feed_5 rfl (lv_at hl 0 rfl) ?_
  refine Mg_X8_taped (v := (σ.1 7)) C hA rfl iX8_feed_X8 (by decide +kernel) dX8_feed_6 ?_
  refine lv_bipush (v := 20) hx hb dX8_feed_9 (by decide) ?_
  refine lv_iadd hx hb dX8_feed_11 ?_
  refine lv_sipush (v := 200) hx hb dX8_feed_12 (by decide) ?_
  refine lv_icmp_le (tgt := 20) hx hb dX8_feed_15 (by decide) (fun c1 => ?_) (fun c1 => ?_)
  · replace h := (if_pos c1).symm.trans h
    refine lv_iconst (v := 0) hx hb dX8_feed_20 (by decide) ?_
    refine lv_istore (lv' := [(6, .int (0 : Int32)), (0, .ref (g.2.1 0)), (1, .int x1), (2, .int x2), (3, .int x3), (4, .int x4), (5, .int x5)]) hx hb dX8_feed_21 hl (by decide) rfl (fun ls hl => ?_)
    exact w_X8_feed_L23 C h hA (lv_sub hl [1, 2, 3, 4, 5, 6, 0] rfl)
  · replace h := (if_neg c1).symm.trans h
    refine lv_iconst (v := (-1)) hx hb dX8_feed_18 (by decide) ?_
    obtain rfl := Option.some.inj h
    exact r_iret C hA dX8_feed_19
end
set_option maxRecDepth 100000 in
theorem k_X8_feed {l : Launch} {g : Gm} {fu : Nat} {σ : SS} {x1 : Int32} {x2 : Int32} {x3 : Int32} {x4 : Int32} {x5 : Int32} {R : Int32 × SS} (hlt : l.stackTraces = false) (h : f_X8_feed fu σ x1 x2 x3 x4 x5 = some R) (sz : Nat) : Met l yX8_feed wsX8_feed rmX8_feed (Pw g (wM g σ) [.ref (g.2.1 0), .int x1, .int x2, .int x3, .int x4, .int x5] sz) (Qi g (va_A (wM g σ) sz) (wM g R.2) R.1) 0 0 (va_A (wM g σ) sz) :=
  ofM (own := RX8) hlt (by decide) rfl rfl (Nat.le_of_ble_eq_true rfl) (fun p e s m below meth c hsz C hA ls hl => w_X8_feed_0 C h hA hl)
abbrev rmX8_byteAt : Room := { frames := 0, cells := 0, slots := 0, locals := 0 }
theorem iX8_byteAt_X8 : ∀ x ∈ wsX80, x ∈ wsX8_byteAt := by decide +kernel
theorem nd_X8_byteAt : yX8_byteAt.cls = RX8 ∧ yX8_byteAt.cls ≠ "java/lang/invoke/MethodHandle" ∧ yX8_byteAt.cls ≠ "java/lang/invoke/VarHandle" ∧ (parseMethodDescriptor yX8_byteAt.desc).map (fun d => d.parameters.length) = some 1 := by decide +kernel
def f_X8_byteAt (fu : Nat) (σ : SS) (x1 : Int32) : Option (Int32) :=
  (if (σ.1 8) ≤ x1 then some (0 : Int32) else if inB x1 200 then some ((σ.2.1 6 (x1).toNatClampNeg) &&& (255 : Int32)) else none)
section
variable {p : Program} {l : Launch} {e : Env} {s : State} {m : MethodId} {args : Array Value} {below : List Frame} {meth : Method} {c : Code} {g : Gm} {A : Nat → Prop} {fu : Nat} {R : Int32}
set_option maxHeartbeats 4000000 in
set_option maxRecDepth 100000 in
theorem w_X8_byteAt_0 {σ : SS} {x1 : Int32} (C : Cx p l s m args meth c cX8_byteAt 2 wsX8_byteAt (some .int) RX8 g A) (h : f_X8_byteAt fu σ x1 = some R) {H : Heap} {locs : List Loc} {ls : Array Slot} (hA : Aw g A s.heap (wM g σ) H locs) (hl : lv_has ls 2 [(0, .ref (g.2.1 0)), (1, .int x1)]) : W p l e rmX8_byteAt s m args below meth c H locs 0 0 (MQ below (Qi g A (wM g σ) R) args s 0 0 A) (F0 m 0 ls []) := by
  have hx := C.1.1
  have hb := C.1.2.1
  unfold f_X8_byteAt at h
  refine lv_iload_n hx hb dX8_byteAt_0 rfl (lv_at hl 1 rfl) ?_
  refine lv_aload_n hx hb dX8_byteAt_1 rfl (lv_at hl 0 rfl) ?_
  refine Mg_X8_size (v := (σ.1 8)) C hA rfl iX8_byteAt_X8 (by decide +kernel) dX8_byteAt_2 ?_
  refine lv_icmp_ge (tgt := 21) hx hb dX8_byteAt_5 (by decide) (fun c1 => ?_) (fun c1 => ?_)
  · replace h := (if_pos c1).symm.trans h
    refine lv_iconst (v := 0) hx hb dX8_byteAt_21 (by decide) ?_
    obtain rfl := Option.some.inj h
    exact r_iret C hA dX8_byteAt_22
  · replace h := (if_neg c1).symm.trans h
    refine lv_aload_n hx hb dX8_byteAt_8 rfl (lv_at hl 0 rfl) ?_
    refine Mg_X8_tape C hA iX8_byteAt_X8 (by decide +kernel) dX8_byteAt_9 ?_
    refine lv_iload_n hx hb dX8_byteAt_12 rfl (lv_at hl 1 rfl) ?_
    obtain ⟨g2, h⟩ := gd h
    refine Mld_6 (v := (σ.2.1 6 (x1).toNatClampNeg)) C hA rfl g2 dX8_byteAt_13 ?_
    refine lv_sipush (v := 255) hx hb dX8_byteAt_14 (by decide) ?_
    refine lv_iand hx hb dX8_byteAt_17 ?_
    refine lv_goto (tgt := 22) hx hb dX8_byteAt_18 (by decide) ?_
    obtain rfl := Option.some.inj h
    exact r_iret C hA dX8_byteAt_22
end
set_option maxRecDepth 100000 in
theorem k_X8_byteAt {l : Launch} {g : Gm} {fu : Nat} {σ : SS} {x1 : Int32} {R : Int32} (hlt : l.stackTraces = false) (h : f_X8_byteAt fu σ x1 = some R) (sz : Nat) : Met l yX8_byteAt wsX8_byteAt rmX8_byteAt (Pw g (wM g σ) [.ref (g.2.1 0), .int x1] sz) (Qi g (va_A (wM g σ) sz) (wM g σ) R) 0 0 (va_A (wM g σ) sz) :=
  ofM (own := RX8) hlt (by decide) rfl rfl (Nat.le_of_ble_eq_true rfl) (fun p e s m below meth c hsz C hA ls hl => w_X8_byteAt_0 C h hA hl)
abbrev rmX8_blanks : Room := { frames := 1, cells := 0, slots := 0, locals := 21 }
theorem iX8_blanks_X8 : ∀ x ∈ wsX80, x ∈ wsX8_blanks := by decide +kernel
theorem nd_X8_blanks : yX8_blanks.cls = RX8 ∧ yX8_blanks.cls ≠ "java/lang/invoke/MethodHandle" ∧ yX8_blanks.cls ≠ "java/lang/invoke/VarHandle" ∧ (parseMethodDescriptor yX8_blanks.desc).map (fun d => d.parameters.length) = some 0 := by decide +kernel
def f_X8_blanks_0 (fu : Nat) (k0 : SS → Unit → Option (Unit × SS)) (σ : SS) : Option (Unit × SS) :=
  (if (σ.1 8) ≤ (σ.1 9) then some ((), σ) else bnd1 (f_X8_byteAt fu σ (σ.1 9)) (fun r2 => (if r2 = (32 : Int32) then k0 (sI σ 9 ((σ.1 9) + (1 : Int32))) () else some ((), σ))))
def f_X8_blanks_L0 (fu : Nat) : SS → Unit → Option (Unit × SS) := loopN (fun k0 σ x => f_X8_blanks_0 fu k0 σ ) fu
def f_X8_blanks (fu : Nat) (σ : SS) : Option (Unit × SS) := f_X8_blanks_L0 fu σ ()
section
variable {p : Program} {l : Launch} {e : Env} {s : State} {m : MethodId} {args : Array Value} {below : List Frame} {meth : Method} {c : Code} {g : Gm} {A : Nat → Prop} {fu : Nat} {R : Unit × SS}
set_option maxHeartbeats 4000000 in
set_option maxRecDepth 100000 in
theorem w_X8_blanks_0 {σ : SS} (C : Cx p l s m args meth c cX8_blanks 1 wsX8_blanks none RX8 g A) {k0 : SS → Unit → Option (Unit × SS)} (hk0 : ∀ (σ : SS) (x : Unit), k0 σ x = some R → ∀ (H : Heap) (locs : List Loc) (ls : Array Slot), Aw g A s.heap (wM g σ) H locs → lv_has ls 1 [(0, .ref (g.2.1 0))] → W p l e rmX8_blanks s m args below meth c H locs 0 0 (MQ below (Qv g A (wM g R.2) R.1) args s 0 0 A) (F0 m 0 ls [])) (h : f_X8_blanks_0 fu k0 σ = some R) {H : Heap} {locs : List Loc} {ls : Array Slot} (hA : Aw g A s.heap (wM g σ) H locs) (hl : lv_has ls 1 [(0, .ref (g.2.1 0))]) : W p l e rmX8_blanks s m args below meth c H locs 0 0 (MQ below (Qv g A (wM g R.2) R.1) args s 0 0 A) (F0 m 0 ls []) := by
  have hx := C.1.1
  have hb := C.1.2.1
  unfold f_X8_blanks_0 at h
  refine lv_aload_n hx hb dX8_blanks_0 rfl (lv_at hl 0 rfl) ?_
  refine Mg_X8_at (v := (σ.1 9)) C hA rfl iX8_blanks_X8 (by decide +kernel) dX8_blanks_1 ?_
  refine lv_aload_n hx hb dX8_blanks_4 rfl (lv_at hl 0 rfl) ?_
  refine Mg_X8_size (v := (σ.1 8)) C hA rfl iX8_blanks_X8 (by decide +kernel) dX8_blanks_5 ?_
  refine lv_icmp_ge (tgt := 37) hx hb dX8_blanks_8 (by decide) (fun c1 => ?_) (fun c1 => ?_)
  · replace h := (if_pos c1).symm.trans h
    obtain rfl := Option.some.inj h
    exact r_vret C hA dX8_blanks_37
  · replace h := (if_neg c1).symm.trans h
    refine lv_aload_n hx hb dX8_blanks_11 rfl (lv_at hl 0 rfl) ?_
    refine lv_aload_n hx hb dX8_blanks_12 rfl (lv_at hl 0 rfl) ?_
    refine Mg_X8_at (v := (σ.1 9)) C hA rfl iX8_blanks_X8 (by decide +kernel) dX8_blanks_13 ?_
    obtain ⟨r2, hc3, h⟩ := bd1 h
    refine r_callVi (r := r2) (w1 := wM g σ) (As := [.int (σ.1 9)]) (rest := []) C hA hl.1 (k_X8_byteAt C.2.2.2.2.2.2 hc3) (cwV 1 C.1.2.2.2.2 gX8_blanks_X8_byteAt rfl rfl rfl nd_X8_byteAt ⟨Nat.le_of_ble_eq_true rfl, Nat.le_of_ble_eq_true rfl⟩) 0 rfl rfl rfl rfl (Nat.le_of_ble_eq_true rfl) dX8_blanks_16 ⟨Nat.le_of_ble_eq_true rfl, Nat.le_of_ble_eq_true rfl⟩ (fun H locs hA => ?_)
    refine lv_bipush (v := 32) hx hb dX8_blanks_19 (by decide) ?_
    refine lv_icmp_ne (tgt := 37) hx hb dX8_blanks_21 (by decide) (fun c4 => ?_) (fun c4 => ?_)
    · replace h := (if_neg c4).symm.trans h
      obtain rfl := Option.some.inj h
      exact r_vret C hA dX8_blanks_37
    · replace h := (if_pos c4).symm.trans h
      refine lv_aload_n hx hb dX8_blanks_24 rfl (lv_at hl 0 rfl) ?_
      refine lv_dup hx hb dX8_blanks_25 rfl ?_
      refine Mg_X8_at (v := (σ.1 9)) C hA rfl iX8_blanks_X8 (by decide +kernel) dX8_blanks_26 ?_
      refine lv_iconst (v := 1) hx hb dX8_blanks_29 (by decide) ?_
      refine lv_iadd hx hb dX8_blanks_30 ?_
      refine Mp_X8_at C hA iX8_blanks_X8 (by decide +kernel) dX8_blanks_31 (fun H locs hA => ?_)
      refine lv_goto (tgt := 0) hx hb dX8_blanks_34 (by decide) ?_
      exact hk0 _ _ h _ _ _ hA (lv_sub hl [0] rfl)
set_option maxHeartbeats 4000000 in
theorem w_X8_blanks_L0 {σ : SS} {x : Unit} (C : Cx p l s m args meth c cX8_blanks 1 wsX8_blanks none RX8 g A) (h : f_X8_blanks_L0 fu σ x = some R) {H : Heap} {locs : List Loc} {ls : Array Slot} (hA : Aw g A s.heap (wM g σ) H locs) (hl : lv_has ls 1 [(0, .ref (g.2.1 0))]) : W p l e rmX8_blanks s m args below meth c H locs 0 0 (MQ below (Qv g A (wM g R.2) R.1) args s 0 0 A) (F0 m 0 ls []) := by
  refine loopW (P := fun σ x => ∀ (H : Heap) (locs : List Loc) (ls : Array Slot), Aw g A s.heap (wM g σ) H locs → lv_has ls 1 [(0, .ref (g.2.1 0))] → W p l e rmX8_blanks s m args below meth c H locs 0 0 (MQ below (Qv g A (wM g R.2) R.1) args s 0 0 A) (F0 m 0 ls [])) (fun k hk σ x h9 H locs ls hA9 hl9 => ?_) fu σ x h H locs ls hA hl
  exact w_X8_blanks_0 C hk h9 hA9 hl9
end
set_option maxRecDepth 100000 in
theorem k_X8_blanks {l : Launch} {g : Gm} {fu : Nat} {σ : SS} {R : Unit × SS} (hlt : l.stackTraces = false) (h : f_X8_blanks fu σ = some R) (sz : Nat) : Met l yX8_blanks wsX8_blanks rmX8_blanks (Pw g (wM g σ) [.ref (g.2.1 0)] sz) (Qv g (va_A (wM g σ) sz) (wM g R.2) R.1) 0 0 (va_A (wM g σ) sz) :=
  ofM (own := RX8) hlt (by decide) rfl rfl (Nat.le_of_ble_eq_true rfl) (fun p e s m below meth c hsz C hA ls hl => w_X8_blanks_L0 (x := ()) C h hA (lv_sub hl [0] rfl))
abbrev rmX8_isSmall : Room := { frames := 0, cells := 0, slots := 0, locals := 0 }
theorem nd_X8_isSmall : yX8_isSmall.cls ≠ "java/lang/invoke/MethodHandle" ∧ yX8_isSmall.cls ≠ "java/lang/invoke/VarHandle" ∧ (parseMethodDescriptor yX8_isSmall.desc).map (fun d => d.parameters.length) = some 1 := by decide +kernel
def f_X8_isSmall (fu : Nat) (σ : SS) (x0 : Int32) : Option (Int32) :=
  (if x0 < (97 : Int32) then some (0 : Int32) else (if (122 : Int32) < x0 then some (0 : Int32) else some (1 : Int32)))
section
variable {p : Program} {l : Launch} {e : Env} {s : State} {m : MethodId} {args : Array Value} {below : List Frame} {meth : Method} {c : Code} {g : Gm} {A : Nat → Prop} {fu : Nat} {R : Int32}
set_option maxHeartbeats 4000000 in
set_option maxRecDepth 100000 in
theorem w_X8_isSmall_0 {σ : SS} {x0 : Int32} (C : Cx p l s m args meth c cX8_isSmall 1 wsX8_isSmall (some .boolean) RX8 g A) (h : f_X8_isSmall fu σ x0 = some R) {H : Heap} {locs : List Loc} {ls : Array Slot} (hA : Aw g A s.heap (wM g σ) H locs) (hl : lv_has ls 1 [(0, .int x0)]) : W p l e rmX8_isSmall s m args below meth c H locs 0 0 (MQ below (Qi g A (wM g σ) R) args s 0 0 A) (F0 m 0 ls []) := by
  have hx := C.1.1
  have hb := C.1.2.1
  unfold f_X8_isSmall at h
  refine lv_iload_n hx hb dX8_isSmall_0 rfl (lv_at hl 0 rfl) ?_
  refine lv_bipush (v := 97) hx hb dX8_isSmall_1 (by decide) ?_
  refine lv_icmp_lt (tgt := 16) hx hb dX8_isSmall_3 (by decide) (fun c1 => ?_) (fun c1 => ?_)
  · replace h := (if_pos c1).symm.trans h
    refine lv_iconst (v := 0) hx hb dX8_isSmall_16 (by decide) ?_
    obtain rfl := Option.some.inj h
    exact r_zret (v := (0 : Int32)) C hA (zb (Or.inl rfl)) dX8_isSmall_17
  · replace h := (if_neg c1).symm.trans h
    refine lv_iload_n hx hb dX8_isSmall_6 rfl (lv_at hl 0 rfl) ?_
    refine lv_bipush (v := 122) hx hb dX8_isSmall_7 (by decide) ?_
    refine lv_icmp_gt (tgt := 16) hx hb dX8_isSmall_9 (by decide) (fun c2 => ?_) (fun c2 => ?_)
    · replace h := (if_pos c2).symm.trans h
      refine lv_iconst (v := 0) hx hb dX8_isSmall_16 (by decide) ?_
      obtain rfl := Option.some.inj h
      exact r_zret (v := (0 : Int32)) C hA (zb (Or.inl rfl)) dX8_isSmall_17
    · replace h := (if_neg c2).symm.trans h
      refine lv_iconst (v := 1) hx hb dX8_isSmall_12 (by decide) ?_
      refine lv_goto (tgt := 17) hx hb dX8_isSmall_13 (by decide) ?_
      obtain rfl := Option.some.inj h
      exact r_zret (v := (1 : Int32)) C hA (zb (Or.inr rfl)) dX8_isSmall_17
end
set_option maxRecDepth 100000 in
theorem k_X8_isSmall {l : Launch} {g : Gm} {fu : Nat} {σ : SS} {x0 : Int32} {R : Int32} (hlt : l.stackTraces = false) (h : f_X8_isSmall fu σ x0 = some R) (sz : Nat) : Met l yX8_isSmall wsX8_isSmall rmX8_isSmall (Pw g (wM g σ) [.int x0] sz) (Qi g (va_A (wM g σ) sz) (wM g σ) R) 0 0 (va_A (wM g σ) sz) :=
  ofM (own := RX8) hlt (by decide) rfl rfl (Nat.le_of_ble_eq_true rfl) (fun p e s m below meth c hsz C hA ls hl => w_X8_isSmall_0 C h hA hl)
abbrev rmX8_isDigit : Room := { frames := 0, cells := 0, slots := 0, locals := 0 }
theorem nd_X8_isDigit : yX8_isDigit.cls ≠ "java/lang/invoke/MethodHandle" ∧ yX8_isDigit.cls ≠ "java/lang/invoke/VarHandle" ∧ (parseMethodDescriptor yX8_isDigit.desc).map (fun d => d.parameters.length) = some 1 := by decide +kernel
def f_X8_isDigit (fu : Nat) (σ : SS) (x0 : Int32) : Option (Int32) :=
  (if x0 < (48 : Int32) then some (0 : Int32) else (if (57 : Int32) < x0 then some (0 : Int32) else some (1 : Int32)))
section
variable {p : Program} {l : Launch} {e : Env} {s : State} {m : MethodId} {args : Array Value} {below : List Frame} {meth : Method} {c : Code} {g : Gm} {A : Nat → Prop} {fu : Nat} {R : Int32}
set_option maxHeartbeats 4000000 in
set_option maxRecDepth 100000 in
theorem w_X8_isDigit_0 {σ : SS} {x0 : Int32} (C : Cx p l s m args meth c cX8_isDigit 1 wsX8_isDigit (some .boolean) RX8 g A) (h : f_X8_isDigit fu σ x0 = some R) {H : Heap} {locs : List Loc} {ls : Array Slot} (hA : Aw g A s.heap (wM g σ) H locs) (hl : lv_has ls 1 [(0, .int x0)]) : W p l e rmX8_isDigit s m args below meth c H locs 0 0 (MQ below (Qi g A (wM g σ) R) args s 0 0 A) (F0 m 0 ls []) := by
  have hx := C.1.1
  have hb := C.1.2.1
  unfold f_X8_isDigit at h
  refine lv_iload_n hx hb dX8_isDigit_0 rfl (lv_at hl 0 rfl) ?_
  refine lv_bipush (v := 48) hx hb dX8_isDigit_1 (by decide) ?_
  refine lv_icmp_lt (tgt := 16) hx hb dX8_isDigit_3 (by decide) (fun c1 => ?_) (fun c1 => ?_)
  · replace h := (if_pos c1).symm.trans h
    refine lv_iconst (v := 0) hx hb dX8_isDigit_16 (by decide) ?_
    obtain rfl := Option.some.inj h
    exact r_zret (v := (0 : Int32)) C hA (zb (Or.inl rfl)) dX8_isDigit_17
  · replace h := (if_neg c1).symm.trans h
    refine lv_iload_n hx hb dX8_isDigit_6 rfl (lv_at hl 0 rfl) ?_
    refine lv_bipush (v := 57) hx hb dX8_isDigit_7 (by decide) ?_
    refine lv_icmp_gt (tgt := 16) hx hb dX8_isDigit_9 (by decide) (fun c2 => ?_) (fun c2 => ?_)
    · replace h := (if_pos c2).symm.trans h
      refine lv_iconst (v := 0) hx hb dX8_isDigit_16 (by decide) ?_
      obtain rfl := Option.some.inj h
      exact r_zret (v := (0 : Int32)) C hA (zb (Or.inl rfl)) dX8_isDigit_17
    · replace h := (if_neg c2).symm.trans h
      refine lv_iconst (v := 1) hx hb dX8_isDigit_12 (by decide) ?_
      refine lv_goto (tgt := 17) hx hb dX8_isDigit_13 (by decide) ?_
      obtain rfl := Option.some.inj h
      exact r_zret (v := (1 : Int32)) C hA (zb (Or.inr rfl)) dX8_isDigit_17
end
set_option maxRecDepth 100000 in
theorem k_X8_isDigit {l : Launch} {g : Gm} {fu : Nat} {σ : SS} {x0 : Int32} {R : Int32} (hlt : l.stackTraces = false) (h : f_X8_isDigit fu σ x0 = some R) (sz : Nat) : Met l yX8_isDigit wsX8_isDigit rmX8_isDigit (Pw g (wM g σ) [.int x0] sz) (Qi g (va_A (wM g σ) sz) (wM g σ) R) 0 0 (va_A (wM g σ) sz) :=
  ofM (own := RX8) hlt (by decide) rfl rfl (Nat.le_of_ble_eq_true rfl) (fun p e s m below meth c hsz C hA ls hl => w_X8_isDigit_0 C h hA hl)
abbrev rmX8_wrong : Room := { frames := 0, cells := 0, slots := 0, locals := 0 }
theorem iX8_wrong_X8 : ∀ x ∈ wsX80, x ∈ wsX8_wrong := by decide +kernel
theorem nd_X8_wrong : yX8_wrong.cls = RX8 ∧ yX8_wrong.cls ≠ "java/lang/invoke/MethodHandle" ∧ yX8_wrong.cls ≠ "java/lang/invoke/VarHandle" ∧ (parseMethodDescriptor yX8_wrong.desc).map (fun d => d.parameters.length) = some 2 := by decide +kernel
def f_X8_wrong (fu : Nat) (σ : SS) (x1 : Int32) (x2 : Int32) : Option (Unit × SS) :=
  (if (σ.1 10) ≤ 0 then some ((), (sI (sI σ 10 x1) 11 x2)) else some ((), σ))
section
variable {p : Program} {l : Launch} {e : Env} {s : State} {m : MethodId} {args : Array Value} {below : List Frame} {meth : Method} {c : Code} {g : Gm} {A : Nat → Prop} {fu : Nat} {R : Unit × SS}
set_option maxHeartbeats 4000000 in
set_option maxRecDepth 100000 in
theorem w_X8_wrong_0 {σ : SS} {x1 : Int32} {x2 : Int32} (C : Cx p l s m args meth c cX8_wrong 3 wsX8_wrong none RX8 g A) (h : f_X8_wrong fu σ x1 x2 = some R) {H : Heap} {locs : List Loc} {ls : Array Slot} (hA : Aw g A s.heap (wM g σ) H locs) (hl : lv_has ls 3 [(0, .ref (g.2.1 0)), (1, .int x1), (2, .int x2)]) : W p l e rmX8_wrong s m args below meth c H locs 0 0 (MQ below (Qv g A (wM g R.2) R.1) args s 0 0 A) (F0 m 0 ls []) := by
  have hx := C.1.1
  have hb := C.1.2.1
  unfold f_X8_wrong at h
  refine lv_aload_n hx hb dX8_wrong_0 rfl (lv_at hl 0 rfl) ?_
  refine Mg_X8_fault (v := (σ.1 10)) C hA rfl iX8_wrong_X8 (by decide +kernel) dX8_wrong_1 ?_
  refine lv_if_le (tgt := 8) hx hb dX8_wrong_4 (by decide) (fun c1 => ?_) (fun c1 => ?_)
  · replace h := (if_pos c1).symm.trans h
    refine lv_aload_n hx hb dX8_wrong_8 rfl (lv_at hl 0 rfl) ?_
    refine lv_iload_n hx hb dX8_wrong_9 rfl (lv_at hl 1 rfl) ?_
    refine Mp_X8_fault C hA iX8_wrong_X8 (by decide +kernel) dX8_wrong_10 (fun H locs hA => ?_)
    refine lv_aload_n hx hb dX8_wrong_13 rfl (lv_at hl 0 rfl) ?_
    refine lv_iload_n hx hb dX8_wrong_14 rfl (lv_at hl 2 rfl) ?_
    refine Mp_X8_place C hA iX8_wrong_X8 (by decide +kernel) dX8_wrong_15 (fun H locs hA => ?_)
    obtain rfl := Option.some.inj h
    exact r_vret C hA dX8_wrong_18
  · replace h := (if_neg c1).symm.trans h
    obtain rfl := Option.some.inj h
    exact r_vret C hA dX8_wrong_7
end
set_option maxRecDepth 100000 in
theorem k_X8_wrong {l : Launch} {g : Gm} {fu : Nat} {σ : SS} {x1 : Int32} {x2 : Int32} {R : Unit × SS} (hlt : l.stackTraces = false) (h : f_X8_wrong fu σ x1 x2 = some R) (sz : Nat) : Met l yX8_wrong wsX8_wrong rmX8_wrong (Pw g (wM g σ) [.ref (g.2.1 0), .int x1, .int x2] sz) (Qv g (va_A (wM g σ) sz) (wM g R.2) R.1) 0 0 (va_A (wM g σ) sz) :=
  ofM (own := RX8) hlt (by decide) rfl rfl (Nat.le_of_ble_eq_true rfl) (fun p e s m below meth c hsz C hA ls hl => w_X8_wrong_0 C h hA hl)
abbrev rmX8_sign : Room := { frames := 2, cells := 0, slots := 0, locals := 41 }
theorem iX8_sign_X8 : ∀ x ∈ wsX80, x ∈ wsX8_sign := by decide +kernel
theorem nd_X8_sign : yX8_sign.cls = RX8 ∧ yX8_sign.cls ≠ "java/lang/invoke/MethodHandle" ∧ yX8_sign.cls ≠ "java/lang/invoke/VarHandle" ∧ (parseMethodDescriptor yX8_sign.desc).map (fun d => d.parameters.length) = some 1 := by decide +kernel
def f_X8_sign_48 (fu : Nat) (σ : SS) : Option (Unit × SS) :=
  bnd (f_X8_wrong fu σ (1 : Int32) (σ.1 9)) (fun r1 t3 => some ((), t3))
def f_X8_sign (fu : Nat) (σ : SS) (x1 : Int32) : Option (Unit × SS) :=
  (if (σ.1 10) ≤ 0 then bnd (f_X8_blanks fu σ) (fun r2 t4 => (if (t4.1 8) ≤ (t4.1 9) then f_X8_sign_48 fu t4 else bnd1 (f_X8_byteAt fu t4 (t4.1 9)) (fun r6 => (if r6 = x1 then some ((), (sI t4 9 ((t4.1 9) + (1 : Int32)))) else f_X8_sign_48 fu t4)))) else some ((), σ))
section
variable {p : Program} {l : Launch} {e : Env} {s : State} {m : MethodId} {args : Array Value} {below : List Frame} {meth : Method} {c : Code} {g : Gm} {A : Nat → Prop} {fu : Nat} {R : Unit × SS}
set_option maxHeartbeats 4000000 in
set_option maxRecDepth 100000 in
theorem w_X8_sign_48 {σ : SS} (C : Cx p l s m args meth c cX8_sign 2 wsX8_sign none RX8 g A) (h : f_X8_sign_48 fu σ = some R) {H : Heap} {locs : List Loc} {ls : Array Slot} (hA : Aw g A s.heap (wM g σ) H locs) (hl : lv_has ls 2 [(0, .ref (g.2.1 0))]) : W p l e rmX8_sign s m args below meth c H locs 0 0 (MQ below (Qv g A (wM g R.2) R.1) args s 0 0 A) (F0 m 48 ls []) := by
  have hx := C.1.1
  have hb := C.1.2.1
  unfold f_X8_sign_48 at h
  refine lv_aload_n hx hb dX8_sign_48 rfl (lv_at hl 0 rfl) ?_
  refine lv_iconst (v := 1) hx hb dX8_sign_49 (by decide) ?_
  refine lv_aload_n hx hb dX8_sign_50 rfl (lv_at hl 0 rfl) ?_
  refine Mg_X8_at (v := (σ.1 9)) C hA rfl iX8_sign_X8 (by decide +kernel) dX8_sign_51 ?_
  obtain ⟨r1, t3, hc2, h⟩ := bd h
  refine r_callVv (r := r1) (w1 := wM g t3) (As := [.int (1 : Int32), .int (σ.1 9)]) (rest := []) C hA hl.1 (k_X8_wrong C.2.2.2.2.2.2 hc2) (cwV 2 C.1.2.2.2.2 gX8_sign_X8_wrong rfl rfl rfl nd_X8_wrong ⟨Nat.le_of_ble_eq_true rfl, Nat.le_of_ble_eq_true rfl⟩) 0 rfl rfl rfl rfl (Nat.le_of_ble_eq_true rfl) dX8_sign_54 ⟨Nat.le_of_ble_eq_true rfl, Nat.le_of_ble_eq_true rfl⟩ (fun H locs hA => ?_)
  obtain rfl := Option.some.inj h
  exact r_vret C hA dX8_sign_57
set_option maxHeartbeats 4000000 in
set_option maxRecDepth 100000 in
theorem w_X8_sign_0 {σ : SS} {x1 : Int32} (C : Cx p l s m args meth c cX8_sign 2 wsX8_sign none RX8 g A) (h : f_X8_sign fu σ x1 = some R) {H : Heap} {locs : List Loc} {ls : Array Slot} (hA : Aw g A s.heap (wM g σ) H locs) (hl : lv_has ls 2 [(0, .ref (g.2.1 0)), (1, .int x1)]) : W p l e rmX8_sign s m args below meth c H locs 0 0 (MQ below (Qv g A (wM g R.2) R.1) args s 0 0 A) (F0 m 0 ls []) := by
  have hx := C.1.1
  have hb := C.1.2.1
  unfold f_X8_sign at h
  refine lv_aload_n hx hb dX8_sign_0 rfl (lv_at hl 0 rfl) ?_
  refine Mg_X8_fault (v := (σ.1 10)) C hA rfl iX8_sign_X8 (by decide +kernel) dX8_sign_1 ?_
  refine lv_if_le (tgt := 8) hx hb dX8_sign_4 (by decide) (fun c1 => ?_) (fun c1 => ?_)
  · replace h := (if_pos c1).symm.trans h
    refine lv_aload_n hx hb dX8_sign_8 rfl (lv_at hl 0 rfl) ?_
    obtain ⟨r2, t4, hc3, h⟩ := bd h
    refine r_callVv (r := r2) (w1 := wM g t4) (As := []) (rest := []) C hA hl.1 (k_X8_blanks C.2.2.2.2.2.2 hc3) (cwV 0 C.1.2.2.2.2 gX8_sign_X8_blanks rfl rfl rfl nd_X8_blanks ⟨Nat.le_of_ble_eq_true rfl, Nat.le_of_ble_eq_true rfl⟩) 0 rfl rfl rfl rfl (Nat.le_of_ble_eq_true rfl) dX8_sign_9 ⟨Nat.le_of_ble_eq_true rfl, Nat.le_of_ble_eq_true rfl⟩ (fun H locs hA => ?_)
    refine lv_aload_n hx hb dX8_sign_12 rfl (lv_at hl 0 rfl) ?_
    refine Mg_X8_at (v := (t4.1 9)) C hA rfl iX8_sign_X8 (by decide +kernel) dX8_sign_13 ?_
    refine lv_aload_n hx hb dX8_sign_16 rfl (lv_at hl 0 rfl) ?_
    refine Mg_X8_size (v := (t4.1 8)) C hA rfl iX8_sign_X8 (by decide +kernel) dX8_sign_17 ?_
    refine lv_icmp_ge (tgt := 48) hx hb dX8_sign_20 (by decide) (fun c5 => ?_) (fun c5 => ?_)
    · replace h := (if_pos c5).symm.trans h
      exact w_X8_sign_48 C h hA (lv_sub hl [0] rfl)
    · replace h := (if_neg c5).symm.trans h
      refine lv_aload_n hx hb dX8_sign_23 rfl (lv_at hl 0 rfl) ?_
      refine lv_aload_n hx hb dX8_sign_24 rfl (lv_at hl 0 rfl) ?_
      refine Mg_X8_at (v := (t4.1 9)) C hA rfl iX8_sign_X8 (by decide +kernel) dX8_sign_25 ?_
      obtain ⟨r6, hc7, h⟩ := bd1 h
      refine r_callVi (r := r6) (w1 := wM g t4) (As := [.int (t4.1 9)]) (rest := []) C hA hl.1 (k_X8_byteAt C.2.2.2.2.2.2 hc7) (cwV 1 C.1.2.2.2.2 gX8_sign_X8_byteAt rfl rfl rfl nd_X8_byteAt ⟨Nat.le_of_ble_eq_true rfl, Nat.le_of_ble_eq_true rfl⟩) 0 rfl rfl rfl rfl (Nat.le_of_ble_eq_true rfl) dX8_sign_28 ⟨Nat.le_of_ble_eq_true rfl, Nat.le_of_ble_eq_true rfl⟩ (fun H locs hA => ?_)
      refine lv_iload_n hx hb dX8_sign_31 rfl (lv_at hl 1 rfl) ?_
      refine lv_icmp_ne (tgt := 48) hx hb dX8_sign_32 (by decide) (fun c8 => ?_) (fun c8 => ?_)
      · replace h := (if_neg c8).symm.trans h
        exact w_X8_sign_48 C h hA (lv_sub hl [0] rfl)
      · replace h := (if_pos c8).symm.trans h
        refine lv_aload_n hx hb dX8_sign_35 rfl (lv_at hl 0 rfl) ?_
        refine lv_dup hx hb dX8_sign_36 rfl ?_
        refine Mg_X8_at (v := (t4.1 9)) C hA rfl iX8_sign_X8 (by decide +kernel) dX8_sign_37 ?_
        refine lv_iconst (v := 1) hx hb dX8_sign_40 (by decide) ?_
        refine lv_iadd hx hb dX8_sign_41 ?_
        refine Mp_X8_at C hA iX8_sign_X8 (by decide +kernel) dX8_sign_42 (fun H locs hA => ?_)
        refine lv_goto (tgt := 57) hx hb dX8_sign_45 (by decide) ?_
        obtain rfl := Option.some.inj h
        exact r_vret C hA dX8_sign_57
  · replace h := (if_neg c1).symm.trans h
    obtain rfl := Option.some.inj h
    exact r_vret C hA dX8_sign_7
end
set_option maxRecDepth 100000 in
theorem k_X8_sign {l : Launch} {g : Gm} {fu : Nat} {σ : SS} {x1 : Int32} {R : Unit × SS} (hlt : l.stackTraces = false) (h : f_X8_sign fu σ x1 = some R) (sz : Nat) : Met l yX8_sign wsX8_sign rmX8_sign (Pw g (wM g σ) [.ref (g.2.1 0), .int x1] sz) (Qv g (va_A (wM g σ) sz) (wM g R.2) R.1) 0 0 (va_A (wM g σ) sz) :=
  ofM (own := RX8) hlt (by decide) rfl rfl (Nat.le_of_ble_eq_true rfl) (fun p e s m below meth c hsz C hA ls hl => w_X8_sign_0 C h hA hl)
abbrev rmX8_number : Room := { frames := 2, cells := 0, slots := 0, locals := 41 }
theorem iX8_number_X8 : ∀ x ∈ wsX80, x ∈ wsX8_number := by decide +kernel
theorem nd_X8_number : yX8_number.cls = RX8 ∧ yX8_number.cls ≠ "java/lang/invoke/MethodHandle" ∧ yX8_number.cls ≠ "java/lang/invoke/VarHandle" ∧ (parseMethodDescriptor yX8_number.desc).map (fun d => d.parameters.length) = some 1 := by decide +kernel
def f_X8_number_112 (fu : Nat) (σ : SS) (x2 : Int32) (x3 : Int32) : Option (Int32 × SS) :=
  bnd (f_X8_wrong fu σ (2 : Int32) x2) (fun r1 t3 => some (x3, t3))
def f_X8_number_86 (fu : Nat) (k45 : SS → (Int32 × Int32 × Int32) → Option (Int32 × SS)) (σ : SS) (x1 : Int32) (x2 : Int32) (y0 : Int32) : Option (Int32 × SS) :=
  k45 (sI σ 9 ((σ.1 9) + (1 : Int32))) (x1, x2, y0)
def f_X8_number_45 (fu : Nat) (k45 : SS → (Int32 × Int32 × Int32) → Option (Int32 × SS)) (σ : SS) (x1 : Int32) (x2 : Int32) (x3 : Int32) : Option (Int32 × SS) :=
  bnd1 (f_X8_byteAt fu σ (σ.1 9)) (fun r1 => bnd1 (f_X8_isDigit fu σ r1) (fun r3 => (if r3 = 0 then (if x3 < x1 then f_X8_number_112 fu σ x2 x3 else (if x3 ≤ (1000 : Int32) then some (x3, σ) else f_X8_number_112 fu σ x2 x3)) else (if x3 ≤ (10000 : Int32) then bnd1 (f_X8_byteAt fu σ (σ.1 9)) (fun r9 => f_X8_number_86 fu k45 σ x1 x2 ((((10 : Int32) * x3) + r9) - (48 : Int32))) else f_X8_number_86 fu k45 σ x1 x2 x3))))
def f_X8_number_L45 (fu : Nat) : SS → (Int32 × Int32 × Int32) → Option (Int32 × SS) := loopN (fun k45 σ x => f_X8_number_45 fu k45 σ x.1 x.2.1 x.2.2) fu
def f_X8_number (fu : Nat) (σ : SS) (x1 : Int32) : Option (Int32 × SS) :=
  (if (σ.1 10) ≤ 0 then bnd (f_X8_blanks fu σ) (fun r2 t4 => bnd1 (f_X8_byteAt fu t4 (t4.1 9)) (fun r5 => bnd1 (f_X8_isDigit fu t4 r5) (fun r7 => (if r7 = 0 then bnd (f_X8_wrong fu t4 (1 : Int32) (t4.1 9)) (fun r10 t12 => some ((0 : Int32), t12)) else f_X8_number_L45 fu t4 (x1, (t4.1 9), (0 : Int32)))))) else some ((0 : Int32), σ))
section
variable {p : Program} {l : Launch} {e : Env} {s : State} {m : MethodId} {args : Array Value} {below : List Frame} {meth : Method} {c : Code} {g : Gm} {A : Nat → Prop} {fu : Nat} {R : Int32 × SS}
set_option maxHeartbeats 4000000 in
set_option maxRecDepth 100000 in
theorem w_X8_number_112 {σ : SS} {x2 : Int32} {x3 : Int32} (C : Cx p l s m args meth c cX8_number 4 wsX8_number (some .int) RX8 g A) (h : f_X8_number_112 fu σ x2 x3 = some R) {H : Heap} {locs : List Loc} {ls : Array Slot} (hA : Aw g A s.heap (wM g σ) H locs) (hl : lv_has ls 4 [(0, .ref (g.2.1 0)), (2, .int x2), (3, .int x3)]) : W p l e rmX8_number s m args below meth c H locs 0 0 (MQ below (Qi g A (wM g R.2) R.1) args s 0 0 A) (F0 m 112 ls []) := by
  have hx := C.1.1
  have hb := C.1.2.1
  unfold f_X8_number_112 at h
  refine lv_aload_n hx hb dX8_number_112 rfl (lv_at hl 0 rfl) ?_
  refine lv_iconst (v := 2) hx hb dX8_number_113 (by decide) ?_
  refine lv_iload_n hx hb dX8_number_114 rfl (lv_at hl 1 rfl) ?_
  obtain ⟨r1, t3, hc2, h⟩ := bd h
  refine r_callVv (r := r1) (w1 := wM g t3) (As := [.int (2 : Int32), .int x2]) (rest := []) C hA hl.1 (k_X8_wrong C.2.2.2.2.2.2 hc2) (cwV 2 C.1.2.2.2.2 gX8_number_X8_wrong rfl rfl rfl nd_X8_wrong ⟨Nat.le_of_ble_eq_true rfl, Nat.le_of_ble_eq_true rfl⟩) 0 rfl rfl rfl rfl (Nat.le_of_ble_eq_true rfl) dX8_number_115 ⟨Nat.le_of_ble_eq_true rfl, Nat.le_of_ble_eq_true rfl⟩ (fun H locs hA => ?_)
  refine lv_iload_n hx hb dX8_number_118 rfl (lv_at hl 2 rfl) ?_
  obtain rfl := Option.some.inj h
  exact r_iret C hA dX8_number_119
set_option maxHeartbeats 4000000 in
set_option maxRecDepth 100000 in
theorem w_X8_number_86 {σ : SS} {x1 : Int32} {x2 : Int32} {y0 : Int32} (C : Cx p l s m args meth c cX8_number 4 wsX8_number (some .int) RX8 g A) {k45 : SS → (Int32 × Int32 × Int32) → Option (Int32 × SS)} (hk45 : ∀ (σ : SS) (x : Int32 × Int32 × Int32), k45 σ x = some R → ∀ (H : Heap) (locs : List Loc) (ls : Array Slot), Aw g A s.heap (wM g σ) H locs → lv_has ls 4 [(0, .ref (g.2.1 0)), (1, .int x.1), (2, .int x.2.1), (3, .int x.2.2)] → W p l e rmX8_number s m args below meth c H locs 0 0 (MQ below (Qi g A (wM g R.2) R.1) args s 0 0 A) (F0 m 45 ls [])) (h : f_X8_number_86 fu k45 σ x1 x2 y0 = some R) {H : Heap} {locs : List Loc} {ls : Array Slot} (hA : Aw g A s.heap (wM g σ) H locs) (hl : lv_has ls 4 [(0, .ref (g.2.1 0)), (1, .int x1), (2, .int x2)]) : W p l e rmX8_number s m args below meth c H locs 0 0 (MQ below (Qi g A (wM g R.2) R.1) args s 0 0 A) (F0 m 86 ls [.int y0]) := by
  have hx := C.1.1
  have hb := C.1.2.1
  unfold f_X8_number_86 at h
  refine lv_istore_n (lv' := [(3, .int y0), (0, .ref (g.2.1 0)), (1, .int x1), (2, .int x2)]) hx hb dX8_number_86 rfl hl (by decide) rfl (fun ls hl => ?_)
  refine lv_aload_n hx hb dX8_number_87 rfl (lv_at hl 1 rfl) ?_
  refine lv_dup hx hb dX8_number_88 rfl ?_
  refine Mg_X8_at (v := (σ.1 9)) C hA rfl iX8_number_X8 (by decide +kernel) dX8_number_89 ?_
  refine lv_iconst (v := 1) hx hb dX8_number_92 (by decide) ?_
  refine lv_iadd hx hb dX8_number_93 ?_
  refine Mp_X8_at C hA iX8_number_X8 (by decide +kernel) dX8_number_94 (fun H locs hA => ?_)
  refine lv_goto (tgt := 45) hx hb dX8_number_97 (by decide) ?_
  exact hk45 _ _ h _ _ _ hA (lv_sub hl [1, 2, 3, 0] rfl)
set_option maxHeartbeats 4000000 in
set_option maxRecDepth 100000 in
theorem w_X8_number_45 {σ : SS} {x1 : Int32} {x2 : Int32} {x3 : Int32} (C : Cx p l s m args meth c cX8_number 4 wsX8_number (some .int) RX8 g A) {k45 : SS → (Int32 × Int32 × Int32) → Option (Int32 × SS)} (hk45 : ∀ (σ : SS) (x : Int32 × Int32 × Int32), k45 σ x = some R → ∀ (H : Heap) (locs : List Loc) (ls : Array Slot), Aw g A s.heap (wM g σ) H locs → lv_has ls 4 [(0, .ref (g.2.1 0)), (1, .int x.1), (2, .int x.2.1), (3, .int x.2.2)] → W p l e rmX8_number s m args below meth c H locs 0 0 (MQ below (Qi g A (wM g R.2) R.1) args s 0 0 A) (F0 m 45 ls [])) (h : f_X8_number_45 fu k45 σ x1 x2 x3 = some R) {H : Heap} {locs : List Loc} {ls : Array Slot} (hA : Aw g A s.heap (wM g σ) H locs) (hl : lv_has ls 4 [(0, .ref (g.2.1 0)), (1, .int x1), (2, .int x2), (3, .int x3)]) : W p l e rmX8_number s m args below meth c H locs 0 0 (MQ below (Qi g A (wM g R.2) R.1) args s 0 0 A) (F0 m 45 ls []) := by
  have hx := C.1.1
  have hb := C.1.2.1
  unfold f_X8_number_45 at h
  refine lv_aload_n hx hb dX8_number_45 rfl (lv_at hl 0 rfl) ?_
  refine lv_aload_n hx hb dX8_number_46 rfl (lv_at hl 0 rfl) ?_
  refine Mg_X8_at (v := (σ.1 9)) C hA rfl iX8_number_X8 (by decide +kernel) dX8_number_47 ?_
  obtain ⟨r1, hc2, h⟩ := bd1 h
  refine r_callVi (r := r1) (w1 := wM g σ) (As := [.int (σ.1 9)]) (rest := []) C hA hl.1 (k_X8_byteAt C.2.2.2.2.2.2 hc2) (cwV 1 C.1.2.2.2.2 gX8_number_X8_byteAt rfl rfl rfl nd_X8_byteAt ⟨Nat.le_of_ble_eq_true rfl, Nat.le_of_ble_eq_true rfl⟩) 0 rfl rfl rfl rfl (Nat.le_of_ble_eq_true rfl) dX8_number_50 ⟨Nat.le_of_ble_eq_true rfl, Nat.le_of_ble_eq_true rfl⟩ (fun H locs hA => ?_)
  obtain ⟨r3, hc4, h⟩ := bd1 h
  refine r_callSi (r := r3) (w1 := wM g σ) (As := [.int r1]) (rest := []) C hA hl.1 (k_X8_isDigit (g := g) C.2.2.2.2.2.2 hc4) (va_cwS 1 C.1.2.2.2.2 gX8_number_X8_isDigit rfl rfl rfl nd_X8_isDigit ⟨Nat.le_of_ble_eq_true rfl, Nat.le_of_ble_eq_true rfl⟩) rfl rfl (Nat.le_of_ble_eq_true rfl) dX8_number_53 ⟨Nat.le_of_ble_eq_true rfl, Nat.le_of_ble_eq_true rfl⟩ (fun H locs hA => ?_)
  refine lv_if_eq (tgt := 100) hx hb dX8_number_56 (by decide) (fun c5 => ?_) (fun c5 => ?_)
  · replace h := (if_pos c5).symm.trans h
    refine lv_iload_n hx hb dX8_number_100 rfl (lv_at hl 3 rfl) ?_
    refine lv_iload_n hx hb dX8_number_101 rfl (lv_at hl 1 rfl) ?_
    refine lv_icmp_lt (tgt := 112) hx hb dX8_number_102 (by decide) (fun c6 => ?_) (fun c6 => ?_)
    · replace h := (if_pos c6).symm.trans h
      exact w_X8_number_112 C h hA (lv_sub hl [0, 2, 3] rfl)
    · replace h := (if_neg c6).symm.trans h
      refine lv_iload_n hx hb dX8_number_105 rfl (lv_at hl 3 rfl) ?_
      refine lv_sipush (v := 1000) hx hb dX8_number_106 (by decide) ?_
      refine lv_icmp_le (tgt := 118) hx hb dX8_number_109 (by decide) (fun c7 => ?_) (fun c7 => ?_)
      · replace h := (if_pos c7).symm.trans h
        refine lv_iload_n hx hb dX8_number_118 rfl (lv_at hl 3 rfl) ?_
        obtain rfl := Option.some.inj h
        exact r_iret C hA dX8_number_119
      · replace h := (if_neg c7).symm.trans h
        exact w_X8_number_112 C h hA (lv_sub hl [0, 2, 3] rfl)
  · replace h := (if_neg c5).symm.trans h
    refine lv_iload_n hx hb dX8_number_59 rfl (lv_at hl 3 rfl) ?_
    refine lv_sipush (v := 10000) hx hb dX8_number_60 (by decide) ?_
    refine lv_icmp_le (tgt := 70) hx hb dX8_number_63 (by decide) (fun c8 => ?_) (fun c8 => ?_)
    · replace h := (if_pos c8).symm.trans h
      refine lv_bipush (v := 10) hx hb dX8_number_70 (by decide) ?_
      refine lv_iload_n hx hb dX8_number_72 rfl (lv_at hl 3 rfl) ?_
      refine lv_imul hx hb dX8_number_73 ?_
      refine lv_aload_n hx hb dX8_number_74 rfl (lv_at hl 0 rfl) ?_
      refine lv_aload_n hx hb dX8_number_75 rfl (lv_at hl 0 rfl) ?_
      refine Mg_X8_at (v := (σ.1 9)) C hA rfl iX8_number_X8 (by decide +kernel) dX8_number_76 ?_
      obtain ⟨r9, hc10, h⟩ := bd1 h
      refine r_callVi (r := r9) (w1 := wM g σ) (As := [.int (σ.1 9)]) (rest := [.int ((10 : Int32) * x3)]) C hA hl.1 (k_X8_byteAt C.2.2.2.2.2.2 hc10) (cwV 1 C.1.2.2.2.2 gX8_number_X8_byteAt rfl rfl rfl nd_X8_byteAt ⟨Nat.le_of_ble_eq_true rfl, Nat.le_of_ble_eq_true rfl⟩) 0 rfl rfl rfl rfl (Nat.le_of_ble_eq_true rfl) dX8_number_79 ⟨Nat.le_of_ble_eq_true rfl, Nat.le_of_ble_eq_true rfl⟩ (fun H locs hA => ?_)
      refine lv_iadd hx hb dX8_number_82 ?_
      refine lv_bipush (v := 48) hx hb dX8_number_83 (by decide) ?_
      refine lv_isub hx hb dX8_number_85 ?_
      exact w_X8_number_86 C hk45 h hA (lv_sub hl [0, 1, 2] rfl)
    · replace h := (if_neg c8).symm.trans h
      refine lv_iload_n hx hb dX8_number_66 rfl (lv_at hl 3 rfl) ?_
      refine lv_goto (tgt := 86) hx hb dX8_number_67 (by decide) ?_
      exact w_X8_number_86 C hk45 h hA (lv_sub hl [0, 1, 2] rfl)
set_option maxHeartbeats 4000000 in
theorem w_X8_number_L45 {σ : SS} {x : Int32 × Int32 × Int32} (C : Cx p l s m args meth c cX8_number 4 wsX8_number (some .int) RX8 g A) (h : f_X8_number_L45 fu σ x = some R) {H : Heap} {locs : List Loc} {ls : Array Slot} (hA : Aw g A s.heap (wM g σ) H locs) (hl : lv_has ls 4 [(0, .ref (g.2.1 0)), (1, .int x.1), (2, .int x.2.1), (3, .int x.2.2)]) : W p l e rmX8_number s m args below meth c H locs 0 0 (MQ below (Qi g A (wM g R.2) R.1) args s 0 0 A) (F0 m 45 ls []) := by
  refine loopW (P := fun σ x => ∀ (H : Heap) (locs : List Loc) (ls : Array Slot), Aw g A s.heap (wM g σ) H locs → lv_has ls 4 [(0, .ref (g.2.1 0)), (1, .int x.1), (2, .int x.2.1), (3, .int x.2.2)] → W p l e rmX8_number s m args below meth c H locs 0 0 (MQ below (Qi g A (wM g R.2) R.1) args s 0 0 A) (F0 m 45 ls [])) (fun k hk σ x h9 H locs ls hA9 hl9 => ?_) fu σ x h H locs ls hA hl
  exact w_X8_number_45 C hk h9 hA9 hl9
set_option maxHeartbeats 4000000 in
set_option maxRecDepth 100000 in
theorem w_X8_number_0 {σ : SS} {x1 : Int32} (C : Cx p l s m args meth c cX8_number 4 wsX8_number (some .int) RX8 g A) (h : f_X8_number fu σ x1 = some R) {H : Heap} {locs : List Loc} {ls : Array Slot} (hA : Aw g A s.heap (wM g σ) H locs) (hl : lv_has ls 4 [(0, .ref (g.2.1 0)), (1, .int x1)]) : W p l e rmX8_number s m args below meth c H locs 0 0 (MQ below (Qi g A (wM g R.2) R.1) args s 0 0 A) (F0 m 0 ls []) := by
  have hx := C.1.1
  have hb := C.1.2.1
  unfold f_X8_number at h
  refine lv_aload_n hx hb dX8_number_0 rfl (lv_at hl 0 rfl) ?_
  refine Mg_X8_fault (v := (σ.1 10)) C hA rfl iX8_number_X8 (by decide +kernel) dX8_number_1 ?_
  refine lv_if_le (tgt := 9) hx hb dX8_number_4 (by decide) (fun c1 => ?_) (fun c1 => ?_)
  · replace h := (if_pos c1).symm.trans h
    refine lv_aload_n hx hb dX8_number_9 rfl (lv_at hl 0 rfl) ?_
    obtain ⟨r2, t4, hc3, h⟩ := bd h
    refine r_callVv (r := r2) (w1 := wM g t4) (As := []) (rest := []) C hA hl.1 (k_X8_blanks C.2.2.2.2.2.2 hc3) (cwV 0 C.1.2.2.2.2 gX8_number_X8_blanks rfl rfl rfl nd_X8_blanks ⟨Nat.le_of_ble_eq_true rfl, Nat.le_of_ble_eq_true rfl⟩) 0 rfl rfl rfl rfl (Nat.le_of_ble_eq_true rfl) dX8_number_10 ⟨Nat.le_of_ble_eq_true rfl, Nat.le_of_ble_eq_true rfl⟩ (fun H locs hA => ?_)
    refine lv_aload_n hx hb dX8_number_13 rfl (lv_at hl 0 rfl) ?_
    refine Mg_X8_at (v := (t4.1 9)) C hA rfl iX8_number_X8 (by decide +kernel) dX8_number_14 ?_
    refine lv_istore_n (lv' := [(2, .int (t4.1 9)), (0, .ref (g.2.1 0)), (1, .int x1)]) hx hb dX8_number_17 rfl hl (by decide) rfl (fun ls hl => ?_)
    refine lv_aload_n hx hb dX8_number_18 rfl (lv_at hl 1 rfl) ?_
    refine lv_aload_n hx hb dX8_number_19 rfl (lv_at hl 1 rfl) ?_
    refine Mg_X8_at (v := (t4.1 9)) C hA rfl iX8_number_X8 (by decide +kernel) dX8_number_20 ?_
    obtain ⟨r5, hc6, h⟩ := bd1 h
    refine r_callVi (r := r5) (w1 := wM g t4) (As := [.int (t4.1 9)]) (rest := []) C hA hl.1 (k_X8_byteAt C.2.2.2.2.2.2 hc6) (cwV 1 C.1.2.2.2.2 gX8_number_X8_byteAt rfl rfl rfl nd_X8_byteAt ⟨Nat.le_of_ble_eq_true rfl, Nat.le_of_ble_eq_true rfl⟩) 0 rfl rfl rfl rfl (Nat.le_of_ble_eq_true rfl) dX8_number_23 ⟨Nat.le_of_ble_eq_true rfl, Nat.le_of_ble_eq_true rfl⟩ (fun H locs hA => ?_)
    obtain ⟨r7, hc8, h⟩ := bd1 h
    refine r_callSi (r := r7) (w1 := wM g t4) (As := [.int r5]) (rest := []) C hA hl.1 (k_X8_isDigit (g := g) C.2.2.2.2.2.2 hc8) (va_cwS 1 C.1.2.2.2.2 gX8_number_X8_isDigit rfl rfl rfl nd_X8_isDigit ⟨Nat.le_of_ble_eq_true rfl, Nat.le_of_ble_eq_true rfl⟩) rfl rfl (Nat.le_of_ble_eq_true rfl) dX8_number_26 ⟨Nat.le_of_ble_eq_true rfl, Nat.le_of_ble_eq_true rfl⟩ (fun H locs hA => ?_)
    refine lv_if_ne (tgt := 43) hx hb dX8_number_29 (by decide) (fun c9 => ?_) (fun c9 => ?_)
    · replace h := (if_neg c9).symm.trans h
      refine lv_iconst (v := 0) hx hb dX8_number_43 (by decide) ?_
      refine lv_istore_n (lv' := [(3, .int (0 : Int32)), (2, .int (t4.1 9)), (0, .ref (g.2.1 0)), (1, .int x1)]) hx hb dX8_number_44 rfl hl (by decide) rfl (fun ls hl => ?_)
      exact w_X8_number_L45 C h hA (lv_sub hl [2, 3, 1, 0] rfl)
    · replace h := (if_pos c9).symm.trans h
      refine lv_aload_n hx hb dX8_number_32 rfl (lv_at hl 1 rfl) ?_
      refine lv_iconst (v := 1) hx hb dX8_number_33 (by decide) ?_
      refine lv_aload_n hx hb dX8_number_34 rfl (lv_at hl 1 rfl) ?_
      refine Mg_X8_at (v := (t4.1 9)) C hA rfl iX8_number_X8 (by decide +kernel) dX8_number_35 ?_
      obtain ⟨r10, t12, hc11, h⟩ := bd h
      refine r_callVv (r := r10) (w1 := wM g t12) (As := [.int (1 : Int32), .int (t4.1 9)]) (rest := []) C hA hl.1 (k_X8_wrong C.2.2.2.2.2.2 hc11) (cwV 2 C.1.2.2.2.2 gX8_number_X8_wrong rfl rfl rfl nd_X8_wrong ⟨Nat.le_of_ble_eq_true rfl, Nat.le_of_ble_eq_true rfl⟩) 0 rfl rfl rfl rfl (Nat.le_of_ble_eq_true rfl) dX8_number_38 ⟨Nat.le_of_ble_eq_true rfl, Nat.le_of_ble_eq_true rfl⟩ (fun H locs hA => ?_)
      refine lv_iconst (v := 0) hx hb dX8_number_41 (by decide) ?_
      obtain rfl := Option.some.inj h
      exact r_iret C hA dX8_number_42
  · replace h := (if_neg c1).symm.trans h
    refine lv_iconst (v := 0) hx hb dX8_number_7 (by decide) ?_
    obtain rfl := Option.some.inj h
    exact r_iret C hA dX8_number_8
end
set_option maxRecDepth 100000 in
theorem k_X8_number {l : Launch} {g : Gm} {fu : Nat} {σ : SS} {x1 : Int32} {R : Int32 × SS} (hlt : l.stackTraces = false) (h : f_X8_number fu σ x1 = some R) (sz : Nat) : Met l yX8_number wsX8_number rmX8_number (Pw g (wM g σ) [.ref (g.2.1 0), .int x1] sz) (Qi g (va_A (wM g σ) sz) (wM g R.2) R.1) 0 0 (va_A (wM g σ) sz) :=
  ofM (own := RX8) hlt (by decide) rfl rfl (Nat.le_of_ble_eq_true rfl) (fun p e s m below meth c hsz C hA ls hl => w_X8_number_0 C h hA hl)
abbrev rmX8_fault : Room := { frames := 0, cells := 0, slots := 0, locals := 0 }
theorem iX8_fault_X8 : ∀ x ∈ wsX80, x ∈ wsX8_fault := by decide +kernel
theorem nd_X8_fault : yX8_fault.cls = RX8 ∧ yX8_fault.cls ≠ "java/lang/invoke/MethodHandle" ∧ yX8_fault.cls ≠ "java/lang/invoke/VarHandle" ∧ (parseMethodDescriptor yX8_fault.desc).map (fun d => d.parameters.length) = some 0 := by decide +kernel
def f_X8_fault (fu : Nat) (σ : SS) : Option (Int32 × SS) :=
  some ((σ.1 11), (sI σ 0 (0 : Int32)))
section
variable {p : Program} {l : Launch} {e : Env} {s : State} {m : MethodId} {args : Array Value} {below : List Frame} {meth : Method} {c : Code} {g : Gm} {A : Nat → Prop} {fu : Nat} {R : Int32 × SS}
set_option maxHeartbeats 4000000 in
set_option maxRecDepth 100000 in
theorem w_X8_fault_0 {σ : SS} (C : Cx p l s m args meth c cX8_fault 1 wsX8_fault (some .int) RX8 g A) (h : f_X8_fault fu σ = some R) {H : Heap} {locs : List Loc} {ls : Array Slot} (hA : Aw g A s.heap (wM g σ) H locs) (hl : lv_has ls 1 [(0, .ref (g.2.1 0))]) : W p l e rmX8_fault s m args below meth c H locs 0 0 (MQ below (Qi g A (wM g R.2) R.1) args s 0 0 A) (F0 m 0 ls []) := by
  have hx := C.1.1
  have hb := C.1.2.1
  unfold f_X8_fault at h
  refine lv_aload_n hx hb dX8_fault_0 rfl (lv_at hl 0 rfl) ?_
  refine lv_iconst (v := 0) hx hb dX8_fault_1 (by decide) ?_
  refine Mp_X8_thrown C hA iX8_fault_X8 (by decide +kernel) dX8_fault_2 (fun H locs hA => ?_)
  refine lv_aload_n hx hb dX8_fault_5 rfl (lv_at hl 0 rfl) ?_
  refine Mg_X8_place (v := (σ.1 11)) C hA rfl iX8_fault_X8 (by decide +kernel) dX8_fault_6 ?_
  obtain rfl := Option.some.inj h
  exact r_iret C hA dX8_fault_9
end
set_option maxRecDepth 100000 in
theorem k_X8_fault {l : Launch} {g : Gm} {fu : Nat} {σ : SS} {R : Int32 × SS} (hlt : l.stackTraces = false) (h : f_X8_fault fu σ = some R) (sz : Nat) : Met l yX8_fault wsX8_fault rmX8_fault (Pw g (wM g σ) [.ref (g.2.1 0)] sz) (Qi g (va_A (wM g σ) sz) (wM g R.2) R.1) 0 0 (va_A (wM g σ) sz) :=
  ofM (own := RX8) hlt (by decide) rfl rfl (Nat.le_of_ble_eq_true rfl) (fun p e s m below meth c hsz C hA ls hl => w_X8_fault_0 C h hA hl)
abbrev rmX8_force : Room := { frames := 1, cells := 0, slots := 0, locals := 23 }
theorem iX8_force_X8 : ∀ x ∈ wsX80, x ∈ wsX8_force := by decide +kernel
theorem nd_X8_force : yX8_force.cls = RX8 ∧ yX8_force.cls ≠ "java/lang/invoke/MethodHandle" ∧ yX8_force.cls ≠ "java/lang/invoke/VarHandle" ∧ (parseMethodDescriptor yX8_force.desc).map (fun d => d.parameters.length) = some 1 := by decide +kernel
def f_X8_force (fu : Nat) (σ : SS) (x1 : Int32) : Option (Int32 × SS) :=
  bnd1 (f_X8_forceOf fu (sI σ 0 (0 : Int32)) x1) (fun r1 => some (r1, (sI σ 0 (0 : Int32))))
section
variable {p : Program} {l : Launch} {e : Env} {s : State} {m : MethodId} {args : Array Value} {below : List Frame} {meth : Method} {c : Code} {g : Gm} {A : Nat → Prop} {fu : Nat} {R : Int32 × SS}
set_option maxHeartbeats 4000000 in
set_option maxRecDepth 100000 in
theorem w_X8_force_0 {σ : SS} {x1 : Int32} (C : Cx p l s m args meth c cX8_force 2 wsX8_force (some .int) RX8 g A) (h : f_X8_force fu σ x1 = some R) {H : Heap} {locs : List Loc} {ls : Array Slot} (hA : Aw g A s.heap (wM g σ) H locs) (hl : lv_has ls 2 [(0, .ref (g.2.1 0)), (1, .int x1)]) : W p l e rmX8_force s m args below meth c H locs 0 0 (MQ below (Qi g A (wM g R.2) R.1) args s 0 0 A) (F0 m 0 ls []) := by
  have hx := C.1.1
  have hb := C.1.2.1
  unfold f_X8_force at h
  refine lv_aload_n hx hb dX8_force_0 rfl (lv_at hl 0 rfl) ?_
  refine lv_iconst (v := 0) hx hb dX8_force_1 (by decide) ?_
  refine Mp_X8_thrown C hA iX8_force_X8 (by decide +kernel) dX8_force_2 (fun H locs hA => ?_)
  refine lv_aload_n hx hb dX8_force_5 rfl (lv_at hl 0 rfl) ?_
  refine lv_iload_n hx hb dX8_force_6 rfl (lv_at hl 1 rfl) ?_
  obtain ⟨r1, hc2, h⟩ := bd1 h
  refine r_callVi (r := r1) (w1 := wM g (sI σ 0 (0 : Int32))) (As := [.int x1]) (rest := []) C hA hl.1 (k_X8_forceOf C.2.2.2.2.2.2 hc2) (cwV 1 C.1.2.2.2.2 gX8_force_X8_forceOf rfl rfl rfl nd_X8_forceOf ⟨Nat.le_of_ble_eq_true rfl, Nat.le_of_ble_eq_true rfl⟩) 0 rfl rfl rfl rfl (Nat.le_of_ble_eq_true rfl) dX8_force_7 ⟨Nat.le_of_ble_eq_true rfl, Nat.le_of_ble_eq_true rfl⟩ (fun H locs hA => ?_)
  obtain rfl := Option.some.inj h
  exact r_iret C hA dX8_force_10
end
set_option maxRecDepth 100000 in
theorem k_X8_force {l : Launch} {g : Gm} {fu : Nat} {σ : SS} {x1 : Int32} {R : Int32 × SS} (hlt : l.stackTraces = false) (h : f_X8_force fu σ x1 = some R) (sz : Nat) : Met l yX8_force wsX8_force rmX8_force (Pw g (wM g σ) [.ref (g.2.1 0), .int x1] sz) (Qi g (va_A (wM g σ) sz) (wM g R.2) R.1) 0 0 (va_A (wM g σ) sz) :=
  ofM (own := RX8) hlt (by decide) rfl rfl (Nat.le_of_ble_eq_true rfl) (fun p e s m below meth c hsz C hA ls hl => w_X8_force_0 C h hA hl)
abbrev rmX8_owe : Room := { frames := 0, cells := 0, slots := 0, locals := 0 }
theorem iX8_owe_X8 : ∀ x ∈ wsX80, x ∈ wsX8_owe := by decide +kernel
theorem nd_X8_owe : yX8_owe.cls = RX8 ∧ yX8_owe.cls ≠ "java/lang/invoke/MethodHandle" ∧ yX8_owe.cls ≠ "java/lang/invoke/VarHandle" ∧ (parseMethodDescriptor yX8_owe.desc).map (fun d => d.parameters.length) = some 5 := by decide +kernel
def f_X8_owe_60 (fu : Nat) (σ : SS) (y0 : Int32) (y1 : Int32) : Option (Unit × SS) :=
  if inB y1 400 then some ((), (sI (sA σ 19 (y1).toNatClampNeg y0) 20 ((σ.1 20) + (1 : Int32)))) else none
def f_X8_owe (fu : Nat) (σ : SS) (x1 : Int32) (x2 : Int32) (x3 : Int64) (x5 : Int32) (x6 : Int32) : Option (Unit × SS) :=
  if inB (σ.1 20) 400 then (if x5 = 0 then f_X8_owe_60 fu (sA (sL (sA (sA σ 15 ((σ.1 20)).toNatClampNeg x1) 16 ((σ.1 20)).toNatClampNeg x2) 17 ((σ.1 20)).toNatClampNeg x3) 18 ((σ.1 20)).toNatClampNeg (vp_nar .boolean x5)) x6 (σ.1 20) else f_X8_owe_60 fu (sA (sL (sA (sA σ 15 ((σ.1 20)).toNatClampNeg x1) 16 ((σ.1 20)).toNatClampNeg x2) 17 ((σ.1 20)).toNatClampNeg x3) 18 ((σ.1 20)).toNatClampNeg (vp_nar .boolean x5)) (-1) (σ.1 20)) else none
section
variable {p : Program} {l : Launch} {e : Env} {s : State} {m : MethodId} {args : Array Value} {below : List Frame} {meth : Method} {c : Code} {g : Gm} {A : Nat → Prop} {fu : Nat} {R : Unit × SS}
set_option maxHeartbeats 4000000 in
set_option maxRecDepth 100000 in
theorem w_X8_owe_60 {σ : SS} {y0 : Int32} {y1 : Int32} (C : Cx p l s m args meth c cX8_owe 7 wsX8_owe none RX8 g A) (h : f_X8_owe_60 fu σ y0 y1 = some R) {H : Heap} {locs : List Loc} {ls : Array Slot} (hA : Aw g A s.heap (wM g σ) H locs) (hl : lv_has ls 7 [(0, .ref (g.2.1 0))]) : W p l e rmX8_owe s m args below meth c H locs 0 0 (MQ below (Qv g A (wM g R.2) R.1) args s 0 0 A) (F0 m 60 ls [.int y0, .int y1, .ref (g.2.1 19)]) := by
  have hx := C.1.1
  have hb := C.1.2.1
  unfold f_X8_owe_60 at h
  obtain ⟨g1, h⟩ := gd h
  refine Mst_19 C hA g1 dX8_owe_60 (fun H locs hA => ?_)
  refine lv_aload_n hx hb dX8_owe_61 rfl (lv_at hl 0 rfl) ?_
  refine lv_dup hx hb dX8_owe_62 rfl ?_
  refine Mg_X8_debts (v := (σ.1 20)) C hA rfl iX8_owe_X8 (by decide +kernel) dX8_owe_63 ?_
  refine lv_iconst (v := 1) hx hb dX8_owe_66 (by decide) ?_
  refine lv_iadd hx hb dX8_owe_67 ?_
  refine Mp_X8_debts C hA iX8_owe_X8 (by decide +kernel) dX8_owe_68 (fun H locs hA => ?_)
  obtain rfl := Option.some.inj h
  exact r_vret C hA dX8_owe_71
set_option maxHeartbeats 4000000 in
set_option maxRecDepth 100000 in
theorem w_X8_owe_0 {σ : SS} {x1 : Int32} {x2 : Int32} {x3 : Int64} {x5 : Int32} {x6 : Int32} (C : Cx p l s m args meth c cX8_owe 7 wsX8_owe none RX8 g A) (h : f_X8_owe fu σ x1 x2 x3 x5 x6 = some R) {H : Heap} {locs : List Loc} {ls : Array Slot} (hA : Aw g A s.heap (wM g σ) H locs) (hl : lv_has ls 7 [(0, .ref (g.2.1 0)), (1, .int x1), (2, .int x2), (3, .long x3), (5, .int x5), (6, .int x6)]) : W p l e rmX8_owe s m args below meth c H locs 0 0 (MQ below (Qv g A (wM g R.2) R.1) args s 0 0 A) (F0 m 0 ls []) := by
  have hx := C.1.1
  have hb := C.1.2.1
  unfold f_X8_owe at h
  refine lv_aload_n hx hb dX8_owe_0 rfl (lv_at hl 0 rfl) ?_
  refine Mg_X8_owes C hA iX8_owe_X8 (by decide +kernel) dX8_owe_1 ?_
  refine lv_aload_n hx hb dX8_owe_4 rfl (lv_at hl 0 rfl) ?_
  refine Mg_X8_debts (v := (σ.1 20)) C hA rfl iX8_owe_X8 (by decide +kernel) dX8_owe_5 ?_
  refine lv_iload_n hx hb dX8_owe_8 rfl (lv_at hl 1 rfl) ?_
  obtain ⟨g1, h⟩ := gd h
  refine Mst_15 C hA g1 dX8_owe_9 (fun H locs hA => ?_)
  refine lv_aload_n hx hb dX8_owe_10 rfl (lv_at hl 0 rfl) ?_
  refine Mg_X8_whom C hA iX8_owe_X8 (by decide +kernel) dX8_owe_11 ?_
  refine lv_aload_n hx hb dX8_owe_14 rfl (lv_at hl 0 rfl) ?_
  refine Mg_X8_debts (v := (σ.1 20)) C hA rfl iX8_owe_X8 (by decide +kernel) dX8_owe_15 ?_
  refine lv_iload_n hx hb dX8_owe_18 rfl (lv_at hl 2 rfl) ?_
  refine Mst_16 C hA g1 dX8_owe_19 (fun H locs hA => ?_)
  refine lv_aload_n hx hb dX8_owe_20 rfl (lv_at hl 0 rfl) ?_
  refine Mg_X8_left C hA iX8_owe_X8 (by decide +kernel) dX8_owe_21 ?_
  refine lv_aload_n hx hb dX8_owe_24 rfl (lv_at hl 0 rfl) ?_
  refine Mg_X8_debts (v := (σ.1 20)) C hA rfl iX8_owe_X8 (by decide +kernel) dX8_owe_25 ?_
  refine lv_lload_n hx hb dX8_owe_28 rfl (lv_at hl 3 rfl) ?_
  refine Mst_17 C hA g1 dX8_owe_29 (fun H locs hA => ?_)
  refine lv_aload_n hx hb dX8_owe_30 rfl (lv_at hl 0 rfl) ?_
  refine Mg_X8_isLoan C hA iX8_owe_X8 (by decide +kernel) dX8_owe_31 ?_
  refine lv_aload_n hx hb dX8_owe_34 rfl (lv_at hl 0 rfl) ?_
  refine Mg_X8_debts (v := (σ.1 20)) C hA rfl iX8_owe_X8 (by decide +kernel) dX8_owe_35 ?_
  refine lv_iload hx hb dX8_owe_38 (lv_at hl 4 rfl) ?_
  refine Mst_18 C hA g1 dX8_owe_40 (fun H locs hA => ?_)
  refine lv_aload_n hx hb dX8_owe_41 rfl (lv_at hl 0 rfl) ?_
  refine Mg_X8_due C hA iX8_owe_X8 (by decide +kernel) dX8_owe_42 ?_
  refine lv_aload_n hx hb dX8_owe_45 rfl (lv_at hl 0 rfl) ?_
  refine Mg_X8_debts (v := (σ.1 20)) C hA rfl iX8_owe_X8 (by decide +kernel) dX8_owe_46 ?_
  refine lv_iload hx hb dX8_owe_49 (lv_at hl 4 rfl) ?_
  refine lv_if_eq (tgt := 58) hx hb dX8_owe_51 (by decide) (fun c2 => ?_) (fun c2 => ?_)
  · replace h := (if_pos c2).symm.trans h
    refine lv_iload hx hb dX8_owe_58 (lv_at hl 5 rfl) ?_
    exact w_X8_owe_60 C h hA (lv_sub hl [0] rfl)
  · replace h := (if_neg c2).symm.trans h
    refine lv_iconst (v := (-1)) hx hb dX8_owe_54 (by decide) ?_
    refine lv_goto (tgt := 60) hx hb dX8_owe_55 (by decide) ?_
    exact w_X8_owe_60 C h hA (lv_sub hl [0] rfl)
end
set_option maxRecDepth 100000 in
theorem k_X8_owe {l : Launch} {g : Gm} {fu : Nat} {σ : SS} {x1 : Int32} {x2 : Int32} {x3 : Int64} {x5 : Int32} {x6 : Int32} {R : Unit × SS} (hlt : l.stackTraces = false) (h : f_X8_owe fu σ x1 x2 x3 x5 x6 = some R) (sz : Nat) : Met l yX8_owe wsX8_owe rmX8_owe (Pw g (wM g σ) [.ref (g.2.1 0), .int x1, .int x2, .long x3, .int x5, .int x6] sz) (Qv g (va_A (wM g σ) sz) (wM g R.2) R.1) 0 0 (va_A (wM g σ) sz) :=
  ofM (own := RX8) hlt (by decide) rfl rfl (Nat.le_of_ble_eq_true rfl) (fun p e s m below meth c hsz C hA ls hl => w_X8_owe_0 C h hA hl)
abbrev rmX8_allOwed : Room := { frames := 0, cells := 0, slots := 0, locals := 0 }
theorem iX8_allOwed_X8 : ∀ x ∈ wsX80, x ∈ wsX8_allOwed := by decide +kernel
theorem nd_X8_allOwed : yX8_allOwed.cls = RX8 ∧ yX8_allOwed.cls ≠ "java/lang/invoke/MethodHandle" ∧ yX8_allOwed.cls ≠ "java/lang/invoke/VarHandle" ∧ (parseMethodDescriptor yX8_allOwed.desc).map (fun d => d.parameters.length) = some 2 := by decide +kernel
def f_X8_allOwed_48 (fu : Nat) (k5 : SS → (Int32 × Int32 × Int64 × Int32) → Option (Int64)) (σ : SS) (x1 : Int32) (x2 : Int32) (x5 : Int32) (y0 : Int64) (y1 : Int64) : Option (Int64) :=
  k5 σ (x1, x2, (y1 + y0), (x5 + 1))
def f_X8_allOwed_47 (fu : Nat) (k5 : SS → (Int32 × Int32 × Int64 × Int32) → Option (Int64)) (σ : SS) (x1 : Int32) (x2 : Int32) (x5 : Int32) (y0 : Int64) : Option (Int64) :=
  f_X8_allOwed_48 fu k5 σ x1 x2 x5 (0 : Int64) y0
def f_X8_allOwed_5 (fu : Nat) (k5 : SS → (Int32 × Int32 × Int64 × Int32) → Option (Int64)) (σ : SS) (x1 : Int32) (x2 : Int32) (x3 : Int64) (x5 : Int32) : Option (Int64) :=
  (if (σ.1 20) ≤ x5 then some x3 else if inB x5 400 then (if (σ.2.1 15 (x5).toNatClampNeg) = x1 then (if (σ.2.1 16 (x5).toNatClampNeg) = x2 then f_X8_allOwed_48 fu k5 σ x1 x2 x5 (σ.2.2 17 (x5).toNatClampNeg) x3 else f_X8_allOwed_47 fu k5 σ x1 x2 x5 x3) else f_X8_allOwed_47 fu k5 σ x1 x2 x5 x3) else none)
def f_X8_allOwed_L5 (fu : Nat) : SS → (Int32 × Int32 × Int64 × Int32) → Option (Int64) := loopN (fun k5 σ x => f_X8_allOwed_5 fu k5 σ x.1 x.2.1 x.2.2.1 x.2.2.2) fu
def f_X8_allOwed (fu : Nat) (σ : SS) (x1 : Int32) (x2 : Int32) : Option (Int64) :=
  f_X8_allOwed_L5 fu σ (x1, x2, (0 : Int64), (0 : Int32))
section
variable {p : Program} {l : Launch} {e : Env} {s : State} {m : MethodId} {args : Array Value} {below : List Frame} {meth : Method} {c : Code} {g : Gm} {A : Nat → Prop} {fu : Nat} {R : Int64}
set_option maxHeartbeats 4000000 in
set_option maxRecDepth 100000 in
theorem w_X8_allOwed_48 {σ : SS} {x1 : Int32} {x2 : Int32} {x5 : Int32} {y0 : Int64} {y1 : Int64} (C : Cx p l s m args meth c cX8_allOwed 6 wsX8_allOwed (some .long) RX8 g A) {k5 : SS → (Int32 × Int32 × Int64 × Int32) → Option (Int64)} (hk5 : ∀ (σ1 : SS) (x : Int32 × Int32 × Int64 × Int32), σ1 = σ → k5 σ1 x = some R → ∀ (H : Heap) (locs : List Loc) (ls : Array Slot), Aw g A s.heap (wM g σ) H locs → lv_has ls 6 [(0, .ref (g.2.1 0)), (1, .int x.1), (2, .int x.2.1), (3, .long x.2.2.1), (5, .int x.2.2.2)] → W p l e rmX8_allOwed s m args below meth c H locs 0 0 (MQ below (Ql g A (wM g σ) R) args s 0 0 A) (F0 m 5 ls [])) (h : f_X8_allOwed_48 fu k5 σ x1 x2 x5 y0 y1 = some R) {H : Heap} {locs : List Loc} {ls : Array Slot} (hA : Aw g A s.heap (wM g σ) H locs) (hl : lv_has ls 6 [(0, .ref (g.2.1 0)), (1, .int x1), (2, .int x2), (5, .int x5)]) : W p l e rmX8_allOwed s m args below meth c H locs 0 0 (MQ below (Ql g A (wM g σ) R) args s 0 0 A) (F0 m 48 ls [.long y0, .long y1]) := by
  have hx := C.1.1
  have hb := C.1.2.1
  unfold f_X8_allOwed_48 at h
  refine lv_ladd hx hb dX8_allOwed_48 ?_
  refine lv_lstore_n (lv' := [(3, .long (y1 + y0)), (0, .ref (g.2.1 0)), (1, .int x1), (2, .int x2), (5, .int x5)]) hx hb dX8_allOwed_49 rfl hl (by decide) rfl (fun ls hl => ?_)
  refine lv_iinc (v := (x5 + 1)) (lv' := [(5, .int (x5 + 1)), (3, .long (y1 + y0)), (0, .ref (g.2.1 0)), (1, .int x1), (2, .int x2)]) hx hb dX8_allOwed_50 hl (k := 4) rfl rfl (by decide) rfl (fun ls hl => ?_)
  refine lv_goto (tgt := 5) hx hb dX8_allOwed_53 (by decide) ?_
  exact hk5 _ _ rfl h _ _ _ hA (lv_sub hl [2, 3, 4, 1, 0] rfl)
set_option maxHeartbeats 4000000 in
set_option maxRecDepth 100000 in
theorem w_X8_allOwed_47 {σ : SS} {x1 : Int32} {x2 : Int32} {x5 : Int32} {y0 : Int64} (C : Cx p l s m args meth c cX8_allOwed 6 wsX8_allOwed (some .long) RX8 g A) {k5 : SS → (Int32 × Int32 × Int64 × Int32) → Option (Int64)} (hk5 : ∀ (σ1 : SS) (x : Int32 × Int32 × Int64 × Int32), σ1 = σ → k5 σ1 x = some R → ∀ (H : Heap) (locs : List Loc) (ls : Array Slot), Aw g A s.heap (wM g σ) H locs → lv_has ls 6 [(0, .ref (g.2.1 0)), (1, .int x.1), (2, .int x.2.1), (3, .long x.2.2.1), (5, .int x.2.2.2)] → W p l e rmX8_allOwed s m args below meth c H locs 0 0 (MQ below (Ql g A (wM g σ) R) args s 0 0 A) (F0 m 5 ls [])) (h : f_X8_allOwed_47 fu k5 σ x1 x2 x5 y0 = some R) {H : Heap} {locs : List Loc} {ls : Array Slot} (hA : Aw g A s.heap (wM g σ) H locs) (hl : lv_has ls 6 [(0, .ref (g.2.1 0)), (1, .int x1), (2, .int x2), (5, .int x5)]) : W p l e rmX8_allOwed s m args below meth c H locs 0 0 (MQ below (Ql g A (wM g σ) R) args s 0 0 A) (F0 m 47 ls [.long y0]) := by
  have hx := C.1.1
  have hb := C.1.2.1
  unfold f_X8_allOwed_47 at h
  refine lv_lconst (v := 0) hx hb dX8_allOwed_47 (by decide) ?_
  exact w_X8_allOwed_48 C hk5 h hA (lv_sub hl [0, 1, 2, 3] rfl)
set_option maxHeartbeats 4000000 in
set_option maxRecDepth 100000 in
theorem w_X8_allOwed_5 {σ : SS} {x1 : Int32} {x2 : Int32} {x3 : Int64} {x5 : Int32} (C : Cx p l s m args meth c cX8_allOwed 6 wsX8_allOwed (some .long) RX8 g A) {k5 : SS → (Int32 × Int32 × Int64 × Int32) → Option (Int64)} (hk5 : ∀ (σ1 : SS) (x : Int32 × Int32 × Int64 × Int32), σ1 = σ → k5 σ1 x = some R → ∀ (H : Heap) (locs : List Loc) (ls : Array Slot), Aw g A s.heap (wM g σ) H locs → lv_has ls 6 [(0, .ref (g.2.1 0)), (1, .int x.1), (2, .int x.2.1), (3, .long x.2.2.1), (5, .int x.2.2.2)] → W p l e rmX8_allOwed s m args below meth c H locs 0 0 (MQ below (Ql g A (wM g σ) R) args s 0 0 A) (F0 m 5 ls [])) (h : f_X8_allOwed_5 fu k5 σ x1 x2 x3 x5 = some R) {H : Heap} {locs : List Loc} {ls : Array Slot} (hA : Aw g A s.heap (wM g σ) H locs) (hl : lv_has ls 6 [(0, .ref (g.2.1 0)), (1, .int x1), (2, .int x2), (3, .long x3), (5, .int x5)]) : W p l e rmX8_allOwed s m args below meth c H locs 0 0 (MQ below (Ql g A (wM g σ) R) args s 0 0 A) (F0 m 5 ls []) := by
  have hx := C.1.1
  have hb := C.1.2.1
  unfold f_X8_allOwed_5 at h
  refine lv_iload hx hb dX8_allOwed_5 (lv_at hl 4 rfl) ?_
  refine lv_aload_n hx hb dX8_allOwed_7 rfl (lv_at hl 0 rfl) ?_
  refine Mg_X8_debts (v := (σ.1 20)) C hA rfl iX8_allOwed_X8 (by decide +kernel) dX8_allOwed_8 ?_
  refine lv_icmp_ge (tgt := 56) hx hb dX8_allOwed_11 (by decide) (fun c1 => ?_) (fun c1 => ?_)
  · replace h := (if_pos c1).symm.trans h
    refine lv_lload_n hx hb dX8_allOwed_56 rfl (lv_at hl 3 rfl) ?_
    obtain rfl := Option.some.inj h
    exact r_lret C hA dX8_allOwed_57
  · replace h := (if_neg c1).symm.trans h
    refine lv_lload_n hx hb dX8_allOwed_14 rfl (lv_at hl 3 rfl) ?_
    refine lv_aload_n hx hb dX8_allOwed_15 rfl (lv_at hl 0 rfl) ?_
    refine Mg_X8_owes C hA iX8_allOwed_X8 (by decide +kernel) dX8_allOwed_16 ?_
    refine lv_iload hx hb dX8_allOwed_19 (lv_at hl 4 rfl) ?_
    obtain ⟨g2, h⟩ := gd h
    refine Mld_15 (v := (σ.2.1 15 (x5).toNatClampNeg)) C hA rfl g2 dX8_allOwed_21 ?_
    refine lv_iload_n hx hb dX8_allOwed_22 rfl (lv_at hl 1 rfl) ?_
    refine lv_icmp_ne (tgt := 47) hx hb dX8_allOwed_23 (by decide) (fun c3 => ?_) (fun c3 => ?_)
    · replace h := (if_neg c3).symm.trans h
      exact w_X8_allOwed_47 C hk5 h hA (lv_sub hl [0, 1, 2, 4] rfl)
    · replace h := (if_pos c3).symm.trans h
      refine lv_aload_n hx hb dX8_allOwed_26 rfl (lv_at hl 0 rfl) ?_
      refine Mg_X8_whom C hA iX8_allOwed_X8 (by decide +kernel) dX8_allOwed_27 ?_
      refine lv_iload hx hb dX8_allOwed_30 (lv_at hl 4 rfl) ?_
      refine Mld_16 (v := (σ.2.1 16 (x5).toNatClampNeg)) C hA rfl g2 dX8_allOwed_32 ?_
      refine lv_iload_n hx hb dX8_allOwed_33 rfl (lv_at hl 2 rfl) ?_
      refine lv_icmp_ne (tgt := 47) hx hb dX8_allOwed_34 (by decide) (fun c4 => ?_) (fun c4 => ?_)
      · replace h := (if_neg c4).symm.trans h
        exact w_X8_allOwed_47 C hk5 h hA (lv_sub hl [0, 1, 2, 4] rfl)
      · replace h := (if_pos c4).symm.trans h
        refine lv_aload_n hx hb dX8_allOwed_37 rfl (lv_at hl 0 rfl) ?_
        refine Mg_X8_left C hA iX8_allOwed_X8 (by decide +kernel) dX8_allOwed_38 ?_
        refine lv_iload hx hb dX8_allOwed_41 (lv_at hl 4 rfl) ?_
        refine Mld_17 (v := (σ.2.2 17 (x5).toNatClampNeg)) C hA rfl g2 dX8_allOwed_43 ?_
        refine lv_goto (tgt := 48) hx hb dX8_allOwed_44 (by decide) ?_
        exact w_X8_allOwed_48 C hk5 h hA (lv_sub hl [0, 1, 2, 4] rfl)
set_option maxHeartbeats 4000000 in
theorem w_X8_allOwed_L5 {σ : SS} {x : Int32 × Int32 × Int64 × Int32} (C : Cx p l s m args meth c cX8_allOwed 6 wsX8_allOwed (some .long) RX8 g A) (h : f_X8_allOwed_L5 fu σ x = some R) {H : Heap} {locs : List Loc} {ls : Array Slot} (hA : Aw g A s.heap (wM g σ) H locs) (hl : lv_has ls 6 [(0, .ref (g.2.1 0)), (1, .int x.1), (2, .int x.2.1), (3, .long x.2.2.1), (5, .int x.2.2.2)]) : W p l e rmX8_allOwed s m args below meth c H locs 0 0 (MQ below (Ql g A (wM g σ) R) args s 0 0 A) (F0 m 5 ls []) := by
  refine loopW (P := fun σ1 x => σ1 = σ → ∀ (H : Heap) (locs : List Loc) (ls : Array Slot), Aw g A s.heap (wM g σ) H locs → lv_has ls 6 [(0, .ref (g.2.1 0)), (1, .int x.1), (2, .int x.2.1), (3, .long x.2.2.1), (5, .int x.2.2.2)] → W p l e rmX8_allOwed s m args below meth c H locs 0 0 (MQ below (Ql g A (wM g σ) R) args s 0 0 A) (F0 m 5 ls [])) (fun k hk σ1 x h9 e1 H locs ls hA9 hl9 => ?_) fu σ x h rfl H locs ls hA hl
  subst e1
  exact w_X8_allOwed_5 C (fun σ2 x e2 h2 => hk σ2 x h2 e2) h9 hA9 hl9
set_option maxHeartbeats 4000000 in
set_option maxRecDepth 100000 in
theorem w_X8_allOwed_0 {σ : SS} {x1 : Int32} {x2 : Int32} (C : Cx p l s m args meth c cX8_allOwed 6 wsX8_allOwed (some .long) RX8 g A) (h : f_X8_allOwed fu σ x1 x2 = some R) {H : Heap} {locs : List Loc} {ls : Array Slot} (hA : Aw g A s.heap (wM g σ) H locs) (hl : lv_has ls 6 [(0, .ref (g.2.1 0)), (1, .int x1), (2, .int x2)]) : W p l e rmX8_allOwed s m args below meth c H locs 0 0 (MQ below (Ql g A (wM g σ) R) args s 0 0 A) (F0 m 0 ls []) := by
  have hx := C.1.1
  have hb := C.1.2.1
  unfold f_X8_allOwed at h
  refine lv_lconst (v := 0) hx hb dX8_allOwed_0 (by decide) ?_
  refine lv_lstore_n (lv' := [(3, .long (0 : Int64)), (0, .ref (g.2.1 0)), (1, .int x1), (2, .int x2)]) hx hb dX8_allOwed_1 rfl hl (by decide) rfl (fun ls hl => ?_)
  refine lv_iconst (v := 0) hx hb dX8_allOwed_2 (by decide) ?_
  refine lv_istore (lv' := [(5, .int (0 : Int32)), (3, .long (0 : Int64)), (0, .ref (g.2.1 0)), (1, .int x1), (2, .int x2)]) hx hb dX8_allOwed_3 hl (by decide) rfl (fun ls hl => ?_)
  exact w_X8_allOwed_L5 C h hA (lv_sub hl [2, 3, 4, 1, 0] rfl)
end
set_option maxRecDepth 100000 in
theorem k_X8_allOwed {l : Launch} {g : Gm} {fu : Nat} {σ : SS} {x1 : Int32} {x2 : Int32} {R : Int64} (hlt : l.stackTraces = false) (h : f_X8_allOwed fu σ x1 x2 = some R) (sz : Nat) : Met l yX8_allOwed wsX8_allOwed rmX8_allOwed (Pw g (wM g σ) [.ref (g.2.1 0), .int x1, .int x2] sz) (Ql g (va_A (wM g σ) sz) (wM g σ) R) 0 0 (va_A (wM g σ) sz) :=
  ofM (own := RX8) hlt (by decide) rfl rfl (Nat.le_of_ble_eq_true rfl) (fun p e s m below meth c hsz C hA ls hl => w_X8_allOwed_0 C h hA hl)
abbrev rmX8_madeOf : Room := { frames := 2, cells := 0, slots := 0, locals := 45 }
theorem nd_X8_madeOf : yX8_madeOf.cls = RX8 ∧ yX8_madeOf.cls ≠ "java/lang/invoke/MethodHandle" ∧ yX8_madeOf.cls ≠ "java/lang/invoke/VarHandle" ∧ (parseMethodDescriptor yX8_madeOf.desc).map (fun d => d.parameters.length) = some 3 := by decide +kernel
def f_X8_madeOf (fu : Nat) (σ : SS) (x1 : Int32) (x2 : Int32) (x3 : Int64) : Option (Int64) :=
  bnd1 (f_X8_allOwed fu σ x1 x2) (fun r1 => bnd1 (f_X8_term fu σ (0 : Int32)) (fun r3 => bnd1 (f_X8_term fu σ (1 : Int32)) (fun r5 => (if (lg_cmp (x3 - r1) (0 : Int64)) ≤ 0 then some (0 : Int64) else (if r5 = 0 then some (0 : Int64) else if ¬ (r5).toInt64 = 0 then (if (lg_cmp (((((x3 - r1) * (r3).toInt64) + (r5).toInt64) - (1 : Int64)) / (r5).toInt64) (1000000000 : Int64)) ≤ 0 then some (((((x3 - r1) * (r3).toInt64) + (r5).toInt64) - (1 : Int64)) / (r5).toInt64) else some (1000000000 : Int64)) else none)))))
section
variable {p : Program} {l : Launch} {e : Env} {s : State} {m : MethodId} {args : Array Value} {below : List Frame} {meth : Method} {c : Code} {g : Gm} {A : Nat → Prop} {fu : Nat} {R : Int64}
set_option maxHeartbeats 4000000 in
set_option maxRecDepth 100000 in
theorem w_X8_madeOf_0 {σ : SS} {x1 : Int32} {x2 : Int32} {x3 : Int64} (C : Cx p l s m args meth c cX8_madeOf 11 wsX8_madeOf (some .long) RX8 g A) (h : f_X8_madeOf fu σ x1 x2 x3 = some R) {H : Heap} {locs : List Loc} {ls : Array Slot} (hA : Aw g A s.heap (wM g σ) H locs) (hl : lv_has ls 11 [(0, .ref (g.2.1 0)), (1, .int x1), (2, .int x2), (3, .long x3)]) : W p l e rmX8_madeOf s m args below meth c H locs 0 0 (MQ below (Ql g A (wM g σ) R) args s 0 0 A) (F0 m 0 ls []) := by
  have hx := C.1.1
  have hb := C.1.2.1
  unfold f_X8_madeOf at h
  refine lv_lload_n hx hb dX8_madeOf_0 rfl (lv_at hl 3 rfl) ?_
  refine lv_aload_n hx hb dX8_madeOf_1 rfl (lv_at hl 0 rfl) ?_
  refine lv_iload_n hx hb dX8_madeOf_2 rfl (lv_at hl 1 rfl) ?_
  refine lv_iload_n hx hb dX8_madeOf_3 rfl (lv_at hl 2 rfl) ?_
  obtain ⟨r1, hc2, h⟩ := bd1 h
  refine r_callVl (r := r1) (w1 := wM g σ) (As := [.int x1, .int x2]) (rest := [.long x3]) C hA hl.1 (k_X8_allOwed C.2.2.2.2.2.2 hc2) (cwV 2 C.1.2.2.2.2 gX8_madeOf_X8_allOwed rfl rfl rfl nd_X8_allOwed ⟨Nat.le_of_ble_eq_true rfl, Nat.le_of_ble_eq_true rfl⟩) 0 rfl rfl rfl rfl (Nat.le_of_ble_eq_true rfl) dX8_madeOf_4 ⟨Nat.le_of_ble_eq_true rfl, Nat.le_of_ble_eq_true rfl⟩ (fun H locs hA => ?_)
  refine lv_lsub hx hb dX8_madeOf_7 ?_
  refine lv_lstore (lv' := [(5, .long (x3 - r1)), (0, .ref (g.2.1 0)), (1, .int x1), (2, .int x2), (3, .long x3)]) hx hb dX8_madeOf_8 hl (by decide) rfl (fun ls hl => ?_)
  refine lv_aload_n hx hb dX8_madeOf_10 rfl (lv_at hl 1 rfl) ?_
  refine lv_iconst (v := 0) hx hb dX8_madeOf_11 (by decide) ?_
  obtain ⟨r3, hc4, h⟩ := bd1 h
  refine r_callVi (r := r3) (w1 := wM g σ) (As := [.int (0 : Int32)]) (rest := []) C hA hl.1 (k_X8_term C.2.2.2.2.2.2 hc4) (cwV 1 C.1.2.2.2.2 gX8_madeOf_X8_term rfl rfl rfl nd_X8_term ⟨Nat.le_of_ble_eq_true rfl, Nat.le_of_ble_eq_true rfl⟩) 0 rfl rfl rfl rfl (Nat.le_of_ble_eq_true rfl) dX8_madeOf_12 ⟨Nat.le_of_ble_eq_true rfl, Nat.le_of_ble_eq_true rfl⟩ (fun H locs hA => ?_)
  refine lv_istore (lv' := [(7, .int r3), (5, .long (x3 - r1)), (0, .ref (g.2.1 0)), (1, .int x1), (2, .int x2), (3, .long x3)]) hx hb dX8_madeOf_15 hl (by decide) rfl (fun ls hl => ?_)
  refine lv_aload_n hx hb dX8_madeOf_17 rfl (lv_at hl 2 rfl) ?_
  refine lv_iconst (v := 1) hx hb dX8_madeOf_18 (by decide) ?_
  obtain ⟨r5, hc6, h⟩ := bd1 h
  refine r_callVi (r := r5) (w1 := wM g σ) (As := [.int (1 : Int32)]) (rest := []) C hA hl.1 (k_X8_term C.2.2.2.2.2.2 hc6) (cwV 1 C.1.2.2.2.2 gX8_madeOf_X8_term rfl rfl rfl nd_X8_term ⟨Nat.le_of_ble_eq_true rfl, Nat.le_of_ble_eq_true rfl⟩) 0 rfl rfl rfl rfl (Nat.le_of_ble_eq_true rfl) dX8_madeOf_19 ⟨Nat.le_of_ble_eq_true rfl, Nat.le_of_ble_eq_true rfl⟩ (fun H locs hA => ?_)
  refine lv_istore (lv' := [(8, .int r5), (7, .int r3), (5, .long (x3 - r1)), (0, .ref (g.2.1 0)), (1, .int x1), (2, .int x2), (3, .long x3)]) hx hb dX8_madeOf_22 hl (by decide) rfl (fun ls hl => ?_)
  refine lv_lload hx hb dX8_madeOf_24 (lv_at hl 2 rfl) ?_
  refine lv_lconst (v := 0) hx hb dX8_madeOf_26 (by decide) ?_
  refine W.lcmp hx hb dX8_madeOf_27 ?_
  refine lv_if_le (tgt := 36) hx hb dX8_madeOf_28 (by decide) (fun c7 => ?_) (fun c7 => ?_)
  · replace h := (if_pos c7).symm.trans h
    refine lv_lconst (v := 0) hx hb dX8_madeOf_36 (by decide) ?_
    obtain rfl := Option.some.inj h
    exact r_lret C hA dX8_madeOf_37
  · replace h := (if_neg c7).symm.trans h
    refine lv_iload hx hb dX8_madeOf_31 (lv_at hl 0 rfl) ?_
    refine lv_if_ne (tgt := 38) hx hb dX8_madeOf_33 (by decide) (fun c8 => ?_) (fun c8 => ?_)
    · replace h := (if_neg c8).symm.trans h
      refine lv_lload hx hb dX8_madeOf_38 (lv_at hl 2 rfl) ?_
      refine lv_iload hx hb dX8_madeOf_40 (lv_at hl 1 rfl) ?_
      refine lv_i2l hx hb dX8_madeOf_42 rfl ?_
      refine lv_lmul hx hb dX8_madeOf_43 ?_
      refine lv_iload hx hb dX8_madeOf_44 (lv_at hl 0 rfl) ?_
      refine lv_i2l hx hb dX8_madeOf_46 rfl ?_
      refine lv_ladd hx hb dX8_madeOf_47 ?_
      refine lv_lconst (v := 1) hx hb dX8_madeOf_48 (by decide) ?_
      refine lv_lsub hx hb dX8_madeOf_49 ?_
      refine lv_iload hx hb dX8_madeOf_50 (lv_at hl 0 rfl) ?_
      refine lv_i2l hx hb dX8_madeOf_52 rfl ?_
      obtain ⟨g9, h⟩ := gd h
      refine lv_ldiv hx hb dX8_madeOf_53 g9 ?_
      refine lv_lstore (lv' := [(9, .long (((((x3 - r1) * (r3).toInt64) + (r5).toInt64) - (1 : Int64)) / (r5).toInt64)), (8, .int r5), (7, .int r3), (5, .long (x3 - r1)), (0, .ref (g.2.1 0)), (1, .int x1), (2, .int x2), (3, .long x3)]) hx hb dX8_madeOf_54 hl (by decide) rfl (fun ls hl => ?_)
      refine lv_lload hx hb dX8_madeOf_56 (lv_at hl 0 rfl) ?_
      refine lv_ldc2 (v := 1000000000) hx hb C.1.2.2.2.1 (C.1.2.2.2.2 (.constantLong RX8 170 (1000000000)) (by decide +kernel)) dX8_madeOf_58 ?_
      refine W.lcmp hx hb dX8_madeOf_61 ?_
      refine lv_if_le (tgt := 71) hx hb dX8_madeOf_62 (by decide) (fun c10 => ?_) (fun c10 => ?_)
      · replace h := (if_pos c10).symm.trans h
        refine lv_lload hx hb dX8_madeOf_71 (lv_at hl 0 rfl) ?_
        obtain rfl := Option.some.inj h
        exact r_lret C hA dX8_madeOf_73
      · replace h := (if_neg c10).symm.trans h
        refine lv_ldc2 (v := 1000000000) hx hb C.1.2.2.2.1 (C.1.2.2.2.2 (.constantLong RX8 170 (1000000000)) (by decide +kernel)) dX8_madeOf_65 ?_
        refine lv_goto (tgt := 73) hx hb dX8_madeOf_68 (by decide) ?_
        obtain rfl := Option.some.inj h
        exact r_lret C hA dX8_madeOf_73
    · replace h := (if_pos c8).symm.trans h
      refine lv_lconst (v := 0) hx hb dX8_madeOf_36 (by decide) ?_
      obtain rfl := Option.some.inj h
      exact r_lret C hA dX8_madeOf_37
end
set_option maxRecDepth 100000 in
theorem k_X8_madeOf {l : Launch} {g : Gm} {fu : Nat} {σ : SS} {x1 : Int32} {x2 : Int32} {x3 : Int64} {R : Int64} (hlt : l.stackTraces = false) (h : f_X8_madeOf fu σ x1 x2 x3 = some R) (sz : Nat) : Met l yX8_madeOf wsX8_madeOf rmX8_madeOf (Pw g (wM g σ) [.ref (g.2.1 0), .int x1, .int x2, .long x3] sz) (Ql g (va_A (wM g σ) sz) (wM g σ) R) 0 0 (va_A (wM g σ) sz) :=
  ofM (own := RX8) hlt (by decide) rfl rfl (Nat.le_of_ble_eq_true rfl) (fun p e s m below meth c hsz C hA ls hl => w_X8_madeOf_0 C h hA hl)
abbrev rmX8_next : Room := { frames := 0, cells := 0, slots := 0, locals := 0 }
theorem iX8_next_X8 : ∀ x ∈ wsX80, x ∈ wsX8_next := by decide +kernel
theorem nd_X8_next : yX8_next.cls = RX8 ∧ yX8_next.cls ≠ "java/lang/invoke/MethodHandle" ∧ yX8_next.cls ≠ "java/lang/invoke/VarHandle" ∧ (parseMethodDescriptor yX8_next.desc).map (fun d => d.parameters.length) = some 2 := by decide +kernel
def f_X8_next_93 (fu : Nat) (k5 : SS → (Int32 × Int32 × Int32 × Int32) → Option (Int32)) (σ : SS) (x1 : Int32) (x2 : Int32) (x3 : Int32) (x4 : Int32) : Option (Int32) :=
  k5 σ (x1, x2, x3, (x4 + 1))
def f_X8_next_90 (fu : Nat) (k5 : SS → (Int32 × Int32 × Int32 × Int32) → Option (Int32)) (σ : SS) (x1 : Int32) (x2 : Int32) (x4 : Int32) : Option (Int32) :=
  f_X8_next_93 fu k5 σ x1 x2 x4 x4
def f_X8_next_5 (fu : Nat) (k5 : SS → (Int32 × Int32 × Int32 × Int32) → Option (Int32)) (σ : SS) (x1 : Int32) (x2 : Int32) (x3 : Int32) (x4 : Int32) : Option (Int32) :=
  (if (σ.1 20) ≤ x4 then some x3 else if inB x4 400 then (if (σ.2.1 15 (x4).toNatClampNeg) = x1 then (if (σ.2.1 16 (x4).toNatClampNeg) = x2 then (if (lg_cmp (σ.2.2 17 (x4).toNatClampNeg) (0 : Int64)) = 0 then f_X8_next_93 fu k5 σ x1 x2 x3 x4 else (if x3 < 0 then f_X8_next_90 fu k5 σ x1 x2 x4 else (if (σ.2.1 18 (x4).toNatClampNeg) = 0 then if inB x3 400 then (if (σ.2.1 18 (x3).toNatClampNeg) = 0 then (if (σ.2.1 19 (x3).toNatClampNeg) ≤ (σ.2.1 19 (x4).toNatClampNeg) then f_X8_next_93 fu k5 σ x1 x2 x3 x4 else f_X8_next_90 fu k5 σ x1 x2 x4) else f_X8_next_90 fu k5 σ x1 x2 x4) else none else f_X8_next_93 fu k5 σ x1 x2 x3 x4))) else f_X8_next_93 fu k5 σ x1 x2 x3 x4) else f_X8_next_93 fu k5 σ x1 x2 x3 x4) else none)
def f_X8_next_L5 (fu : Nat) : SS → (Int32 × Int32 × Int32 × Int32) → Option (Int32) := loopN (fun k5 σ x => f_X8_next_5 fu k5 σ x.1 x.2.1 x.2.2.1 x.2.2.2) fu
def f_X8_next (fu : Nat) (σ : SS) (x1 : Int32) (x2 : Int32) : Option (Int32) :=
  f_X8_next_L5 fu σ (x1, x2, (-1), (0 : Int32))
section
variable {p : Program} {l : Launch} {e : Env} {s : State} {m : MethodId} {args : Array Value} {below : List Frame} {meth : Method} {c : Code} {g : Gm} {A : Nat → Prop} {fu : Nat} {R : Int32}
set_option maxHeartbeats 4000000 in
set_option maxRecDepth 100000 in
theorem w_X8_next_93 {σ : SS} {x1 : Int32} {x2 : Int32} {x3 : Int32} {x4 : Int32} (C : Cx p l s m args meth c cX8_next 5 wsX8_next (some .int) RX8 g A) {k5 : SS → (Int32 × Int32 × Int32 × Int32) → Option (Int32)} (hk5 : ∀ (σ1 : SS) (x : Int32 × Int32 × Int32 × Int32), σ1 = σ → k5 σ1 x = some R → ∀ (H : Heap) (locs : List Loc) (ls : Array Slot), Aw g A s.heap (wM g σ) H locs → lv_has ls 5 [(0, .ref (g.2.1 0)), (1, .int x.1), (2, .int x.2.1), (3, .int x.2.2.1), (4, .int x.2.2.2)] → W p l e rmX8_next s m args below meth c H locs 0 0 (MQ below (Qi g A (wM g σ) R) args s 0 0 A) (F0 m 5 ls [])) (h : f_X8_next_93 fu k5 σ x1 x2 x3 x4 = some R) {H : Heap} {locs : List Loc} {ls : Array Slot} (hA : Aw g A s.heap (wM g σ) H locs) (hl : lv_has ls 5 [(0, .ref (g.2.1 0)), (1, .int x1), (2, .int x2), (3, .int x3), (4, .int x4)]) : W p l e rmX8_next s m args below meth c H locs 0 0 (MQ below (Qi g A (wM g σ) R) args s 0 0 A) (F0 m 93 ls []) := by
  have hx := C.1.1
  have hb := C.1.2.1
  unfold f_X8_next_93 at h
  refine lv_iinc (v := (x4 + 1)) (lv' := [(4, .int (x4 + 1)), (0, .ref (g.2.1 0)), (1, .int x1), (2, .int x2), (3, .int x3)]) hx hb dX8_next_93 hl (k := 4) rfl rfl (by decide) rfl (fun ls hl => ?_)
  refine lv_goto (tgt := 5) hx hb dX8_next_96 (by decide) ?_
  exact hk5 _ _ rfl h _ _ _ hA (lv_sub hl [1, 2, 3, 4, 0] rfl)
set_option maxHeartbeats 4000000 in
set_option maxRecDepth 100000 in
theorem w_X8_next_90 {σ : SS} {x1 : Int32} {x2 : Int32} {x4 : Int32} (C : Cx p l s m args meth c cX8_next 5 wsX8_next (some .int) RX8 g A) {k5 : SS → (Int32 × Int32 × Int32 × Int32) → Option (Int32)} (hk5 : ∀ (σ1 : SS) (x : Int32 × Int32 × Int32 × Int32), σ1 = σ → k5 σ1 x = some R → ∀ (H : Heap) (locs : List Loc) (ls : Array Slot), Aw g A s.heap (wM g σ) H locs → lv_has ls 5 [(0, .ref (g.2.1 0)), (1, .int x.1), (2, .int x.2.1), (3, .int x.2.2.1), (4, .int x.2.2.2)] → W p l e rmX8_next s m args below meth c H locs 0 0 (MQ below (Qi g A (wM g σ) R) args s 0 0 A) (F0 m 5 ls [])) (h : f_X8_next_90 fu k5 σ x1 x2 x4 = some R) {H : Heap} {locs : List Loc} {ls : Array Slot} (hA : Aw g A s.heap (wM g σ) H locs) (hl : lv_has ls 5 [(0, .ref (g.2.1 0)), (1, .int x1), (2, .int x2), (4, .int x4)]) : W p l e rmX8_next s m args below meth c H locs 0 0 (MQ below (Qi g A (wM g σ) R) args s 0 0 A) (F0 m 90 ls []) := by
  have hx := C.1.1
  have hb := C.1.2.1
  unfold f_X8_next_90 at h
  refine lv_iload hx hb dX8_next_90 (lv_at hl 3 rfl) ?_
  refine lv_istore_n (lv' := [(3, .int x4), (0, .ref (g.2.1 0)), (1, .int x1), (2, .int x2), (4, .int x4)]) hx hb dX8_next_92 rfl hl (by decide) rfl (fun ls hl => ?_)
  exact w_X8_next_93 C hk5 h hA (lv_sub hl [1, 2, 3, 0, 4] rfl)
set_option maxHeartbeats 4000000 in
set_option maxRecDepth 100000 in
theorem w_X8_next_5 {σ : SS} {x1 : Int32} {x2 : Int32} {x3 : Int32} {x4 : Int32} (C : Cx p l s m args meth c cX8_next 5 wsX8_next (some .int) RX8 g A) {k5 : SS → (Int32 × Int32 × Int32 × Int32) → Option (Int32)} (hk5 : ∀ (σ1 : SS) (x : Int32 × Int32 × Int32 × Int32), σ1 = σ → k5 σ1 x = some R → ∀ (H : Heap) (locs : List Loc) (ls : Array Slot), Aw g A s.heap (wM g σ) H locs → lv_has ls 5 [(0, .ref (g.2.1 0)), (1, .int x.1), (2, .int x.2.1), (3, .int x.2.2.1), (4, .int x.2.2.2)] → W p l e rmX8_next s m args below meth c H locs 0 0 (MQ below (Qi g A (wM g σ) R) args s 0 0 A) (F0 m 5 ls [])) (h : f_X8_next_5 fu k5 σ x1 x2 x3 x4 = some R) {H : Heap} {locs : List Loc} {ls : Array Slot} (hA : Aw g A s.heap (wM g σ) H locs) (hl : lv_has ls 5 [(0, .ref (g.2.1 0)), (1, .int x1), (2, .int x2), (3, .int x3), (4, .int x4)]) : W p l e rmX8_next s m args below meth c H locs 0 0 (MQ below (Qi g A (wM g σ) R) args s 0 0 A) (F0 m 5 ls []) := by
  have hx := C.1.1
  have hb := C.1.2.1
  unfold f_X8_next_5 at h
  refine lv_iload hx hb dX8_next_5 (lv_at hl 4 rfl) ?_
  refine lv_aload_n hx hb dX8_next_7 rfl (lv_at hl 0 rfl) ?_
  refine Mg_X8_debts (v := (σ.1 20)) C hA rfl iX8_next_X8 (by decide +kernel) dX8_next_8 ?_
  refine lv_icmp_ge (tgt := 99) hx hb dX8_next_11 (by decide) (fun c1 => ?_) (fun c1 => ?_)
  · replace h := (if_pos c1).symm.trans h
    refine lv_iload_n hx hb dX8_next_99 rfl (lv_at hl 3 rfl) ?_
    obtain rfl := Option.some.inj h
    exact r_iret C hA dX8_next_100
  · replace h := (if_neg c1).symm.trans h
    refine lv_aload_n hx hb dX8_next_14 rfl (lv_at hl 0 rfl) ?_
    refine Mg_X8_owes C hA iX8_next_X8 (by decide +kernel) dX8_next_15 ?_
    refine lv_iload hx hb dX8_next_18 (lv_at hl 4 rfl) ?_
    obtain ⟨g2, h⟩ := gd h
    refine Mld_15 (v := (σ.2.1 15 (x4).toNatClampNeg)) C hA rfl g2 dX8_next_20 ?_
    refine lv_iload_n hx hb dX8_next_21 rfl (lv_at hl 1 rfl) ?_
    refine lv_icmp_ne (tgt := 93) hx hb dX8_next_22 (by decide) (fun c3 => ?_) (fun c3 => ?_)
    · replace h := (if_neg c3).symm.trans h
      exact w_X8_next_93 C hk5 h hA (lv_sub hl [0, 1, 2, 3, 4] rfl)
    · replace h := (if_pos c3).symm.trans h
      refine lv_aload_n hx hb dX8_next_25 rfl (lv_at hl 0 rfl) ?_
      refine Mg_X8_whom C hA iX8_next_X8 (by decide +kernel) dX8_next_26 ?_
      refine lv_iload hx hb dX8_next_29 (lv_at hl 4 rfl) ?_
      refine Mld_16 (v := (σ.2.1 16 (x4).toNatClampNeg)) C hA rfl g2 dX8_next_31 ?_
      refine lv_iload_n hx hb dX8_next_32 rfl (lv_at hl 2 rfl) ?_
      refine lv_icmp_ne (tgt := 93) hx hb dX8_next_33 (by decide) (fun c4 => ?_) (fun c4 => ?_)
      · replace h := (if_neg c4).symm.trans h
        exact w_X8_next_93 C hk5 h hA (lv_sub hl [0, 1, 2, 3, 4] rfl)
      · replace h := (if_pos c4).symm.trans h
        refine lv_aload_n hx hb dX8_next_36 rfl (lv_at hl 0 rfl) ?_
        refine Mg_X8_left C hA iX8_next_X8 (by decide +kernel) dX8_next_37 ?_
        refine lv_iload hx hb dX8_next_40 (lv_at hl 4 rfl) ?_
        refine Mld_17 (v := (σ.2.2 17 (x4).toNatClampNeg)) C hA rfl g2 dX8_next_42 ?_
        refine lv_lconst (v := 0) hx hb dX8_next_43 (by decide) ?_
        refine W.lcmp hx hb dX8_next_44 ?_
        refine lv_if_ne (tgt := 51) hx hb dX8_next_45 (by decide) (fun c5 => ?_) (fun c5 => ?_)
        · replace h := (if_neg c5).symm.trans h
          refine lv_iload_n hx hb dX8_next_51 rfl (lv_at hl 3 rfl) ?_
          refine lv_if_lt (tgt := 90) hx hb dX8_next_52 (by decide) (fun c6 => ?_) (fun c6 => ?_)
          · replace h := (if_pos c6).symm.trans h
            exact w_X8_next_90 C hk5 h hA (lv_sub hl [0, 1, 2, 4] rfl)
          · replace h := (if_neg c6).symm.trans h
            refine lv_aload_n hx hb dX8_next_55 rfl (lv_at hl 0 rfl) ?_
            refine Mg_X8_isLoan C hA iX8_next_X8 (by decide +kernel) dX8_next_56 ?_
            refine lv_iload hx hb dX8_next_59 (lv_at hl 4 rfl) ?_
            refine Mld_18 (v := (σ.2.1 18 (x4).toNatClampNeg)) C hA rfl g2 dX8_next_61 ?_
            refine lv_if_ne (tgt := 93) hx hb dX8_next_62 (by decide) (fun c7 => ?_) (fun c7 => ?_)
            · replace h := (if_neg c7).symm.trans h
              exact w_X8_next_93 C hk5 h hA (lv_sub hl [0, 1, 2, 3, 4] rfl)
            · replace h := (if_pos c7).symm.trans h
              refine lv_aload_n hx hb dX8_next_65 rfl (lv_at hl 0 rfl) ?_
              refine Mg_X8_isLoan C hA iX8_next_X8 (by decide +kernel) dX8_next_66 ?_
              refine lv_iload_n hx hb dX8_next_69 rfl (lv_at hl 3 rfl) ?_
              obtain ⟨g8, h⟩ := gd h
              refine Mld_18 (v := (σ.2.1 18 (x3).toNatClampNeg)) C hA rfl g8 dX8_next_70 ?_
              refine lv_if_ne (tgt := 90) hx hb dX8_next_71 (by decide) (fun c9 => ?_) (fun c9 => ?_)
              · replace h := (if_neg c9).symm.trans h
                exact w_X8_next_90 C hk5 h hA (lv_sub hl [0, 1, 2, 4] rfl)
              · replace h := (if_pos c9).symm.trans h
                refine lv_aload_n hx hb dX8_next_74 rfl (lv_at hl 0 rfl) ?_
                refine Mg_X8_due C hA iX8_next_X8 (by decide +kernel) dX8_next_75 ?_
                refine lv_iload hx hb dX8_next_78 (lv_at hl 4 rfl) ?_
                refine Mld_19 (v := (σ.2.1 19 (x4).toNatClampNeg)) C hA rfl g2 dX8_next_80 ?_
                refine lv_aload_n hx hb dX8_next_81 rfl (lv_at hl 0 rfl) ?_
                refine Mg_X8_due C hA iX8_next_X8 (by decide +kernel) dX8_next_82 ?_
                refine lv_iload_n hx hb dX8_next_85 rfl (lv_at hl 3 rfl) ?_
                refine Mld_19 (v := (σ.2.1 19 (x3).toNatClampNeg)) C hA rfl g8 dX8_next_86 ?_
                refine lv_icmp_ge (tgt := 93) hx hb dX8_next_87 (by decide) (fun c10 => ?_) (fun c10 => ?_)
                · replace h := (if_pos c10).symm.trans h
                  exact w_X8_next_93 C hk5 h hA (lv_sub hl [0, 1, 2, 3, 4] rfl)
                · replace h := (if_neg c10).symm.trans h
                  exact w_X8_next_90 C hk5 h hA (lv_sub hl [0, 1, 2, 4] rfl)
        · replace h := (if_pos c5).symm.trans h
          refine lv_goto (tgt := 93) hx hb dX8_next_48 (by decide) ?_
          exact w_X8_next_93 C hk5 h hA (lv_sub hl [0, 1, 2, 3, 4] rfl)
set_option maxHeartbeats 4000000 in
theorem w_X8_next_L5 {σ : SS} {x : Int32 × Int32 × Int32 × Int32} (C : Cx p l s m args meth c cX8_next 5 wsX8_next (some .int) RX8 g A) (h : f_X8_next_L5 fu σ x = some R) {H : Heap} {locs : List Loc} {ls : Array Slot} (hA : Aw g A s.heap (wM g σ) H locs) (hl : lv_has ls 5 [(0, .ref (g.2.1 0)), (1, .int x.1), (2, .int x.2.1), (3, .int x.2.2.1), (4, .int x.2.2.2)]) : W p l e rmX8_next s m args below meth c H locs 0 0 (MQ below (Qi g A (wM g σ) R) args s 0 0 A) (F0 m 5 ls []) := by
  refine loopW (P := fun σ1 x => σ1 = σ → ∀ (H : Heap) (locs : List Loc) (ls : Array Slot), Aw g A s.heap (wM g σ) H locs → lv_has ls 5 [(0, .ref (g.2.1 0)), (1, .int x.1), (2, .int x.2.1), (3, .int x.2.2.1), (4, .int x.2.2.2)] → W p l e rmX8_next s m args below meth c H locs 0 0 (MQ below (Qi g A (wM g σ) R) args s 0 0 A) (F0 m 5 ls [])) (fun k hk σ1 x h9 e1 H locs ls hA9 hl9 => ?_) fu σ x h rfl H locs ls hA hl
  subst e1
  exact w_X8_next_5 C (fun σ2 x e2 h2 => hk σ2 x h2 e2) h9 hA9 hl9
set_option maxHeartbeats 4000000 in
set_option maxRecDepth 100000 in
theorem w_X8_next_0 {σ : SS} {x1 : Int32} {x2 : Int32} (C : Cx p l s m args meth c cX8_next 5 wsX8_next (some .int) RX8 g A) (h : f_X8_next fu σ x1 x2 = some R) {H : Heap} {locs : List Loc} {ls : Array Slot} (hA : Aw g A s.heap (wM g σ) H locs) (hl : lv_has ls 5 [(0, .ref (g.2.1 0)), (1, .int x1), (2, .int x2)]) : W p l e rmX8_next s m args below meth c H locs 0 0 (MQ below (Qi g A (wM g σ) R) args s 0 0 A) (F0 m 0 ls []) := by
  have hx := C.1.1
  have hb := C.1.2.1
  unfold f_X8_next at h
  refine lv_iconst (v := (-1)) hx hb dX8_next_0 (by decide) ?_
  refine lv_istore_n (lv' := [(3, .int (-1)), (0, .ref (g.2.1 0)), (1, .int x1), (2, .int x2)]) hx hb dX8_next_1 rfl hl (by decide) rfl (fun ls hl => ?_)
  refine lv_iconst (v := 0) hx hb dX8_next_2 (by decide) ?_
  refine lv_istore (lv' := [(4, .int (0 : Int32)), (3, .int (-1)), (0, .ref (g.2.1 0)), (1, .int x1), (2, .int x2)]) hx hb dX8_next_3 hl (by decide) rfl (fun ls hl => ?_)
  exact w_X8_next_L5 C h hA (lv_sub hl [2, 3, 4, 1, 0] rfl)
end
set_option maxRecDepth 100000 in
theorem k_X8_next {l : Launch} {g : Gm} {fu : Nat} {σ : SS} {x1 : Int32} {x2 : Int32} {R : Int32} (hlt : l.stackTraces = false) (h : f_X8_next fu σ x1 x2 = some R) (sz : Nat) : Met l yX8_next wsX8_next rmX8_next (Pw g (wM g σ) [.ref (g.2.1 0), .int x1, .int x2] sz) (Qi g (va_A (wM g σ) sz) (wM g σ) R) 0 0 (va_A (wM g σ) sz) :=
  ofM (own := RX8) hlt (by decide) rfl rfl (Nat.le_of_ble_eq_true rfl) (fun p e s m below meth c hsz C hA ls hl => w_X8_next_0 C h hA hl)
abbrev rmX8_gives : Room := { frames := 3, cells := 0, slots := 0, locals := 75 }
theorem iX8_gives_X8 : ∀ x ∈ wsX80, x ∈ wsX8_gives := by decide +kernel
theorem nd_X8_gives : yX8_gives.cls = RX8 ∧ yX8_gives.cls ≠ "java/lang/invoke/MethodHandle" ∧ yX8_gives.cls ≠ "java/lang/invoke/VarHandle" ∧ (parseMethodDescriptor yX8_gives.desc).map (fun d => d.parameters.length) = some 3 := by decide +kernel
def f_X8_gives_117 (fu : Nat) (σ : SS) (x1 : Int32) (x3 : Int32) (x6 : Int64) : Option (Int32 × SS) :=
  if inB x1 12 then some ((x3 - (x6).toInt32), (sL σ 2 (x1).toNatClampNeg ((σ.2.2 2 (x1).toNatClampNeg) + (x3).toInt64))) else none
def f_X8_gives_91 (fu : Nat) (σ : SS) (x1 : Int32) (x2 : Int32) (x3 : Int32) (x4 : Int64) (x6 : Int64) : Option (Int32 × SS) :=
  (if (lg_cmp x4 (0 : Int64)) ≤ 0 then f_X8_gives_117 fu σ x1 x3 x6 else bnd1 (f_X8_term fu σ (2 : Int32)) (fun r2 => bnd (f_X8_owe fu σ x2 x1 x4 (0 : Int32) ((σ.1 5) + r2)) (fun r4 t6 => f_X8_gives_117 fu t6 x1 x3 x6)))
def f_X8_gives_59 (fu : Nat) (k22 : SS → (Int32 × Int32 × Int32 × Int64 × Int64 × Int32) → Option (Int32 × SS)) (σ : SS) (x1 : Int32) (x2 : Int32) (x3 : Int32) (x4 : Int64) (x6 : Int64) (x8 : Int32) (y0 : Int64) : Option (Int32 × SS) :=
  if inB x8 400 then bnd1 (f_X8_next fu (sL σ 17 (x8).toNatClampNeg ((σ.2.2 17 (x8).toNatClampNeg) - y0)) x1 x2) (fun r2 => k22 (sL σ 17 (x8).toNatClampNeg ((σ.2.2 17 (x8).toNatClampNeg) - y0)) (x1, x2, x3, x4, (x6 - y0), r2)) else none
def f_X8_gives_22 (fu : Nat) (k22 : SS → (Int32 × Int32 × Int32 × Int64 × Int64 × Int32) → Option (Int32 × SS)) (σ : SS) (x1 : Int32) (x2 : Int32) (x3 : Int32) (x4 : Int64) (x6 : Int64) (x8 : Int32) : Option (Int32 × SS) :=
  (if (lg_cmp x6 (0 : Int64)) ≤ 0 then f_X8_gives_91 fu σ x1 x2 x3 x4 x6 else (if x8 < 0 then f_X8_gives_91 fu σ x1 x2 x3 x4 x6 else if inB x8 400 then (if 0 ≤ (lg_cmp (σ.2.2 17 (x8).toNatClampNeg) x6) then f_X8_gives_59 fu k22 σ x1 x2 x3 x4 x6 x8 x6 else f_X8_gives_59 fu k22 σ x1 x2 x3 x4 x6 x8 (σ.2.2 17 (x8).toNatClampNeg)) else none))
def f_X8_gives_L22 (fu : Nat) : SS → (Int32 × Int32 × Int32 × Int64 × Int64 × Int32) → Option (Int32 × SS) := loopN (fun k22 σ x => f_X8_gives_22 fu k22 σ x.1 x.2.1 x.2.2.1 x.2.2.2.1 x.2.2.2.2.1 x.2.2.2.2.2) fu
def f_X8_gives (fu : Nat) (σ : SS) (x1 : Int32) (x2 : Int32) (x3 : Int32) : Option (Int32 × SS) :=
  bnd1 (f_X8_madeOf fu σ x1 x2 (x3).toInt64) (fun r1 => bnd1 (f_X8_next fu σ x1 x2) (fun r3 => f_X8_gives_L22 fu σ (x1, x2, x3, r1, (x3).toInt64, r3)))
section
variable {p : Program} {l : Launch} {e : Env} {s : State} {m : MethodId} {args : Array Value} {below : List Frame} {meth : Method} {c : Code} {g : Gm} {A : Nat → Prop} {fu : Nat} {R : Int32 × SS}
set_option maxHeartbeats 4000000 in
set_option maxRecDepth 100000 in
theorem w_X8_gives_117 {σ : SS} {x1 : Int32} {x3 : Int32} {x6 : Int64} (C : Cx p l s m args meth c cX8_gives 11 wsX8_gives (some .int) RX8 g A) (h : f_X8_gives_117 fu σ x1 x3 x6 = some R) {H : Heap} {locs : List Loc} {ls : Array Slot} (hA : Aw g A s.heap (wM g σ) H locs) (hl : lv_has ls 11 [(0, .ref (g.2.1 0)), (1, .int x1), (3, .int x3), (6, .long x6)]) : W p l e rmX8_gives s m args below meth c H locs 0 0 (MQ below (Qi g A (wM g R.2) R.1) args s 0 0 A) (F0 m 117 ls []) := by
  have hx := C.1.1
  have hb := C.1.2.1
  unfold f_X8_gives_117 at h
  refine lv_aload_n hx hb dX8_gives_117 rfl (lv_at hl 0 rfl) ?_
  refine Mg_X8_fames C hA iX8_gives_X8 (by decide +kernel) dX8_gives_118 ?_
  refine lv_iload_n hx hb dX8_gives_121 rfl (lv_at hl 1 rfl) ?_
  refine lv_dup2_11 hx hb dX8_gives_122 rfl rfl ?_
  obtain ⟨g1, h⟩ := gd h
  refine Mld_2 (v := (σ.2.2 2 (x1).toNatClampNeg)) C hA rfl g1 dX8_gives_123 ?_
  refine lv_iload_n hx hb dX8_gives_124 rfl (lv_at hl 2 rfl) ?_
  refine lv_i2l hx hb dX8_gives_125 rfl ?_
  refine lv_ladd hx hb dX8_gives_126 ?_
  refine Mst_2 C hA g1 dX8_gives_127 (fun H locs hA => ?_)
  refine lv_iload_n hx hb dX8_gives_128 rfl (lv_at hl 2 rfl) ?_
  refine lv_lload hx hb dX8_gives_129 (lv_at hl 3 rfl) ?_
  refine lv_l2i hx hb dX8_gives_131 rfl ?_
  refine lv_isub hx hb dX8_gives_132 ?_
  obtain rfl := Option.some.inj h
  exact r_iret C hA dX8_gives_133
set_option maxHeartbeats 4000000 in
set_option maxRecDepth 100000 in
theorem w_X8_gives_91 {σ : SS} {x1 : Int32} {x2 : Int32} {x3 : Int32} {x4 : Int64} {x6 : Int64} (C : Cx p l s m args meth c cX8_gives 11 wsX8_gives (some .int) RX8 g A) (h : f_X8_gives_91 fu σ x1 x2 x3 x4 x6 = some R) {H : Heap} {locs : List Loc} {ls : Array Slot} (hA : Aw g A s.heap (wM g σ) H locs) (hl : lv_has ls 11 [(0, .ref (g.2.1 0)), (1, .int x1), (2, .int x2), (3, .int x3), (4, .long x4), (6, .long x6)]) : W p l e rmX8_gives s m args below meth c H locs 0 0 (MQ below (Qi g A (wM g R.2) R.1) args s 0 0 A) (F0 m 91 ls []) := by
  have hx := C.1.1
  have hb := C.1.2.1
  unfold f_X8_gives_91 at h
  refine lv_lload hx hb dX8_gives_91 (lv_at hl 4 rfl) ?_
  refine lv_lconst (v := 0) hx hb dX8_gives_93 (by decide) ?_
  refine W.lcmp hx hb dX8_gives_94 ?_
  refine lv_if_le (tgt := 117) hx hb dX8_gives_95 (by decide) (fun c1 => ?_) (fun c1 => ?_)
  · replace h := (if_pos c1).symm.trans h
    exact w_X8_gives_117 C h hA (lv_sub hl [0, 1, 3, 5] rfl)
  · replace h := (if_neg c1).symm.trans h
    refine lv_aload_n hx hb dX8_gives_98 rfl (lv_at hl 0 rfl) ?_
    refine lv_iload_n hx hb dX8_gives_99 rfl (lv_at hl 2 rfl) ?_
    refine lv_iload_n hx hb dX8_gives_100 rfl (lv_at hl 1 rfl) ?_
    refine lv_lload hx hb dX8_gives_101 (lv_at hl 4 rfl) ?_
    refine lv_iconst (v := 0) hx hb dX8_gives_103 (by decide) ?_
    refine lv_aload_n hx hb dX8_gives_104 rfl (lv_at hl 0 rfl) ?_
    refine Mg_X8_now (v := (σ.1 5)) C hA rfl iX8_gives_X8 (by decide +kernel) dX8_gives_105 ?_
    refine lv_aload_n hx hb dX8_gives_108 rfl (lv_at hl 0 rfl) ?_
    refine lv_iconst (v := 2) hx hb dX8_gives_109 (by decide) ?_
    obtain ⟨r2, hc3, h⟩ := bd1 h
    refine r_callVi (r := r2) (w1 := wM g σ) (As := [.int (2 : Int32)]) (rest := [.int (σ.1 5), .int (0 : Int32), .long x4, .int x1, .int x2, .ref (g.2.1 0)]) C hA hl.1 (k_X8_term C.2.2.2.2.2.2 hc3) (cwV 1 C.1.2.2.2.2 gX8_gives_X8_term rfl rfl rfl nd_X8_term ⟨Nat.le_of_ble_eq_true rfl, Nat.le_of_ble_eq_true rfl⟩) 0 rfl rfl rfl rfl (Nat.le_of_ble_eq_true rfl) dX8_gives_110 ⟨Nat.le_of_ble_eq_true rfl, Nat.le_of_ble_eq_true rfl⟩ (fun H locs hA => ?_)
    refine lv_iadd hx hb dX8_gives_113 ?_
    obtain ⟨r4, t6, hc5, h⟩ := bd h
    refine r_callVv (r := r4) (w1 := wM g t6) (As := [.int x2, .int x1, .long x4, .int (0 : Int32), .int ((σ.1 5) + r2)]) (rest := []) C hA hl.1 (k_X8_owe C.2.2.2.2.2.2 hc5) (cwV 5 C.1.2.2.2.2 gX8_gives_X8_owe rfl rfl rfl nd_X8_owe ⟨Nat.le_of_ble_eq_true rfl, Nat.le_of_ble_eq_true rfl⟩) 0 rfl rfl rfl rfl (Nat.le_of_ble_eq_true rfl) dX8_gives_114 ⟨Nat.le_of_ble_eq_true rfl, Nat.le_of_ble_eq_true rfl⟩ (fun H locs hA => ?_)
    exact w_X8_gives_117 C h hA (lv_sub hl [0, 1, 3, 5] rfl)
set_option maxHeartbeats 4000000 in
set_option maxRecDepth 100000 in
theorem w_X8_gives_59 {σ : SS} {x1 : Int32} {x2 : Int32} {x3 : Int32} {x4 : Int64} {x6 : Int64} {x8 : Int32} {y0 : Int64} (C : Cx p l s m args meth c cX8_gives 11 wsX8_gives (some .int) RX8 g A) {k22 : SS → (Int32 × Int32 × Int32 × Int64 × Int64 × Int32) → Option (Int32 × SS)} (hk22 : ∀ (σ : SS) (x : Int32 × Int32 × Int32 × Int64 × Int64 × Int32), k22 σ x = some R → ∀ (H : Heap) (locs : List Loc) (ls : Array Slot), Aw g A s.heap (wM g σ) H locs → lv_has ls 11 [(0, .ref (g.2.1 0)), (1, .int x.1), (2, .int x.2.1), (3, .int x.2.2.1), (4, .long x.2.2.2.1), (6, .long x.2.2.2.2.1), (8, .int x.2.2.2.2.2)] → W p l e rmX8_gives s m args below meth c H locs 0 0 (MQ below (Qi g A (wM g R.2) R.1) args s 0 0 A) (F0 m 22 ls [])) (h : f_X8_gives_59 fu k22 σ x1 x2 x3 x4 x6 x8 y0 = some R) {H : Heap} {locs : List Loc} {ls : Array Slot} (hA : Aw g A s.heap (wM g σ) H locs) (hl : lv_has ls 11 [(0, .ref (g.2.1 0)), (1, .int x1), (2, .int x2), (3, .int x3), (4, .long x4), (6, .long x6), (8, .int x8)]) : W p l e rmX8_gives s m args below meth c H locs 0 0 (MQ below (Qi g A (wM g R.2) R.1) args s 0 0 A) (F0 m 59 ls [.long y0]) := by
  have hx := C.1.1
  have hb := C.1.2.1
  unfold f_X8_gives_59 at h
  refine lv_lstore (lv' := [(9, .long y0), (0, .ref (g.2.1 0)), (1, .int x1), (2, .int x2), (3, .int x3), (4, .long x4), (6, .long x6), (8, .int x8)]) hx hb dX8_gives_59 hl (by decide) rfl (fun ls hl => ?_)
  refine lv_aload_n hx hb dX8_gives_61 rfl (lv_at hl 1 rfl) ?_
  refine Mg_X8_left C hA iX8_gives_X8 (by decide +kernel) dX8_gives_62 ?_
  refine lv_iload hx hb dX8_gives_65 (lv_at hl 7 rfl) ?_
  refine lv_dup2_11 hx hb dX8_gives_67 rfl rfl ?_
  obtain ⟨g1, h⟩ := gd h
  refine Mld_17 (v := (σ.2.2 17 (x8).toNatClampNeg)) C hA rfl g1 dX8_gives_68 ?_
  refine lv_lload hx hb dX8_gives_69 (lv_at hl 0 rfl) ?_
  refine lv_lsub hx hb dX8_gives_71 ?_
  refine Mst_17 C hA g1 dX8_gives_72 (fun H locs hA => ?_)
  refine lv_lload hx hb dX8_gives_73 (lv_at hl 6 rfl) ?_
  refine lv_lload hx hb dX8_gives_75 (lv_at hl 0 rfl) ?_
  refine lv_lsub hx hb dX8_gives_77 ?_
  refine lv_lstore (lv' := [(6, .long (x6 - y0)), (9, .long y0), (0, .ref (g.2.1 0)), (1, .int x1), (2, .int x2), (3, .int x3), (4, .long x4), (8, .int x8)]) hx hb dX8_gives_78 hl (by decide) rfl (fun ls hl => ?_)
  refine lv_aload_n hx hb dX8_gives_80 rfl (lv_at hl 2 rfl) ?_
  refine lv_iload_n hx hb dX8_gives_81 rfl (lv_at hl 3 rfl) ?_
  refine lv_iload_n hx hb dX8_gives_82 rfl (lv_at hl 4 rfl) ?_
  obtain ⟨r2, hc3, h⟩ := bd1 h
  refine r_callVi (r := r2) (w1 := wM g (sL σ 17 (x8).toNatClampNeg ((σ.2.2 17 (x8).toNatClampNeg) - y0))) (As := [.int x1, .int x2]) (rest := []) C hA hl.1 (k_X8_next C.2.2.2.2.2.2 hc3) (cwV 2 C.1.2.2.2.2 gX8_gives_X8_next rfl rfl rfl nd_X8_next ⟨Nat.le_of_ble_eq_true rfl, Nat.le_of_ble_eq_true rfl⟩) 0 rfl rfl rfl rfl (Nat.le_of_ble_eq_true rfl) dX8_gives_83 ⟨Nat.le_of_ble_eq_true rfl, Nat.le_of_ble_eq_true rfl⟩ (fun H locs hA => ?_)
  refine lv_istore (lv' := [(8, .int r2), (6, .long (x6 - y0)), (9, .long y0), (0, .ref (g.2.1 0)), (1, .int x1), (2, .int x2), (3, .int x3), (4, .long x4)]) hx hb dX8_gives_86 hl (by decide) rfl (fun ls hl => ?_)
  refine lv_goto (tgt := 22) hx hb dX8_gives_88 (by decide) ?_
  exact hk22 _ _ h _ _ _ hA (lv_sub hl [3, 4, 5, 6, 7, 1, 0] rfl)
set_option maxHeartbeats 4000000 in
set_option maxRecDepth 100000 in
theorem w_X8_gives_22 {σ : SS} {x1 : Int32} {x2 : Int32} {x3 : Int32} {x4 : Int64} {x6 : Int64} {x8 : Int32} (C : Cx p l s m args meth c cX8_gives 11 wsX8_gives (some .int) RX8 g A) {k22 : SS → (Int32 × Int32 × Int32 × Int64 × Int64 × Int32) → Option (Int32 × SS)} (hk22 : ∀ (σ : SS) (x : Int32 × Int32 × Int32 × Int64 × Int64 × Int32), k22 σ x = some R → ∀ (H : Heap) (locs : List Loc) (ls : Array Slot), Aw g A s.heap (wM g σ) H locs → lv_has ls 11 [(0, .ref (g.2.1 0)), (1, .int x.1), (2, .int x.2.1), (3, .int x.2.2.1), (4, .long x.2.2.2.1), (6, .long x.2.2.2.2.1), (8, .int x.2.2.2.2.2)] → W p l e rmX8_gives s m args below meth c H locs 0 0 (MQ below (Qi g A (wM g R.2) R.1) args s 0 0 A) (F0 m 22 ls [])) (h : f_X8_gives_22 fu k22 σ x1 x2 x3 x4 x6 x8 = some R) {H : Heap} {locs : List Loc} {ls : Array Slot} (hA : Aw g A s.heap (wM g σ) H locs) (hl : lv_has ls 11 [(0, .ref (g.2.1 0)), (1, .int x1), (2, .int x2), (3, .int x3), (4, .long x4), (6, .long x6), (8, .int x8)]) : W p l e rmX8_gives s m args below meth c H locs 0 0 (MQ below (Qi g A (wM g R.2) R.1) args s 0 0 A) (F0 m 22 ls []) := by
  have hx := C.1.1
  have hb := C.1.2.1
  unfold f_X8_gives_22 at h
  refine lv_lload hx hb dX8_gives_22 (lv_at hl 5 rfl) ?_
  refine lv_lconst (v := 0) hx hb dX8_gives_24 (by decide) ?_
  refine W.lcmp hx hb dX8_gives_25 ?_
  refine lv_if_le (tgt := 91) hx hb dX8_gives_26 (by decide) (fun c1 => ?_) (fun c1 => ?_)
  · replace h := (if_pos c1).symm.trans h
    exact w_X8_gives_91 C h hA (lv_sub hl [0, 1, 2, 3, 4, 5] rfl)
  · replace h := (if_neg c1).symm.trans h
    refine lv_iload hx hb dX8_gives_29 (lv_at hl 6 rfl) ?_
    refine lv_if_lt (tgt := 91) hx hb dX8_gives_31 (by decide) (fun c2 => ?_) (fun c2 => ?_)
    · replace h := (if_pos c2).symm.trans h
      exact w_X8_gives_91 C h hA (lv_sub hl [0, 1, 2, 3, 4, 5] rfl)
    · replace h := (if_neg c2).symm.trans h
      refine lv_aload_n hx hb dX8_gives_34 rfl (lv_at hl 0 rfl) ?_
      refine Mg_X8_left C hA iX8_gives_X8 (by decide +kernel) dX8_gives_35 ?_
      refine lv_iload hx hb dX8_gives_38 (lv_at hl 6 rfl) ?_
      obtain ⟨g3, h⟩ := gd h
      refine Mld_17 (v := (σ.2.2 17 (x8).toNatClampNeg)) C hA rfl g3 dX8_gives_40 ?_
      refine lv_lload hx hb dX8_gives_41 (lv_at hl 5 rfl) ?_
      refine W.lcmp hx hb dX8_gives_43 ?_
      refine lv_if_ge (tgt := 57) hx hb dX8_gives_44 (by decide) (fun c4 => ?_) (fun c4 => ?_)
      · replace h := (if_pos c4).symm.trans h
        refine lv_lload hx hb dX8_gives_57 (lv_at hl 5 rfl) ?_
        exact w_X8_gives_59 C hk22 h hA (lv_sub hl [0, 1, 2, 3, 4, 5, 6] rfl)
      · replace h := (if_neg c4).symm.trans h
        refine lv_aload_n hx hb dX8_gives_47 rfl (lv_at hl 0 rfl) ?_
        refine Mg_X8_left C hA iX8_gives_X8 (by decide +kernel) dX8_gives_48 ?_
        refine lv_iload hx hb dX8_gives_51 (lv_at hl 6 rfl) ?_
        refine Mld_17 (v := (σ.2.2 17 (x8).toNatClampNeg)) C hA rfl g3 dX8_gives_53 ?_
        refine lv_goto (tgt := 59) hx hb dX8_gives_54 (by decide) ?_
        exact w_X8_gives_59 C hk22 h hA (lv_sub hl [0, 1, 2, 3, 4, 5, 6] rfl)
set_option maxHeartbeats 4000000 in
theorem w_X8_gives_L22 {σ : SS} {x : Int32 × Int32 × Int32 × Int64 × Int64 × Int32} (C : Cx p l s m args meth c cX8_gives 11 wsX8_gives (some .int) RX8 g A) (h : f_X8_gives_L22 fu σ x = some R) {H : Heap} {locs : List Loc} {ls : Array Slot} (hA : Aw g A s.heap (wM g σ) H locs) (hl : lv_has ls 11 [(0, .ref (g.2.1 0)), (1, .int x.1), (2, .int x.2.1), (3, .int x.2.2.1), (4, .long x.2.2.2.1), (6, .long x.2.2.2.2.1), (8, .int x.2.2.2.2.2)]) : W p l e rmX8_gives s m args below meth c H locs 0 0 (MQ below (Qi g A (wM g R.2) R.1) args s 0 0 A) (F0 m 22 ls []) := by
  refine loopW (P := fun σ x => ∀ (H : Heap) (locs : List Loc) (ls : Array Slot), Aw g A s.heap (wM g σ) H locs → lv_has ls 11 [(0, .ref (g.2.1 0)), (1, .int x.1), (2, .int x.2.1), (3, .int x.2.2.1), (4, .long x.2.2.2.1), (6, .long x.2.2.2.2.1), (8, .int x.2.2.2.2.2)] → W p l e rmX8_gives s m args below meth c H locs 0 0 (MQ below (Qi g A (wM g R.2) R.1) args s 0 0 A) (F0 m 22 ls [])) (fun k hk σ x h9 H locs ls hA9 hl9 => ?_) fu σ x h H locs ls hA hl
  exact w_X8_gives_22 C hk h9 hA9 hl9
set_option maxHeartbeats 4000000 in
set_option maxRecDepth 100000 in
theorem w_X8_gives_0 {σ : SS} {x1 : Int32} {x2 : Int32} {x3 : Int32} (C : Cx p l s m args meth c cX8_gives 11 wsX8_gives (some .int) RX8 g A) (h : f_X8_gives fu σ x1 x2 x3 = some R) {H : Heap} {locs : List Loc} {ls : Array Slot} (hA : Aw g A s.heap (wM g σ) H locs) (hl : lv_has ls 11 [(0, .ref (g.2.1 0)), (1, .int x1), (2, .int x2), (3, .int x3)]) : W p l e rmX8_gives s m args below meth c H locs 0 0 (MQ below (Qi g A (wM g R.2) R.1) args s 0 0 A) (F0 m 0 ls []) := by
  have hx := C.1.1
  have hb := C.1.2.1
  unfold f_X8_gives at h
  refine lv_aload_n hx hb dX8_gives_0 rfl (lv_at hl 0 rfl) ?_
  refine lv_iload_n hx hb dX8_gives_1 rfl (lv_at hl 1 rfl) ?_
  refine lv_iload_n hx hb dX8_gives_2 rfl (lv_at hl 2 rfl) ?_
  refine lv_iload_n hx hb dX8_gives_3 rfl (lv_at hl 3 rfl) ?_
  refine lv_i2l hx hb dX8_gives_4 rfl ?_
  obtain ⟨r1, hc2, h⟩ := bd1 h
  refine r_callVl (r := r1) (w1 := wM g σ) (As := [.int x1, .int x2, .long (x3).toInt64]) (rest := []) C hA hl.1 (k_X8_madeOf C.2.2.2.2.2.2 hc2) (cwV 3 C.1.2.2.2.2 gX8_gives_X8_madeOf rfl rfl rfl nd_X8_madeOf ⟨Nat.le_of_ble_eq_true rfl, Nat.le_of_ble_eq_true rfl⟩) 0 rfl rfl rfl rfl (Nat.le_of_ble_eq_true rfl) dX8_gives_5 ⟨Nat.le_of_ble_eq_true rfl, Nat.le_of_ble_eq_true rfl⟩ (fun H locs hA => ?_)
  refine lv_lstore (lv' := [(4, .long r1), (0, .ref (g.2.1 0)), (1, .int x1), (2, .int x2), (3, .int x3)]) hx hb dX8_gives_8 hl (by decide) rfl (fun ls hl => ?_)
  refine lv_iload_n hx hb dX8_gives_10 rfl (lv_at hl 4 rfl) ?_
  refine lv_i2l hx hb dX8_gives_11 rfl ?_
  refine lv_lstore (lv' := [(6, .long (x3).toInt64), (4, .long r1), (0, .ref (g.2.1 0)), (1, .int x1), (2, .int x2), (3, .int x3)]) hx hb dX8_gives_12 hl (by decide) rfl (fun ls hl => ?_)
  refine lv_aload_n hx hb dX8_gives_14 rfl (lv_at hl 2 rfl) ?_
  refine lv_iload_n hx hb dX8_gives_15 rfl (lv_at hl 3 rfl) ?_
  refine lv_iload_n hx hb dX8_gives_16 rfl (lv_at hl 4 rfl) ?_
  obtain ⟨r3, hc4, h⟩ := bd1 h
  refine r_callVi (r := r3) (w1 := wM g σ) (As := [.int x1, .int x2]) (rest := []) C hA hl.1 (k_X8_next C.2.2.2.2.2.2 hc4) (cwV 2 C.1.2.2.2.2 gX8_gives_X8_next rfl rfl rfl nd_X8_next ⟨Nat.le_of_ble_eq_true rfl, Nat.le_of_ble_eq_true rfl⟩) 0 rfl rfl rfl rfl (Nat.le_of_ble_eq_true rfl) dX8_gives_17 ⟨Nat.le_of_ble_eq_true rfl, Nat.le_of_ble_eq_true rfl⟩ (fun H locs hA => ?_)
  refine lv_istore (lv' := [(8, .int r3), (6, .long (x3).toInt64), (4, .long r1), (0, .ref (g.2.1 0)), (1, .int x1), (2, .int x2), (3, .int x3)]) hx hb dX8_gives_20 hl (by decide) rfl (fun ls hl => ?_)
  exact w_X8_gives_L22 C h hA (lv_sub hl [3, 4, 5, 6, 2, 1, 0] rfl)
end
set_option maxRecDepth 100000 in
theorem k_X8_gives {l : Launch} {g : Gm} {fu : Nat} {σ : SS} {x1 : Int32} {x2 : Int32} {x3 : Int32} {R : Int32 × SS} (hlt : l.stackTraces = false) (h : f_X8_gives fu σ x1 x2 x3 = some R) (sz : Nat) : Met l yX8_gives wsX8_gives rmX8_gives (Pw g (wM g σ) [.ref (g.2.1 0), .int x1, .int x2, .int x3] sz) (Qi g (va_A (wM g σ) sz) (wM g R.2) R.1) 0 0 (va_A (wM g σ) sz) :=
  ofM (own := RX8) hlt (by decide) rfl rfl (Nat.le_of_ble_eq_true rfl) (fun p e s m below meth c hsz C hA ls hl => w_X8_gives_0 C h hA hl)
