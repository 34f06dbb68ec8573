abbrev rmX7_chief : Room := { frames := 1, cells := 0, slots := 0, locals := 21 }
abbrev rxX7_chief : Room := { frames := 6, cells := 1, slots := 6, locals := 90 }
theorem iX7_chief_X0 : ∀ x ∈ wsX00, x ∈ wsX7_chief := by decide +kernel
theorem iX7_chief_X7 : ∀ x ∈ wsX70, x ∈ wsX7_chief := by decide +kernel
set_option maxRecDepth 20000 in
theorem xi_X7_chief_0 : ∀ w ∈ (vx_atS RX7 70 "java/lang/IllegalArgumentException" xNames).filter goodWord, w ∈ wsX7_chief := by decide +kernel
set_option maxRecDepth 20000 in
theorem xi_X7_chief_1 : ∀ w ∈ (vx_atS RX7 80 "java/lang/IllegalStateException" xNames).filter goodWord, w ∈ wsX7_chief := by decide +kernel
theorem nd_X7_chief : yX7_chief.cls = RX7 ∧ yX7_chief.cls ≠ "java/lang/invoke/MethodHandle" ∧ yX7_chief.cls ≠ "java/lang/invoke/VarHandle" ∧ (parseMethodDescriptor yX7_chief.desc).map (fun d => d.parameters.length) = some 1 := by decide +kernel
def f_X7_chief_10 (fu : Nat) (σ : SS) : Option ((Int32 ⊕ Nat) × SS) :=
  some (.inr 0, σ)
def f_X7_chief (fu : Nat) (σ : SS) (x1 : Int32) : Option ((Int32 ⊕ Nat) × SS) :=
  (if x1 < 0 then f_X7_chief_10 fu σ else (if x1 ≤ (1000000 : Int32) then (if (σ.1 14) < (12 : Int32) then bnd (f_X0_add fu σ x1) (fun r4 t6 => some (.inl r4, t6)) else some (.inr 1, σ)) else f_X7_chief_10 fu σ))
section
variable {p : Program} {l : Launch} {e : Env} {s : State} {m : MethodId} {args : Array Value} {below : List Frame} {meth : Method} {c : Code} {g : Gm} {A : Nat → Prop} {fu : Nat} {v0 : Int32} {τ : SS} {j : Nat}
set_option maxHeartbeats 4000000 in
set_option maxRecDepth 100000 in
theorem w_X7_chief_10 {σ : SS} (C : Cx p l s m args meth c cX7_chief 2 wsX7_chief (some .int) RX7 g A) (h : f_X7_chief_10 fu σ = some (.inl v0, τ)) {H : Heap} {locs : List Loc} {ls : Array Slot} (hA : Aw g A s.heap (wX g σ) H locs) (hl : lv_has ls 2 []) : W p l e rmX7_chief s m args below meth c H locs 0 0 (MQ below (Qi g A (wX g τ) v0) args s 0 0 A) (F0 m 10 ls []) := by
  have hx := C.1.1
  have hb := C.1.2.1
  unfold f_X7_chief_10 at h
  cases h
set_option maxHeartbeats 4000000 in
set_option maxRecDepth 100000 in
theorem w_X7_chief_0 {σ : SS} {x1 : Int32} (C : Cx p l s m args meth c cX7_chief 2 wsX7_chief (some .int) RX7 g A) (h : f_X7_chief fu σ x1 = some (.inl v0, τ)) {H : Heap} {locs : List Loc} {ls : Array Slot} (hA : Aw g A s.heap (wX g σ) H locs) (hl : lv_has ls 2 [(0, .ref (g.2.1 0)), (1, .int x1)]) : W p l e rmX7_chief s m args below meth c H locs 0 0 (MQ below (Qi g A (wX g τ) v0) args s 0 0 A) (F0 m 0 ls []) := by
  have hx := C.1.1
  have hb := C.1.2.1
  unfold f_X7_chief at h
  refine lv_iload_n hx hb dX7_chief_0 rfl (lv_at hl 1 rfl) ?_
  refine lv_if_lt (tgt := 10) hx hb dX7_chief_1 (by decide) (fun c1 => ?_) (fun c1 => ?_)
  · replace h := (if_pos c1).symm.trans h
    exact w_X7_chief_10 C h hA (lv_sub hl [] rfl)
  · replace h := (if_neg c1).symm.trans h
    refine lv_iload_n hx hb dX7_chief_4 rfl (lv_at hl 1 rfl) ?_
    refine lv_ldc (v := 1000000) hx hb C.1.2.2.2.1 (C.1.2.2.2.2 (.constant RX7 65 (1000000)) (by decide +kernel)) dX7_chief_5 ?_
    refine lv_icmp_le (tgt := 20) hx hb dX7_chief_7 (by decide) (fun c2 => ?_) (fun c2 => ?_)
    · replace h := (if_pos c2).symm.trans h
      refine lv_aload_n hx hb dX7_chief_20 rfl (lv_at hl 0 rfl) ?_
      refine Xg_X7_chiefs C hA iX7_chief_X7 (by decide +kernel) dX7_chief_21 ?_
      refine Xg_X0_size (v := (σ.1 14)) C hA rfl iX7_chief_X0 (by decide +kernel) dX7_chief_24 ?_
      refine lv_bipush (v := 12) hx hb dX7_chief_27 (by decide) ?_
      refine lv_icmp_lt (tgt := 42) hx hb dX7_chief_29 (by decide) (fun c3 => ?_) (fun c3 => ?_)
      · replace h := (if_pos c3).symm.trans h
        refine lv_aload_n hx hb dX7_chief_42 rfl (lv_at hl 0 rfl) ?_
        refine Xg_X7_chiefs C hA iX7_chief_X7 (by decide +kernel) dX7_chief_43 ?_
        refine lv_iload_n hx hb dX7_chief_46 rfl (lv_at hl 1 rfl) ?_
        obtain ⟨r4, t6, hc5, h⟩ := bd h
        refine r_callVi (r := r4) (w1 := wX g t6) (As := [.int x1]) (rest := []) C hA hl.1 (k_X0_add C.2.2.2.2.2.2 hc5) (cwV 1 C.1.2.2.2.2 gX7_chief_X0_add rfl rfl rfl nd_X0_add ⟨Nat.le_of_ble_eq_true rfl, Nat.le_of_ble_eq_true rfl⟩) 4 rfl rfl rfl rfl (Nat.le_of_ble_eq_true rfl) dX7_chief_47 ⟨Nat.le_of_ble_eq_true rfl, Nat.le_of_ble_eq_true rfl⟩ (fun H locs hA => ?_)
        obtain ⟨rfl, rfl⟩ := inl_inj h
        exact r_iret C hA dX7_chief_50
      · replace h := (if_neg c3).symm.trans h
        cases h
    · replace h := (if_neg c2).symm.trans h
      exact w_X7_chief_10 C h hA (lv_sub hl [] rfl)
set_option maxHeartbeats 4000000 in
set_option maxRecDepth 100000 in
theorem v_X7_chief_10 {σ : SS} (C : Cx p l s m args meth c cX7_chief 2 wsX7_chief (some .int) RX7 g A) (hT : ∀ x ∈ c.exceptionTable.toList, False) (h : f_X7_chief_10 fu σ = some (.inr j, τ)) {H : Heap} {locs : List Loc} {ls : Array Slot} (hA : Aw g A s.heap (wX g σ) H locs) (hl : lv_has ls 2 []) : W p l e rxX7_chief s m args below meth c H locs 0 0 (vx_MQ below (QFi A) (Xw g A (wX g τ) j) args s 1 6 A) (F0 m 10 ls []) := by
  have hx := C.1.1
  have hb := C.1.2.1
  unfold f_X7_chief_10 at h
  obtain ⟨rfl, rfl⟩ := inr_inj h
  exact r_throw (j := 0) (rest := []) C hA hl.1 hT rfl (by decide +kernel) C.2.2.2.2.2.1.2.2.2.2.2.2.2.2.1 (by decide +kernel) (by decide +kernel) xi_X7_chief_0 xn_X7_0 C.2.2.2.2.2.1.2.2.2.2.2.1 xg_X7_0 dX7_chief_10 dX7_chief_13 dX7_chief_14 dX7_chief_16 dX7_chief_19 (Nat.le_of_ble_eq_true rfl) (Nat.le_of_ble_eq_true rfl) (Nat.le_of_ble_eq_true rfl) (Nat.le_of_ble_eq_true rfl)
set_option maxHeartbeats 4000000 in
set_option maxRecDepth 100000 in
theorem v_X7_chief_0 {σ : SS} {x1 : Int32} (C : Cx p l s m args meth c cX7_chief 2 wsX7_chief (some .int) RX7 g A) (hT : ∀ x ∈ c.exceptionTable.toList, False) (h : f_X7_chief fu σ x1 = some (.inr j, τ)) {H : Heap} {locs : List Loc} {ls : Array Slot} (hA : Aw g A s.heap (wX g σ) H locs) (hl : lv_has ls 2 [(0, .ref (g.2.1 0)), (1, .int x1)]) : W p l e rxX7_chief s m args below meth c H locs 0 0 (vx_MQ below (QFi A) (Xw g A (wX g τ) j) args s 1 6 A) (F0 m 0 ls []) := by
  have hx := C.1.1
  have hb := C.1.2.1
  unfold f_X7_chief at h
  refine lv_iload_n hx hb dX7_chief_0 rfl (lv_at hl 1 rfl) ?_
  refine lv_if_lt (tgt := 10) hx hb dX7_chief_1 (by decide) (fun c1 => ?_) (fun c1 => ?_)
  · replace h := (if_pos c1).symm.trans h
    exact v_X7_chief_10 C hT h hA (lv_sub hl [] rfl)
  · replace h := (if_neg c1).symm.trans h
    refine lv_iload_n hx hb dX7_chief_4 rfl (lv_at hl 1 rfl) ?_
    refine lv_ldc (v := 1000000) hx hb C.1.2.2.2.1 (C.1.2.2.2.2 (.constant RX7 65 (1000000)) (by decide +kernel)) dX7_chief_5 ?_
    refine lv_icmp_le (tgt := 20) hx hb dX7_chief_7 (by decide) (fun c2 => ?_) (fun c2 => ?_)
    · replace h := (if_pos c2).symm.trans h
      refine lv_aload_n hx hb dX7_chief_20 rfl (lv_at hl 0 rfl) ?_
      refine Xg_X7_chiefs C hA iX7_chief_X7 (by decide +kernel) dX7_chief_21 ?_
      refine Xg_X0_size (v := (σ.1 14)) C hA rfl iX7_chief_X0 (by decide +kernel) dX7_chief_24 ?_
      refine lv_bipush (v := 12) hx hb dX7_chief_27 (by decide) ?_
      refine lv_icmp_lt (tgt := 42) hx hb dX7_chief_29 (by decide) (fun c3 => ?_) (fun c3 => ?_)
      · replace h := (if_pos c3).symm.trans h
        refine lv_aload_n hx hb dX7_chief_42 rfl (lv_at hl 0 rfl) ?_
        refine Xg_X7_chiefs C hA iX7_chief_X7 (by decide +kernel) dX7_chief_43 ?_
        refine lv_iload_n hx hb dX7_chief_46 rfl (lv_at hl 1 rfl) ?_
        obtain ⟨r4, t6, hc5, h⟩ := bd h
        refine r_callVi (r := r4) (w1 := wX g t6) (As := [.int x1]) (rest := []) C hA hl.1 (k_X0_add C.2.2.2.2.2.2 hc5) (cwV 1 C.1.2.2.2.2 gX7_chief_X0_add rfl rfl rfl nd_X0_add ⟨Nat.le_of_ble_eq_true rfl, Nat.le_of_ble_eq_true rfl⟩) 4 rfl rfl rfl rfl (Nat.le_of_ble_eq_true rfl) dX7_chief_47 ⟨Nat.le_of_ble_eq_true rfl, Nat.le_of_ble_eq_true rfl⟩ (fun H locs hA => ?_)
        cases h
      · replace h := (if_neg c3).symm.trans h
        obtain ⟨rfl, rfl⟩ := inr_inj h
        exact r_throw (j := 1) (rest := []) C hA hl.1 hT rfl (by decide +kernel) C.2.2.2.2.2.1.2.2.2.2.2.2.2.2.2.1 (by decide +kernel) (by decide +kernel) xi_X7_chief_1 xn_X7_1 C.2.2.2.2.2.1.2.2.2.2.2.2.1 xg_X7_1 dX7_chief_32 dX7_chief_35 dX7_chief_36 dX7_chief_38 dX7_chief_41 (Nat.le_of_ble_eq_true rfl) (Nat.le_of_ble_eq_true rfl) (Nat.le_of_ble_eq_true rfl) (Nat.le_of_ble_eq_true rfl)
    · replace h := (if_neg c2).symm.trans h
      exact v_X7_chief_10 C hT h hA (lv_sub hl [] rfl)
end
set_option maxRecDepth 100000 in
theorem k_X7_chief {l : Launch} {g : Gm} {fu : Nat} {σ : SS} {x1 : Int32} {v0 : Int32} {τ : SS} (hlt : l.stackTraces = false) (h : f_X7_chief fu σ x1 = some (.inl v0, τ)) (sz : Nat) : Met l yX7_chief wsX7_chief rmX7_chief (Pw g (wX g σ) [.ref (g.2.1 0), .int x1] sz) (Qi g (va_A (wX g σ) sz) (wX g τ) v0) 0 0 (va_A (wX g σ) sz) :=
  ofM (own := RX7) hlt (by decide) rfl rfl (Nat.le_of_ble_eq_true rfl) (fun p e s m below meth c hsz C hA ls hl => w_X7_chief_0 C h hA hl)
set_option maxRecDepth 100000 in
theorem kx_X7_chief {l : Launch} {g : Gm} {fu : Nat} {σ : SS} {x1 : Int32} {j : Nat} {τ : SS} (hlt : l.stackTraces = false) (h : f_X7_chief fu σ x1 = some (.inr j, τ)) (sz : Nat) : vx_Met l yX7_chief wsX7_chief rxX7_chief (Pw g (wX g σ) [.ref (g.2.1 0), .int x1] sz) (QFi (va_A (wX g σ) sz)) (Xw g (va_A (wX g σ) sz) (wX g τ) j) 1 6 (va_A (wX g σ) sz) :=
  ofX (own := RX7) hlt (by decide) rfl rfl (Nat.le_of_ble_eq_true rfl) (fun p e s m below meth c hsz C hT hA ls hl => v_X7_chief_0 C hT h hA hl)
abbrev rmX7_custom : Room := { frames := 9, cells := 0, slots := 0, locals := 197 }
abbrev rxX7_custom : Room := { frames := 9, cells := 1, slots := 6, locals := 197 }
theorem iX7_custom_X2 : ∀ x ∈ wsX20, x ∈ wsX7_custom := by decide +kernel
theorem iX7_custom_X5 : ∀ x ∈ wsX50, x ∈ wsX7_custom := by decide +kernel
theorem iX7_custom_X6 : ∀ x ∈ wsX60, x ∈ wsX7_custom := by decide +kernel
theorem iX7_custom_X7 : ∀ x ∈ wsX70, x ∈ wsX7_custom := by decide +kernel
set_option maxRecDepth 20000 in
theorem xi_X7_custom_0 : ∀ w ∈ (vx_atS RX7 70 "java/lang/IllegalArgumentException" xNames).filter goodWord, w ∈ wsX7_custom := by decide +kernel
set_option maxRecDepth 20000 in
theorem xi_X7_custom_1 : ∀ w ∈ (vx_atS RX7 80 "java/lang/IllegalStateException" xNames).filter goodWord, w ∈ wsX7_custom := by decide +kernel
theorem nd_X7_custom : yX7_custom.cls = RX7 ∧ yX7_custom.cls ≠ "java/lang/invoke/MethodHandle" ∧ yX7_custom.cls ≠ "java/lang/invoke/VarHandle" ∧ (parseMethodDescriptor yX7_custom.desc).map (fun d => d.parameters.length) = some 2 := by decide +kernel
def f_X7_custom_26 (fu : Nat) (σ : SS) : Option ((Int32 ⊕ Nat) × SS) :=
  some (.inr 0, σ)
def f_X7_custom (fu : Nat) (σ : SS) (x1 : Int32) (x2 : Int32) : Option ((Int32 ⊕ Nat) × SS) :=
  (if x1 < 0 then f_X7_custom_26 fu σ else (if (σ.1 2) < x1 then f_X7_custom_26 fu σ else (if x2 < 0 then f_X7_custom_26 fu σ else (if x2 ≤ (1000 : Int32) then (if (σ.1 13) < (20 : Int32) then bnd (f_X6_read fu σ x1) (fun r6 t8 => (if (t8.1 5) = 0 then bnd (f_X2_add fu (sI (sI t8 2 (0 : Int32)) 1 (t8.1 6)) x2) (fun r10 t12 => some (.inl r10, t12)) else some (.inl ((t8.1 5) - (10 : Int32)), (sI (sI t8 2 (0 : Int32)) 1 (t8.1 6))))) else some (.inr 1, σ)) else f_X7_custom_26 fu σ))))
section
variable {p : Program} {l : Launch} {e : Env} {s : State} {m : MethodId} {args : Array Value} {below : List Frame} {meth : Method} {c : Code} {g : Gm} {A : Nat → Prop} {fu : Nat} {v0 : Int32} {τ : SS} {j : Nat}
set_option maxHeartbeats 4000000 in
set_option maxRecDepth 100000 in
theorem w_X7_custom_26 {σ : SS} (C : Cx p l s m args meth c cX7_custom 3 wsX7_custom (some .int) RX7 g A) (h : f_X7_custom_26 fu σ = some (.inl v0, τ)) {H : Heap} {locs : List Loc} {ls : Array Slot} (hA : Aw g A s.heap (wX g σ) H locs) (hl : lv_has ls 3 []) : W p l e rmX7_custom s m args below meth c H locs 0 0 (MQ below (Qi g A (wX g τ) v0) args s 0 0 A) (F0 m 26 ls []) := by
  have hx := C.1.1
  have hb := C.1.2.1
  unfold f_X7_custom_26 at h
  cases h
set_option maxHeartbeats 4000000 in
set_option maxRecDepth 100000 in
theorem w_X7_custom_0 {σ : SS} {x1 : Int32} {x2 : Int32} (C : Cx p l s m args meth c cX7_custom 3 wsX7_custom (some .int) RX7 g A) (h : f_X7_custom fu σ x1 x2 = some (.inl v0, τ)) {H : Heap} {locs : List Loc} {ls : Array Slot} (hA : Aw g A s.heap (wX g σ) H locs) (hl : lv_has ls 3 [(0, .ref (g.2.1 0)), (1, .int x1), (2, .int x2)]) : W p l e rmX7_custom s m args below meth c H locs 0 0 (MQ below (Qi g A (wX g τ) v0) args s 0 0 A) (F0 m 0 ls []) := by
  have hx := C.1.1
  have hb := C.1.2.1
  unfold f_X7_custom at h
  refine lv_iload_n hx hb dX7_custom_0 rfl (lv_at hl 1 rfl) ?_
  refine lv_if_lt (tgt := 26) hx hb dX7_custom_1 (by decide) (fun c1 => ?_) (fun c1 => ?_)
  · replace h := (if_pos c1).symm.trans h
    exact w_X7_custom_26 C h hA (lv_sub hl [] rfl)
  · replace h := (if_neg c1).symm.trans h
    refine lv_iload_n hx hb dX7_custom_4 rfl (lv_at hl 1 rfl) ?_
    refine lv_aload_n hx hb dX7_custom_5 rfl (lv_at hl 0 rfl) ?_
    refine Xg_X7_tape C hA iX7_custom_X7 (by decide +kernel) dX7_custom_6 ?_
    refine Xg_X5_length (v := (σ.1 2)) C hA rfl iX7_custom_X5 (by decide +kernel) dX7_custom_9 ?_
    refine lv_icmp_gt (tgt := 26) hx hb dX7_custom_12 (by decide) (fun c2 => ?_) (fun c2 => ?_)
    · replace h := (if_pos c2).symm.trans h
      exact w_X7_custom_26 C h hA (lv_sub hl [] rfl)
    · replace h := (if_neg c2).symm.trans h
      refine lv_iload_n hx hb dX7_custom_15 rfl (lv_at hl 2 rfl) ?_
      refine lv_if_lt (tgt := 26) hx hb dX7_custom_16 (by decide) (fun c3 => ?_) (fun c3 => ?_)
      · replace h := (if_pos c3).symm.trans h
        exact w_X7_custom_26 C h hA (lv_sub hl [] rfl)
      · replace h := (if_neg c3).symm.trans h
        refine lv_iload_n hx hb dX7_custom_19 rfl (lv_at hl 2 rfl) ?_
        refine lv_sipush (v := 1000) hx hb dX7_custom_20 (by decide) ?_
        refine lv_icmp_le (tgt := 36) hx hb dX7_custom_23 (by decide) (fun c4 => ?_) (fun c4 => ?_)
        · replace h := (if_pos c4).symm.trans h
          refine lv_aload_n hx hb dX7_custom_36 rfl (lv_at hl 0 rfl) ?_
          refine Xg_X7_customs C hA iX7_custom_X7 (by decide +kernel) dX7_custom_37 ?_
          refine Xg_X2_size (v := (σ.1 13)) C hA rfl iX7_custom_X2 (by decide +kernel) dX7_custom_40 ?_
          refine lv_bipush (v := 20) hx hb dX7_custom_43 (by decide) ?_
          refine lv_icmp_lt (tgt := 58) hx hb dX7_custom_45 (by decide) (fun c5 => ?_) (fun c5 => ?_)
          · replace h := (if_pos c5).symm.trans h
            refine lv_aload_n hx hb dX7_custom_58 rfl (lv_at hl 0 rfl) ?_
            refine Xg_X7_reader C hA iX7_custom_X7 (by decide +kernel) dX7_custom_59 ?_
            refine lv_aload_n hx hb dX7_custom_62 rfl (lv_at hl 0 rfl) ?_
            refine Xg_X7_tape C hA iX7_custom_X7 (by decide +kernel) dX7_custom_63 ?_
            refine Xg_X5_bytes C hA iX7_custom_X5 (by decide +kernel) dX7_custom_66 ?_
            refine lv_iload_n hx hb dX7_custom_69 rfl (lv_at hl 1 rfl) ?_
            obtain ⟨r6, t8, hc7, h⟩ := bd h
            refine r_callVv (r := r6) (w1 := wX g t8) (As := [.ref (g.2.1 10), .int x1]) (rest := []) C hA hl.1 (k_X6_read C.2.2.2.2.2.2 hc7) (cwV 2 C.1.2.2.2.2 gX7_custom_X6_read rfl rfl rfl nd_X6_read ⟨Nat.le_of_ble_eq_true rfl, Nat.le_of_ble_eq_true rfl⟩) 2 rfl rfl rfl rfl (Nat.le_of_ble_eq_true rfl) dX7_custom_70 ⟨Nat.le_of_ble_eq_true rfl, Nat.le_of_ble_eq_true rfl⟩ (fun H locs hA => ?_)
            refine lv_aload_n hx hb dX7_custom_73 rfl (lv_at hl 0 rfl) ?_
            refine Xg_X7_tape C hA iX7_custom_X7 (by decide +kernel) dX7_custom_74 ?_
            refine lv_iconst (v := 0) hx hb dX7_custom_77 (by decide) ?_
            refine Xp_X5_length C hA iX7_custom_X5 (by decide +kernel) dX7_custom_78 (fun H locs hA => ?_)
            refine lv_aload_n hx hb dX7_custom_81 rfl (lv_at hl 0 rfl) ?_
            refine lv_aload_n hx hb dX7_custom_82 rfl (lv_at hl 0 rfl) ?_
            refine Xg_X7_reader C hA iX7_custom_X7 (by decide +kernel) dX7_custom_83 ?_
            refine Xg_X6_faultPlace (v := (t8.1 6)) C hA rfl iX7_custom_X6 (by decide +kernel) dX7_custom_86 ?_
            refine Xp_X7_faultPlace C hA iX7_custom_X7 (by decide +kernel) dX7_custom_89 (fun H locs hA => ?_)
            refine lv_aload_n hx hb dX7_custom_92 rfl (lv_at hl 0 rfl) ?_
            refine Xg_X7_reader C hA iX7_custom_X7 (by decide +kernel) dX7_custom_93 ?_
            refine Xg_X6_fault (v := (t8.1 5)) C hA rfl iX7_custom_X6 (by decide +kernel) dX7_custom_96 ?_
            refine lv_if_eq (tgt := 113) hx hb dX7_custom_99 (by decide) (fun c9 => ?_) (fun c9 => ?_)
            · replace h := (if_pos c9).symm.trans h
              refine lv_aload_n hx hb dX7_custom_113 rfl (lv_at hl 0 rfl) ?_
              refine Xg_X7_customs C hA iX7_custom_X7 (by decide +kernel) dX7_custom_114 ?_
              refine lv_aload_n hx hb dX7_custom_117 rfl (lv_at hl 0 rfl) ?_
              refine Xg_X7_reader C hA iX7_custom_X7 (by decide +kernel) dX7_custom_118 ?_
              refine lv_iload_n hx hb dX7_custom_121 rfl (lv_at hl 2 rfl) ?_
              obtain ⟨r10, t12, hc11, h⟩ := bd h
              refine r_callVi (r := r10) (w1 := wX g t12) (As := [.ref (g.2.1 2), .int x2]) (rest := []) C hA hl.1 (k_X2_add C.2.2.2.2.2.2 hc11) (cwV 2 C.1.2.2.2.2 gX7_custom_X2_add rfl rfl rfl nd_X2_add ⟨Nat.le_of_ble_eq_true rfl, Nat.le_of_ble_eq_true rfl⟩) 3 rfl rfl rfl rfl (Nat.le_of_ble_eq_true rfl) dX7_custom_122 ⟨Nat.le_of_ble_eq_true rfl, Nat.le_of_ble_eq_true rfl⟩ (fun H locs hA => ?_)
              obtain ⟨rfl, rfl⟩ := inl_inj h
              exact r_iret C hA dX7_custom_125
            · replace h := (if_neg c9).symm.trans h
              refine lv_aload_n hx hb dX7_custom_102 rfl (lv_at hl 0 rfl) ?_
              refine Xg_X7_reader C hA iX7_custom_X7 (by decide +kernel) dX7_custom_103 ?_
              refine Xg_X6_fault (v := (t8.1 5)) C hA rfl iX7_custom_X6 (by decide +kernel) dX7_custom_106 ?_
              refine lv_bipush (v := 10) hx hb dX7_custom_109 (by decide) ?_
              refine lv_isub hx hb dX7_custom_111 ?_
              obtain ⟨rfl, rfl⟩ := inl_inj h
              exact r_iret C hA dX7_custom_112
          · replace h := (if_neg c5).symm.trans h
            cases h
        · replace h := (if_neg c4).symm.trans h
          exact w_X7_custom_26 C h hA (lv_sub hl [] rfl)
set_option maxHeartbeats 4000000 in
set_option maxRecDepth 100000 in
theorem v_X7_custom_26 {σ : SS} (C : Cx p l s m args meth c cX7_custom 3 wsX7_custom (some .int) RX7 g A) (hT : ∀ x ∈ c.exceptionTable.toList, False) (h : f_X7_custom_26 fu σ = some (.inr j, τ)) {H : Heap} {locs : List Loc} {ls : Array Slot} (hA : Aw g A s.heap (wX g σ) H locs) (hl : lv_has ls 3 []) : W p l e rxX7_custom s m args below meth c H locs 0 0 (vx_MQ below (QFi A) (Xw g A (wX g τ) j) args s 1 6 A) (F0 m 26 ls []) := by
  have hx := C.1.1
  have hb := C.1.2.1
  unfold f_X7_custom_26 at h
  obtain ⟨rfl, rfl⟩ := inr_inj h
  exact r_throw (j := 0) (rest := []) C hA hl.1 hT rfl (by decide +kernel) C.2.2.2.2.2.1.2.2.2.2.2.2.2.2.2.2.1 (by decide +kernel) (by decide +kernel) xi_X7_custom_0 xn_X7_0 C.2.2.2.2.2.1.2.2.2.2.2.1 xg_X7_0 dX7_custom_26 dX7_custom_29 dX7_custom_30 dX7_custom_32 dX7_custom_35 (Nat.le_of_ble_eq_true rfl) (Nat.le_of_ble_eq_true rfl) (Nat.le_of_ble_eq_true rfl) (Nat.le_of_ble_eq_true rfl)
set_option maxHeartbeats 4000000 in
set_option maxRecDepth 100000 in
theorem v_X7_custom_0 {σ : SS} {x1 : Int32} {x2 : Int32} (C : Cx p l s m args meth c cX7_custom 3 wsX7_custom (some .int) RX7 g A) (hT : ∀ x ∈ c.exceptionTable.toList, False) (h : f_X7_custom fu σ x1 x2 = some (.inr j, τ)) {H : Heap} {locs : List Loc} {ls : Array Slot} (hA : Aw g A s.heap (wX g σ) H locs) (hl : lv_has ls 3 [(0, .ref (g.2.1 0)), (1, .int x1), (2, .int x2)]) : W p l e rxX7_custom s m args below meth c H locs 0 0 (vx_MQ below (QFi A) (Xw g A (wX g τ) j) args s 1 6 A) (F0 m 0 ls []) := by
  have hx := C.1.1
  have hb := C.1.2.1
  unfold f_X7_custom at h
  refine lv_iload_n hx hb dX7_custom_0 rfl (lv_at hl 1 rfl) ?_
  refine lv_if_lt (tgt := 26) hx hb dX7_custom_1 (by decide) (fun c1 => ?_) (fun c1 => ?_)
  · replace h := (if_pos c1).symm.trans h
    exact v_X7_custom_26 C hT h hA (lv_sub hl [] rfl)
  · replace h := (if_neg c1).symm.trans h
    refine lv_iload_n hx hb dX7_custom_4 rfl (lv_at hl 1 rfl) ?_
    refine lv_aload_n hx hb dX7_custom_5 rfl (lv_at hl 0 rfl) ?_
    refine Xg_X7_tape C hA iX7_custom_X7 (by decide +kernel) dX7_custom_6 ?_
    refine Xg_X5_length (v := (σ.1 2)) C hA rfl iX7_custom_X5 (by decide +kernel) dX7_custom_9 ?_
    refine lv_icmp_gt (tgt := 26) hx hb dX7_custom_12 (by decide) (fun c2 => ?_) (fun c2 => ?_)
    · replace h := (if_pos c2).symm.trans h
      exact v_X7_custom_26 C hT h hA (lv_sub hl [] rfl)
    · replace h := (if_neg c2).symm.trans h
      refine lv_iload_n hx hb dX7_custom_15 rfl (lv_at hl 2 rfl) ?_
      refine lv_if_lt (tgt := 26) hx hb dX7_custom_16 (by decide) (fun c3 => ?_) (fun c3 => ?_)
      · replace h := (if_pos c3).symm.trans h
        exact v_X7_custom_26 C hT h hA (lv_sub hl [] rfl)
      · replace h := (if_neg c3).symm.trans h
        refine lv_iload_n hx hb dX7_custom_19 rfl (lv_at hl 2 rfl) ?_
        refine lv_sipush (v := 1000) hx hb dX7_custom_20 (by decide) ?_
        refine lv_icmp_le (tgt := 36) hx hb dX7_custom_23 (by decide) (fun c4 => ?_) (fun c4 => ?_)
        · replace h := (if_pos c4).symm.trans h
          refine lv_aload_n hx hb dX7_custom_36 rfl (lv_at hl 0 rfl) ?_
          refine Xg_X7_customs C hA iX7_custom_X7 (by decide +kernel) dX7_custom_37 ?_
          refine Xg_X2_size (v := (σ.1 13)) C hA rfl iX7_custom_X2 (by decide +kernel) dX7_custom_40 ?_
          refine lv_bipush (v := 20) hx hb dX7_custom_43 (by decide) ?_
          refine lv_icmp_lt (tgt := 58) hx hb dX7_custom_45 (by decide) (fun c5 => ?_) (fun c5 => ?_)
          · replace h := (if_pos c5).symm.trans h
            refine lv_aload_n hx hb dX7_custom_58 rfl (lv_at hl 0 rfl) ?_
            refine Xg_X7_reader C hA iX7_custom_X7 (by decide +kernel) dX7_custom_59 ?_
            refine lv_aload_n hx hb dX7_custom_62 rfl (lv_at hl 0 rfl) ?_
            refine Xg_X7_tape C hA iX7_custom_X7 (by decide +kernel) dX7_custom_63 ?_
            refine Xg_X5_bytes C hA iX7_custom_X5 (by decide +kernel) dX7_custom_66 ?_
            refine lv_iload_n hx hb dX7_custom_69 rfl (lv_at hl 1 rfl) ?_
            obtain ⟨r6, t8, hc7, h⟩ := bd h
            refine r_callVv (r := r6) (w1 := wX g t8) (As := [.ref (g.2.1 10), .int x1]) (rest := []) C hA hl.1 (k_X6_read C.2.2.2.2.2.2 hc7) (cwV 2 C.1.2.2.2.2 gX7_custom_X6_read rfl rfl rfl nd_X6_read ⟨Nat.le_of_ble_eq_true rfl, Nat.le_of_ble_eq_true rfl⟩) 2 rfl rfl rfl rfl (Nat.le_of_ble_eq_true rfl) dX7_custom_70 ⟨Nat.le_of_ble_eq_true rfl, Nat.le_of_ble_eq_true rfl⟩ (fun H locs hA => ?_)
            refine lv_aload_n hx hb dX7_custom_73 rfl (lv_at hl 0 rfl) ?_
            refine Xg_X7_tape C hA iX7_custom_X7 (by decide +kernel) dX7_custom_74 ?_
            refine lv_iconst (v := 0) hx hb dX7_custom_77 (by decide) ?_
            refine Xp_X5_length C hA iX7_custom_X5 (by decide +kernel) dX7_custom_78 (fun H locs hA => ?_)
            refine lv_aload_n hx hb dX7_custom_81 rfl (lv_at hl 0 rfl) ?_
            refine lv_aload_n hx hb dX7_custom_82 rfl (lv_at hl 0 rfl) ?_
            refine Xg_X7_reader C hA iX7_custom_X7 (by decide +kernel) dX7_custom_83 ?_
            refine Xg_X6_faultPlace (v := (t8.1 6)) C hA rfl iX7_custom_X6 (by decide +kernel) dX7_custom_86 ?_
            refine Xp_X7_faultPlace C hA iX7_custom_X7 (by decide +kernel) dX7_custom_89 (fun H locs hA => ?_)
            refine lv_aload_n hx hb dX7_custom_92 rfl (lv_at hl 0 rfl) ?_
            refine Xg_X7_reader C hA iX7_custom_X7 (by decide +kernel) dX7_custom_93 ?_
            refine Xg_X6_fault (v := (t8.1 5)) C hA rfl iX7_custom_X6 (by decide +kernel) dX7_custom_96 ?_
            refine lv_if_eq (tgt := 113) hx hb dX7_custom_99 (by decide) (fun c9 => ?_) (fun c9 => ?_)
            · replace h := (if_pos c9).symm.trans h
              refine lv_aload_n hx hb dX7_custom_113 rfl (lv_at hl 0 rfl) ?_
              refine Xg_X7_customs C hA iX7_custom_X7 (by decide +kernel) dX7_custom_114 ?_
              refine lv_aload_n hx hb dX7_custom_117 rfl (lv_at hl 0 rfl) ?_
              refine Xg_X7_reader C hA iX7_custom_X7 (by decide +kernel) dX7_custom_118 ?_
              refine lv_iload_n hx hb dX7_custom_121 rfl (lv_at hl 2 rfl) ?_
              obtain ⟨r10, t12, hc11, h⟩ := bd h
              refine r_callVi (r := r10) (w1 := wX g t12) (As := [.ref (g.2.1 2), .int x2]) (rest := []) C hA hl.1 (k_X2_add C.2.2.2.2.2.2 hc11) (cwV 2 C.1.2.2.2.2 gX7_custom_X2_add rfl rfl rfl nd_X2_add ⟨Nat.le_of_ble_eq_true rfl, Nat.le_of_ble_eq_true rfl⟩) 3 rfl rfl rfl rfl (Nat.le_of_ble_eq_true rfl) dX7_custom_122 ⟨Nat.le_of_ble_eq_true rfl, Nat.le_of_ble_eq_true rfl⟩ (fun H locs hA => ?_)
              cases h
            · replace h := (if_neg c9).symm.trans h
              refine lv_aload_n hx hb dX7_custom_102 rfl (lv_at hl 0 rfl) ?_
              refine Xg_X7_reader C hA iX7_custom_X7 (by decide +kernel) dX7_custom_103 ?_
              refine Xg_X6_fault (v := (t8.1 5)) C hA rfl iX7_custom_X6 (by decide +kernel) dX7_custom_106 ?_
              refine lv_bipush (v := 10) hx hb dX7_custom_109 (by decide) ?_
              refine lv_isub hx hb dX7_custom_111 ?_
              cases h
          · replace h := (if_neg c5).symm.trans h
            obtain ⟨rfl, rfl⟩ := inr_inj h
            exact r_throw (j := 1) (rest := []) C hA hl.1 hT rfl (by decide +kernel) C.2.2.2.2.2.1.2.2.2.2.2.2.2.2.2.2.2.1 (by decide +kernel) (by decide +kernel) xi_X7_custom_1 xn_X7_1 C.2.2.2.2.2.1.2.2.2.2.2.2.1 xg_X7_1 dX7_custom_48 dX7_custom_51 dX7_custom_52 dX7_custom_54 dX7_custom_57 (Nat.le_of_ble_eq_true rfl) (Nat.le_of_ble_eq_true rfl) (Nat.le_of_ble_eq_true rfl) (Nat.le_of_ble_eq_true rfl)
        · replace h := (if_neg c4).symm.trans h
          exact v_X7_custom_26 C hT h hA (lv_sub hl [] rfl)
end
set_option maxRecDepth 100000 in
theorem k_X7_custom {l : Launch} {g : Gm} {fu : Nat} {σ : SS} {x1 : Int32} {x2 : Int32} {v0 : Int32} {τ : SS} (hlt : l.stackTraces = false) (h : f_X7_custom fu σ x1 x2 = some (.inl v0, τ)) (sz : Nat) : Met l yX7_custom wsX7_custom rmX7_custom (Pw g (wX g σ) [.ref (g.2.1 0), .int x1, .int x2] sz) (Qi g (va_A (wX g σ) sz) (wX g τ) v0) 0 0 (va_A (wX g σ) sz) :=
  ofM (own := RX7) hlt (by decide) rfl rfl (Nat.le_of_ble_eq_true rfl) (fun p e s m below meth c hsz C hA ls hl => w_X7_custom_0 C h hA hl)
set_option maxRecDepth 100000 in
theorem kx_X7_custom {l : Launch} {g : Gm} {fu : Nat} {σ : SS} {x1 : Int32} {x2 : Int32} {j : Nat} {τ : SS} (hlt : l.stackTraces = false) (h : f_X7_custom fu σ x1 x2 = some (.inr j, τ)) (sz : Nat) : vx_Met l yX7_custom wsX7_custom rxX7_custom (Pw g (wX g σ) [.ref (g.2.1 0), .int x1, .int x2] sz) (QFi (va_A (wX g σ) sz)) (Xw g (va_A (wX g σ) sz) (wX g τ) j) 1 6 (va_A (wX g σ) sz) :=
  ofX (own := RX7) hlt (by decide) rfl rfl (Nat.le_of_ble_eq_true rfl) (fun p e s m below meth c hsz C hT hA ls hl => v_X7_custom_0 C hT h hA hl)
abbrev rmX7_give : Room := { frames := 5, cells := 0, slots := 0, locals := 119 }
abbrev rxX7_give : Room := { frames := 8, cells := 1, slots := 6, locals := 134 }
theorem iX7_give_X0 : ∀ x ∈ wsX00, x ∈ wsX7_give := by decide +kernel
theorem iX7_give_X7 : ∀ x ∈ wsX70, x ∈ wsX7_give := by decide +kernel
theorem nd_X7_give : yX7_give.cls = RX7 ∧ yX7_give.cls ≠ "java/lang/invoke/MethodHandle" ∧ yX7_give.cls ≠ "java/lang/invoke/VarHandle" ∧ (parseMethodDescriptor yX7_give.desc).map (fun d => d.parameters.length) = some 3 := by decide +kernel
def f_X7_give (fu : Nat) (σ : SS) (x1 : Int32) (x2 : Int32) (x3 : Int32) : Option ((Int32 ⊕ Nat) × SS) :=
  bndX (f_X7_checkHandingOver fu σ x1 x2 x3) σ (fun r1 => if inB x1 12 then (if x3 ≤ (σ.2.1 19 (x1).toNatClampNeg) then bnd1 (f_X7_debtsMadeBy fu σ x1 x2 x3) (fun r5 => bnd1 (f_X3_room fu σ) (fun r7 => (if r5 ≤ r7 then bnd (f_X0_moveBlankets fu σ x1 x2 x3) (fun r10 t12 => bnd (f_X7_recordGiven fu t12 x1 x2 x3) (fun r13 t15 => some (.inl r13, t15))) else some (.inl (-2), σ)))) else some (.inl (-1), σ)) else none)
section
variable {p : Program} {l : Launch} {e : Env} {s : State} {m : MethodId} {args : Array Value} {below : List Frame} {meth : Method} {c : Code} {g : Gm} {A : Nat → Prop} {fu : Nat} {v0 : Int32} {τ : SS} {j : Nat}
set_option maxHeartbeats 4000000 in
set_option maxRecDepth 100000 in
theorem w_X7_give_0 {σ : SS} {x1 : Int32} {x2 : Int32} {x3 : Int32} (C : Cx p l s m args meth c cX7_give 4 wsX7_give (some .int) RX7 g A) (h : f_X7_give fu σ x1 x2 x3 = some (.inl v0, τ)) {H : Heap} {locs : List Loc} {ls : Array Slot} (hA : Aw g A s.heap (wX g σ) H locs) (hl : lv_has ls 4 [(0, .ref (g.2.1 0)), (1, .int x1), (2, .int x2), (3, .int x3)]) : W p l e rmX7_give s m args below meth c H locs 0 0 (MQ below (Qi g A (wX g τ) v0) args s 0 0 A) (F0 m 0 ls []) := by
  have hx := C.1.1
  have hb := C.1.2.1
  unfold f_X7_give at h
  refine lv_aload_n hx hb dX7_give_0 rfl (lv_at hl 0 rfl) ?_
  refine lv_iload_n hx hb dX7_give_1 rfl (lv_at hl 1 rfl) ?_
  refine lv_iload_n hx hb dX7_give_2 rfl (lv_at hl 2 rfl) ?_
  refine lv_iload_n hx hb dX7_give_3 rfl (lv_at hl 3 rfl) ?_
  obtain ⟨r1, hc2, h⟩ := bdX h
  refine r_callVv (r := ()) (w1 := wX g σ) (As := [.int x1, .int x2, .int x3]) (rest := []) C hA hl.1 (k_X7_checkHandingOver C.2.2.2.2.2.2 hc2) (cwV 3 C.1.2.2.2.2 gX7_give_X7_checkHandingOver rfl rfl rfl nd_X7_checkHandingOver ⟨Nat.le_of_ble_eq_true rfl, Nat.le_of_ble_eq_true rfl⟩) 0 rfl rfl rfl rfl (Nat.le_of_ble_eq_true rfl) dX7_give_4 ⟨Nat.le_of_ble_eq_true rfl, Nat.le_of_ble_eq_true rfl⟩ (fun H locs hA => ?_)
  refine lv_aload_n hx hb dX7_give_7 rfl (lv_at hl 0 rfl) ?_
  refine Xg_X7_chiefs C hA iX7_give_X7 (by decide +kernel) dX7_give_8 ?_
  refine Xg_X0_blankets C hA iX7_give_X0 (by decide +kernel) dX7_give_11 ?_
  refine lv_iload_n hx hb dX7_give_14 rfl (lv_at hl 1 rfl) ?_
  obtain ⟨g3, h⟩ := gd h
  refine Xld_19 (v := (σ.2.1 19 (x1).toNatClampNeg)) C hA rfl g3 dX7_give_15 ?_
  refine lv_iload_n hx hb dX7_give_16 rfl (lv_at hl 3 rfl) ?_
  refine lv_icmp_ge (tgt := 22) hx hb dX7_give_17 (by decide) (fun c4 => ?_) (fun c4 => ?_)
  · replace h := (if_pos c4).symm.trans h
    refine lv_aload_n hx hb dX7_give_22 rfl (lv_at hl 0 rfl) ?_
    refine lv_iload_n hx hb dX7_give_23 rfl (lv_at hl 1 rfl) ?_
    refine lv_iload_n hx hb dX7_give_24 rfl (lv_at hl 2 rfl) ?_
    refine lv_iload_n hx hb dX7_give_25 rfl (lv_at hl 3 rfl) ?_
    obtain ⟨r5, hc6, h⟩ := bd1 h
    refine r_callVi (r := r5) (w1 := wX g σ) (As := [.int x1, .int x2, .int x3]) (rest := []) C hA hl.1 (k_X7_debtsMadeBy C.2.2.2.2.2.2 hc6) (cwV 3 C.1.2.2.2.2 gX7_give_X7_debtsMadeBy rfl rfl rfl nd_X7_debtsMadeBy ⟨Nat.le_of_ble_eq_true rfl, Nat.le_of_ble_eq_true rfl⟩) 0 rfl rfl rfl rfl (Nat.le_of_ble_eq_true rfl) dX7_give_26 ⟨Nat.le_of_ble_eq_true rfl, Nat.le_of_ble_eq_true rfl⟩ (fun H locs hA => ?_)
    refine lv_aload_n hx hb dX7_give_29 rfl (lv_at hl 0 rfl) ?_
    refine Xg_X7_debts C hA iX7_give_X7 (by decide +kernel) dX7_give_30 ?_
    obtain ⟨r7, hc8, h⟩ := bd1 h
    refine r_callVi (r := r7) (w1 := wX g σ) (As := []) (rest := [.int r5]) C hA hl.1 (k_X3_room C.2.2.2.2.2.2 hc8) (cwV 0 C.1.2.2.2.2 gX7_give_X3_room rfl rfl rfl nd_X3_room ⟨Nat.le_of_ble_eq_true rfl, Nat.le_of_ble_eq_true rfl⟩) 5 rfl rfl rfl rfl (Nat.le_of_ble_eq_true rfl) dX7_give_33 ⟨Nat.le_of_ble_eq_true rfl, Nat.le_of_ble_eq_true rfl⟩ (fun H locs hA => ?_)
    refine lv_icmp_le (tgt := 42) hx hb dX7_give_36 (by decide) (fun c9 => ?_) (fun c9 => ?_)
    · replace h := (if_pos c9).symm.trans h
      refine lv_aload_n hx hb dX7_give_42 rfl (lv_at hl 0 rfl) ?_
      refine Xg_X7_chiefs C hA iX7_give_X7 (by decide +kernel) dX7_give_43 ?_
      refine lv_iload_n hx hb dX7_give_46 rfl (lv_at hl 1 rfl) ?_
      refine lv_iload_n hx hb dX7_give_47 rfl (lv_at hl 2 rfl) ?_
      refine lv_iload_n hx hb dX7_give_48 rfl (lv_at hl 3 rfl) ?_
      obtain ⟨r10, t12, hc11, h⟩ := bd h
      refine r_callVv (r := r10) (w1 := wX g t12) (As := [.int x1, .int x2, .int x3]) (rest := []) C hA hl.1 (k_X0_moveBlankets C.2.2.2.2.2.2 hc11) (cwV 3 C.1.2.2.2.2 gX7_give_X0_moveBlankets rfl rfl rfl nd_X0_moveBlankets ⟨Nat.le_of_ble_eq_true rfl, Nat.le_of_ble_eq_true rfl⟩) 4 rfl rfl rfl rfl (Nat.le_of_ble_eq_true rfl) dX7_give_49 ⟨Nat.le_of_ble_eq_true rfl, Nat.le_of_ble_eq_true rfl⟩ (fun H locs hA => ?_)
      refine lv_aload_n hx hb dX7_give_52 rfl (lv_at hl 0 rfl) ?_
      refine lv_iload_n hx hb dX7_give_53 rfl (lv_at hl 1 rfl) ?_
      refine lv_iload_n hx hb dX7_give_54 rfl (lv_at hl 2 rfl) ?_
      refine lv_iload_n hx hb dX7_give_55 rfl (lv_at hl 3 rfl) ?_
      obtain ⟨r13, t15, hc14, h⟩ := bd h
      refine r_callVi (r := r13) (w1 := wX g t15) (As := [.int x1, .int x2, .int x3]) (rest := []) C hA hl.1 (k_X7_recordGiven C.2.2.2.2.2.2 hc14) (cwV 3 C.1.2.2.2.2 gX7_give_X7_recordGiven rfl rfl rfl nd_X7_recordGiven ⟨Nat.le_of_ble_eq_true rfl, Nat.le_of_ble_eq_true rfl⟩) 0 rfl rfl rfl rfl (Nat.le_of_ble_eq_true rfl) dX7_give_56 ⟨Nat.le_of_ble_eq_true rfl, Nat.le_of_ble_eq_true rfl⟩ (fun H locs hA => ?_)
      obtain ⟨rfl, rfl⟩ := inl_inj h
      exact r_iret C hA dX7_give_59
    · replace h := (if_neg c9).symm.trans h
      refine lv_bipush (v := (-2)) hx hb dX7_give_39 (by decide) ?_
      obtain ⟨rfl, rfl⟩ := inl_inj h
      exact r_iret C hA dX7_give_41
  · replace h := (if_neg c4).symm.trans h
    refine lv_iconst (v := (-1)) hx hb dX7_give_20 (by decide) ?_
    obtain ⟨rfl, rfl⟩ := inl_inj h
    exact r_iret C hA dX7_give_21
set_option maxHeartbeats 4000000 in
set_option maxRecDepth 100000 in
theorem v_X7_give_0 {σ : SS} {x1 : Int32} {x2 : Int32} {x3 : Int32} (C : Cx p l s m args meth c cX7_give 4 wsX7_give (some .int) RX7 g A) (hT : ∀ x ∈ c.exceptionTable.toList, False) (h : f_X7_give fu σ x1 x2 x3 = some (.inr j, τ)) {H : Heap} {locs : List Loc} {ls : Array Slot} (hA : Aw g A s.heap (wX g σ) H locs) (hl : lv_has ls 4 [(0, .ref (g.2.1 0)), (1, .int x1), (2, .int x2), (3, .int x3)]) : W p l e rxX7_give s m args below meth c H locs 0 0 (vx_MQ below (QFi A) (Xw g A (wX g τ) j) args s 1 6 A) (F0 m 0 ls []) := by
  have hx := C.1.1
  have hb := C.1.2.1
  unfold f_X7_give at h
  refine lv_aload_n hx hb dX7_give_0 rfl (lv_at hl 0 rfl) ?_
  refine lv_iload_n hx hb dX7_give_1 rfl (lv_at hl 1 rfl) ?_
  refine lv_iload_n hx hb dX7_give_2 rfl (lv_at hl 2 rfl) ?_
  refine lv_iload_n hx hb dX7_give_3 rfl (lv_at hl 3 rfl) ?_
  rcases bdXt h with ⟨r1, hc2, h⟩ | ⟨hc2, rfl⟩
  rotate_left
  · exact r_xVv (w1 := wX g σ) (As := [.int x1, .int x2, .int x3]) (rest := []) C hA hl.1 hT (kx_X7_checkHandingOver C.2.2.2.2.2.2 hc2) (cwV 3 C.1.2.2.2.2 gX7_give_X7_checkHandingOver rfl rfl rfl nd_X7_checkHandingOver ⟨Nat.le_of_ble_eq_true rfl, Nat.le_of_ble_eq_true rfl⟩) 0 rfl rfl rfl rfl (Nat.le_of_ble_eq_true rfl) dX7_give_4 ⟨Nat.le_of_ble_eq_true rfl, Nat.le_of_ble_eq_true rfl⟩
  refine r_callVv (r := ()) (w1 := wX g σ) (As := [.int x1, .int x2, .int x3]) (rest := []) C hA hl.1 (k_X7_checkHandingOver C.2.2.2.2.2.2 hc2) (cwV 3 C.1.2.2.2.2 gX7_give_X7_checkHandingOver rfl rfl rfl nd_X7_checkHandingOver ⟨Nat.le_of_ble_eq_true rfl, Nat.le_of_ble_eq_true rfl⟩) 0 rfl rfl rfl rfl (Nat.le_of_ble_eq_true rfl) dX7_give_4 ⟨Nat.le_of_ble_eq_true rfl, Nat.le_of_ble_eq_true rfl⟩ (fun H locs hA => ?_)
  refine lv_aload_n hx hb dX7_give_7 rfl (lv_at hl 0 rfl) ?_
  refine Xg_X7_chiefs C hA iX7_give_X7 (by decide +kernel) dX7_give_8 ?_
  refine Xg_X0_blankets C hA iX7_give_X0 (by decide +kernel) dX7_give_11 ?_
  refine lv_iload_n hx hb dX7_give_14 rfl (lv_at hl 1 rfl) ?_
  obtain ⟨g3, h⟩ := gd h
  refine Xld_19 (v := (σ.2.1 19 (x1).toNatClampNeg)) C hA rfl g3 dX7_give_15 ?_
  refine lv_iload_n hx hb dX7_give_16 rfl (lv_at hl 3 rfl) ?_
  refine lv_icmp_ge (tgt := 22) hx hb dX7_give_17 (by decide) (fun c4 => ?_) (fun c4 => ?_)
  · replace h := (if_pos c4).symm.trans h
    refine lv_aload_n hx hb dX7_give_22 rfl (lv_at hl 0 rfl) ?_
    refine lv_iload_n hx hb dX7_give_23 rfl (lv_at hl 1 rfl) ?_
    refine lv_iload_n hx hb dX7_give_24 rfl (lv_at hl 2 rfl) ?_
    refine lv_iload_n hx hb dX7_give_25 rfl (lv_at hl 3 rfl) ?_
    obtain ⟨r5, hc6, h⟩ := bd1 h
    refine r_callVi (r := r5) (w1 := wX g σ) (As := [.int x1, .int x2, .int x3]) (rest := []) C hA hl.1 (k_X7_debtsMadeBy C.2.2.2.2.2.2 hc6) (cwV 3 C.1.2.2.2.2 gX7_give_X7_debtsMadeBy rfl rfl rfl nd_X7_debtsMadeBy ⟨Nat.le_of_ble_eq_true rfl, Nat.le_of_ble_eq_true rfl⟩) 0 rfl rfl rfl rfl (Nat.le_of_ble_eq_true rfl) dX7_give_26 ⟨Nat.le_of_ble_eq_true rfl, Nat.le_of_ble_eq_true rfl⟩ (fun H locs hA => ?_)
    refine lv_aload_n hx hb dX7_give_29 rfl (lv_at hl 0 rfl) ?_
    refine Xg_X7_debts C hA iX7_give_X7 (by decide +kernel) dX7_give_30 ?_
    obtain ⟨r7, hc8, h⟩ := bd1 h
    refine r_callVi (r := r7) (w1 := wX g σ) (As := []) (rest := [.int r5]) C hA hl.1 (k_X3_room C.2.2.2.2.2.2 hc8) (cwV 0 C.1.2.2.2.2 gX7_give_X3_room rfl rfl rfl nd_X3_room ⟨Nat.le_of_ble_eq_true rfl, Nat.le_of_ble_eq_true rfl⟩) 5 rfl rfl rfl rfl (Nat.le_of_ble_eq_true rfl) dX7_give_33 ⟨Nat.le_of_ble_eq_true rfl, Nat.le_of_ble_eq_true rfl⟩ (fun H locs hA => ?_)
    refine lv_icmp_le (tgt := 42) hx hb dX7_give_36 (by decide) (fun c9 => ?_) (fun c9 => ?_)
    · replace h := (if_pos c9).symm.trans h
      refine lv_aload_n hx hb dX7_give_42 rfl (lv_at hl 0 rfl) ?_
      refine Xg_X7_chiefs C hA iX7_give_X7 (by decide +kernel) dX7_give_43 ?_
      refine lv_iload_n hx hb dX7_give_46 rfl (lv_at hl 1 rfl) ?_
      refine lv_iload_n hx hb dX7_give_47 rfl (lv_at hl 2 rfl) ?_
      refine lv_iload_n hx hb dX7_give_48 rfl (lv_at hl 3 rfl) ?_
      obtain ⟨r10, t12, hc11, h⟩ := bd h
      refine r_callVv (r := r10) (w1 := wX g t12) (As := [.int x1, .int x2, .int x3]) (rest := []) C hA hl.1 (k_X0_moveBlankets C.2.2.2.2.2.2 hc11) (cwV 3 C.1.2.2.2.2 gX7_give_X0_moveBlankets rfl rfl rfl nd_X0_moveBlankets ⟨Nat.le_of_ble_eq_true rfl, Nat.le_of_ble_eq_true rfl⟩) 4 rfl rfl rfl rfl (Nat.le_of_ble_eq_true rfl) dX7_give_49 ⟨Nat.le_of_ble_eq_true rfl, Nat.le_of_ble_eq_true rfl⟩ (fun H locs hA => ?_)
      refine lv_aload_n hx hb dX7_give_52 rfl (lv_at hl 0 rfl) ?_
      refine lv_iload_n hx hb dX7_give_53 rfl (lv_at hl 1 rfl) ?_
      refine lv_iload_n hx hb dX7_give_54 rfl (lv_at hl 2 rfl) ?_
      refine lv_iload_n hx hb dX7_give_55 rfl (lv_at hl 3 rfl) ?_
      obtain ⟨r13, t15, hc14, h⟩ := bd h
      refine r_callVi (r := r13) (w1 := wX g t15) (As := [.int x1, .int x2, .int x3]) (rest := []) C hA hl.1 (k_X7_recordGiven C.2.2.2.2.2.2 hc14) (cwV 3 C.1.2.2.2.2 gX7_give_X7_recordGiven rfl rfl rfl nd_X7_recordGiven ⟨Nat.le_of_ble_eq_true rfl, Nat.le_of_ble_eq_true rfl⟩) 0 rfl rfl rfl rfl (Nat.le_of_ble_eq_true rfl) dX7_give_56 ⟨Nat.le_of_ble_eq_true rfl, Nat.le_of_ble_eq_true rfl⟩ (fun H locs hA => ?_)
      cases h
    · replace h := (if_neg c9).symm.trans h
      refine lv_bipush (v := (-2)) hx hb dX7_give_39 (by decide) ?_
      cases h
  · replace h := (if_neg c4).symm.trans h
    refine lv_iconst (v := (-1)) hx hb dX7_give_20 (by decide) ?_
    cases h
end
set_option maxRecDepth 100000 in
theorem k_X7_give {l : Launch} {g : Gm} {fu : Nat} {σ : SS} {x1 : Int32} {x2 : Int32} {x3 : Int32} {v0 : Int32} {τ : SS} (hlt : l.stackTraces = false) (h : f_X7_give fu σ x1 x2 x3 = some (.inl v0, τ)) (sz : Nat) : Met l yX7_give wsX7_give rmX7_give (Pw g (wX g σ) [.ref (g.2.1 0), .int x1, .int x2, .int x3] sz) (Qi g (va_A (wX g σ) sz) (wX g τ) v0) 0 0 (va_A (wX g σ) sz) :=
  ofM (own := RX7) hlt (by decide) rfl rfl (Nat.le_of_ble_eq_true rfl) (fun p e s m below meth c hsz C hA ls hl => w_X7_give_0 C h hA hl)
set_option maxRecDepth 100000 in
theorem kx_X7_give {l : Launch} {g : Gm} {fu : Nat} {σ : SS} {x1 : Int32} {x2 : Int32} {x3 : Int32} {j : Nat} {τ : SS} (hlt : l.stackTraces = false) (h : f_X7_give fu σ x1 x2 x3 = some (.inr j, τ)) (sz : Nat) : vx_Met l yX7_give wsX7_give rxX7_give (Pw g (wX g σ) [.ref (g.2.1 0), .int x1, .int x2, .int x3] sz) (QFi (va_A (wX g σ) sz)) (Xw g (va_A (wX g σ) sz) (wX g τ) j) 1 6 (va_A (wX g σ) sz) :=
  ofX (own := RX7) hlt (by decide) rfl rfl (Nat.le_of_ble_eq_true rfl) (fun p e s m below meth c hsz C hT hA ls hl => v_X7_give_0 C hT h hA hl)
abbrev rmX7_lend : Room := { frames := 2, cells := 0, slots := 0, locals := 44 }
abbrev rxX7_lend : Room := { frames := 8, cells := 1, slots := 6, locals := 134 }
theorem iX7_lend_X0 : ∀ x ∈ wsX00, x ∈ wsX7_lend := by decide +kernel
theorem iX7_lend_X7 : ∀ x ∈ wsX70, x ∈ wsX7_lend := by decide +kernel
theorem nd_X7_lend : yX7_lend.cls = RX7 ∧ yX7_lend.cls ≠ "java/lang/invoke/MethodHandle" ∧ yX7_lend.cls ≠ "java/lang/invoke/VarHandle" ∧ (parseMethodDescriptor yX7_lend.desc).map (fun d => d.parameters.length) = some 3 := by decide +kernel
def f_X7_lend (fu : Nat) (σ : SS) (x1 : Int32) (x2 : Int32) (x3 : Int32) : Option ((Int32 ⊕ Nat) × SS) :=
  bndX (f_X7_checkHandingOver fu σ x1 x2 x3) σ (fun r1 => if inB x1 12 then (if x3 ≤ (σ.2.1 19 (x1).toNatClampNeg) then bnd1 (f_X3_room fu σ) (fun r5 => (if (1 : Int32) ≤ r5 then bnd (f_X0_moveBlankets fu σ x1 x2 x3) (fun r8 t10 => bnd (f_X3_add fu t10 x2 x1 x3 (-1)) (fun r11 t13 => some (.inl r11, t13))) else some (.inl (-2), σ))) else some (.inl (-1), σ)) else none)
section
variable {p : Program} {l : Launch} {e : Env} {s : State} {m : MethodId} {args : Array Value} {below : List Frame} {meth : Method} {c : Code} {g : Gm} {A : Nat → Prop} {fu : Nat} {v0 : Int32} {τ : SS} {j : Nat}
set_option maxHeartbeats 4000000 in
set_option maxRecDepth 100000 in
theorem w_X7_lend_0 {σ : SS} {x1 : Int32} {x2 : Int32} {x3 : Int32} (C : Cx p l s m args meth c cX7_lend 4 wsX7_lend (some .int) RX7 g A) (h : f_X7_lend fu σ x1 x2 x3 = some (.inl v0, τ)) {H : Heap} {locs : List Loc} {ls : Array Slot} (hA : Aw g A s.heap (wX g σ) H locs) (hl : lv_has ls 4 [(0, .ref (g.2.1 0)), (1, .int x1), (2, .int x2), (3, .int x3)]) : W p l e rmX7_lend s m args below meth c H locs 0 0 (MQ below (Qi g A (wX g τ) v0) args s 0 0 A) (F0 m 0 ls []) := by
  have hx := C.1.1
  have hb := C.1.2.1
  unfold f_X7_lend at h
  refine lv_aload_n hx hb dX7_lend_0 rfl (lv_at hl 0 rfl) ?_
  refine lv_iload_n hx hb dX7_lend_1 rfl (lv_at hl 1 rfl) ?_
  refine lv_iload_n hx hb dX7_lend_2 rfl (lv_at hl 2 rfl) ?_
  refine lv_iload_n hx hb dX7_lend_3 rfl (lv_at hl 3 rfl) ?_
  obtain ⟨r1, hc2, h⟩ := bdX h
  refine r_callVv (r := ()) (w1 := wX g σ) (As := [.int x1, .int x2, .int x3]) (rest := []) C hA hl.1 (k_X7_checkHandingOver C.2.2.2.2.2.2 hc2) (cwV 3 C.1.2.2.2.2 gX7_lend_X7_checkHandingOver rfl rfl rfl nd_X7_checkHandingOver ⟨Nat.le_of_ble_eq_true rfl, Nat.le_of_ble_eq_true rfl⟩) 0 rfl rfl rfl rfl (Nat.le_of_ble_eq_true rfl) dX7_lend_4 ⟨Nat.le_of_ble_eq_true rfl, Nat.le_of_ble_eq_true rfl⟩ (fun H locs hA => ?_)
  refine lv_aload_n hx hb dX7_lend_7 rfl (lv_at hl 0 rfl) ?_
  refine Xg_X7_chiefs C hA iX7_lend_X7 (by decide +kernel) dX7_lend_8 ?_
  refine Xg_X0_blankets C hA iX7_lend_X0 (by decide +kernel) dX7_lend_11 ?_
  refine lv_iload_n hx hb dX7_lend_14 rfl (lv_at hl 1 rfl) ?_
  obtain ⟨g3, h⟩ := gd h
  refine Xld_19 (v := (σ.2.1 19 (x1).toNatClampNeg)) C hA rfl g3 dX7_lend_15 ?_
  refine lv_iload_n hx hb dX7_lend_16 rfl (lv_at hl 3 rfl) ?_
  refine lv_icmp_ge (tgt := 22) hx hb dX7_lend_17 (by decide) (fun c4 => ?_) (fun c4 => ?_)
  · replace h := (if_pos c4).symm.trans h
    refine lv_aload_n hx hb dX7_lend_22 rfl (lv_at hl 0 rfl) ?_
    refine Xg_X7_debts C hA iX7_lend_X7 (by decide +kernel) dX7_lend_23 ?_
    obtain ⟨r5, hc6, h⟩ := bd1 h
    refine r_callVi (r := r5) (w1 := wX g σ) (As := []) (rest := []) C hA hl.1 (k_X3_room C.2.2.2.2.2.2 hc6) (cwV 0 C.1.2.2.2.2 gX7_lend_X3_room rfl rfl rfl nd_X3_room ⟨Nat.le_of_ble_eq_true rfl, Nat.le_of_ble_eq_true rfl⟩) 5 rfl rfl rfl rfl (Nat.le_of_ble_eq_true rfl) dX7_lend_26 ⟨Nat.le_of_ble_eq_true rfl, Nat.le_of_ble_eq_true rfl⟩ (fun H locs hA => ?_)
    refine lv_iconst (v := 1) hx hb dX7_lend_29 (by decide) ?_
    refine lv_icmp_ge (tgt := 36) hx hb dX7_lend_30 (by decide) (fun c7 => ?_) (fun c7 => ?_)
    · replace h := (if_pos c7).symm.trans h
      refine lv_aload_n hx hb dX7_lend_36 rfl (lv_at hl 0 rfl) ?_
      refine Xg_X7_chiefs C hA iX7_lend_X7 (by decide +kernel) dX7_lend_37 ?_
      refine lv_iload_n hx hb dX7_lend_40 rfl (lv_at hl 1 rfl) ?_
      refine lv_iload_n hx hb dX7_lend_41 rfl (lv_at hl 2 rfl) ?_
      refine lv_iload_n hx hb dX7_lend_42 rfl (lv_at hl 3 rfl) ?_
      obtain ⟨r8, t10, hc9, h⟩ := bd h
      refine r_callVv (r := r8) (w1 := wX g t10) (As := [.int x1, .int x2, .int x3]) (rest := []) C hA hl.1 (k_X0_moveBlankets C.2.2.2.2.2.2 hc9) (cwV 3 C.1.2.2.2.2 gX7_lend_X0_moveBlankets rfl rfl rfl nd_X0_moveBlankets ⟨Nat.le_of_ble_eq_true rfl, Nat.le_of_ble_eq_true rfl⟩) 4 rfl rfl rfl rfl (Nat.le_of_ble_eq_true rfl) dX7_lend_43 ⟨Nat.le_of_ble_eq_true rfl, Nat.le_of_ble_eq_true rfl⟩ (fun H locs hA => ?_)
      refine lv_aload_n hx hb dX7_lend_46 rfl (lv_at hl 0 rfl) ?_
      refine Xg_X7_debts C hA iX7_lend_X7 (by decide +kernel) dX7_lend_47 ?_
      refine lv_iload_n hx hb dX7_lend_50 rfl (lv_at hl 2 rfl) ?_
      refine lv_iload_n hx hb dX7_lend_51 rfl (lv_at hl 1 rfl) ?_
      refine lv_iload_n hx hb dX7_lend_52 rfl (lv_at hl 3 rfl) ?_
      refine lv_iconst (v := (-1)) hx hb dX7_lend_53 (by decide) ?_
      obtain ⟨r11, t13, hc12, h⟩ := bd h
      refine r_callVi (r := r11) (w1 := wX g t13) (As := [.int x2, .int x1, .int x3, .int (-1)]) (rest := []) C hA hl.1 (k_X3_add C.2.2.2.2.2.2 hc12) (cwV 4 C.1.2.2.2.2 gX7_lend_X3_add rfl rfl rfl nd_X3_add ⟨Nat.le_of_ble_eq_true rfl, Nat.le_of_ble_eq_true rfl⟩) 5 rfl rfl rfl rfl (Nat.le_of_ble_eq_true rfl) dX7_lend_54 ⟨Nat.le_of_ble_eq_true rfl, Nat.le_of_ble_eq_true rfl⟩ (fun H locs hA => ?_)
      obtain ⟨rfl, rfl⟩ := inl_inj h
      exact r_iret C hA dX7_lend_57
    · replace h := (if_neg c7).symm.trans h
      refine lv_bipush (v := (-2)) hx hb dX7_lend_33 (by decide) ?_
      obtain ⟨rfl, rfl⟩ := inl_inj h
      exact r_iret C hA dX7_lend_35
  · replace h := (if_neg c4).symm.trans h
    refine lv_iconst (v := (-1)) hx hb dX7_lend_20 (by decide) ?_
    obtain ⟨rfl, rfl⟩ := inl_inj h
    exact r_iret C hA dX7_lend_21
set_option maxHeartbeats 4000000 in
set_option maxRecDepth 100000 in
theorem v_X7_lend_0 {σ : SS} {x1 : Int32} {x2 : Int32} {x3 : Int32} (C : Cx p l s m args meth c cX7_lend 4 wsX7_lend (some .int) RX7 g A) (hT : ∀ x ∈ c.exceptionTable.toList, False) (h : f_X7_lend fu σ x1 x2 x3 = some (.inr j, τ)) {H : Heap} {locs : List Loc} {ls : Array Slot} (hA : Aw g A s.heap (wX g σ) H locs) (hl : lv_has ls 4 [(0, .ref (g.2.1 0)), (1, .int x1), (2, .int x2), (3, .int x3)]) : W p l e rxX7_lend s m args below meth c H locs 0 0 (vx_MQ below (QFi A) (Xw g A (wX g τ) j) args s 1 6 A) (F0 m 0 ls []) := by
  have hx := C.1.1
  have hb := C.1.2.1
  unfold f_X7_lend at h
  refine lv_aload_n hx hb dX7_lend_0 rfl (lv_at hl 0 rfl) ?_
  refine lv_iload_n hx hb dX7_lend_1 rfl (lv_at hl 1 rfl) ?_
  refine lv_iload_n hx hb dX7_lend_2 rfl (lv_at hl 2 rfl) ?_
  refine lv_iload_n hx hb dX7_lend_3 rfl (lv_at hl 3 rfl) ?_
  rcases bdXt h with ⟨r1, hc2, h⟩ | ⟨hc2, rfl⟩
  rotate_left
  · exact r_xVv (w1 := wX g σ) (As := [.int x1, .int x2, .int x3]) (rest := []) C hA hl.1 hT (kx_X7_checkHandingOver C.2.2.2.2.2.2 hc2) (cwV 3 C.1.2.2.2.2 gX7_lend_X7_checkHandingOver rfl rfl rfl nd_X7_checkHandingOver ⟨Nat.le_of_ble_eq_true rfl, Nat.le_of_ble_eq_true rfl⟩) 0 rfl rfl rfl rfl (Nat.le_of_ble_eq_true rfl) dX7_lend_4 ⟨Nat.le_of_ble_eq_true rfl, Nat.le_of_ble_eq_true rfl⟩
  refine r_callVv (r := ()) (w1 := wX g σ) (As := [.int x1, .int x2, .int x3]) (rest := []) C hA hl.1 (k_X7_checkHandingOver C.2.2.2.2.2.2 hc2) (cwV 3 C.1.2.2.2.2 gX7_lend_X7_checkHandingOver rfl rfl rfl nd_X7_checkHandingOver ⟨Nat.le_of_ble_eq_true rfl, Nat.le_of_ble_eq_true rfl⟩) 0 rfl rfl rfl rfl (Nat.le_of_ble_eq_true rfl) dX7_lend_4 ⟨Nat.le_of_ble_eq_true rfl, Nat.le_of_ble_eq_true rfl⟩ (fun H locs hA => ?_)
  refine lv_aload_n hx hb dX7_lend_7 rfl (lv_at hl 0 rfl) ?_
  refine Xg_X7_chiefs C hA iX7_lend_X7 (by decide +kernel) dX7_lend_8 ?_
  refine Xg_X0_blankets C hA iX7_lend_X0 (by decide +kernel) dX7_lend_11 ?_
  refine lv_iload_n hx hb dX7_lend_14 rfl (lv_at hl 1 rfl) ?_
  obtain ⟨g3, h⟩ := gd h
  refine Xld_19 (v := (σ.2.1 19 (x1).toNatClampNeg)) C hA rfl g3 dX7_lend_15 ?_
  refine lv_iload_n hx hb dX7_lend_16 rfl (lv_at hl 3 rfl) ?_
  refine lv_icmp_ge (tgt := 22) hx hb dX7_lend_17 (by decide) (fun c4 => ?_) (fun c4 => ?_)
  · replace h := (if_pos c4).symm.trans h
    refine lv_aload_n hx hb dX7_lend_22 rfl (lv_at hl 0 rfl) ?_
    refine Xg_X7_debts C hA iX7_lend_X7 (by decide +kernel) dX7_lend_23 ?_
    obtain ⟨r5, hc6, h⟩ := bd1 h
    refine r_callVi (r := r5) (w1 := wX g σ) (As := []) (rest := []) C hA hl.1 (k_X3_room C.2.2.2.2.2.2 hc6) (cwV 0 C.1.2.2.2.2 gX7_lend_X3_room rfl rfl rfl nd_X3_room ⟨Nat.le_of_ble_eq_true rfl, Nat.le_of_ble_eq_true rfl⟩) 5 rfl rfl rfl rfl (Nat.le_of_ble_eq_true rfl) dX7_lend_26 ⟨Nat.le_of_ble_eq_true rfl, Nat.le_of_ble_eq_true rfl⟩ (fun H locs hA => ?_)
    refine lv_iconst (v := 1) hx hb dX7_lend_29 (by decide) ?_
    refine lv_icmp_ge (tgt := 36) hx hb dX7_lend_30 (by decide) (fun c7 => ?_) (fun c7 => ?_)
    · replace h := (if_pos c7).symm.trans h
      refine lv_aload_n hx hb dX7_lend_36 rfl (lv_at hl 0 rfl) ?_
      refine Xg_X7_chiefs C hA iX7_lend_X7 (by decide +kernel) dX7_lend_37 ?_
      refine lv_iload_n hx hb dX7_lend_40 rfl (lv_at hl 1 rfl) ?_
      refine lv_iload_n hx hb dX7_lend_41 rfl (lv_at hl 2 rfl) ?_
      refine lv_iload_n hx hb dX7_lend_42 rfl (lv_at hl 3 rfl) ?_
      obtain ⟨r8, t10, hc9, h⟩ := bd h
      refine r_callVv (r := r8) (w1 := wX g t10) (As := [.int x1, .int x2, .int x3]) (rest := []) C hA hl.1 (k_X0_moveBlankets C.2.2.2.2.2.2 hc9) (cwV 3 C.1.2.2.2.2 gX7_lend_X0_moveBlankets rfl rfl rfl nd_X0_moveBlankets ⟨Nat.le_of_ble_eq_true rfl, Nat.le_of_ble_eq_true rfl⟩) 4 rfl rfl rfl rfl (Nat.le_of_ble_eq_true rfl) dX7_lend_43 ⟨Nat.le_of_ble_eq_true rfl, Nat.le_of_ble_eq_true rfl⟩ (fun H locs hA => ?_)
      refine lv_aload_n hx hb dX7_lend_46 rfl (lv_at hl 0 rfl) ?_
      refine Xg_X7_debts C hA iX7_lend_X7 (by decide +kernel) dX7_lend_47 ?_
      refine lv_iload_n hx hb dX7_lend_50 rfl (lv_at hl 2 rfl) ?_
      refine lv_iload_n hx hb dX7_lend_51 rfl (lv_at hl 1 rfl) ?_
      refine lv_iload_n hx hb dX7_lend_52 rfl (lv_at hl 3 rfl) ?_
      refine lv_iconst (v := (-1)) hx hb dX7_lend_53 (by decide) ?_
      obtain ⟨r11, t13, hc12, h⟩ := bd h
      refine r_callVi (r := r11) (w1 := wX g t13) (As := [.int x2, .int x1, .int x3, .int (-1)]) (rest := []) C hA hl.1 (k_X3_add C.2.2.2.2.2.2 hc12) (cwV 4 C.1.2.2.2.2 gX7_lend_X3_add rfl rfl rfl nd_X3_add ⟨Nat.le_of_ble_eq_true rfl, Nat.le_of_ble_eq_true rfl⟩) 5 rfl rfl rfl rfl (Nat.le_of_ble_eq_true rfl) dX7_lend_54 ⟨Nat.le_of_ble_eq_true rfl, Nat.le_of_ble_eq_true rfl⟩ (fun H locs hA => ?_)
      cases h
    · replace h := (if_neg c7).symm.trans h
      refine lv_bipush (v := (-2)) hx hb dX7_lend_33 (by decide) ?_
      cases h
  · replace h := (if_neg c4).symm.trans h
    refine lv_iconst (v := (-1)) hx hb dX7_lend_20 (by decide) ?_
    cases h
end
set_option maxRecDepth 100000 in
theorem k_X7_lend {l : Launch} {g : Gm} {fu : Nat} {σ : SS} {x1 : Int32} {x2 : Int32} {x3 : Int32} {v0 : Int32} {τ : SS} (hlt : l.stackTraces = false) (h : f_X7_lend fu σ x1 x2 x3 = some (.inl v0, τ)) (sz : Nat) : Met l yX7_lend wsX7_lend rmX7_lend (Pw g (wX g σ) [.ref (g.2.1 0), .int x1, .int x2, .int x3] sz) (Qi g (va_A (wX g σ) sz) (wX g τ) v0) 0 0 (va_A (wX g σ) sz) :=
  ofM (own := RX7) hlt (by decide) rfl rfl (Nat.le_of_ble_eq_true rfl) (fun p e s m below meth c hsz C hA ls hl => w_X7_lend_0 C h hA hl)
set_option maxRecDepth 100000 in
theorem kx_X7_lend {l : Launch} {g : Gm} {fu : Nat} {σ : SS} {x1 : Int32} {x2 : Int32} {x3 : Int32} {j : Nat} {τ : SS} (hlt : l.stackTraces = false) (h : f_X7_lend fu σ x1 x2 x3 = some (.inr j, τ)) (sz : Nat) : vx_Met l yX7_lend wsX7_lend rxX7_lend (Pw g (wX g σ) [.ref (g.2.1 0), .int x1, .int x2, .int x3] sz) (QFi (va_A (wX g σ) sz)) (Xw g (va_A (wX g σ) sz) (wX g τ) j) 1 6 (va_A (wX g σ) sz) :=
  ofX (own := RX7) hlt (by decide) rfl rfl (Nat.le_of_ble_eq_true rfl) (fun p e s m below meth c hsz C hT hA ls hl => v_X7_lend_0 C hT h hA hl)
abbrev rmX7_copper : Room := { frames := 1, cells := 0, slots := 0, locals := 22 }
abbrev rxX7_copper : Room := { frames := 7, cells := 1, slots := 6, locals := 111 }
theorem iX7_copper_X1 : ∀ x ∈ wsX10, x ∈ wsX7_copper := by decide +kernel
theorem iX7_copper_X7 : ∀ x ∈ wsX70, x ∈ wsX7_copper := by decide +kernel
set_option maxRecDepth 20000 in
theorem xi_X7_copper_0 : ∀ w ∈ (vx_atS RX7 70 "java/lang/IllegalArgumentException" xNames).filter goodWord, w ∈ wsX7_copper := by decide +kernel
set_option maxRecDepth 20000 in
theorem xi_X7_copper_1 : ∀ w ∈ (vx_atS RX7 80 "java/lang/IllegalStateException" xNames).filter goodWord, w ∈ wsX7_copper := by decide +kernel
theorem nd_X7_copper : yX7_copper.cls = RX7 ∧ yX7_copper.cls ≠ "java/lang/invoke/MethodHandle" ∧ yX7_copper.cls ≠ "java/lang/invoke/VarHandle" ∧ (parseMethodDescriptor yX7_copper.desc).map (fun d => d.parameters.length) = some 2 := by decide +kernel
def f_X7_copper_16 (fu : Nat) (σ : SS) : Option ((Int32 ⊕ Nat) × SS) :=
  some (.inr 0, σ)
def f_X7_copper (fu : Nat) (σ : SS) (x1 : Int32) (x2 : Int32) : Option ((Int32 ⊕ Nat) × SS) :=
  bndX (f_X7_checkChief fu σ x1) σ (fun r1 => (if x2 < (1 : Int32) then f_X7_copper_16 fu σ else (if x2 ≤ (1000000 : Int32) then bndX (f_X7_checkLives fu σ x1) σ (fun r5 => (if (σ.1 16) < (30 : Int32) then bnd (f_X1_add fu σ x1 x2) (fun r8 t10 => some (.inl r8, t10)) else some (.inr 1, σ))) else f_X7_copper_16 fu σ)))
section
variable {p : Program} {l : Launch} {e : Env} {s : State} {m : MethodId} {args : Array Value} {below : List Frame} {meth : Method} {c : Code} {g : Gm} {A : Nat → Prop} {fu : Nat} {v0 : Int32} {τ : SS} {j : Nat}
set_option maxHeartbeats 4000000 in
set_option maxRecDepth 100000 in
theorem w_X7_copper_16 {σ : SS} (C : Cx p l s m args meth c cX7_copper 3 wsX7_copper (some .int) RX7 g A) (h : f_X7_copper_16 fu σ = some (.inl v0, τ)) {H : Heap} {locs : List Loc} {ls : Array Slot} (hA : Aw g A s.heap (wX g σ) H locs) (hl : lv_has ls 3 []) : W p l e rmX7_copper s m args below meth c H locs 0 0 (MQ below (Qi g A (wX g τ) v0) args s 0 0 A) (F0 m 16 ls []) := by
  have hx := C.1.1
  have hb := C.1.2.1
  unfold f_X7_copper_16 at h
  cases h
set_option maxHeartbeats 4000000 in
set_option maxRecDepth 100000 in
theorem w_X7_copper_0 {σ : SS} {x1 : Int32} {x2 : Int32} (C : Cx p l s m args meth c cX7_copper 3 wsX7_copper (some .int) RX7 g A) (h : f_X7_copper fu σ x1 x2 = some (.inl v0, τ)) {H : Heap} {locs : List Loc} {ls : Array Slot} (hA : Aw g A s.heap (wX g σ) H locs) (hl : lv_has ls 3 [(0, .ref (g.2.1 0)), (1, .int x1), (2, .int x2)]) : W p l e rmX7_copper s m args below meth c H locs 0 0 (MQ below (Qi g A (wX g τ) v0) args s 0 0 A) (F0 m 0 ls []) := by
  have hx := C.1.1
  have hb := C.1.2.1
  unfold f_X7_copper at h
  refine lv_aload_n hx hb dX7_copper_0 rfl (lv_at hl 0 rfl) ?_
  refine lv_iload_n hx hb dX7_copper_1 rfl (lv_at hl 1 rfl) ?_
  obtain ⟨r1, hc2, h⟩ := bdX h
  refine r_callVv (r := ()) (w1 := wX g σ) (As := [.int x1]) (rest := []) C hA hl.1 (k_X7_checkChief C.2.2.2.2.2.2 hc2) (cwV 1 C.1.2.2.2.2 gX7_copper_X7_checkChief rfl rfl rfl nd_X7_checkChief ⟨Nat.le_of_ble_eq_true rfl, Nat.le_of_ble_eq_true rfl⟩) 0 rfl rfl rfl rfl (Nat.le_of_ble_eq_true rfl) dX7_copper_2 ⟨Nat.le_of_ble_eq_true rfl, Nat.le_of_ble_eq_true rfl⟩ (fun H locs hA => ?_)
  refine lv_iload_n hx hb dX7_copper_5 rfl (lv_at hl 2 rfl) ?_
  refine lv_iconst (v := 1) hx hb dX7_copper_6 (by decide) ?_
  refine lv_icmp_lt (tgt := 16) hx hb dX7_copper_7 (by decide) (fun c3 => ?_) (fun c3 => ?_)
  · replace h := (if_pos c3).symm.trans h
    exact w_X7_copper_16 C h hA (lv_sub hl [] rfl)
  · replace h := (if_neg c3).symm.trans h
    refine lv_iload_n hx hb dX7_copper_10 rfl (lv_at hl 2 rfl) ?_
    refine lv_ldc (v := 1000000) hx hb C.1.2.2.2.1 (C.1.2.2.2.2 (.constant RX7 65 (1000000)) (by decide +kernel)) dX7_copper_11 ?_
    refine lv_icmp_le (tgt := 26) hx hb dX7_copper_13 (by decide) (fun c4 => ?_) (fun c4 => ?_)
    · replace h := (if_pos c4).symm.trans h
      refine lv_aload_n hx hb dX7_copper_26 rfl (lv_at hl 0 rfl) ?_
      refine lv_iload_n hx hb dX7_copper_27 rfl (lv_at hl 1 rfl) ?_
      obtain ⟨r5, hc6, h⟩ := bdX h
      refine r_callVv (r := ()) (w1 := wX g σ) (As := [.int x1]) (rest := []) C hA hl.1 (k_X7_checkLives C.2.2.2.2.2.2 hc6) (cwV 1 C.1.2.2.2.2 gX7_copper_X7_checkLives rfl rfl rfl nd_X7_checkLives ⟨Nat.le_of_ble_eq_true rfl, Nat.le_of_ble_eq_true rfl⟩) 0 rfl rfl rfl rfl (Nat.le_of_ble_eq_true rfl) dX7_copper_28 ⟨Nat.le_of_ble_eq_true rfl, Nat.le_of_ble_eq_true rfl⟩ (fun H locs hA => ?_)
      refine lv_aload_n hx hb dX7_copper_31 rfl (lv_at hl 0 rfl) ?_
      refine Xg_X7_coppers C hA iX7_copper_X7 (by decide +kernel) dX7_copper_32 ?_
      refine Xg_X1_size (v := (σ.1 16)) C hA rfl iX7_copper_X1 (by decide +kernel) dX7_copper_35 ?_
      refine lv_bipush (v := 30) hx hb dX7_copper_38 (by decide) ?_
      refine lv_icmp_lt (tgt := 53) hx hb dX7_copper_40 (by decide) (fun c7 => ?_) (fun c7 => ?_)
      · replace h := (if_pos c7).symm.trans h
        refine lv_aload_n hx hb dX7_copper_53 rfl (lv_at hl 0 rfl) ?_
        refine Xg_X7_coppers C hA iX7_copper_X7 (by decide +kernel) dX7_copper_54 ?_
        refine lv_iload_n hx hb dX7_copper_57 rfl (lv_at hl 1 rfl) ?_
        refine lv_iload_n hx hb dX7_copper_58 rfl (lv_at hl 2 rfl) ?_
        obtain ⟨r8, t10, hc9, h⟩ := bd h
        refine r_callVi (r := r8) (w1 := wX g t10) (As := [.int x1, .int x2]) (rest := []) C hA hl.1 (k_X1_add C.2.2.2.2.2.2 hc9) (cwV 2 C.1.2.2.2.2 gX7_copper_X1_add rfl rfl rfl nd_X1_add ⟨Nat.le_of_ble_eq_true rfl, Nat.le_of_ble_eq_true rfl⟩) 6 rfl rfl rfl rfl (Nat.le_of_ble_eq_true rfl) dX7_copper_59 ⟨Nat.le_of_ble_eq_true rfl, Nat.le_of_ble_eq_true rfl⟩ (fun H locs hA => ?_)
        obtain ⟨rfl, rfl⟩ := inl_inj h
        exact r_iret C hA dX7_copper_62
      · replace h := (if_neg c7).symm.trans h
        cases h
    · replace h := (if_neg c4).symm.trans h
      exact w_X7_copper_16 C h hA (lv_sub hl [] rfl)
set_option maxHeartbeats 4000000 in
set_option maxRecDepth 100000 in
theorem v_X7_copper_16 {σ : SS} (C : Cx p l s m args meth c cX7_copper 3 wsX7_copper (some .int) RX7 g A) (hT : ∀ x ∈ c.exceptionTable.toList, False) (h : f_X7_copper_16 fu σ = some (.inr j, τ)) {H : Heap} {locs : List Loc} {ls : Array Slot} (hA : Aw g A s.heap (wX g σ) H locs) (hl : lv_has ls 3 []) : W p l e rxX7_copper s m args below meth c H locs 0 0 (vx_MQ below (QFi A) (Xw g A (wX g τ) j) args s 1 6 A) (F0 m 16 ls []) := by
  have hx := C.1.1
  have hb := C.1.2.1
  unfold f_X7_copper_16 at h
  obtain ⟨rfl, rfl⟩ := inr_inj h
  exact r_throw (j := 0) (rest := []) C hA hl.1 hT rfl (by decide +kernel) C.2.2.2.2.2.1.2.2.2.2.2.2.2.2.2.2.2.2.1 (by decide +kernel) (by decide +kernel) xi_X7_copper_0 xn_X7_0 C.2.2.2.2.2.1.2.2.2.2.2.1 xg_X7_0 dX7_copper_16 dX7_copper_19 dX7_copper_20 dX7_copper_22 dX7_copper_25 (Nat.le_of_ble_eq_true rfl) (Nat.le_of_ble_eq_true rfl) (Nat.le_of_ble_eq_true rfl) (Nat.le_of_ble_eq_true rfl)
set_option maxHeartbeats 4000000 in
set_option maxRecDepth 100000 in
theorem v_X7_copper_0 {σ : SS} {x1 : Int32} {x2 : Int32} (C : Cx p l s m args meth c cX7_copper 3 wsX7_copper (some .int) RX7 g A) (hT : ∀ x ∈ c.exceptionTable.toList, False) (h : f_X7_copper fu σ x1 x2 = some (.inr j, τ)) {H : Heap} {locs : List Loc} {ls : Array Slot} (hA : Aw g A s.heap (wX g σ) H locs) (hl : lv_has ls 3 [(0, .ref (g.2.1 0)), (1, .int x1), (2, .int x2)]) : W p l e rxX7_copper s m args below meth c H locs 0 0 (vx_MQ below (QFi A) (Xw g A (wX g τ) j) args s 1 6 A) (F0 m 0 ls []) := by
  have hx := C.1.1
  have hb := C.1.2.1
  unfold f_X7_copper at h
  refine lv_aload_n hx hb dX7_copper_0 rfl (lv_at hl 0 rfl) ?_
  refine lv_iload_n hx hb dX7_copper_1 rfl (lv_at hl 1 rfl) ?_
  rcases bdXt h with ⟨r1, hc2, h⟩ | ⟨hc2, rfl⟩
  rotate_left
  · exact r_xVv (w1 := wX g σ) (As := [.int x1]) (rest := []) C hA hl.1 hT (kx_X7_checkChief C.2.2.2.2.2.2 hc2) (cwV 1 C.1.2.2.2.2 gX7_copper_X7_checkChief rfl rfl rfl nd_X7_checkChief ⟨Nat.le_of_ble_eq_true rfl, Nat.le_of_ble_eq_true rfl⟩) 0 rfl rfl rfl rfl (Nat.le_of_ble_eq_true rfl) dX7_copper_2 ⟨Nat.le_of_ble_eq_true rfl, Nat.le_of_ble_eq_true rfl⟩
  refine r_callVv (r := ()) (w1 := wX g σ) (As := [.int x1]) (rest := []) C hA hl.1 (k_X7_checkChief C.2.2.2.2.2.2 hc2) (cwV 1 C.1.2.2.2.2 gX7_copper_X7_checkChief rfl rfl rfl nd_X7_checkChief ⟨Nat.le_of_ble_eq_true rfl, Nat.le_of_ble_eq_true rfl⟩) 0 rfl rfl rfl rfl (Nat.le_of_ble_eq_true rfl) dX7_copper_2 ⟨Nat.le_of_ble_eq_true rfl, Nat.le_of_ble_eq_true rfl⟩ (fun H locs hA => ?_)
  refine lv_iload_n hx hb dX7_copper_5 rfl (lv_at hl 2 rfl) ?_
  refine lv_iconst (v := 1) hx hb dX7_copper_6 (by decide) ?_
  refine lv_icmp_lt (tgt := 16) hx hb dX7_copper_7 (by decide) (fun c3 => ?_) (fun c3 => ?_)
  · replace h := (if_pos c3).symm.trans h
    exact v_X7_copper_16 C hT h hA (lv_sub hl [] rfl)
  · replace h := (if_neg c3).symm.trans h
    refine lv_iload_n hx hb dX7_copper_10 rfl (lv_at hl 2 rfl) ?_
    refine lv_ldc (v := 1000000) hx hb C.1.2.2.2.1 (C.1.2.2.2.2 (.constant RX7 65 (1000000)) (by decide +kernel)) dX7_copper_11 ?_
    refine lv_icmp_le (tgt := 26) hx hb dX7_copper_13 (by decide) (fun c4 => ?_) (fun c4 => ?_)
    · replace h := (if_pos c4).symm.trans h
      refine lv_aload_n hx hb dX7_copper_26 rfl (lv_at hl 0 rfl) ?_
      refine lv_iload_n hx hb dX7_copper_27 rfl (lv_at hl 1 rfl) ?_
      rcases bdXt h with ⟨r5, hc6, h⟩ | ⟨hc6, rfl⟩
      rotate_left
      · exact r_xVv (w1 := wX g σ) (As := [.int x1]) (rest := []) C hA hl.1 hT (kx_X7_checkLives C.2.2.2.2.2.2 hc6) (cwV 1 C.1.2.2.2.2 gX7_copper_X7_checkLives rfl rfl rfl nd_X7_checkLives ⟨Nat.le_of_ble_eq_true rfl, Nat.le_of_ble_eq_true rfl⟩) 0 rfl rfl rfl rfl (Nat.le_of_ble_eq_true rfl) dX7_copper_28 ⟨Nat.le_of_ble_eq_true rfl, Nat.le_of_ble_eq_true rfl⟩
      refine r_callVv (r := ()) (w1 := wX g σ) (As := [.int x1]) (rest := []) C hA hl.1 (k_X7_checkLives C.2.2.2.2.2.2 hc6) (cwV 1 C.1.2.2.2.2 gX7_copper_X7_checkLives rfl rfl rfl nd_X7_checkLives ⟨Nat.le_of_ble_eq_true rfl, Nat.le_of_ble_eq_true rfl⟩) 0 rfl rfl rfl rfl (Nat.le_of_ble_eq_true rfl) dX7_copper_28 ⟨Nat.le_of_ble_eq_true rfl, Nat.le_of_ble_eq_true rfl⟩ (fun H locs hA => ?_)
      refine lv_aload_n hx hb dX7_copper_31 rfl (lv_at hl 0 rfl) ?_
      refine Xg_X7_coppers C hA iX7_copper_X7 (by decide +kernel) dX7_copper_32 ?_
      refine Xg_X1_size (v := (σ.1 16)) C hA rfl iX7_copper_X1 (by decide +kernel) dX7_copper_35 ?_
      refine lv_bipush (v := 30) hx hb dX7_copper_38 (by decide) ?_
      refine lv_icmp_lt (tgt := 53) hx hb dX7_copper_40 (by decide) (fun c7 => ?_) (fun c7 => ?_)
      · replace h := (if_pos c7).symm.trans h
        refine lv_aload_n hx hb dX7_copper_53 rfl (lv_at hl 0 rfl) ?_
        refine Xg_X7_coppers C hA iX7_copper_X7 (by decide +kernel) dX7_copper_54 ?_
        refine lv_iload_n hx hb dX7_copper_57 rfl (lv_at hl 1 rfl) ?_
        refine lv_iload_n hx hb dX7_copper_58 rfl (lv_at hl 2 rfl) ?_
        obtain ⟨r8, t10, hc9, h⟩ := bd h
        refine r_callVi (r := r8) (w1 := wX g t10) (As := [.int x1, .int x2]) (rest := []) C hA hl.1 (k_X1_add C.2.2.2.2.2.2 hc9) (cwV 2 C.1.2.2.2.2 gX7_copper_X1_add rfl rfl rfl nd_X1_add ⟨Nat.le_of_ble_eq_true rfl, Nat.le_of_ble_eq_true rfl⟩) 6 rfl rfl rfl rfl (Nat.le_of_ble_eq_true rfl) dX7_copper_59 ⟨Nat.le_of_ble_eq_true rfl, Nat.le_of_ble_eq_true rfl⟩ (fun H locs hA => ?_)
        cases h
      · replace h := (if_neg c7).symm.trans h
        obtain ⟨rfl, rfl⟩ := inr_inj h
        exact r_throw (j := 1) (rest := []) C hA hl.1 hT rfl (by decide +kernel) C.2.2.2.2.2.1.2.2.2.2.2.2.2.2.2.2.2.2.2.1 (by decide +kernel) (by decide +kernel) xi_X7_copper_1 xn_X7_1 C.2.2.2.2.2.1.2.2.2.2.2.2.1 xg_X7_1 dX7_copper_43 dX7_copper_46 dX7_copper_47 dX7_copper_49 dX7_copper_52 (Nat.le_of_ble_eq_true rfl) (Nat.le_of_ble_eq_true rfl) (Nat.le_of_ble_eq_true rfl) (Nat.le_of_ble_eq_true rfl)
    · replace h := (if_neg c4).symm.trans h
      exact v_X7_copper_16 C hT h hA (lv_sub hl [] rfl)
end
set_option maxRecDepth 100000 in
theorem k_X7_copper {l : Launch} {g : Gm} {fu : Nat} {σ : SS} {x1 : Int32} {x2 : Int32} {v0 : Int32} {τ : SS} (hlt : l.stackTraces = false) (h : f_X7_copper fu σ x1 x2 = some (.inl v0, τ)) (sz : Nat) : Met l yX7_copper wsX7_copper rmX7_copper (Pw g (wX g σ) [.ref (g.2.1 0), .int x1, .int x2] sz) (Qi g (va_A (wX g σ) sz) (wX g τ) v0) 0 0 (va_A (wX g σ) sz) :=
  ofM (own := RX7) hlt (by decide) rfl rfl (Nat.le_of_ble_eq_true rfl) (fun p e s m below meth c hsz C hA ls hl => w_X7_copper_0 C h hA hl)
set_option maxRecDepth 100000 in
theorem kx_X7_copper {l : Launch} {g : Gm} {fu : Nat} {σ : SS} {x1 : Int32} {x2 : Int32} {j : Nat} {τ : SS} (hlt : l.stackTraces = false) (h : f_X7_copper fu σ x1 x2 = some (.inr j, τ)) (sz : Nat) : vx_Met l yX7_copper wsX7_copper rxX7_copper (Pw g (wX g σ) [.ref (g.2.1 0), .int x1, .int x2] sz) (QFi (va_A (wX g σ) sz)) (Xw g (va_A (wX g σ) sz) (wX g τ) j) 1 6 (va_A (wX g σ) sz) :=
  ofX (own := RX7) hlt (by decide) rfl rfl (Nat.le_of_ble_eq_true rfl) (fun p e s m below meth c hsz C hT hA ls hl => v_X7_copper_0 C hT h hA hl)
abbrev rmX7_pass : Room := { frames := 5, cells := 0, slots := 0, locals := 119 }
abbrev rxX7_pass : Room := { frames := 7, cells := 1, slots := 6, locals := 119 }
theorem iX7_pass_X1 : ∀ x ∈ wsX10, x ∈ wsX7_pass := by decide +kernel
theorem iX7_pass_X7 : ∀ x ∈ wsX70, x ∈ wsX7_pass := by decide +kernel
set_option maxRecDepth 20000 in
theorem xi_X7_pass_0 : ∀ w ∈ (vx_atS RX7 70 "java/lang/IllegalArgumentException" xNames).filter goodWord, w ∈ wsX7_pass := by decide +kernel
theorem nd_X7_pass : yX7_pass.cls = RX7 ∧ yX7_pass.cls ≠ "java/lang/invoke/MethodHandle" ∧ yX7_pass.cls ≠ "java/lang/invoke/VarHandle" ∧ (parseMethodDescriptor yX7_pass.desc).map (fun d => d.parameters.length) = some 2 := by decide +kernel
def f_X7_pass (fu : Nat) (σ : SS) (x1 : Int32) (x2 : Int32) : Option ((Int32 ⊕ Nat) × SS) :=
  bndX (f_X7_checkCopper fu σ x1) σ (fun r1 => bndX (f_X7_checkChief fu σ x2) σ (fun r3 => if inB x1 30 then (if (σ.2.1 26 (x1).toNatClampNeg) = x2 then some (.inr 0, σ) else bndX (f_X7_checkLives fu σ x2) σ (fun r7 => (if (σ.2.1 28 (x1).toNatClampNeg) = 0 then some (.inl (-1), σ) else bnd1 (f_X7_debtsMadeBy fu σ (σ.2.1 26 (x1).toNatClampNeg) x2 (σ.2.1 28 (x1).toNatClampNeg)) (fun r10 => bnd1 (f_X3_room fu σ) (fun r12 => (if r10 ≤ r12 then bnd (f_X7_recordGiven fu (sA σ 26 (x1).toNatClampNeg x2) (σ.2.1 26 (x1).toNatClampNeg) x2 (σ.2.1 28 (x1).toNatClampNeg)) (fun r15 t17 => some (.inl r15, t17)) else some (.inl (-2), σ))))))) else none))
section
variable {p : Program} {l : Launch} {e : Env} {s : State} {m : MethodId} {args : Array Value} {below : List Frame} {meth : Method} {c : Code} {g : Gm} {A : Nat → Prop} {fu : Nat} {v0 : Int32} {τ : SS} {j : Nat}
set_option maxHeartbeats 4000000 in
set_option maxRecDepth 100000 in
theorem w_X7_pass_0 {σ : SS} {x1 : Int32} {x2 : Int32} (C : Cx p l s m args meth c cX7_pass 5 wsX7_pass (some .int) RX7 g A) (h : f_X7_pass fu σ x1 x2 = some (.inl v0, τ)) {H : Heap} {locs : List Loc} {ls : Array Slot} (hA : Aw g A s.heap (wX g σ) H locs) (hl : lv_has ls 5 [(0, .ref (g.2.1 0)), (1, .int x1), (2, .int x2)]) : W p l e rmX7_pass s m args below meth c H locs 0 0 (MQ below (Qi g A (wX g τ) v0) args s 0 0 A) (F0 m 0 ls []) := by
  have hx := C.1.1
  have hb := C.1.2.1
  unfold f_X7_pass at h
  refine lv_aload_n hx hb dX7_pass_0 rfl (lv_at hl 0 rfl) ?_
  refine lv_iload_n hx hb dX7_pass_1 rfl (lv_at hl 1 rfl) ?_
  obtain ⟨r1, hc2, h⟩ := bdX h
  refine r_callVv (r := ()) (w1 := wX g σ) (As := [.int x1]) (rest := []) C hA hl.1 (k_X7_checkCopper C.2.2.2.2.2.2 hc2) (cwV 1 C.1.2.2.2.2 gX7_pass_X7_checkCopper rfl rfl rfl nd_X7_checkCopper ⟨Nat.le_of_ble_eq_true rfl, Nat.le_of_ble_eq_true rfl⟩) 0 rfl rfl rfl rfl (Nat.le_of_ble_eq_true rfl) dX7_pass_2 ⟨Nat.le_of_ble_eq_true rfl, Nat.le_of_ble_eq_true rfl⟩ (fun H locs hA => ?_)
  refine lv_aload_n hx hb dX7_pass_5 rfl (lv_at hl 0 rfl) ?_
  refine lv_iload_n hx hb dX7_pass_6 rfl (lv_at hl 2 rfl) ?_
  obtain ⟨r3, hc4, h⟩ := bdX h
  refine r_callVv (r := ()) (w1 := wX g σ) (As := [.int x2]) (rest := []) C hA hl.1 (k_X7_checkChief C.2.2.2.2.2.2 hc4) (cwV 1 C.1.2.2.2.2 gX7_pass_X7_checkChief rfl rfl rfl nd_X7_checkChief ⟨Nat.le_of_ble_eq_true rfl, Nat.le_of_ble_eq_true rfl⟩) 0 rfl rfl rfl rfl (Nat.le_of_ble_eq_true rfl) dX7_pass_7 ⟨Nat.le_of_ble_eq_true rfl, Nat.le_of_ble_eq_true rfl⟩ (fun H locs hA => ?_)
  refine lv_aload_n hx hb dX7_pass_10 rfl (lv_at hl 0 rfl) ?_
  refine Xg_X7_coppers C hA iX7_pass_X7 (by decide +kernel) dX7_pass_11 ?_
  refine Xg_X1_owner C hA iX7_pass_X1 (by decide +kernel) dX7_pass_14 ?_
  refine lv_iload_n hx hb dX7_pass_17 rfl (lv_at hl 1 rfl) ?_
  obtain ⟨g5, h⟩ := gd h
  refine Xld_26 (v := (σ.2.1 26 (x1).toNatClampNeg)) C hA rfl g5 dX7_pass_18 ?_
  refine lv_istore_n (lv' := [(3, .int (σ.2.1 26 (x1).toNatClampNeg)), (0, .ref (g.2.1 0)), (1, .int x1), (2, .int x2)]) hx hb dX7_pass_19 rfl hl (by decide) rfl (fun ls hl => ?_)
  refine lv_iload_n hx hb dX7_pass_20 rfl (lv_at hl 0 rfl) ?_
  refine lv_iload_n hx hb dX7_pass_21 rfl (lv_at hl 3 rfl) ?_
  refine lv_icmp_ne (tgt := 35) hx hb dX7_pass_22 (by decide) (fun c6 => ?_) (fun c6 => ?_)
  · replace h := (if_neg c6).symm.trans h
    refine lv_aload_n hx hb dX7_pass_35 rfl (lv_at hl 1 rfl) ?_
    refine lv_iload_n hx hb dX7_pass_36 rfl (lv_at hl 3 rfl) ?_
    obtain ⟨r7, hc8, h⟩ := bdX h
    refine r_callVv (r := ()) (w1 := wX g σ) (As := [.int x2]) (rest := []) C hA hl.1 (k_X7_checkLives C.2.2.2.2.2.2 hc8) (cwV 1 C.1.2.2.2.2 gX7_pass_X7_checkLives rfl rfl rfl nd_X7_checkLives ⟨Nat.le_of_ble_eq_true rfl, Nat.le_of_ble_eq_true rfl⟩) 0 rfl rfl rfl rfl (Nat.le_of_ble_eq_true rfl) dX7_pass_37 ⟨Nat.le_of_ble_eq_true rfl, Nat.le_of_ble_eq_true rfl⟩ (fun H locs hA => ?_)
    refine lv_aload_n hx hb dX7_pass_40 rfl (lv_at hl 1 rfl) ?_
    refine Xg_X7_coppers C hA iX7_pass_X7 (by decide +kernel) dX7_pass_41 ?_
    refine Xg_X1_worth C hA iX7_pass_X1 (by decide +kernel) dX7_pass_44 ?_
    refine lv_iload_n hx hb dX7_pass_47 rfl (lv_at hl 2 rfl) ?_
    refine Xld_28 (v := (σ.2.1 28 (x1).toNatClampNeg)) C hA rfl g5 dX7_pass_48 ?_
    refine lv_istore (lv' := [(4, .int (σ.2.1 28 (x1).toNatClampNeg)), (3, .int (σ.2.1 26 (x1).toNatClampNeg)), (0, .ref (g.2.1 0)), (1, .int x1), (2, .int x2)]) hx hb dX7_pass_49 hl (by decide) rfl (fun ls hl => ?_)
    refine lv_iload hx hb dX7_pass_51 (lv_at hl 0 rfl) ?_
    refine lv_if_ne (tgt := 58) hx hb dX7_pass_53 (by decide) (fun c9 => ?_) (fun c9 => ?_)
    · replace h := (if_neg c9).symm.trans h
      refine lv_aload_n hx hb dX7_pass_58 rfl (lv_at hl 2 rfl) ?_
      refine lv_iload_n hx hb dX7_pass_59 rfl (lv_at hl 1 rfl) ?_
      refine lv_iload_n hx hb dX7_pass_60 rfl (lv_at hl 4 rfl) ?_
      refine lv_iload hx hb dX7_pass_61 (lv_at hl 0 rfl) ?_
      obtain ⟨r10, hc11, h⟩ := bd1 h
      refine r_callVi (r := r10) (w1 := wX g σ) (As := [.int (σ.2.1 26 (x1).toNatClampNeg), .int x2, .int (σ.2.1 28 (x1).toNatClampNeg)]) (rest := []) C hA hl.1 (k_X7_debtsMadeBy C.2.2.2.2.2.2 hc11) (cwV 3 C.1.2.2.2.2 gX7_pass_X7_debtsMadeBy rfl rfl rfl nd_X7_debtsMadeBy ⟨Nat.le_of_ble_eq_true rfl, Nat.le_of_ble_eq_true rfl⟩) 0 rfl rfl rfl rfl (Nat.le_of_ble_eq_true rfl) dX7_pass_63 ⟨Nat.le_of_ble_eq_true rfl, Nat.le_of_ble_eq_true rfl⟩ (fun H locs hA => ?_)
      refine lv_aload_n hx hb dX7_pass_66 rfl (lv_at hl 2 rfl) ?_
      refine Xg_X7_debts C hA iX7_pass_X7 (by decide +kernel) dX7_pass_67 ?_
      obtain ⟨r12, hc13, h⟩ := bd1 h
      refine r_callVi (r := r12) (w1 := wX g σ) (As := []) (rest := [.int r10]) C hA hl.1 (k_X3_room C.2.2.2.2.2.2 hc13) (cwV 0 C.1.2.2.2.2 gX7_pass_X3_room rfl rfl rfl nd_X3_room ⟨Nat.le_of_ble_eq_true rfl, Nat.le_of_ble_eq_true rfl⟩) 5 rfl rfl rfl rfl (Nat.le_of_ble_eq_true rfl) dX7_pass_70 ⟨Nat.le_of_ble_eq_true rfl, Nat.le_of_ble_eq_true rfl⟩ (fun H locs hA => ?_)
      refine lv_icmp_le (tgt := 79) hx hb dX7_pass_73 (by decide) (fun c14 => ?_) (fun c14 => ?_)
      · replace h := (if_pos c14).symm.trans h
        refine lv_aload_n hx hb dX7_pass_79 rfl (lv_at hl 2 rfl) ?_
        refine Xg_X7_coppers C hA iX7_pass_X7 (by decide +kernel) dX7_pass_80 ?_
        refine Xg_X1_owner C hA iX7_pass_X1 (by decide +kernel) dX7_pass_83 ?_
        refine lv_iload_n hx hb dX7_pass_86 rfl (lv_at hl 3 rfl) ?_
        refine lv_iload_n hx hb dX7_pass_87 rfl (lv_at hl 4 rfl) ?_
        refine Xst_26 C hA g5 dX7_pass_88 (fun H locs hA => ?_)
        refine lv_aload_n hx hb dX7_pass_89 rfl (lv_at hl 2 rfl) ?_
        refine lv_iload_n hx hb dX7_pass_90 rfl (lv_at hl 1 rfl) ?_
        refine lv_iload_n hx hb dX7_pass_91 rfl (lv_at hl 4 rfl) ?_
        refine lv_iload hx hb dX7_pass_92 (lv_at hl 0 rfl) ?_
        obtain ⟨r15, t17, hc16, h⟩ := bd h
        refine r_callVi (r := r15) (w1 := wX g t17) (As := [.int (σ.2.1 26 (x1).toNatClampNeg), .int x2, .int (σ.2.1 28 (x1).toNatClampNeg)]) (rest := []) C hA hl.1 (k_X7_recordGiven C.2.2.2.2.2.2 hc16) (cwV 3 C.1.2.2.2.2 gX7_pass_X7_recordGiven rfl rfl rfl nd_X7_recordGiven ⟨Nat.le_of_ble_eq_true rfl, Nat.le_of_ble_eq_true rfl⟩) 0 rfl rfl rfl rfl (Nat.le_of_ble_eq_true rfl) dX7_pass_94 ⟨Nat.le_of_ble_eq_true rfl, Nat.le_of_ble_eq_true rfl⟩ (fun H locs hA => ?_)
        obtain ⟨rfl, rfl⟩ := inl_inj h
        exact r_iret C hA dX7_pass_97
      · replace h := (if_neg c14).symm.trans h
        refine lv_bipush (v := (-2)) hx hb dX7_pass_76 (by decide) ?_
        obtain ⟨rfl, rfl⟩ := inl_inj h
        exact r_iret C hA dX7_pass_78
    · replace h := (if_pos c9).symm.trans h
      refine lv_iconst (v := (-1)) hx hb dX7_pass_56 (by decide) ?_
      obtain ⟨rfl, rfl⟩ := inl_inj h
      exact r_iret C hA dX7_pass_57
  · replace h := (if_pos c6).symm.trans h
    cases h
set_option maxHeartbeats 4000000 in
set_option maxRecDepth 100000 in
theorem v_X7_pass_0 {σ : SS} {x1 : Int32} {x2 : Int32} (C : Cx p l s m args meth c cX7_pass 5 wsX7_pass (some .int) RX7 g A) (hT : ∀ x ∈ c.exceptionTable.toList, False) (h : f_X7_pass fu σ x1 x2 = some (.inr j, τ)) {H : Heap} {locs : List Loc} {ls : Array Slot} (hA : Aw g A s.heap (wX g σ) H locs) (hl : lv_has ls 5 [(0, .ref (g.2.1 0)), (1, .int x1), (2, .int x2)]) : W p l e rxX7_pass s m args below meth c H locs 0 0 (vx_MQ below (QFi A) (Xw g A (wX g τ) j) args s 1 6 A) (F0 m 0 ls []) := by
  have hx := C.1.1
  have hb := C.1.2.1
  unfold f_X7_pass at h
  refine lv_aload_n hx hb dX7_pass_0 rfl (lv_at hl 0 rfl) ?_
  refine lv_iload_n hx hb dX7_pass_1 rfl (lv_at hl 1 rfl) ?_
  rcases bdXt h with ⟨r1, hc2, h⟩ | ⟨hc2, rfl⟩
  rotate_left
  · exact r_xVv (w1 := wX g σ) (As := [.int x1]) (rest := []) C hA hl.1 hT (kx_X7_checkCopper C.2.2.2.2.2.2 hc2) (cwV 1 C.1.2.2.2.2 gX7_pass_X7_checkCopper rfl rfl rfl nd_X7_checkCopper ⟨Nat.le_of_ble_eq_true rfl, Nat.le_of_ble_eq_true rfl⟩) 0 rfl rfl rfl rfl (Nat.le_of_ble_eq_true rfl) dX7_pass_2 ⟨Nat.le_of_ble_eq_true rfl, Nat.le_of_ble_eq_true rfl⟩
  refine r_callVv (r := ()) (w1 := wX g σ) (As := [.int x1]) (rest := []) C hA hl.1 (k_X7_checkCopper C.2.2.2.2.2.2 hc2) (cwV 1 C.1.2.2.2.2 gX7_pass_X7_checkCopper rfl rfl rfl nd_X7_checkCopper ⟨Nat.le_of_ble_eq_true rfl, Nat.le_of_ble_eq_true rfl⟩) 0 rfl rfl rfl rfl (Nat.le_of_ble_eq_true rfl) dX7_pass_2 ⟨Nat.le_of_ble_eq_true rfl, Nat.le_of_ble_eq_true rfl⟩ (fun H locs hA => ?_)
  refine lv_aload_n hx hb dX7_pass_5 rfl (lv_at hl 0 rfl) ?_
  refine lv_iload_n hx hb dX7_pass_6 rfl (lv_at hl 2 rfl) ?_
  rcases bdXt h with ⟨r3, hc4, h⟩ | ⟨hc4, rfl⟩
  rotate_left
  · exact r_xVv (w1 := wX g σ) (As := [.int x2]) (rest := []) C hA hl.1 hT (kx_X7_checkChief C.2.2.2.2.2.2 hc4) (cwV 1 C.1.2.2.2.2 gX7_pass_X7_checkChief rfl rfl rfl nd_X7_checkChief ⟨Nat.le_of_ble_eq_true rfl, Nat.le_of_ble_eq_true rfl⟩) 0 rfl rfl rfl rfl (Nat.le_of_ble_eq_true rfl) dX7_pass_7 ⟨Nat.le_of_ble_eq_true rfl, Nat.le_of_ble_eq_true rfl⟩
  refine r_callVv (r := ()) (w1 := wX g σ) (As := [.int x2]) (rest := []) C hA hl.1 (k_X7_checkChief C.2.2.2.2.2.2 hc4) (cwV 1 C.1.2.2.2.2 gX7_pass_X7_checkChief rfl rfl rfl nd_X7_checkChief ⟨Nat.le_of_ble_eq_true rfl, Nat.le_of_ble_eq_true rfl⟩) 0 rfl rfl rfl rfl (Nat.le_of_ble_eq_true rfl) dX7_pass_7 ⟨Nat.le_of_ble_eq_true rfl, Nat.le_of_ble_eq_true rfl⟩ (fun H locs hA => ?_)
  refine lv_aload_n hx hb dX7_pass_10 rfl (lv_at hl 0 rfl) ?_
  refine Xg_X7_coppers C hA iX7_pass_X7 (by decide +kernel) dX7_pass_11 ?_
  refine Xg_X1_owner C hA iX7_pass_X1 (by decide +kernel) dX7_pass_14 ?_
  refine lv_iload_n hx hb dX7_pass_17 rfl (lv_at hl 1 rfl) ?_
  obtain ⟨g5, h⟩ := gd h
  refine Xld_26 (v := (σ.2.1 26 (x1).toNatClampNeg)) C hA rfl g5 dX7_pass_18 ?_
  refine lv_istore_n (lv' := [(3, .int (σ.2.1 26 (x1).toNatClampNeg)), (0, .ref (g.2.1 0)), (1, .int x1), (2, .int x2)]) hx hb dX7_pass_19 rfl hl (by decide) rfl (fun ls hl => ?_)
  refine lv_iload_n hx hb dX7_pass_20 rfl (lv_at hl 0 rfl) ?_
  refine lv_iload_n hx hb dX7_pass_21 rfl (lv_at hl 3 rfl) ?_
  refine lv_icmp_ne (tgt := 35) hx hb dX7_pass_22 (by decide) (fun c6 => ?_) (fun c6 => ?_)
  · replace h := (if_neg c6).symm.trans h
    refine lv_aload_n hx hb dX7_pass_35 rfl (lv_at hl 1 rfl) ?_
    refine lv_iload_n hx hb dX7_pass_36 rfl (lv_at hl 3 rfl) ?_
    rcases bdXt h with ⟨r7, hc8, h⟩ | ⟨hc8, rfl⟩
    rotate_left
    · exact r_xVv (w1 := wX g σ) (As := [.int x2]) (rest := []) C hA hl.1 hT (kx_X7_checkLives C.2.2.2.2.2.2 hc8) (cwV 1 C.1.2.2.2.2 gX7_pass_X7_checkLives rfl rfl rfl nd_X7_checkLives ⟨Nat.le_of_ble_eq_true rfl, Nat.le_of_ble_eq_true rfl⟩) 0 rfl rfl rfl rfl (Nat.le_of_ble_eq_true rfl) dX7_pass_37 ⟨Nat.le_of_ble_eq_true rfl, Nat.le_of_ble_eq_true rfl⟩
    refine r_callVv (r := ()) (w1 := wX g σ) (As := [.int x2]) (rest := []) C hA hl.1 (k_X7_checkLives C.2.2.2.2.2.2 hc8) (cwV 1 C.1.2.2.2.2 gX7_pass_X7_checkLives rfl rfl rfl nd_X7_checkLives ⟨Nat.le_of_ble_eq_true rfl, Nat.le_of_ble_eq_true rfl⟩) 0 rfl rfl rfl rfl (Nat.le_of_ble_eq_true rfl) dX7_pass_37 ⟨Nat.le_of_ble_eq_true rfl, Nat.le_of_ble_eq_true rfl⟩ (fun H locs hA => ?_)
    refine lv_aload_n hx hb dX7_pass_40 rfl (lv_at hl 1 rfl) ?_
    refine Xg_X7_coppers C hA iX7_pass_X7 (by decide +kernel) dX7_pass_41 ?_
    refine Xg_X1_worth C hA iX7_pass_X1 (by decide +kernel) dX7_pass_44 ?_
    refine lv_iload_n hx hb dX7_pass_47 rfl (lv_at hl 2 rfl) ?_
    refine Xld_28 (v := (σ.2.1 28 (x1).toNatClampNeg)) C hA rfl g5 dX7_pass_48 ?_
    refine lv_istore (lv' := [(4, .int (σ.2.1 28 (x1).toNatClampNeg)), (3, .int (σ.2.1 26 (x1).toNatClampNeg)), (0, .ref (g.2.1 0)), (1, .int x1), (2, .int x2)]) hx hb dX7_pass_49 hl (by decide) rfl (fun ls hl => ?_)
    refine lv_iload hx hb dX7_pass_51 (lv_at hl 0 rfl) ?_
    refine lv_if_ne (tgt := 58) hx hb dX7_pass_53 (by decide) (fun c9 => ?_) (fun c9 => ?_)
    · replace h := (if_neg c9).symm.trans h
      refine lv_aload_n hx hb dX7_pass_58 rfl (lv_at hl 2 rfl) ?_
      refine lv_iload_n hx hb dX7_pass_59 rfl (lv_at hl 1 rfl) ?_
      refine lv_iload_n hx hb dX7_pass_60 rfl (lv_at hl 4 rfl) ?_
      refine lv_iload hx hb dX7_pass_61 (lv_at hl 0 rfl) ?_
      obtain ⟨r10, hc11, h⟩ := bd1 h
      refine r_callVi (r := r10) (w1 := wX g σ) (As := [.int (σ.2.1 26 (x1).toNatClampNeg), .int x2, .int (σ.2.1 28 (x1).toNatClampNeg)]) (rest := []) C hA hl.1 (k_X7_debtsMadeBy C.2.2.2.2.2.2 hc11) (cwV 3 C.1.2.2.2.2 gX7_pass_X7_debtsMadeBy rfl rfl rfl nd_X7_debtsMadeBy ⟨Nat.le_of_ble_eq_true rfl, Nat.le_of_ble_eq_true rfl⟩) 0 rfl rfl rfl rfl (Nat.le_of_ble_eq_true rfl) dX7_pass_63 ⟨Nat.le_of_ble_eq_true rfl, Nat.le_of_ble_eq_true rfl⟩ (fun H locs hA => ?_)
      refine lv_aload_n hx hb dX7_pass_66 rfl (lv_at hl 2 rfl) ?_
      refine Xg_X7_debts C hA iX7_pass_X7 (by decide +kernel) dX7_pass_67 ?_
      obtain ⟨r12, hc13, h⟩ := bd1 h
      refine r_callVi (r := r12) (w1 := wX g σ) (As := []) (rest := [.int r10]) C hA hl.1 (k_X3_room C.2.2.2.2.2.2 hc13) (cwV 0 C.1.2.2.2.2 gX7_pass_X3_room rfl rfl rfl nd_X3_room ⟨Nat.le_of_ble_eq_true rfl, Nat.le_of_ble_eq_true rfl⟩) 5 rfl rfl rfl rfl (Nat.le_of_ble_eq_true rfl) dX7_pass_70 ⟨Nat.le_of_ble_eq_true rfl, Nat.le_of_ble_eq_true rfl⟩ (fun H locs hA => ?_)
      refine lv_icmp_le (tgt := 79) hx hb dX7_pass_73 (by decide) (fun c14 => ?_) (fun c14 => ?_)
      · replace h := (if_pos c14).symm.trans h
        refine lv_aload_n hx hb dX7_pass_79 rfl (lv_at hl 2 rfl) ?_
        refine Xg_X7_coppers C hA iX7_pass_X7 (by decide +kernel) dX7_pass_80 ?_
        refine Xg_X1_owner C hA iX7_pass_X1 (by decide +kernel) dX7_pass_83 ?_
        refine lv_iload_n hx hb dX7_pass_86 rfl (lv_at hl 3 rfl) ?_
        refine lv_iload_n hx hb dX7_pass_87 rfl (lv_at hl 4 rfl) ?_
        refine Xst_26 C hA g5 dX7_pass_88 (fun H locs hA => ?_)
        refine lv_aload_n hx hb dX7_pass_89 rfl (lv_at hl 2 rfl) ?_
        refine lv_iload_n hx hb dX7_pass_90 rfl (lv_at hl 1 rfl) ?_
        refine lv_iload_n hx hb dX7_pass_91 rfl (lv_at hl 4 rfl) ?_
        refine lv_iload hx hb dX7_pass_92 (lv_at hl 0 rfl) ?_
        obtain ⟨r15, t17, hc16, h⟩ := bd h
        refine r_callVi (r := r15) (w1 := wX g t17) (As := [.int (σ.2.1 26 (x1).toNatClampNeg), .int x2, .int (σ.2.1 28 (x1).toNatClampNeg)]) (rest := []) C hA hl.1 (k_X7_recordGiven C.2.2.2.2.2.2 hc16) (cwV 3 C.1.2.2.2.2 gX7_pass_X7_recordGiven rfl rfl rfl nd_X7_recordGiven ⟨Nat.le_of_ble_eq_true rfl, Nat.le_of_ble_eq_true rfl⟩) 0 rfl rfl rfl rfl (Nat.le_of_ble_eq_true rfl) dX7_pass_94 ⟨Nat.le_of_ble_eq_true rfl, Nat.le_of_ble_eq_true rfl⟩ (fun H locs hA => ?_)
        cases h
      · replace h := (if_neg c14).symm.trans h
        refine lv_bipush (v := (-2)) hx hb dX7_pass_76 (by decide) ?_
        cases h
    · replace h := (if_pos c9).symm.trans h
      refine lv_iconst (v := (-1)) hx hb dX7_pass_56 (by decide) ?_
      cases h
  · replace h := (if_pos c6).symm.trans h
    obtain ⟨rfl, rfl⟩ := inr_inj h
    exact r_throw (j := 0) (rest := []) C hA hl.1 hT rfl (by decide +kernel) C.2.2.2.2.2.1.2.2.2.2.2.2.2.2.2.2.2.2.2.2.1 (by decide +kernel) (by decide +kernel) xi_X7_pass_0 xn_X7_0 C.2.2.2.2.2.1.2.2.2.2.2.1 xg_X7_0 dX7_pass_25 dX7_pass_28 dX7_pass_29 dX7_pass_31 dX7_pass_34 (Nat.le_of_ble_eq_true rfl) (Nat.le_of_ble_eq_true rfl) (Nat.le_of_ble_eq_true rfl) (Nat.le_of_ble_eq_true rfl)
end
set_option maxRecDepth 100000 in
theorem k_X7_pass {l : Launch} {g : Gm} {fu : Nat} {σ : SS} {x1 : Int32} {x2 : Int32} {v0 : Int32} {τ : SS} (hlt : l.stackTraces = false) (h : f_X7_pass fu σ x1 x2 = some (.inl v0, τ)) (sz : Nat) : Met l yX7_pass wsX7_pass rmX7_pass (Pw g (wX g σ) [.ref (g.2.1 0), .int x1, .int x2] sz) (Qi g (va_A (wX g σ) sz) (wX g τ) v0) 0 0 (va_A (wX g σ) sz) :=
  ofM (own := RX7) hlt (by decide) rfl rfl (Nat.le_of_ble_eq_true rfl) (fun p e s m below meth c hsz C hA ls hl => w_X7_pass_0 C h hA hl)
set_option maxRecDepth 100000 in
theorem kx_X7_pass {l : Launch} {g : Gm} {fu : Nat} {σ : SS} {x1 : Int32} {x2 : Int32} {j : Nat} {τ : SS} (hlt : l.stackTraces = false) (h : f_X7_pass fu σ x1 x2 = some (.inr j, τ)) (sz : Nat) : vx_Met l yX7_pass wsX7_pass rxX7_pass (Pw g (wX g σ) [.ref (g.2.1 0), .int x1, .int x2] sz) (QFi (va_A (wX g σ) sz)) (Xw g (va_A (wX g σ) sz) (wX g τ) j) 1 6 (va_A (wX g σ) sz) :=
  ofX (own := RX7) hlt (by decide) rfl rfl (Nat.le_of_ble_eq_true rfl) (fun p e s m below meth c hsz C hT hA ls hl => v_X7_pass_0 C hT h hA hl)
abbrev rmX7_breaks : Room := { frames := 2, cells := 0, slots := 0, locals := 52 }
abbrev rxX7_breaks : Room := { frames := 7, cells := 1, slots := 6, locals := 111 }
theorem iX7_breaks_X1 : ∀ x ∈ wsX10, x ∈ wsX7_breaks := by decide +kernel
theorem iX7_breaks_X7 : ∀ x ∈ wsX70, x ∈ wsX7_breaks := by decide +kernel
theorem nd_X7_breaks : yX7_breaks.cls = RX7 ∧ yX7_breaks.cls ≠ "java/lang/invoke/MethodHandle" ∧ yX7_breaks.cls ≠ "java/lang/invoke/VarHandle" ∧ (parseMethodDescriptor yX7_breaks.desc).map (fun d => d.parameters.length) = some 1 := by decide +kernel
def f_X7_breaks (fu : Nat) (σ : SS) (x1 : Int32) : Option ((Int32 ⊕ Nat) × SS) :=
  bndX (f_X7_checkCopper fu σ x1) σ (fun r1 => if inB x1 30 then (if (σ.2.1 28 (x1).toNatClampNeg) = 0 then some (.inl (-1), σ) else bnd (f_X1_breakOff fu σ x1) (fun r5 t7 => some (.inl r5, t7))) else none)
section
variable {p : Program} {l : Launch} {e : Env} {s : State} {m : MethodId} {args : Array Value} {below : List Frame} {meth : Method} {c : Code} {g : Gm} {A : Nat → Prop} {fu : Nat} {v0 : Int32} {τ : SS} {j : Nat}
set_option maxHeartbeats 4000000 in
set_option maxRecDepth 100000 in
theorem w_X7_breaks_0 {σ : SS} {x1 : Int32} (C : Cx p l s m args meth c cX7_breaks 2 wsX7_breaks (some .int) RX7 g A) (h : f_X7_breaks fu σ x1 = some (.inl v0, τ)) {H : Heap} {locs : List Loc} {ls : Array Slot} (hA : Aw g A s.heap (wX g σ) H locs) (hl : lv_has ls 2 [(0, .ref (g.2.1 0)), (1, .int x1)]) : W p l e rmX7_breaks s m args below meth c H locs 0 0 (MQ below (Qi g A (wX g τ) v0) args s 0 0 A) (F0 m 0 ls []) := by
  have hx := C.1.1
  have hb := C.1.2.1
  unfold f_X7_breaks at h
  refine lv_aload_n hx hb dX7_breaks_0 rfl (lv_at hl 0 rfl) ?_
  refine lv_iload_n hx hb dX7_breaks_1 rfl (lv_at hl 1 rfl) ?_
  obtain ⟨r1, hc2, h⟩ := bdX h
  refine r_callVv (r := ()) (w1 := wX g σ) (As := [.int x1]) (rest := []) C hA hl.1 (k_X7_checkCopper C.2.2.2.2.2.2 hc2) (cwV 1 C.1.2.2.2.2 gX7_breaks_X7_checkCopper rfl rfl rfl nd_X7_checkCopper ⟨Nat.le_of_ble_eq_true rfl, Nat.le_of_ble_eq_true rfl⟩) 0 rfl rfl rfl rfl (Nat.le_of_ble_eq_true rfl) dX7_breaks_2 ⟨Nat.le_of_ble_eq_true rfl, Nat.le_of_ble_eq_true rfl⟩ (fun H locs hA => ?_)
  refine lv_aload_n hx hb dX7_breaks_5 rfl (lv_at hl 0 rfl) ?_
  refine Xg_X7_coppers C hA iX7_breaks_X7 (by decide +kernel) dX7_breaks_6 ?_
  refine Xg_X1_worth C hA iX7_breaks_X1 (by decide +kernel) dX7_breaks_9 ?_
  refine lv_iload_n hx hb dX7_breaks_12 rfl (lv_at hl 1 rfl) ?_
  obtain ⟨g3, h⟩ := gd h
  refine Xld_28 (v := (σ.2.1 28 (x1).toNatClampNeg)) C hA rfl g3 dX7_breaks_13 ?_
  refine lv_if_ne (tgt := 19) hx hb dX7_breaks_14 (by decide) (fun c4 => ?_) (fun c4 => ?_)
  · replace h := (if_neg c4).symm.trans h
    refine lv_aload_n hx hb dX7_breaks_19 rfl (lv_at hl 0 rfl) ?_
    refine Xg_X7_coppers C hA iX7_breaks_X7 (by decide +kernel) dX7_breaks_20 ?_
    refine lv_iload_n hx hb dX7_breaks_23 rfl (lv_at hl 1 rfl) ?_
    obtain ⟨r5, t7, hc6, h⟩ := bd h
    refine r_callVi (r := r5) (w1 := wX g t7) (As := [.int x1]) (rest := []) C hA hl.1 (k_X1_breakOff C.2.2.2.2.2.2 hc6) (cwV 1 C.1.2.2.2.2 gX7_breaks_X1_breakOff rfl rfl rfl nd_X1_breakOff ⟨Nat.le_of_ble_eq_true rfl, Nat.le_of_ble_eq_true rfl⟩) 6 rfl rfl rfl rfl (Nat.le_of_ble_eq_true rfl) dX7_breaks_24 ⟨Nat.le_of_ble_eq_true rfl, Nat.le_of_ble_eq_true rfl⟩ (fun H locs hA => ?_)
    obtain ⟨rfl, rfl⟩ := inl_inj h
    exact r_iret C hA dX7_breaks_27
  · replace h := (if_pos c4).symm.trans h
    refine lv_iconst (v := (-1)) hx hb dX7_breaks_17 (by decide) ?_
    obtain ⟨rfl, rfl⟩ := inl_inj h
    exact r_iret C hA dX7_breaks_18
set_option maxHeartbeats 4000000 in
set_option maxRecDepth 100000 in
theorem v_X7_breaks_0 {σ : SS} {x1 : Int32} (C : Cx p l s m args meth c cX7_breaks 2 wsX7_breaks (some .int) RX7 g A) (hT : ∀ x ∈ c.exceptionTable.toList, False) (h : f_X7_breaks fu σ x1 = some (.inr j, τ)) {H : Heap} {locs : List Loc} {ls : Array Slot} (hA : Aw g A s.heap (wX g σ) H locs) (hl : lv_has ls 2 [(0, .ref (g.2.1 0)), (1, .int x1)]) : W p l e rxX7_breaks s m args below meth c H locs 0 0 (vx_MQ below (QFi A) (Xw g A (wX g τ) j) args s 1 6 A) (F0 m 0 ls []) := by
  have hx := C.1.1
  have hb := C.1.2.1
  unfold f_X7_breaks at h
  refine lv_aload_n hx hb dX7_breaks_0 rfl (lv_at hl 0 rfl) ?_
  refine lv_iload_n hx hb dX7_breaks_1 rfl (lv_at hl 1 rfl) ?_
  rcases bdXt h with ⟨r1, hc2, h⟩ | ⟨hc2, rfl⟩
  rotate_left
  · exact r_xVv (w1 := wX g σ) (As := [.int x1]) (rest := []) C hA hl.1 hT (kx_X7_checkCopper C.2.2.2.2.2.2 hc2) (cwV 1 C.1.2.2.2.2 gX7_breaks_X7_checkCopper rfl rfl rfl nd_X7_checkCopper ⟨Nat.le_of_ble_eq_true rfl, Nat.le_of_ble_eq_true rfl⟩) 0 rfl rfl rfl rfl (Nat.le_of_ble_eq_true rfl) dX7_breaks_2 ⟨Nat.le_of_ble_eq_true rfl, Nat.le_of_ble_eq_true rfl⟩
  refine r_callVv (r := ()) (w1 := wX g σ) (As := [.int x1]) (rest := []) C hA hl.1 (k_X7_checkCopper C.2.2.2.2.2.2 hc2) (cwV 1 C.1.2.2.2.2 gX7_breaks_X7_checkCopper rfl rfl rfl nd_X7_checkCopper ⟨Nat.le_of_ble_eq_true rfl, Nat.le_of_ble_eq_true rfl⟩) 0 rfl rfl rfl rfl (Nat.le_of_ble_eq_true rfl) dX7_breaks_2 ⟨Nat.le_of_ble_eq_true rfl, Nat.le_of_ble_eq_true rfl⟩ (fun H locs hA => ?_)
  refine lv_aload_n hx hb dX7_breaks_5 rfl (lv_at hl 0 rfl) ?_
  refine Xg_X7_coppers C hA iX7_breaks_X7 (by decide +kernel) dX7_breaks_6 ?_
  refine Xg_X1_worth C hA iX7_breaks_X1 (by decide +kernel) dX7_breaks_9 ?_
  refine lv_iload_n hx hb dX7_breaks_12 rfl (lv_at hl 1 rfl) ?_
  obtain ⟨g3, h⟩ := gd h
  refine Xld_28 (v := (σ.2.1 28 (x1).toNatClampNeg)) C hA rfl g3 dX7_breaks_13 ?_
  refine lv_if_ne (tgt := 19) hx hb dX7_breaks_14 (by decide) (fun c4 => ?_) (fun c4 => ?_)
  · replace h := (if_neg c4).symm.trans h
    refine lv_aload_n hx hb dX7_breaks_19 rfl (lv_at hl 0 rfl) ?_
    refine Xg_X7_coppers C hA iX7_breaks_X7 (by decide +kernel) dX7_breaks_20 ?_
    refine lv_iload_n hx hb dX7_breaks_23 rfl (lv_at hl 1 rfl) ?_
    obtain ⟨r5, t7, hc6, h⟩ := bd h
    refine r_callVi (r := r5) (w1 := wX g t7) (As := [.int x1]) (rest := []) C hA hl.1 (k_X1_breakOff C.2.2.2.2.2.2 hc6) (cwV 1 C.1.2.2.2.2 gX7_breaks_X1_breakOff rfl rfl rfl nd_X1_breakOff ⟨Nat.le_of_ble_eq_true rfl, Nat.le_of_ble_eq_true rfl⟩) 6 rfl rfl rfl rfl (Nat.le_of_ble_eq_true rfl) dX7_breaks_24 ⟨Nat.le_of_ble_eq_true rfl, Nat.le_of_ble_eq_true rfl⟩ (fun H locs hA => ?_)
    cases h
  · replace h := (if_pos c4).symm.trans h
    refine lv_iconst (v := (-1)) hx hb dX7_breaks_17 (by decide) ?_
    cases h
end
set_option maxRecDepth 100000 in
theorem k_X7_breaks {l : Launch} {g : Gm} {fu : Nat} {σ : SS} {x1 : Int32} {v0 : Int32} {τ : SS} (hlt : l.stackTraces = false) (h : f_X7_breaks fu σ x1 = some (.inl v0, τ)) (sz : Nat) : Met l yX7_breaks wsX7_breaks rmX7_breaks (Pw g (wX g σ) [.ref (g.2.1 0), .int x1] sz) (Qi g (va_A (wX g σ) sz) (wX g τ) v0) 0 0 (va_A (wX g σ) sz) :=
  ofM (own := RX7) hlt (by decide) rfl rfl (Nat.le_of_ble_eq_true rfl) (fun p e s m below meth c hsz C hA ls hl => w_X7_breaks_0 C h hA hl)
set_option maxRecDepth 100000 in
theorem kx_X7_breaks {l : Launch} {g : Gm} {fu : Nat} {σ : SS} {x1 : Int32} {j : Nat} {τ : SS} (hlt : l.stackTraces = false) (h : f_X7_breaks fu σ x1 = some (.inr j, τ)) (sz : Nat) : vx_Met l yX7_breaks wsX7_breaks rxX7_breaks (Pw g (wX g σ) [.ref (g.2.1 0), .int x1] sz) (QFi (va_A (wX g σ) sz)) (Xw g (va_A (wX g σ) sz) (wX g τ) j) 1 6 (va_A (wX g σ) sz) :=
  ofX (own := RX7) hlt (by decide) rfl rfl (Nat.le_of_ble_eq_true rfl) (fun p e s m below meth c hsz C hT hA ls hl => v_X7_breaks_0 C hT h hA hl)
abbrev rmX7_copperTold : Room := { frames := 1, cells := 0, slots := 0, locals := 21 }
abbrev rxX7_copperTold : Room := { frames := 7, cells := 1, slots := 6, locals := 111 }
theorem iX7_copperTold_X1 : ∀ x ∈ wsX10, x ∈ wsX7_copperTold := by decide +kernel
theorem iX7_copperTold_X7 : ∀ x ∈ wsX70, x ∈ wsX7_copperTold := by decide +kernel
set_option maxRecDepth 20000 in
theorem xi_X7_copperTold_0 : ∀ w ∈ (vx_atS RX7 70 "java/lang/IllegalArgumentException" xNames).filter goodWord, w ∈ wsX7_copperTold := by decide +kernel
theorem nd_X7_copperTold : yX7_copperTold.cls = RX7 ∧ yX7_copperTold.cls ≠ "java/lang/invoke/MethodHandle" ∧ yX7_copperTold.cls ≠ "java/lang/invoke/VarHandle" ∧ (parseMethodDescriptor yX7_copperTold.desc).map (fun d => d.parameters.length) = some 2 := by decide +kernel
def f_X7_copperTold (fu : Nat) (σ : SS) (x1 : Int32) (x2 : Int32) : Option (Int32 ⊕ Nat) :=
  bndX0 (f_X7_checkCopper fu σ x1) (fun r1 => (if x2 = 0 then if inB x1 30 then some (.inl (σ.2.1 26 (x1).toNatClampNeg)) else none else (if x2 = 1 then if inB x1 30 then some (.inl (σ.2.1 28 (x1).toNatClampNeg)) else none else some (.inr 0))))
section
variable {p : Program} {l : Launch} {e : Env} {s : State} {m : MethodId} {args : Array Value} {below : List Frame} {meth : Method} {c : Code} {g : Gm} {A : Nat → Prop} {fu : Nat} {v0 : Int32} {τ : SS} {j : Nat}
set_option maxHeartbeats 4000000 in
set_option maxRecDepth 100000 in
theorem w_X7_copperTold_0 {σ : SS} {x1 : Int32} {x2 : Int32} (C : Cx p l s m args meth c cX7_copperTold 3 wsX7_copperTold (some .int) RX7 g A) (h : f_X7_copperTold fu σ x1 x2 = some (.inl v0)) {H : Heap} {locs : List Loc} {ls : Array Slot} (hA : Aw g A s.heap (wX g σ) H locs) (hl : lv_has ls 3 [(0, .ref (g.2.1 0)), (1, .int x1), (2, .int x2)]) : W p l e rmX7_copperTold s m args below meth c H locs 0 0 (MQ below (Qi g A (wX g σ) v0) args s 0 0 A) (F0 m 0 ls []) := by
  have hx := C.1.1
  have hb := C.1.2.1
  unfold f_X7_copperTold at h
  refine lv_aload_n hx hb dX7_copperTold_0 rfl (lv_at hl 0 rfl) ?_
  refine lv_iload_n hx hb dX7_copperTold_1 rfl (lv_at hl 1 rfl) ?_
  obtain ⟨r1, hc2, h⟩ := bdX0 h
  refine r_callVv (r := ()) (w1 := wX g σ) (As := [.int x1]) (rest := []) C hA hl.1 (k_X7_checkCopper C.2.2.2.2.2.2 hc2) (cwV 1 C.1.2.2.2.2 gX7_copperTold_X7_checkCopper rfl rfl rfl nd_X7_checkCopper ⟨Nat.le_of_ble_eq_true rfl, Nat.le_of_ble_eq_true rfl⟩) 0 rfl rfl rfl rfl (Nat.le_of_ble_eq_true rfl) dX7_copperTold_2 ⟨Nat.le_of_ble_eq_true rfl, Nat.le_of_ble_eq_true rfl⟩ (fun H locs hA => ?_)
  refine lv_iload_n hx hb dX7_copperTold_5 rfl (lv_at hl 2 rfl) ?_
  by_cases sw0 : x2 = 0
  · replace h := (if_pos sw0).symm.trans h
    rw [sw0]
    refine lv_lookup (tgt := 32) hx hb dX7_copperTold_6 (by decide) rfl (by decide) ?_
    refine lv_aload_n hx hb dX7_copperTold_32 rfl (lv_at hl 0 rfl) ?_
    refine Xg_X7_coppers C hA iX7_copperTold_X7 (by decide +kernel) dX7_copperTold_33 ?_
    refine Xg_X1_owner C hA iX7_copperTold_X1 (by decide +kernel) dX7_copperTold_36 ?_
    refine lv_iload_n hx hb dX7_copperTold_39 rfl (lv_at hl 1 rfl) ?_
    obtain ⟨g3, h⟩ := gd h
    refine Xld_26 (v := (σ.2.1 26 (x1).toNatClampNeg)) C hA rfl g3 dX7_copperTold_40 ?_
    obtain rfl := inl_inj0 h
    exact r_iret C hA dX7_copperTold_41
  · replace h := (if_neg sw0).symm.trans h
    by_cases sw1 : x2 = 1
    · replace h := (if_pos sw1).symm.trans h
      rw [sw1]
      refine lv_lookup (tgt := 42) hx hb dX7_copperTold_6 (by decide) rfl (by decide) ?_
      refine lv_aload_n hx hb dX7_copperTold_42 rfl (lv_at hl 0 rfl) ?_
      refine Xg_X7_coppers C hA iX7_copperTold_X7 (by decide +kernel) dX7_copperTold_43 ?_
      refine Xg_X1_worth C hA iX7_copperTold_X1 (by decide +kernel) dX7_copperTold_46 ?_
      refine lv_iload_n hx hb dX7_copperTold_49 rfl (lv_at hl 1 rfl) ?_
      obtain ⟨g4, h⟩ := gd h
      refine Xld_28 (v := (σ.2.1 28 (x1).toNatClampNeg)) C hA rfl g4 dX7_copperTold_50 ?_
      obtain rfl := inl_inj0 h
      exact r_iret C hA dX7_copperTold_51
    · replace h := (if_neg sw1).symm.trans h
      refine lv_lookup (tgt := 52) hx hb dX7_copperTold_6 (by decide) (lk_out1 sw0 sw1) (by decide) ?_
      cases h
set_option maxHeartbeats 4000000 in
set_option maxRecDepth 100000 in
theorem v_X7_copperTold_0 {σ : SS} {x1 : Int32} {x2 : Int32} (C : Cx p l s m args meth c cX7_copperTold 3 wsX7_copperTold (some .int) RX7 g A) (hT : ∀ x ∈ c.exceptionTable.toList, False) (h : f_X7_copperTold fu σ x1 x2 = some (.inr j)) {H : Heap} {locs : List Loc} {ls : Array Slot} (hA : Aw g A s.heap (wX g σ) H locs) (hl : lv_has ls 3 [(0, .ref (g.2.1 0)), (1, .int x1), (2, .int x2)]) : W p l e rxX7_copperTold s m args below meth c H locs 0 0 (vx_MQ below (QFi A) (Xw g A (wX g σ) j) args s 1 6 A) (F0 m 0 ls []) := by
  have hx := C.1.1
  have hb := C.1.2.1
  unfold f_X7_copperTold at h
  refine lv_aload_n hx hb dX7_copperTold_0 rfl (lv_at hl 0 rfl) ?_
  refine lv_iload_n hx hb dX7_copperTold_1 rfl (lv_at hl 1 rfl) ?_
  rcases bdX0t h with ⟨r1, hc2, h⟩ | hc2
  rotate_left
  · exact r_xVv (w1 := wX g σ) (As := [.int x1]) (rest := []) C hA hl.1 hT (kx_X7_checkCopper C.2.2.2.2.2.2 hc2) (cwV 1 C.1.2.2.2.2 gX7_copperTold_X7_checkCopper rfl rfl rfl nd_X7_checkCopper ⟨Nat.le_of_ble_eq_true rfl, Nat.le_of_ble_eq_true rfl⟩) 0 rfl rfl rfl rfl (Nat.le_of_ble_eq_true rfl) dX7_copperTold_2 ⟨Nat.le_of_ble_eq_true rfl, Nat.le_of_ble_eq_true rfl⟩
  refine r_callVv (r := ()) (w1 := wX g σ) (As := [.int x1]) (rest := []) C hA hl.1 (k_X7_checkCopper C.2.2.2.2.2.2 hc2) (cwV 1 C.1.2.2.2.2 gX7_copperTold_X7_checkCopper rfl rfl rfl nd_X7_checkCopper ⟨Nat.le_of_ble_eq_true rfl, Nat.le_of_ble_eq_true rfl⟩) 0 rfl rfl rfl rfl (Nat.le_of_ble_eq_true rfl) dX7_copperTold_2 ⟨Nat.le_of_ble_eq_true rfl, Nat.le_of_ble_eq_true rfl⟩ (fun H locs hA => ?_)
  refine lv_iload_n hx hb dX7_copperTold_5 rfl (lv_at hl 2 rfl) ?_
  by_cases sw0 : x2 = 0
  · replace h := (if_pos sw0).symm.trans h
    rw [sw0]
    refine lv_lookup (tgt := 32) hx hb dX7_copperTold_6 (by decide) rfl (by decide) ?_
    refine lv_aload_n hx hb dX7_copperTold_32 rfl (lv_at hl 0 rfl) ?_
    refine Xg_X7_coppers C hA iX7_copperTold_X7 (by decide +kernel) dX7_copperTold_33 ?_
    refine Xg_X1_owner C hA iX7_copperTold_X1 (by decide +kernel) dX7_copperTold_36 ?_
    refine lv_iload_n hx hb dX7_copperTold_39 rfl (lv_at hl 1 rfl) ?_
    obtain ⟨g3, h⟩ := gd h
    refine Xld_26 (v := (σ.2.1 26 (x1).toNatClampNeg)) C hA rfl g3 dX7_copperTold_40 ?_
    cases h
  · replace h := (if_neg sw0).symm.trans h
    by_cases sw1 : x2 = 1
    · replace h := (if_pos sw1).symm.trans h
      rw [sw1]
      refine lv_lookup (tgt := 42) hx hb dX7_copperTold_6 (by decide) rfl (by decide) ?_
      refine lv_aload_n hx hb dX7_copperTold_42 rfl (lv_at hl 0 rfl) ?_
      refine Xg_X7_coppers C hA iX7_copperTold_X7 (by decide +kernel) dX7_copperTold_43 ?_
      refine Xg_X1_worth C hA iX7_copperTold_X1 (by decide +kernel) dX7_copperTold_46 ?_
      refine lv_iload_n hx hb dX7_copperTold_49 rfl (lv_at hl 1 rfl) ?_
      obtain ⟨g4, h⟩ := gd h
      refine Xld_28 (v := (σ.2.1 28 (x1).toNatClampNeg)) C hA rfl g4 dX7_copperTold_50 ?_
      cases h
    · replace h := (if_neg sw1).symm.trans h
      refine lv_lookup (tgt := 52) hx hb dX7_copperTold_6 (by decide) (lk_out1 sw0 sw1) (by decide) ?_
      obtain rfl := inr_inj0 h
      exact r_throw (j := 0) (rest := []) C hA hl.1 hT rfl (by decide +kernel) C.2.2.2.2.2.1.2.2.2.2.2.2.2.2.2.2.2.2.2.2.2.1 (by decide +kernel) (by decide +kernel) xi_X7_copperTold_0 xn_X7_0 C.2.2.2.2.2.1.2.2.2.2.2.1 xg_X7_0 dX7_copperTold_52 dX7_copperTold_55 dX7_copperTold_56 dX7_copperTold_58 dX7_copperTold_61 (Nat.le_of_ble_eq_true rfl) (Nat.le_of_ble_eq_true rfl) (Nat.le_of_ble_eq_true rfl) (Nat.le_of_ble_eq_true rfl)
end
set_option maxRecDepth 100000 in
theorem k_X7_copperTold {l : Launch} {g : Gm} {fu : Nat} {σ : SS} {x1 : Int32} {x2 : Int32} {v0 : Int32} (hlt : l.stackTraces = false) (h : f_X7_copperTold fu σ x1 x2 = some (.inl v0)) (sz : Nat) : Met l yX7_copperTold wsX7_copperTold rmX7_copperTold (Pw g (wX g σ) [.ref (g.2.1 0), .int x1, .int x2] sz) (Qi g (va_A (wX g σ) sz) (wX g σ) v0) 0 0 (va_A (wX g σ) sz) :=
  ofM (own := RX7) hlt (by decide) rfl rfl (Nat.le_of_ble_eq_true rfl) (fun p e s m below meth c hsz C hA ls hl => w_X7_copperTold_0 C h hA hl)
set_option maxRecDepth 100000 in
theorem kx_X7_copperTold {l : Launch} {g : Gm} {fu : Nat} {σ : SS} {x1 : Int32} {x2 : Int32} {j : Nat} (hlt : l.stackTraces = false) (h : f_X7_copperTold fu σ x1 x2 = some (.inr j)) (sz : Nat) : vx_Met l yX7_copperTold wsX7_copperTold rxX7_copperTold (Pw g (wX g σ) [.ref (g.2.1 0), .int x1, .int x2] sz) (QFi (va_A (wX g σ) sz)) (Xw g (va_A (wX g σ) sz) (wX g σ) j) 1 6 (va_A (wX g σ) sz) :=
  ofX (own := RX7) hlt (by decide) rfl rfl (Nat.le_of_ble_eq_true rfl) (fun p e s m below meth c hsz C hT hA ls hl => v_X7_copperTold_0 C hT h hA hl)
