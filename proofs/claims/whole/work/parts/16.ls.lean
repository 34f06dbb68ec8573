abbrev rmL_chief : Room := { frames := 7, cells := 1, slots := 6, locals := 111 }
theorem nd_L_chief : yL_chief.cls ≠ "java/lang/invoke/MethodHandle" ∧ yL_chief.cls ≠ "java/lang/invoke/VarHandle" ∧ (parseMethodDescriptor yL_chief.desc).map (fun d => d.parameters.length) = some 3 := by decide +kernel
set_option maxHeartbeats 4000000 in
set_option maxRecDepth 100000 in
theorem k_L_chief {l : Launch} {g : Gm} {fu : Nat} {σ τ : SS} {x1 : Int32} {o : Nat} {f : Nat → Int64} {v0 : Int32} (hlt : l.stackTraces = false) (h : f_X7_chief fu σ x1 = some (.inl v0, τ)) (sz : Nat) : Met l yL_chief wsL_chief rmL_chief (Pw g (wX g σ ++ oc g o f) [.ref (g.2.1 0), .int x1, .ref o] sz) (Qi g (va_A (wX g σ ++ oc g o f) sz) (wX g τ ++ oc g o (vp_updL f (0 : Int32).toNatClampNeg v0.toInt64)) 0) 1 6 (va_A (wX g σ ++ oc g o f) sz) := by
  refine ofH (own := RL) hlt (by decide) rfl rfl (Nat.le_of_ble_eq_true rfl) (fun p e s m below meth c hsz C hT hA ls hl => ?_)
  have hx := C.1.1
  have hb := C.1.2.1
  have hl : lv_has ls 4 [(0, .ref (g.2.1 0)), (1, .int x1), (2, .ref o)] := hl
  refine lv_aload_n hx hb dL_chief_0 rfl (lv_at hl 2 rfl) ?_
  refine lv_iconst (v := 0) hx hb dL_chief_1 (by decide) ?_
  refine lv_aload_n hx hb dL_chief_2 rfl (lv_at hl 0 rfl) ?_
  refine lv_iload_n hx hb dL_chief_3 rfl (lv_at hl 1 rfl) ?_
  refine r_fVi (r := v0) (w := wX g σ) (w1 := wX g τ) (wr := oc g o f) (As := [.int x1]) (rest := [.int 0, .ref o]) C hA hl.1 (k_X7_chief C.2.2.2.2.2.2 h) (cwV 1 C.1.2.2.2.2 gL_chief_X7_chief rfl rfl rfl nd_X7_chief ⟨Nat.le_of_ble_eq_true rfl, Nat.le_of_ble_eq_true rfl⟩) 0 rfl rfl rfl rfl (Nat.le_of_ble_eq_true rfl) dL_chief_4 ⟨Nat.le_of_ble_eq_true rfl, Nat.le_of_ble_eq_true rfl⟩ (fun H locs hA => ?_)
  refine lv_i2l hx hb dL_chief_7 rfl ?_
  refine r_last (w1 := (wX g τ ++ oc g o (vp_updL f (0 : Int32).toNatClampNeg v0.toInt64))) C hA 44 1 rfl rfl (by decide) dL_chief_8 rfl (fun H locs hA => ?_)
  refine lv_goto (tgt := 18) hx hb dL_chief_9 (by decide) ?_
  refine lv_iconst (v := 0) hx hb dL_chief_18 (by decide) ?_
  refine W.widen (k := 1) (n := 6) (Nat.le_of_ble_eq_true rfl) (Nat.le_of_ble_eq_true rfl) ?_
  exact r_iret C hA dL_chief_19
set_option maxHeartbeats 4000000 in
set_option maxRecDepth 100000 in
theorem k_L_chief_t0 {l : Launch} {g : Gm} {fu : Nat} {σ τ : SS} {x1 : Int32} {o : Nat} {f : Nat → Int64}  (hlt : l.stackTraces = false) (h : f_X7_chief fu σ x1 = some (.inr 0, τ)) (sz : Nat) : Met l yL_chief wsL_chief rmL_chief (Pw g (wX g σ ++ oc g o f) [.ref (g.2.1 0), .int x1, .ref o] sz) (Qi g (va_A (wX g σ ++ oc g o f) sz) (wX g τ ++ oc g o f) 1) 1 6 (va_A (wX g σ ++ oc g o f) sz) := by
  refine ofH (own := RL) hlt (by decide) rfl rfl (Nat.le_of_ble_eq_true rfl) (fun p e s m below meth c hsz C hT hA ls hl => ?_)
  have hx := C.1.1
  have hb := C.1.2.1
  have hl : lv_has ls 4 [(0, .ref (g.2.1 0)), (1, .int x1), (2, .ref o)] := hl
  refine lv_aload_n hx hb dL_chief_0 rfl (lv_at hl 2 rfl) ?_
  refine lv_iconst (v := 0) hx hb dL_chief_1 (by decide) ?_
  refine lv_aload_n hx hb dL_chief_2 rfl (lv_at hl 0 rfl) ?_
  refine lv_iload_n hx hb dL_chief_3 rfl (lv_at hl 1 rfl) ?_
  refine r_fXi (j := 0) (w := wX g σ) (w1 := wX g τ) (wr := oc g o f) (As := [.int x1]) (rest := [.int 0, .ref o]) C hA hl.1 (kx_X7_chief C.2.2.2.2.2.2 h) (cwV 1 C.1.2.2.2.2 gL_chief_X7_chief rfl rfl rfl nd_X7_chief ⟨Nat.le_of_ble_eq_true rfl, Nat.le_of_ble_eq_true rfl⟩) 0 rfl rfl rfl rfl (Nat.le_of_ble_eq_true rfl) dL_chief_4 ⟨Nat.le_of_ble_eq_true rfl, Nat.le_of_ble_eq_true rfl⟩ (fun q9 ce H locs hA hce hcv hcl => ?_)
  refine vx_catch (own := RL) (name := "java/lang/IllegalArgumentException") (E := "java/lang/IllegalArgumentException") C.1.2.2.2.1 [] ⟨0, 9, 12, 13⟩ [⟨0, 9, 15, 15⟩] (hT.trans rfl) (fun _ h => nomatch h) (by decide) (by decide) (C.1.2.2.2.2 (.classLink RL 13 "java/lang/IllegalArgumentException") (by decide +kernel)) (va_Nw.use rfl C.2.2.2.2.2.1.2.2.2.2.2.1) hce hcv hcl ?_
  refine lv_astore_n (lv' := [(3, .ref q9), (0, .ref (g.2.1 0)), (1, .int x1), (2, .ref o)]) hx hb dL_chief_12 rfl hl (by decide) rfl (fun ls hl => ?_)
  refine lv_iconst (v := 1) hx hb dL_chief_13 (by decide) ?_
  exact r_iret C hA dL_chief_14
set_option maxHeartbeats 4000000 in
set_option maxRecDepth 100000 in
theorem k_L_chief_t1 {l : Launch} {g : Gm} {fu : Nat} {σ τ : SS} {x1 : Int32} {o : Nat} {f : Nat → Int64}  (hlt : l.stackTraces = false) (h : f_X7_chief fu σ x1 = some (.inr 1, τ)) (sz : Nat) : Met l yL_chief wsL_chief rmL_chief (Pw g (wX g σ ++ oc g o f) [.ref (g.2.1 0), .int x1, .ref o] sz) (Qi g (va_A (wX g σ ++ oc g o f) sz) (wX g τ ++ oc g o f) 2) 1 6 (va_A (wX g σ ++ oc g o f) sz) := by
  refine ofH (own := RL) hlt (by decide) rfl rfl (Nat.le_of_ble_eq_true rfl) (fun p e s m below meth c hsz C hT hA ls hl => ?_)
  have hx := C.1.1
  have hb := C.1.2.1
  have hl : lv_has ls 4 [(0, .ref (g.2.1 0)), (1, .int x1), (2, .ref o)] := hl
  refine lv_aload_n hx hb dL_chief_0 rfl (lv_at hl 2 rfl) ?_
  refine lv_iconst (v := 0) hx hb dL_chief_1 (by decide) ?_
  refine lv_aload_n hx hb dL_chief_2 rfl (lv_at hl 0 rfl) ?_
  refine lv_iload_n hx hb dL_chief_3 rfl (lv_at hl 1 rfl) ?_
  refine r_fXi (j := 1) (w := wX g σ) (w1 := wX g τ) (wr := oc g o f) (As := [.int x1]) (rest := [.int 0, .ref o]) C hA hl.1 (kx_X7_chief C.2.2.2.2.2.2 h) (cwV 1 C.1.2.2.2.2 gL_chief_X7_chief rfl rfl rfl nd_X7_chief ⟨Nat.le_of_ble_eq_true rfl, Nat.le_of_ble_eq_true rfl⟩) 0 rfl rfl rfl rfl (Nat.le_of_ble_eq_true rfl) dL_chief_4 ⟨Nat.le_of_ble_eq_true rfl, Nat.le_of_ble_eq_true rfl⟩ (fun q9 ce H locs hA hce hcv hcl => ?_)
  refine vx_catch (own := RL) (name := "java/lang/IllegalStateException") (E := "java/lang/IllegalStateException") C.1.2.2.2.1 [⟨0, 9, 12, 13⟩] ⟨0, 9, 15, 15⟩ [] (hT.trans rfl) (List.forall_mem_cons.mpr ⟨Or.inr ⟨by decide, "java/lang/IllegalArgumentException", C.1.2.2.2.2 (.classLink RL 13 "java/lang/IllegalArgumentException") (by decide +kernel), C.2.2.2.2.2.1.2.2.2.2.2.2.2.2.2.2.2.2.2.2.2.2.2.2.2.2.2.2.2.2.2.2.2.2.2.2.2.2.2.2.2.2.2.2.2.2.1⟩, fun _ h => nomatch h⟩) (by decide) (by decide) (C.1.2.2.2.2 (.classLink RL 15 "java/lang/IllegalStateException") (by decide +kernel)) (va_Nw.use rfl C.2.2.2.2.2.1.2.2.2.2.2.2.1) hce hcv hcl ?_
  refine lv_astore_n (lv' := [(3, .ref q9), (0, .ref (g.2.1 0)), (1, .int x1), (2, .ref o)]) hx hb dL_chief_15 rfl hl (by decide) rfl (fun ls hl => ?_)
  refine lv_iconst (v := 2) hx hb dL_chief_16 (by decide) ?_
  exact r_iret C hA dL_chief_17
abbrev rmL_custom : Room := { frames := 10, cells := 1, slots := 6, locals := 219 }
theorem nd_L_custom : yL_custom.cls ≠ "java/lang/invoke/MethodHandle" ∧ yL_custom.cls ≠ "java/lang/invoke/VarHandle" ∧ (parseMethodDescriptor yL_custom.desc).map (fun d => d.parameters.length) = some 4 := by decide +kernel
set_option maxHeartbeats 4000000 in
set_option maxRecDepth 100000 in
theorem k_L_custom {l : Launch} {g : Gm} {fu : Nat} {σ τ : SS} {x1 x2 : Int32} {o : Nat} {f : Nat → Int64} {v0 : Int32} (hlt : l.stackTraces = false) (h : f_X7_custom fu σ x1 x2 = some (.inl v0, τ)) (sz : Nat) : Met l yL_custom wsL_custom rmL_custom (Pw g (wX g σ ++ oc g o f) [.ref (g.2.1 0), .int x1, .int x2, .ref o] sz) (Qi g (va_A (wX g σ ++ oc g o f) sz) (wX g τ ++ oc g o (vp_updL f (0 : Int32).toNatClampNeg v0.toInt64)) 0) 1 6 (va_A (wX g σ ++ oc g o f) sz) := by
  refine ofH (own := RL) hlt (by decide) rfl rfl (Nat.le_of_ble_eq_true rfl) (fun p e s m below meth c hsz C hT hA ls hl => ?_)
  have hx := C.1.1
  have hb := C.1.2.1
  have hl : lv_has ls 5 [(0, .ref (g.2.1 0)), (1, .int x1), (2, .int x2), (3, .ref o)] := hl
  refine lv_aload_n hx hb dL_custom_0 rfl (lv_at hl 3 rfl) ?_
  refine lv_iconst (v := 0) hx hb dL_custom_1 (by decide) ?_
  refine lv_aload_n hx hb dL_custom_2 rfl (lv_at hl 0 rfl) ?_
  refine lv_iload_n hx hb dL_custom_3 rfl (lv_at hl 1 rfl) ?_
  refine lv_iload_n hx hb dL_custom_4 rfl (lv_at hl 2 rfl) ?_
  refine r_fVi (r := v0) (w := wX g σ) (w1 := wX g τ) (wr := oc g o f) (As := [.int x1, .int x2]) (rest := [.int 0, .ref o]) C hA hl.1 (k_X7_custom C.2.2.2.2.2.2 h) (cwV 2 C.1.2.2.2.2 gL_custom_X7_custom rfl rfl rfl nd_X7_custom ⟨Nat.le_of_ble_eq_true rfl, Nat.le_of_ble_eq_true rfl⟩) 0 rfl rfl rfl rfl (Nat.le_of_ble_eq_true rfl) dL_custom_5 ⟨Nat.le_of_ble_eq_true rfl, Nat.le_of_ble_eq_true rfl⟩ (fun H locs hA => ?_)
  refine lv_i2l hx hb dL_custom_8 rfl ?_
  refine r_last (w1 := (wX g τ ++ oc g o (vp_updL f (0 : Int32).toNatClampNeg v0.toInt64))) C hA 44 1 rfl rfl (by decide) dL_custom_9 rfl (fun H locs hA => ?_)
  refine lv_goto (tgt := 21) hx hb dL_custom_10 (by decide) ?_
  refine lv_iconst (v := 0) hx hb dL_custom_21 (by decide) ?_
  refine W.widen (k := 1) (n := 6) (Nat.le_of_ble_eq_true rfl) (Nat.le_of_ble_eq_true rfl) ?_
  exact r_iret C hA dL_custom_22
set_option maxHeartbeats 4000000 in
set_option maxRecDepth 100000 in
theorem k_L_custom_t0 {l : Launch} {g : Gm} {fu : Nat} {σ τ : SS} {x1 x2 : Int32} {o : Nat} {f : Nat → Int64}  (hlt : l.stackTraces = false) (h : f_X7_custom fu σ x1 x2 = some (.inr 0, τ)) (sz : Nat) : Met l yL_custom wsL_custom rmL_custom (Pw g (wX g σ ++ oc g o f) [.ref (g.2.1 0), .int x1, .int x2, .ref o] sz) (Qi g (va_A (wX g σ ++ oc g o f) sz) (wX g τ ++ oc g o f) 1) 1 6 (va_A (wX g σ ++ oc g o f) sz) := by
  refine ofH (own := RL) hlt (by decide) rfl rfl (Nat.le_of_ble_eq_true rfl) (fun p e s m below meth c hsz C hT hA ls hl => ?_)
  have hx := C.1.1
  have hb := C.1.2.1
  have hl : lv_has ls 5 [(0, .ref (g.2.1 0)), (1, .int x1), (2, .int x2), (3, .ref o)] := hl
  refine lv_aload_n hx hb dL_custom_0 rfl (lv_at hl 3 rfl) ?_
  refine lv_iconst (v := 0) hx hb dL_custom_1 (by decide) ?_
  refine lv_aload_n hx hb dL_custom_2 rfl (lv_at hl 0 rfl) ?_
  refine lv_iload_n hx hb dL_custom_3 rfl (lv_at hl 1 rfl) ?_
  refine lv_iload_n hx hb dL_custom_4 rfl (lv_at hl 2 rfl) ?_
  refine r_fXi (j := 0) (w := wX g σ) (w1 := wX g τ) (wr := oc g o f) (As := [.int x1, .int x2]) (rest := [.int 0, .ref o]) C hA hl.1 (kx_X7_custom C.2.2.2.2.2.2 h) (cwV 2 C.1.2.2.2.2 gL_custom_X7_custom rfl rfl rfl nd_X7_custom ⟨Nat.le_of_ble_eq_true rfl, Nat.le_of_ble_eq_true rfl⟩) 0 rfl rfl rfl rfl (Nat.le_of_ble_eq_true rfl) dL_custom_5 ⟨Nat.le_of_ble_eq_true rfl, Nat.le_of_ble_eq_true rfl⟩ (fun q9 ce H locs hA hce hcv hcl => ?_)
  refine vx_catch (own := RL) (name := "java/lang/IllegalArgumentException") (E := "java/lang/IllegalArgumentException") C.1.2.2.2.1 [] ⟨0, 10, 13, 13⟩ [⟨0, 10, 17, 15⟩] (hT.trans rfl) (fun _ h => nomatch h) (by decide) (by decide) (C.1.2.2.2.2 (.classLink RL 13 "java/lang/IllegalArgumentException") (by decide +kernel)) (va_Nw.use rfl C.2.2.2.2.2.1.2.2.2.2.2.1) hce hcv hcl ?_
  refine lv_astore (lv' := [(4, .ref q9), (0, .ref (g.2.1 0)), (1, .int x1), (2, .int x2), (3, .ref o)]) hx hb dL_custom_13 hl (by decide) rfl (fun ls hl => ?_)
  refine lv_iconst (v := 1) hx hb dL_custom_15 (by decide) ?_
  exact r_iret C hA dL_custom_16
set_option maxHeartbeats 4000000 in
set_option maxRecDepth 100000 in
theorem k_L_custom_t1 {l : Launch} {g : Gm} {fu : Nat} {σ τ : SS} {x1 x2 : Int32} {o : Nat} {f : Nat → Int64}  (hlt : l.stackTraces = false) (h : f_X7_custom fu σ x1 x2 = some (.inr 1, τ)) (sz : Nat) : Met l yL_custom wsL_custom rmL_custom (Pw g (wX g σ ++ oc g o f) [.ref (g.2.1 0), .int x1, .int x2, .ref o] sz) (Qi g (va_A (wX g σ ++ oc g o f) sz) (wX g τ ++ oc g o f) 2) 1 6 (va_A (wX g σ ++ oc g o f) sz) := by
  refine ofH (own := RL) hlt (by decide) rfl rfl (Nat.le_of_ble_eq_true rfl) (fun p e s m below meth c hsz C hT hA ls hl => ?_)
  have hx := C.1.1
  have hb := C.1.2.1
  have hl : lv_has ls 5 [(0, .ref (g.2.1 0)), (1, .int x1), (2, .int x2), (3, .ref o)] := hl
  refine lv_aload_n hx hb dL_custom_0 rfl (lv_at hl 3 rfl) ?_
  refine lv_iconst (v := 0) hx hb dL_custom_1 (by decide) ?_
  refine lv_aload_n hx hb dL_custom_2 rfl (lv_at hl 0 rfl) ?_
  refine lv_iload_n hx hb dL_custom_3 rfl (lv_at hl 1 rfl) ?_
  refine lv_iload_n hx hb dL_custom_4 rfl (lv_at hl 2 rfl) ?_
  refine r_fXi (j := 1) (w := wX g σ) (w1 := wX g τ) (wr := oc g o f) (As := [.int x1, .int x2]) (rest := [.int 0, .ref o]) C hA hl.1 (kx_X7_custom C.2.2.2.2.2.2 h) (cwV 2 C.1.2.2.2.2 gL_custom_X7_custom rfl rfl rfl nd_X7_custom ⟨Nat.le_of_ble_eq_true rfl, Nat.le_of_ble_eq_true rfl⟩) 0 rfl rfl rfl rfl (Nat.le_of_ble_eq_true rfl) dL_custom_5 ⟨Nat.le_of_ble_eq_true rfl, Nat.le_of_ble_eq_true rfl⟩ (fun q9 ce H locs hA hce hcv hcl => ?_)
  refine vx_catch (own := RL) (name := "java/lang/IllegalStateException") (E := "java/lang/IllegalStateException") C.1.2.2.2.1 [⟨0, 10, 13, 13⟩] ⟨0, 10, 17, 15⟩ [] (hT.trans rfl) (List.forall_mem_cons.mpr ⟨Or.inr ⟨by decide, "java/lang/IllegalArgumentException", C.1.2.2.2.2 (.classLink RL 13 "java/lang/IllegalArgumentException") (by decide +kernel), C.2.2.2.2.2.1.2.2.2.2.2.2.2.2.2.2.2.2.2.2.2.2.2.2.2.2.2.2.2.2.2.2.2.2.2.2.2.2.2.2.2.2.2.2.2.2.1⟩, fun _ h => nomatch h⟩) (by decide) (by decide) (C.1.2.2.2.2 (.classLink RL 15 "java/lang/IllegalStateException") (by decide +kernel)) (va_Nw.use rfl C.2.2.2.2.2.1.2.2.2.2.2.2.1) hce hcv hcl ?_
  refine lv_astore (lv' := [(4, .ref q9), (0, .ref (g.2.1 0)), (1, .int x1), (2, .int x2), (3, .ref o)]) hx hb dL_custom_17 hl (by decide) rfl (fun ls hl => ?_)
  refine lv_iconst (v := 2) hx hb dL_custom_19 (by decide) ?_
  exact r_iret C hA dL_custom_20
abbrev rmL_give : Room := { frames := 9, cells := 1, slots := 6, locals := 157 }
theorem nd_L_give : yL_give.cls ≠ "java/lang/invoke/MethodHandle" ∧ yL_give.cls ≠ "java/lang/invoke/VarHandle" ∧ (parseMethodDescriptor yL_give.desc).map (fun d => d.parameters.length) = some 5 := by decide +kernel
set_option maxHeartbeats 4000000 in
set_option maxRecDepth 100000 in
theorem k_L_give {l : Launch} {g : Gm} {fu : Nat} {σ τ : SS} {x1 x2 x3 : Int32} {o : Nat} {f : Nat → Int64} {v0 : Int32} (hlt : l.stackTraces = false) (h : f_X7_give fu σ x1 x2 x3 = some (.inl v0, τ)) (sz : Nat) : Met l yL_give wsL_give rmL_give (Pw g (wX g σ ++ oc g o f) [.ref (g.2.1 0), .int x1, .int x2, .int x3, .ref o] sz) (Qi g (va_A (wX g σ ++ oc g o f) sz) (wX g τ ++ oc g o (vp_updL f (0 : Int32).toNatClampNeg v0.toInt64)) 0) 1 6 (va_A (wX g σ ++ oc g o f) sz) := by
  refine ofH (own := RL) hlt (by decide) rfl rfl (Nat.le_of_ble_eq_true rfl) (fun p e s m below meth c hsz C hT hA ls hl => ?_)
  have hx := C.1.1
  have hb := C.1.2.1
  have hl : lv_has ls 6 [(0, .ref (g.2.1 0)), (1, .int x1), (2, .int x2), (3, .int x3), (4, .ref o)] := hl
  refine lv_aload hx hb dL_give_0 (lv_at hl 4 rfl) ?_
  refine lv_iconst (v := 0) hx hb dL_give_2 (by decide) ?_
  refine lv_aload_n hx hb dL_give_3 rfl (lv_at hl 0 rfl) ?_
  refine lv_iload_n hx hb dL_give_4 rfl (lv_at hl 1 rfl) ?_
  refine lv_iload_n hx hb dL_give_5 rfl (lv_at hl 2 rfl) ?_
  refine lv_iload_n hx hb dL_give_6 rfl (lv_at hl 3 rfl) ?_
  refine r_fVi (r := v0) (w := wX g σ) (w1 := wX g τ) (wr := oc g o f) (As := [.int x1, .int x2, .int x3]) (rest := [.int 0, .ref o]) C hA hl.1 (k_X7_give C.2.2.2.2.2.2 h) (cwV 3 C.1.2.2.2.2 gL_give_X7_give rfl rfl rfl nd_X7_give ⟨Nat.le_of_ble_eq_true rfl, Nat.le_of_ble_eq_true rfl⟩) 0 rfl rfl rfl rfl (Nat.le_of_ble_eq_true rfl) dL_give_7 ⟨Nat.le_of_ble_eq_true rfl, Nat.le_of_ble_eq_true rfl⟩ (fun H locs hA => ?_)
  refine lv_i2l hx hb dL_give_10 rfl ?_
  refine r_last (w1 := (wX g τ ++ oc g o (vp_updL f (0 : Int32).toNatClampNeg v0.toInt64))) C hA 44 1 rfl rfl (by decide) dL_give_11 rfl (fun H locs hA => ?_)
  refine lv_goto (tgt := 27) hx hb dL_give_12 (by decide) ?_
  refine lv_iconst (v := 0) hx hb dL_give_27 (by decide) ?_
  refine W.widen (k := 1) (n := 6) (Nat.le_of_ble_eq_true rfl) (Nat.le_of_ble_eq_true rfl) ?_
  exact r_iret C hA dL_give_28
set_option maxHeartbeats 4000000 in
set_option maxRecDepth 100000 in
theorem k_L_give_t2 {l : Launch} {g : Gm} {fu : Nat} {σ τ : SS} {x1 x2 x3 : Int32} {o : Nat} {f : Nat → Int64}  (hlt : l.stackTraces = false) (h : f_X7_give fu σ x1 x2 x3 = some (.inr 2, τ)) (sz : Nat) : Met l yL_give wsL_give rmL_give (Pw g (wX g σ ++ oc g o f) [.ref (g.2.1 0), .int x1, .int x2, .int x3, .ref o] sz) (Qi g (va_A (wX g σ ++ oc g o f) sz) (wX g τ ++ oc g o f) 1) 1 6 (va_A (wX g σ ++ oc g o f) sz) := by
  refine ofH (own := RL) hlt (by decide) rfl rfl (Nat.le_of_ble_eq_true rfl) (fun p e s m below meth c hsz C hT hA ls hl => ?_)
  have hx := C.1.1
  have hb := C.1.2.1
  have hl : lv_has ls 6 [(0, .ref (g.2.1 0)), (1, .int x1), (2, .int x2), (3, .int x3), (4, .ref o)] := hl
  refine lv_aload hx hb dL_give_0 (lv_at hl 4 rfl) ?_
  refine lv_iconst (v := 0) hx hb dL_give_2 (by decide) ?_
  refine lv_aload_n hx hb dL_give_3 rfl (lv_at hl 0 rfl) ?_
  refine lv_iload_n hx hb dL_give_4 rfl (lv_at hl 1 rfl) ?_
  refine lv_iload_n hx hb dL_give_5 rfl (lv_at hl 2 rfl) ?_
  refine lv_iload_n hx hb dL_give_6 rfl (lv_at hl 3 rfl) ?_
  refine r_fXi (j := 2) (w := wX g σ) (w1 := wX g τ) (wr := oc g o f) (As := [.int x1, .int x2, .int x3]) (rest := [.int 0, .ref o]) C hA hl.1 (kx_X7_give C.2.2.2.2.2.2 h) (cwV 3 C.1.2.2.2.2 gL_give_X7_give rfl rfl rfl nd_X7_give ⟨Nat.le_of_ble_eq_true rfl, Nat.le_of_ble_eq_true rfl⟩) 0 rfl rfl rfl rfl (Nat.le_of_ble_eq_true rfl) dL_give_7 ⟨Nat.le_of_ble_eq_true rfl, Nat.le_of_ble_eq_true rfl⟩ (fun q9 ce H locs hA hce hcv hcl => ?_)
  refine vx_catch (own := RL) (name := "java/lang/IndexOutOfBoundsException") (E := "java/lang/IndexOutOfBoundsException") C.1.2.2.2.1 [] ⟨0, 12, 15, 25⟩ [⟨0, 12, 19, 13⟩, ⟨0, 12, 23, 15⟩] (hT.trans rfl) (fun _ h => nomatch h) (by decide) (by decide) (C.1.2.2.2.2 (.classLink RL 25 "java/lang/IndexOutOfBoundsException") (by decide +kernel)) (va_Nw.use rfl C.2.2.2.2.2.1.2.2.2.2.2.2.2.1) hce hcv hcl ?_
  refine lv_astore (lv' := [(5, .ref q9), (0, .ref (g.2.1 0)), (1, .int x1), (2, .int x2), (3, .int x3), (4, .ref o)]) hx hb dL_give_15 hl (by decide) rfl (fun ls hl => ?_)
  refine lv_iconst (v := 1) hx hb dL_give_17 (by decide) ?_
  exact r_iret C hA dL_give_18
set_option maxHeartbeats 4000000 in
set_option maxRecDepth 100000 in
theorem k_L_give_t0 {l : Launch} {g : Gm} {fu : Nat} {σ τ : SS} {x1 x2 x3 : Int32} {o : Nat} {f : Nat → Int64}  (hlt : l.stackTraces = false) (h : f_X7_give fu σ x1 x2 x3 = some (.inr 0, τ)) (sz : Nat) : Met l yL_give wsL_give rmL_give (Pw g (wX g σ ++ oc g o f) [.ref (g.2.1 0), .int x1, .int x2, .int x3, .ref o] sz) (Qi g (va_A (wX g σ ++ oc g o f) sz) (wX g τ ++ oc g o f) 2) 1 6 (va_A (wX g σ ++ oc g o f) sz) := by
  refine ofH (own := RL) hlt (by decide) rfl rfl (Nat.le_of_ble_eq_true rfl) (fun p e s m below meth c hsz C hT hA ls hl => ?_)
  have hx := C.1.1
  have hb := C.1.2.1
  have hl : lv_has ls 6 [(0, .ref (g.2.1 0)), (1, .int x1), (2, .int x2), (3, .int x3), (4, .ref o)] := hl
  refine lv_aload hx hb dL_give_0 (lv_at hl 4 rfl) ?_
  refine lv_iconst (v := 0) hx hb dL_give_2 (by decide) ?_
  refine lv_aload_n hx hb dL_give_3 rfl (lv_at hl 0 rfl) ?_
  refine lv_iload_n hx hb dL_give_4 rfl (lv_at hl 1 rfl) ?_
  refine lv_iload_n hx hb dL_give_5 rfl (lv_at hl 2 rfl) ?_
  refine lv_iload_n hx hb dL_give_6 rfl (lv_at hl 3 rfl) ?_
  refine r_fXi (j := 0) (w := wX g σ) (w1 := wX g τ) (wr := oc g o f) (As := [.int x1, .int x2, .int x3]) (rest := [.int 0, .ref o]) C hA hl.1 (kx_X7_give C.2.2.2.2.2.2 h) (cwV 3 C.1.2.2.2.2 gL_give_X7_give rfl rfl rfl nd_X7_give ⟨Nat.le_of_ble_eq_true rfl, Nat.le_of_ble_eq_true rfl⟩) 0 rfl rfl rfl rfl (Nat.le_of_ble_eq_true rfl) dL_give_7 ⟨Nat.le_of_ble_eq_true rfl, Nat.le_of_ble_eq_true rfl⟩ (fun q9 ce H locs hA hce hcv hcl => ?_)
  refine vx_catch (own := RL) (name := "java/lang/IllegalArgumentException") (E := "java/lang/IllegalArgumentException") C.1.2.2.2.1 [⟨0, 12, 15, 25⟩] ⟨0, 12, 19, 13⟩ [⟨0, 12, 23, 15⟩] (hT.trans rfl) (List.forall_mem_cons.mpr ⟨Or.inr ⟨by decide, "java/lang/IndexOutOfBoundsException", C.1.2.2.2.2 (.classLink RL 25 "java/lang/IndexOutOfBoundsException") (by decide +kernel), C.2.2.2.2.2.1.2.2.2.2.2.2.2.2.2.2.2.2.2.2.2.2.2.2.2.2.2.2.2.2.2.2.2.2.2.2.2.2.2.2.2.2.2.2.1⟩, fun _ h => nomatch h⟩) (by decide) (by decide) (C.1.2.2.2.2 (.classLink RL 13 "java/lang/IllegalArgumentException") (by decide +kernel)) (va_Nw.use rfl C.2.2.2.2.2.1.2.2.2.2.2.1) hce hcv hcl ?_
  refine lv_astore (lv' := [(5, .ref q9), (0, .ref (g.2.1 0)), (1, .int x1), (2, .int x2), (3, .int x3), (4, .ref o)]) hx hb dL_give_19 hl (by decide) rfl (fun ls hl => ?_)
  refine lv_iconst (v := 2) hx hb dL_give_21 (by decide) ?_
  exact r_iret C hA dL_give_22
set_option maxHeartbeats 4000000 in
set_option maxRecDepth 100000 in
theorem k_L_give_t1 {l : Launch} {g : Gm} {fu : Nat} {σ τ : SS} {x1 x2 x3 : Int32} {o : Nat} {f : Nat → Int64}  (hlt : l.stackTraces = false) (h : f_X7_give fu σ x1 x2 x3 = some (.inr 1, τ)) (sz : Nat) : Met l yL_give wsL_give rmL_give (Pw g (wX g σ ++ oc g o f) [.ref (g.2.1 0), .int x1, .int x2, .int x3, .ref o] sz) (Qi g (va_A (wX g σ ++ oc g o f) sz) (wX g τ ++ oc g o f) 3) 1 6 (va_A (wX g σ ++ oc g o f) sz) := by
  refine ofH (own := RL) hlt (by decide) rfl rfl (Nat.le_of_ble_eq_true rfl) (fun p e s m below meth c hsz C hT hA ls hl => ?_)
  have hx := C.1.1
  have hb := C.1.2.1
  have hl : lv_has ls 6 [(0, .ref (g.2.1 0)), (1, .int x1), (2, .int x2), (3, .int x3), (4, .ref o)] := hl
  refine lv_aload hx hb dL_give_0 (lv_at hl 4 rfl) ?_
  refine lv_iconst (v := 0) hx hb dL_give_2 (by decide) ?_
  refine lv_aload_n hx hb dL_give_3 rfl (lv_at hl 0 rfl) ?_
  refine lv_iload_n hx hb dL_give_4 rfl (lv_at hl 1 rfl) ?_
  refine lv_iload_n hx hb dL_give_5 rfl (lv_at hl 2 rfl) ?_
  refine lv_iload_n hx hb dL_give_6 rfl (lv_at hl 3 rfl) ?_
  refine r_fXi (j := 1) (w := wX g σ) (w1 := wX g τ) (wr := oc g o f) (As := [.int x1, .int x2, .int x3]) (rest := [.int 0, .ref o]) C hA hl.1 (kx_X7_give C.2.2.2.2.2.2 h) (cwV 3 C.1.2.2.2.2 gL_give_X7_give rfl rfl rfl nd_X7_give ⟨Nat.le_of_ble_eq_true rfl, Nat.le_of_ble_eq_true rfl⟩) 0 rfl rfl rfl rfl (Nat.le_of_ble_eq_true rfl) dL_give_7 ⟨Nat.le_of_ble_eq_true rfl, Nat.le_of_ble_eq_true rfl⟩ (fun q9 ce H locs hA hce hcv hcl => ?_)
  refine vx_catch (own := RL) (name := "java/lang/IllegalStateException") (E := "java/lang/IllegalStateException") C.1.2.2.2.1 [⟨0, 12, 15, 25⟩, ⟨0, 12, 19, 13⟩] ⟨0, 12, 23, 15⟩ [] (hT.trans rfl) (List.forall_mem_cons.mpr ⟨Or.inr ⟨by decide, "java/lang/IndexOutOfBoundsException", C.1.2.2.2.2 (.classLink RL 25 "java/lang/IndexOutOfBoundsException") (by decide +kernel), C.2.2.2.2.2.1.2.2.2.2.2.2.2.2.2.2.2.2.2.2.2.2.2.2.2.2.2.2.2.2.2.2.2.2.2.2.2.2.2.2.2.2.2.2.2.1⟩, List.forall_mem_cons.mpr ⟨Or.inr ⟨by decide, "java/lang/IllegalArgumentException", C.1.2.2.2.2 (.classLink RL 13 "java/lang/IllegalArgumentException") (by decide +kernel), C.2.2.2.2.2.1.2.2.2.2.2.2.2.2.2.2.2.2.2.2.2.2.2.2.2.2.2.2.2.2.2.2.2.2.2.2.2.2.2.2.2.2.2.2.2.2.1⟩, fun _ h => nomatch h⟩⟩) (by decide) (by decide) (C.1.2.2.2.2 (.classLink RL 15 "java/lang/IllegalStateException") (by decide +kernel)) (va_Nw.use rfl C.2.2.2.2.2.1.2.2.2.2.2.2.1) hce hcv hcl ?_
  refine lv_astore (lv' := [(5, .ref q9), (0, .ref (g.2.1 0)), (1, .int x1), (2, .int x2), (3, .int x3), (4, .ref o)]) hx hb dL_give_23 hl (by decide) rfl (fun ls hl => ?_)
  refine lv_iconst (v := 3) hx hb dL_give_25 (by decide) ?_
  exact r_iret C hA dL_give_26
abbrev rmL_lend : Room := { frames := 9, cells := 1, slots := 6, locals := 157 }
theorem nd_L_lend : yL_lend.cls ≠ "java/lang/invoke/MethodHandle" ∧ yL_lend.cls ≠ "java/lang/invoke/VarHandle" ∧ (parseMethodDescriptor yL_lend.desc).map (fun d => d.parameters.length) = some 5 := by decide +kernel
set_option maxHeartbeats 4000000 in
set_option maxRecDepth 100000 in
theorem k_L_lend {l : Launch} {g : Gm} {fu : Nat} {σ τ : SS} {x1 x2 x3 : Int32} {o : Nat} {f : Nat → Int64} {v0 : Int32} (hlt : l.stackTraces = false) (h : f_X7_lend fu σ x1 x2 x3 = some (.inl v0, τ)) (sz : Nat) : Met l yL_lend wsL_lend rmL_lend (Pw g (wX g σ ++ oc g o f) [.ref (g.2.1 0), .int x1, .int x2, .int x3, .ref o] sz) (Qi g (va_A (wX g σ ++ oc g o f) sz) (wX g τ ++ oc g o (vp_updL f (0 : Int32).toNatClampNeg v0.toInt64)) 0) 1 6 (va_A (wX g σ ++ oc g o f) sz) := by
  refine ofH (own := RL) hlt (by decide) rfl rfl (Nat.le_of_ble_eq_true rfl) (fun p e s m below meth c hsz C hT hA ls hl => ?_)
  have hx := C.1.1
  have hb := C.1.2.1
  have hl : lv_has ls 6 [(0, .ref (g.2.1 0)), (1, .int x1), (2, .int x2), (3, .int x3), (4, .ref o)] := hl
  refine lv_aload hx hb dL_lend_0 (lv_at hl 4 rfl) ?_
  refine lv_iconst (v := 0) hx hb dL_lend_2 (by decide) ?_
  refine lv_aload_n hx hb dL_lend_3 rfl (lv_at hl 0 rfl) ?_
  refine lv_iload_n hx hb dL_lend_4 rfl (lv_at hl 1 rfl) ?_
  refine lv_iload_n hx hb dL_lend_5 rfl (lv_at hl 2 rfl) ?_
  refine lv_iload_n hx hb dL_lend_6 rfl (lv_at hl 3 rfl) ?_
  refine r_fVi (r := v0) (w := wX g σ) (w1 := wX g τ) (wr := oc g o f) (As := [.int x1, .int x2, .int x3]) (rest := [.int 0, .ref o]) C hA hl.1 (k_X7_lend C.2.2.2.2.2.2 h) (cwV 3 C.1.2.2.2.2 gL_lend_X7_lend rfl rfl rfl nd_X7_lend ⟨Nat.le_of_ble_eq_true rfl, Nat.le_of_ble_eq_true rfl⟩) 0 rfl rfl rfl rfl (Nat.le_of_ble_eq_true rfl) dL_lend_7 ⟨Nat.le_of_ble_eq_true rfl, Nat.le_of_ble_eq_true rfl⟩ (fun H locs hA => ?_)
  refine lv_i2l hx hb dL_lend_10 rfl ?_
  refine r_last (w1 := (wX g τ ++ oc g o (vp_updL f (0 : Int32).toNatClampNeg v0.toInt64))) C hA 44 1 rfl rfl (by decide) dL_lend_11 rfl (fun H locs hA => ?_)
  refine lv_goto (tgt := 27) hx hb dL_lend_12 (by decide) ?_
  refine lv_iconst (v := 0) hx hb dL_lend_27 (by decide) ?_
  refine W.widen (k := 1) (n := 6) (Nat.le_of_ble_eq_true rfl) (Nat.le_of_ble_eq_true rfl) ?_
  exact r_iret C hA dL_lend_28
set_option maxHeartbeats 4000000 in
set_option maxRecDepth 100000 in
theorem k_L_lend_t2 {l : Launch} {g : Gm} {fu : Nat} {σ τ : SS} {x1 x2 x3 : Int32} {o : Nat} {f : Nat → Int64}  (hlt : l.stackTraces = false) (h : f_X7_lend fu σ x1 x2 x3 = some (.inr 2, τ)) (sz : Nat) : Met l yL_lend wsL_lend rmL_lend (Pw g (wX g σ ++ oc g o f) [.ref (g.2.1 0), .int x1, .int x2, .int x3, .ref o] sz) (Qi g (va_A (wX g σ ++ oc g o f) sz) (wX g τ ++ oc g o f) 1) 1 6 (va_A (wX g σ ++ oc g o f) sz) := by
  refine ofH (own := RL) hlt (by decide) rfl rfl (Nat.le_of_ble_eq_true rfl) (fun p e s m below meth c hsz C hT hA ls hl => ?_)
  have hx := C.1.1
  have hb := C.1.2.1
  have hl : lv_has ls 6 [(0, .ref (g.2.1 0)), (1, .int x1), (2, .int x2), (3, .int x3), (4, .ref o)] := hl
  refine lv_aload hx hb dL_lend_0 (lv_at hl 4 rfl) ?_
  refine lv_iconst (v := 0) hx hb dL_lend_2 (by decide) ?_
  refine lv_aload_n hx hb dL_lend_3 rfl (lv_at hl 0 rfl) ?_
  refine lv_iload_n hx hb dL_lend_4 rfl (lv_at hl 1 rfl) ?_
  refine lv_iload_n hx hb dL_lend_5 rfl (lv_at hl 2 rfl) ?_
  refine lv_iload_n hx hb dL_lend_6 rfl (lv_at hl 3 rfl) ?_
  refine r_fXi (j := 2) (w := wX g σ) (w1 := wX g τ) (wr := oc g o f) (As := [.int x1, .int x2, .int x3]) (rest := [.int 0, .ref o]) C hA hl.1 (kx_X7_lend C.2.2.2.2.2.2 h) (cwV 3 C.1.2.2.2.2 gL_lend_X7_lend rfl rfl rfl nd_X7_lend ⟨Nat.le_of_ble_eq_true rfl, Nat.le_of_ble_eq_true rfl⟩) 0 rfl rfl rfl rfl (Nat.le_of_ble_eq_true rfl) dL_lend_7 ⟨Nat.le_of_ble_eq_true rfl, Nat.le_of_ble_eq_true rfl⟩ (fun q9 ce H locs hA hce hcv hcl => ?_)
  refine vx_catch (own := RL) (name := "java/lang/IndexOutOfBoundsException") (E := "java/lang/IndexOutOfBoundsException") C.1.2.2.2.1 [] ⟨0, 12, 15, 25⟩ [⟨0, 12, 19, 13⟩, ⟨0, 12, 23, 15⟩] (hT.trans rfl) (fun _ h => nomatch h) (by decide) (by decide) (C.1.2.2.2.2 (.classLink RL 25 "java/lang/IndexOutOfBoundsException") (by decide +kernel)) (va_Nw.use rfl C.2.2.2.2.2.1.2.2.2.2.2.2.2.1) hce hcv hcl ?_
  refine lv_astore (lv' := [(5, .ref q9), (0, .ref (g.2.1 0)), (1, .int x1), (2, .int x2), (3, .int x3), (4, .ref o)]) hx hb dL_lend_15 hl (by decide) rfl (fun ls hl => ?_)
  refine lv_iconst (v := 1) hx hb dL_lend_17 (by decide) ?_
  exact r_iret C hA dL_lend_18
set_option maxHeartbeats 4000000 in
set_option maxRecDepth 100000 in
theorem k_L_lend_t0 {l : Launch} {g : Gm} {fu : Nat} {σ τ : SS} {x1 x2 x3 : Int32} {o : Nat} {f : Nat → Int64}  (hlt : l.stackTraces = false) (h : f_X7_lend fu σ x1 x2 x3 = some (.inr 0, τ)) (sz : Nat) : Met l yL_lend wsL_lend rmL_lend (Pw g (wX g σ ++ oc g o f) [.ref (g.2.1 0), .int x1, .int x2, .int x3, .ref o] sz) (Qi g (va_A (wX g σ ++ oc g o f) sz) (wX g τ ++ oc g o f) 2) 1 6 (va_A (wX g σ ++ oc g o f) sz) := by
  refine ofH (own := RL) hlt (by decide) rfl rfl (Nat.le_of_ble_eq_true rfl) (fun p e s m below meth c hsz C hT hA ls hl => ?_)
  have hx := C.1.1
  have hb := C.1.2.1
  have hl : lv_has ls 6 [(0, .ref (g.2.1 0)), (1, .int x1), (2, .int x2), (3, .int x3), (4, .ref o)] := hl
  refine lv_aload hx hb dL_lend_0 (lv_at hl 4 rfl) ?_
  refine lv_iconst (v := 0) hx hb dL_lend_2 (by decide) ?_
  refine lv_aload_n hx hb dL_lend_3 rfl (lv_at hl 0 rfl) ?_
  refine lv_iload_n hx hb dL_lend_4 rfl (lv_at hl 1 rfl) ?_
  refine lv_iload_n hx hb dL_lend_5 rfl (lv_at hl 2 rfl) ?_
  refine lv_iload_n hx hb dL_lend_6 rfl (lv_at hl 3 rfl) ?_
  refine r_fXi (j := 0) (w := wX g σ) (w1 := wX g τ) (wr := oc g o f) (As := [.int x1, .int x2, .int x3]) (rest := [.int 0, .ref o]) C hA hl.1 (kx_X7_lend C.2.2.2.2.2.2 h) (cwV 3 C.1.2.2.2.2 gL_lend_X7_lend rfl rfl rfl nd_X7_lend ⟨Nat.le_of_ble_eq_true rfl, Nat.le_of_ble_eq_true rfl⟩) 0 rfl rfl rfl rfl (Nat.le_of_ble_eq_true rfl) dL_lend_7 ⟨Nat.le_of_ble_eq_true rfl, Nat.le_of_ble_eq_true rfl⟩ (fun q9 ce H locs hA hce hcv hcl => ?_)
  refine vx_catch (own := RL) (name := "java/lang/IllegalArgumentException") (E := "java/lang/IllegalArgumentException") C.1.2.2.2.1 [⟨0, 12, 15, 25⟩] ⟨0, 12, 19, 13⟩ [⟨0, 12, 23, 15⟩] (hT.trans rfl) (List.forall_mem_cons.mpr ⟨Or.inr ⟨by decide, "java/lang/IndexOutOfBoundsException", C.1.2.2.2.2 (.classLink RL 25 "java/lang/IndexOutOfBoundsException") (by decide +kernel), C.2.2.2.2.2.1.2.2.2.2.2.2.2.2.2.2.2.2.2.2.2.2.2.2.2.2.2.2.2.2.2.2.2.2.2.2.2.2.2.2.2.2.2.2.1⟩, fun _ h => nomatch h⟩) (by decide) (by decide) (C.1.2.2.2.2 (.classLink RL 13 "java/lang/IllegalArgumentException") (by decide +kernel)) (va_Nw.use rfl C.2.2.2.2.2.1.2.2.2.2.2.1) hce hcv hcl ?_
  refine lv_astore (lv' := [(5, .ref q9), (0, .ref (g.2.1 0)), (1, .int x1), (2, .int x2), (3, .int x3), (4, .ref o)]) hx hb dL_lend_19 hl (by decide) rfl (fun ls hl => ?_)
  refine lv_iconst (v := 2) hx hb dL_lend_21 (by decide) ?_
  exact r_iret C hA dL_lend_22
set_option maxHeartbeats 4000000 in
set_option maxRecDepth 100000 in
theorem k_L_lend_t1 {l : Launch} {g : Gm} {fu : Nat} {σ τ : SS} {x1 x2 x3 : Int32} {o : Nat} {f : Nat → Int64}  (hlt : l.stackTraces = false) (h : f_X7_lend fu σ x1 x2 x3 = some (.inr 1, τ)) (sz : Nat) : Met l yL_lend wsL_lend rmL_lend (Pw g (wX g σ ++ oc g o f) [.ref (g.2.1 0), .int x1, .int x2, .int x3, .ref o] sz) (Qi g (va_A (wX g σ ++ oc g o f) sz) (wX g τ ++ oc g o f) 3) 1 6 (va_A (wX g σ ++ oc g o f) sz) := by
  refine ofH (own := RL) hlt (by decide) rfl rfl (Nat.le_of_ble_eq_true rfl) (fun p e s m below meth c hsz C hT hA ls hl => ?_)
  have hx := C.1.1
  have hb := C.1.2.1
  have hl : lv_has ls 6 [(0, .ref (g.2.1 0)), (1, .int x1), (2, .int x2), (3, .int x3), (4, .ref o)] := hl
  refine lv_aload hx hb dL_lend_0 (lv_at hl 4 rfl) ?_
  refine lv_iconst (v := 0) hx hb dL_lend_2 (by decide) ?_
  refine lv_aload_n hx hb dL_lend_3 rfl (lv_at hl 0 rfl) ?_
  refine lv_iload_n hx hb dL_lend_4 rfl (lv_at hl 1 rfl) ?_
  refine lv_iload_n hx hb dL_lend_5 rfl (lv_at hl 2 rfl) ?_
  refine lv_iload_n hx hb dL_lend_6 rfl (lv_at hl 3 rfl) ?_
  refine r_fXi (j := 1) (w := wX g σ) (w1 := wX g τ) (wr := oc g o f) (As := [.int x1, .int x2, .int x3]) (rest := [.int 0, .ref o]) C hA hl.1 (kx_X7_lend C.2.2.2.2.2.2 h) (cwV 3 C.1.2.2.2.2 gL_lend_X7_lend rfl rfl rfl nd_X7_lend ⟨Nat.le_of_ble_eq_true rfl, Nat.le_of_ble_eq_true rfl⟩) 0 rfl rfl rfl rfl (Nat.le_of_ble_eq_true rfl) dL_lend_7 ⟨Nat.le_of_ble_eq_true rfl, Nat.le_of_ble_eq_true rfl⟩ (fun q9 ce H locs hA hce hcv hcl => ?_)
  refine vx_catch (own := RL) (name := "java/lang/IllegalStateException") (E := "java/lang/IllegalStateException") C.1.2.2.2.1 [⟨0, 12, 15, 25⟩, ⟨0, 12, 19, 13⟩] ⟨0, 12, 23, 15⟩ [] (hT.trans rfl) (List.forall_mem_cons.mpr ⟨Or.inr ⟨by decide, "java/lang/IndexOutOfBoundsException", C.1.2.2.2.2 (.classLink RL 25 "java/lang/IndexOutOfBoundsException") (by decide +kernel), C.2.2.2.2.2.1.2.2.2.2.2.2.2.2.2.2.2.2.2.2.2.2.2.2.2.2.2.2.2.2.2.2.2.2.2.2.2.2.2.2.2.2.2.2.2.1⟩, List.forall_mem_cons.mpr ⟨Or.inr ⟨by decide, "java/lang/IllegalArgumentException", C.1.2.2.2.2 (.classLink RL 13 "java/lang/IllegalArgumentException") (by decide +kernel), C.2.2.2.2.2.1.2.2.2.2.2.2.2.2.2.2.2.2.2.2.2.2.2.2.2.2.2.2.2.2.2.2.2.2.2.2.2.2.2.2.2.2.2.2.2.2.1⟩, fun _ h => nomatch h⟩⟩) (by decide) (by decide) (C.1.2.2.2.2 (.classLink RL 15 "java/lang/IllegalStateException") (by decide +kernel)) (va_Nw.use rfl C.2.2.2.2.2.1.2.2.2.2.2.2.1) hce hcv hcl ?_
  refine lv_astore (lv' := [(5, .ref q9), (0, .ref (g.2.1 0)), (1, .int x1), (2, .int x2), (3, .int x3), (4, .ref o)]) hx hb dL_lend_23 hl (by decide) rfl (fun ls hl => ?_)
  refine lv_iconst (v := 3) hx hb dL_lend_25 (by decide) ?_
  exact r_iret C hA dL_lend_26
abbrev rmL_copper : Room := { frames := 8, cells := 1, slots := 6, locals := 133 }
theorem nd_L_copper : yL_copper.cls ≠ "java/lang/invoke/MethodHandle" ∧ yL_copper.cls ≠ "java/lang/invoke/VarHandle" ∧ (parseMethodDescriptor yL_copper.desc).map (fun d => d.parameters.length) = some 4 := by decide +kernel
set_option maxHeartbeats 4000000 in
set_option maxRecDepth 100000 in
theorem k_L_copper {l : Launch} {g : Gm} {fu : Nat} {σ τ : SS} {x1 x2 : Int32} {o : Nat} {f : Nat → Int64} {v0 : Int32} (hlt : l.stackTraces = false) (h : f_X7_copper fu σ x1 x2 = some (.inl v0, τ)) (sz : Nat) : Met l yL_copper wsL_copper rmL_copper (Pw g (wX g σ ++ oc g o f) [.ref (g.2.1 0), .int x1, .int x2, .ref o] sz) (Qi g (va_A (wX g σ ++ oc g o f) sz) (wX g τ ++ oc g o (vp_updL f (0 : Int32).toNatClampNeg v0.toInt64)) 0) 1 6 (va_A (wX g σ ++ oc g o f) sz) := by
  refine ofH (own := RL) hlt (by decide) rfl rfl (Nat.le_of_ble_eq_true rfl) (fun p e s m below meth c hsz C hT hA ls hl => ?_)
  have hx := C.1.1
  have hb := C.1.2.1
  have hl : lv_has ls 5 [(0, .ref (g.2.1 0)), (1, .int x1), (2, .int x2), (3, .ref o)] := hl
  refine lv_aload_n hx hb dL_copper_0 rfl (lv_at hl 3 rfl) ?_
  refine lv_iconst (v := 0) hx hb dL_copper_1 (by decide) ?_
  refine lv_aload_n hx hb dL_copper_2 rfl (lv_at hl 0 rfl) ?_
  refine lv_iload_n hx hb dL_copper_3 rfl (lv_at hl 1 rfl) ?_
  refine lv_iload_n hx hb dL_copper_4 rfl (lv_at hl 2 rfl) ?_
  refine r_fVi (r := v0) (w := wX g σ) (w1 := wX g τ) (wr := oc g o f) (As := [.int x1, .int x2]) (rest := [.int 0, .ref o]) C hA hl.1 (k_X7_copper C.2.2.2.2.2.2 h) (cwV 2 C.1.2.2.2.2 gL_copper_X7_copper rfl rfl rfl nd_X7_copper ⟨Nat.le_of_ble_eq_true rfl, Nat.le_of_ble_eq_true rfl⟩) 0 rfl rfl rfl rfl (Nat.le_of_ble_eq_true rfl) dL_copper_5 ⟨Nat.le_of_ble_eq_true rfl, Nat.le_of_ble_eq_true rfl⟩ (fun H locs hA => ?_)
  refine lv_i2l hx hb dL_copper_8 rfl ?_
  refine r_last (w1 := (wX g τ ++ oc g o (vp_updL f (0 : Int32).toNatClampNeg v0.toInt64))) C hA 44 1 rfl rfl (by decide) dL_copper_9 rfl (fun H locs hA => ?_)
  refine lv_goto (tgt := 25) hx hb dL_copper_10 (by decide) ?_
  refine lv_iconst (v := 0) hx hb dL_copper_25 (by decide) ?_
  refine W.widen (k := 1) (n := 6) (Nat.le_of_ble_eq_true rfl) (Nat.le_of_ble_eq_true rfl) ?_
  exact r_iret C hA dL_copper_26
set_option maxHeartbeats 4000000 in
set_option maxRecDepth 100000 in
theorem k_L_copper_t2 {l : Launch} {g : Gm} {fu : Nat} {σ τ : SS} {x1 x2 : Int32} {o : Nat} {f : Nat → Int64}  (hlt : l.stackTraces = false) (h : f_X7_copper fu σ x1 x2 = some (.inr 2, τ)) (sz : Nat) : Met l yL_copper wsL_copper rmL_copper (Pw g (wX g σ ++ oc g o f) [.ref (g.2.1 0), .int x1, .int x2, .ref o] sz) (Qi g (va_A (wX g σ ++ oc g o f) sz) (wX g τ ++ oc g o f) 1) 1 6 (va_A (wX g σ ++ oc g o f) sz) := by
  refine ofH (own := RL) hlt (by decide) rfl rfl (Nat.le_of_ble_eq_true rfl) (fun p e s m below meth c hsz C hT hA ls hl => ?_)
  have hx := C.1.1
  have hb := C.1.2.1
  have hl : lv_has ls 5 [(0, .ref (g.2.1 0)), (1, .int x1), (2, .int x2), (3, .ref o)] := hl
  refine lv_aload_n hx hb dL_copper_0 rfl (lv_at hl 3 rfl) ?_
  refine lv_iconst (v := 0) hx hb dL_copper_1 (by decide) ?_
  refine lv_aload_n hx hb dL_copper_2 rfl (lv_at hl 0 rfl) ?_
  refine lv_iload_n hx hb dL_copper_3 rfl (lv_at hl 1 rfl) ?_
  refine lv_iload_n hx hb dL_copper_4 rfl (lv_at hl 2 rfl) ?_
  refine r_fXi (j := 2) (w := wX g σ) (w1 := wX g τ) (wr := oc g o f) (As := [.int x1, .int x2]) (rest := [.int 0, .ref o]) C hA hl.1 (kx_X7_copper C.2.2.2.2.2.2 h) (cwV 2 C.1.2.2.2.2 gL_copper_X7_copper rfl rfl rfl nd_X7_copper ⟨Nat.le_of_ble_eq_true rfl, Nat.le_of_ble_eq_true rfl⟩) 0 rfl rfl rfl rfl (Nat.le_of_ble_eq_true rfl) dL_copper_5 ⟨Nat.le_of_ble_eq_true rfl, Nat.le_of_ble_eq_true rfl⟩ (fun q9 ce H locs hA hce hcv hcl => ?_)
  refine vx_catch (own := RL) (name := "java/lang/IndexOutOfBoundsException") (E := "java/lang/IndexOutOfBoundsException") C.1.2.2.2.1 [] ⟨0, 10, 13, 25⟩ [⟨0, 10, 17, 13⟩, ⟨0, 10, 21, 15⟩] (hT.trans rfl) (fun _ h => nomatch h) (by decide) (by decide) (C.1.2.2.2.2 (.classLink RL 25 "java/lang/IndexOutOfBoundsException") (by decide +kernel)) (va_Nw.use rfl C.2.2.2.2.2.1.2.2.2.2.2.2.2.1) hce hcv hcl ?_
  refine lv_astore (lv' := [(4, .ref q9), (0, .ref (g.2.1 0)), (1, .int x1), (2, .int x2), (3, .ref o)]) hx hb dL_copper_13 hl (by decide) rfl (fun ls hl => ?_)
  refine lv_iconst (v := 1) hx hb dL_copper_15 (by decide) ?_
  exact r_iret C hA dL_copper_16
set_option maxHeartbeats 4000000 in
set_option maxRecDepth 100000 in
theorem k_L_copper_t0 {l : Launch} {g : Gm} {fu : Nat} {σ τ : SS} {x1 x2 : Int32} {o : Nat} {f : Nat → Int64}  (hlt : l.stackTraces = false) (h : f_X7_copper fu σ x1 x2 = some (.inr 0, τ)) (sz : Nat) : Met l yL_copper wsL_copper rmL_copper (Pw g (wX g σ ++ oc g o f) [.ref (g.2.1 0), .int x1, .int x2, .ref o] sz) (Qi g (va_A (wX g σ ++ oc g o f) sz) (wX g τ ++ oc g o f) 2) 1 6 (va_A (wX g σ ++ oc g o f) sz) := by
  refine ofH (own := RL) hlt (by decide) rfl rfl (Nat.le_of_ble_eq_true rfl) (fun p e s m below meth c hsz C hT hA ls hl => ?_)
  have hx := C.1.1
  have hb := C.1.2.1
  have hl : lv_has ls 5 [(0, .ref (g.2.1 0)), (1, .int x1), (2, .int x2), (3, .ref o)] := hl
  refine lv_aload_n hx hb dL_copper_0 rfl (lv_at hl 3 rfl) ?_
  refine lv_iconst (v := 0) hx hb dL_copper_1 (by decide) ?_
  refine lv_aload_n hx hb dL_copper_2 rfl (lv_at hl 0 rfl) ?_
  refine lv_iload_n hx hb dL_copper_3 rfl (lv_at hl 1 rfl) ?_
  refine lv_iload_n hx hb dL_copper_4 rfl (lv_at hl 2 rfl) ?_
  refine r_fXi (j := 0) (w := wX g σ) (w1 := wX g τ) (wr := oc g o f) (As := [.int x1, .int x2]) (rest := [.int 0, .ref o]) C hA hl.1 (kx_X7_copper C.2.2.2.2.2.2 h) (cwV 2 C.1.2.2.2.2 gL_copper_X7_copper rfl rfl rfl nd_X7_copper ⟨Nat.le_of_ble_eq_true rfl, Nat.le_of_ble_eq_true rfl⟩) 0 rfl rfl rfl rfl (Nat.le_of_ble_eq_true rfl) dL_copper_5 ⟨Nat.le_of_ble_eq_true rfl, Nat.le_of_ble_eq_true rfl⟩ (fun q9 ce H locs hA hce hcv hcl => ?_)
  refine vx_catch (own := RL) (name := "java/lang/IllegalArgumentException") (E := "java/lang/IllegalArgumentException") C.1.2.2.2.1 [⟨0, 10, 13, 25⟩] ⟨0, 10, 17, 13⟩ [⟨0, 10, 21, 15⟩] (hT.trans rfl) (List.forall_mem_cons.mpr ⟨Or.inr ⟨by decide, "java/lang/IndexOutOfBoundsException", C.1.2.2.2.2 (.classLink RL 25 "java/lang/IndexOutOfBoundsException") (by decide +kernel), C.2.2.2.2.2.1.2.2.2.2.2.2.2.2.2.2.2.2.2.2.2.2.2.2.2.2.2.2.2.2.2.2.2.2.2.2.2.2.2.2.2.2.2.2.1⟩, fun _ h => nomatch h⟩) (by decide) (by decide) (C.1.2.2.2.2 (.classLink RL 13 "java/lang/IllegalArgumentException") (by decide +kernel)) (va_Nw.use rfl C.2.2.2.2.2.1.2.2.2.2.2.1) hce hcv hcl ?_
  refine lv_astore (lv' := [(4, .ref q9), (0, .ref (g.2.1 0)), (1, .int x1), (2, .int x2), (3, .ref o)]) hx hb dL_copper_17 hl (by decide) rfl (fun ls hl => ?_)
  refine lv_iconst (v := 2) hx hb dL_copper_19 (by decide) ?_
  exact r_iret C hA dL_copper_20
set_option maxHeartbeats 4000000 in
set_option maxRecDepth 100000 in
theorem k_L_copper_t1 {l : Launch} {g : Gm} {fu : Nat} {σ τ : SS} {x1 x2 : Int32} {o : Nat} {f : Nat → Int64}  (hlt : l.stackTraces = false) (h : f_X7_copper fu σ x1 x2 = some (.inr 1, τ)) (sz : Nat) : Met l yL_copper wsL_copper rmL_copper (Pw g (wX g σ ++ oc g o f) [.ref (g.2.1 0), .int x1, .int x2, .ref o] sz) (Qi g (va_A (wX g σ ++ oc g o f) sz) (wX g τ ++ oc g o f) 3) 1 6 (va_A (wX g σ ++ oc g o f) sz) := by
  refine ofH (own := RL) hlt (by decide) rfl rfl (Nat.le_of_ble_eq_true rfl) (fun p e s m below meth c hsz C hT hA ls hl => ?_)
  have hx := C.1.1
  have hb := C.1.2.1
  have hl : lv_has ls 5 [(0, .ref (g.2.1 0)), (1, .int x1), (2, .int x2), (3, .ref o)] := hl
  refine lv_aload_n hx hb dL_copper_0 rfl (lv_at hl 3 rfl) ?_
  refine lv_iconst (v := 0) hx hb dL_copper_1 (by decide) ?_
  refine lv_aload_n hx hb dL_copper_2 rfl (lv_at hl 0 rfl) ?_
  refine lv_iload_n hx hb dL_copper_3 rfl (lv_at hl 1 rfl) ?_
  refine lv_iload_n hx hb dL_copper_4 rfl (lv_at hl 2 rfl) ?_
  refine r_fXi (j := 1) (w := wX g σ) (w1 := wX g τ) (wr := oc g o f) (As := [.int x1, .int x2]) (rest := [.int 0, .ref o]) C hA hl.1 (kx_X7_copper C.2.2.2.2.2.2 h) (cwV 2 C.1.2.2.2.2 gL_copper_X7_copper rfl rfl rfl nd_X7_copper ⟨Nat.le_of_ble_eq_true rfl, Nat.le_of_ble_eq_true rfl⟩) 0 rfl rfl rfl rfl (Nat.le_of_ble_eq_true rfl) dL_copper_5 ⟨Nat.le_of_ble_eq_true rfl, Nat.le_of_ble_eq_true rfl⟩ (fun q9 ce H locs hA hce hcv hcl => ?_)
  refine vx_catch (own := RL) (name := "java/lang/IllegalStateException") (E := "java/lang/IllegalStateException") C.1.2.2.2.1 [⟨0, 10, 13, 25⟩, ⟨0, 10, 17, 13⟩] ⟨0, 10, 21, 15⟩ [] (hT.trans rfl) (List.forall_mem_cons.mpr ⟨Or.inr ⟨by decide, "java/lang/IndexOutOfBoundsException", C.1.2.2.2.2 (.classLink RL 25 "java/lang/IndexOutOfBoundsException") (by decide +kernel), C.2.2.2.2.2.1.2.2.2.2.2.2.2.2.2.2.2.2.2.2.2.2.2.2.2.2.2.2.2.2.2.2.2.2.2.2.2.2.2.2.2.2.2.2.2.1⟩, List.forall_mem_cons.mpr ⟨Or.inr ⟨by decide, "java/lang/IllegalArgumentException", C.1.2.2.2.2 (.classLink RL 13 "java/lang/IllegalArgumentException") (by decide +kernel), C.2.2.2.2.2.1.2.2.2.2.2.2.2.2.2.2.2.2.2.2.2.2.2.2.2.2.2.2.2.2.2.2.2.2.2.2.2.2.2.2.2.2.2.2.2.2.1⟩, fun _ h => nomatch h⟩⟩) (by decide) (by decide) (C.1.2.2.2.2 (.classLink RL 15 "java/lang/IllegalStateException") (by decide +kernel)) (va_Nw.use rfl C.2.2.2.2.2.1.2.2.2.2.2.2.1) hce hcv hcl ?_
  refine lv_astore (lv' := [(4, .ref q9), (0, .ref (g.2.1 0)), (1, .int x1), (2, .int x2), (3, .ref o)]) hx hb dL_copper_21 hl (by decide) rfl (fun ls hl => ?_)
  refine lv_iconst (v := 3) hx hb dL_copper_23 (by decide) ?_
  exact r_iret C hA dL_copper_24
abbrev rmL_pass : Room := { frames := 8, cells := 1, slots := 6, locals := 143 }
theorem nd_L_pass : yL_pass.cls ≠ "java/lang/invoke/MethodHandle" ∧ yL_pass.cls ≠ "java/lang/invoke/VarHandle" ∧ (parseMethodDescriptor yL_pass.desc).map (fun d => d.parameters.length) = some 4 := by decide +kernel
set_option maxHeartbeats 4000000 in
set_option maxRecDepth 100000 in
theorem k_L_pass {l : Launch} {g : Gm} {fu : Nat} {σ τ : SS} {x1 x2 : Int32} {o : Nat} {f : Nat → Int64} {v0 : Int32} (hlt : l.stackTraces = false) (h : f_X7_pass fu σ x1 x2 = some (.inl v0, τ)) (sz : Nat) : Met l yL_pass wsL_pass rmL_pass (Pw g (wX g σ ++ oc g o f) [.ref (g.2.1 0), .int x1, .int x2, .ref o] sz) (Qi g (va_A (wX g σ ++ oc g o f) sz) (wX g τ ++ oc g o (vp_updL f (0 : Int32).toNatClampNeg v0.toInt64)) 0) 1 6 (va_A (wX g σ ++ oc g o f) sz) := by
  refine ofH (own := RL) hlt (by decide) rfl rfl (Nat.le_of_ble_eq_true rfl) (fun p e s m below meth c hsz C hT hA ls hl => ?_)
  have hx := C.1.1
  have hb := C.1.2.1
  have hl : lv_has ls 5 [(0, .ref (g.2.1 0)), (1, .int x1), (2, .int x2), (3, .ref o)] := hl
  refine lv_aload_n hx hb dL_pass_0 rfl (lv_at hl 3 rfl) ?_
  refine lv_iconst (v := 0) hx hb dL_pass_1 (by decide) ?_
  refine lv_aload_n hx hb dL_pass_2 rfl (lv_at hl 0 rfl) ?_
  refine lv_iload_n hx hb dL_pass_3 rfl (lv_at hl 1 rfl) ?_
  refine lv_iload_n hx hb dL_pass_4 rfl (lv_at hl 2 rfl) ?_
  refine r_fVi (r := v0) (w := wX g σ) (w1 := wX g τ) (wr := oc g o f) (As := [.int x1, .int x2]) (rest := [.int 0, .ref o]) C hA hl.1 (k_X7_pass C.2.2.2.2.2.2 h) (cwV 2 C.1.2.2.2.2 gL_pass_X7_pass rfl rfl rfl nd_X7_pass ⟨Nat.le_of_ble_eq_true rfl, Nat.le_of_ble_eq_true rfl⟩) 0 rfl rfl rfl rfl (Nat.le_of_ble_eq_true rfl) dL_pass_5 ⟨Nat.le_of_ble_eq_true rfl, Nat.le_of_ble_eq_true rfl⟩ (fun H locs hA => ?_)
  refine lv_i2l hx hb dL_pass_8 rfl ?_
  refine r_last (w1 := (wX g τ ++ oc g o (vp_updL f (0 : Int32).toNatClampNeg v0.toInt64))) C hA 44 1 rfl rfl (by decide) dL_pass_9 rfl (fun H locs hA => ?_)
  refine lv_goto (tgt := 25) hx hb dL_pass_10 (by decide) ?_
  refine lv_iconst (v := 0) hx hb dL_pass_25 (by decide) ?_
  refine W.widen (k := 1) (n := 6) (Nat.le_of_ble_eq_true rfl) (Nat.le_of_ble_eq_true rfl) ?_
  exact r_iret C hA dL_pass_26
set_option maxHeartbeats 4000000 in
set_option maxRecDepth 100000 in
theorem k_L_pass_t2 {l : Launch} {g : Gm} {fu : Nat} {σ τ : SS} {x1 x2 : Int32} {o : Nat} {f : Nat → Int64}  (hlt : l.stackTraces = false) (h : f_X7_pass fu σ x1 x2 = some (.inr 2, τ)) (sz : Nat) : Met l yL_pass wsL_pass rmL_pass (Pw g (wX g σ ++ oc g o f) [.ref (g.2.1 0), .int x1, .int x2, .ref o] sz) (Qi g (va_A (wX g σ ++ oc g o f) sz) (wX g τ ++ oc g o f) 1) 1 6 (va_A (wX g σ ++ oc g o f) sz) := by
  refine ofH (own := RL) hlt (by decide) rfl rfl (Nat.le_of_ble_eq_true rfl) (fun p e s m below meth c hsz C hT hA ls hl => ?_)
  have hx := C.1.1
  have hb := C.1.2.1
  have hl : lv_has ls 5 [(0, .ref (g.2.1 0)), (1, .int x1), (2, .int x2), (3, .ref o)] := hl
  refine lv_aload_n hx hb dL_pass_0 rfl (lv_at hl 3 rfl) ?_
  refine lv_iconst (v := 0) hx hb dL_pass_1 (by decide) ?_
  refine lv_aload_n hx hb dL_pass_2 rfl (lv_at hl 0 rfl) ?_
  refine lv_iload_n hx hb dL_pass_3 rfl (lv_at hl 1 rfl) ?_
  refine lv_iload_n hx hb dL_pass_4 rfl (lv_at hl 2 rfl) ?_
  refine r_fXi (j := 2) (w := wX g σ) (w1 := wX g τ) (wr := oc g o f) (As := [.int x1, .int x2]) (rest := [.int 0, .ref o]) C hA hl.1 (kx_X7_pass C.2.2.2.2.2.2 h) (cwV 2 C.1.2.2.2.2 gL_pass_X7_pass rfl rfl rfl nd_X7_pass ⟨Nat.le_of_ble_eq_true rfl, Nat.le_of_ble_eq_true rfl⟩) 0 rfl rfl rfl rfl (Nat.le_of_ble_eq_true rfl) dL_pass_5 ⟨Nat.le_of_ble_eq_true rfl, Nat.le_of_ble_eq_true rfl⟩ (fun q9 ce H locs hA hce hcv hcl => ?_)
  refine vx_catch (own := RL) (name := "java/lang/IndexOutOfBoundsException") (E := "java/lang/IndexOutOfBoundsException") C.1.2.2.2.1 [] ⟨0, 10, 13, 25⟩ [⟨0, 10, 17, 13⟩, ⟨0, 10, 21, 15⟩] (hT.trans rfl) (fun _ h => nomatch h) (by decide) (by decide) (C.1.2.2.2.2 (.classLink RL 25 "java/lang/IndexOutOfBoundsException") (by decide +kernel)) (va_Nw.use rfl C.2.2.2.2.2.1.2.2.2.2.2.2.2.1) hce hcv hcl ?_
  refine lv_astore (lv' := [(4, .ref q9), (0, .ref (g.2.1 0)), (1, .int x1), (2, .int x2), (3, .ref o)]) hx hb dL_pass_13 hl (by decide) rfl (fun ls hl => ?_)
  refine lv_iconst (v := 1) hx hb dL_pass_15 (by decide) ?_
  exact r_iret C hA dL_pass_16
set_option maxHeartbeats 4000000 in
set_option maxRecDepth 100000 in
theorem k_L_pass_t0 {l : Launch} {g : Gm} {fu : Nat} {σ τ : SS} {x1 x2 : Int32} {o : Nat} {f : Nat → Int64}  (hlt : l.stackTraces = false) (h : f_X7_pass fu σ x1 x2 = some (.inr 0, τ)) (sz : Nat) : Met l yL_pass wsL_pass rmL_pass (Pw g (wX g σ ++ oc g o f) [.ref (g.2.1 0), .int x1, .int x2, .ref o] sz) (Qi g (va_A (wX g σ ++ oc g o f) sz) (wX g τ ++ oc g o f) 2) 1 6 (va_A (wX g σ ++ oc g o f) sz) := by
  refine ofH (own := RL) hlt (by decide) rfl rfl (Nat.le_of_ble_eq_true rfl) (fun p e s m below meth c hsz C hT hA ls hl => ?_)
  have hx := C.1.1
  have hb := C.1.2.1
  have hl : lv_has ls 5 [(0, .ref (g.2.1 0)), (1, .int x1), (2, .int x2), (3, .ref o)] := hl
  refine lv_aload_n hx hb dL_pass_0 rfl (lv_at hl 3 rfl) ?_
  refine lv_iconst (v := 0) hx hb dL_pass_1 (by decide) ?_
  refine lv_aload_n hx hb dL_pass_2 rfl (lv_at hl 0 rfl) ?_
  refine lv_iload_n hx hb dL_pass_3 rfl (lv_at hl 1 rfl) ?_
  refine lv_iload_n hx hb dL_pass_4 rfl (lv_at hl 2 rfl) ?_
  refine r_fXi (j := 0) (w := wX g σ) (w1 := wX g τ) (wr := oc g o f) (As := [.int x1, .int x2]) (rest := [.int 0, .ref o]) C hA hl.1 (kx_X7_pass C.2.2.2.2.2.2 h) (cwV 2 C.1.2.2.2.2 gL_pass_X7_pass rfl rfl rfl nd_X7_pass ⟨Nat.le_of_ble_eq_true rfl, Nat.le_of_ble_eq_true rfl⟩) 0 rfl rfl rfl rfl (Nat.le_of_ble_eq_true rfl) dL_pass_5 ⟨Nat.le_of_ble_eq_true rfl, Nat.le_of_ble_eq_true rfl⟩ (fun q9 ce H locs hA hce hcv hcl => ?_)
  refine vx_catch (own := RL) (name := "java/lang/IllegalArgumentException") (E := "java/lang/IllegalArgumentException") C.1.2.2.2.1 [⟨0, 10, 13, 25⟩] ⟨0, 10, 17, 13⟩ [⟨0, 10, 21, 15⟩] (hT.trans rfl) (List.forall_mem_cons.mpr ⟨Or.inr ⟨by decide, "java/lang/IndexOutOfBoundsException", C.1.2.2.2.2 (.classLink RL 25 "java/lang/IndexOutOfBoundsException") (by decide +kernel), C.2.2.2.2.2.1.2.2.2.2.2.2.2.2.2.2.2.2.2.2.2.2.2.2.2.2.2.2.2.2.2.2.2.2.2.2.2.2.2.2.2.2.2.2.1⟩, fun _ h => nomatch h⟩) (by decide) (by decide) (C.1.2.2.2.2 (.classLink RL 13 "java/lang/IllegalArgumentException") (by decide +kernel)) (va_Nw.use rfl C.2.2.2.2.2.1.2.2.2.2.2.1) hce hcv hcl ?_
  refine lv_astore (lv' := [(4, .ref q9), (0, .ref (g.2.1 0)), (1, .int x1), (2, .int x2), (3, .ref o)]) hx hb dL_pass_17 hl (by decide) rfl (fun ls hl => ?_)
  refine lv_iconst (v := 2) hx hb dL_pass_19 (by decide) ?_
  exact r_iret C hA dL_pass_20
set_option maxHeartbeats 4000000 in
set_option maxRecDepth 100000 in
theorem k_L_pass_t1 {l : Launch} {g : Gm} {fu : Nat} {σ τ : SS} {x1 x2 : Int32} {o : Nat} {f : Nat → Int64}  (hlt : l.stackTraces = false) (h : f_X7_pass fu σ x1 x2 = some (.inr 1, τ)) (sz : Nat) : Met l yL_pass wsL_pass rmL_pass (Pw g (wX g σ ++ oc g o f) [.ref (g.2.1 0), .int x1, .int x2, .ref o] sz) (Qi g (va_A (wX g σ ++ oc g o f) sz) (wX g τ ++ oc g o f) 3) 1 6 (va_A (wX g σ ++ oc g o f) sz) := by
  refine ofH (own := RL) hlt (by decide) rfl rfl (Nat.le_of_ble_eq_true rfl) (fun p e s m below meth c hsz C hT hA ls hl => ?_)
  have hx := C.1.1
  have hb := C.1.2.1
  have hl : lv_has ls 5 [(0, .ref (g.2.1 0)), (1, .int x1), (2, .int x2), (3, .ref o)] := hl
  refine lv_aload_n hx hb dL_pass_0 rfl (lv_at hl 3 rfl) ?_
  refine lv_iconst (v := 0) hx hb dL_pass_1 (by decide) ?_
  refine lv_aload_n hx hb dL_pass_2 rfl (lv_at hl 0 rfl) ?_
  refine lv_iload_n hx hb dL_pass_3 rfl (lv_at hl 1 rfl) ?_
  refine lv_iload_n hx hb dL_pass_4 rfl (lv_at hl 2 rfl) ?_
  refine r_fXi (j := 1) (w := wX g σ) (w1 := wX g τ) (wr := oc g o f) (As := [.int x1, .int x2]) (rest := [.int 0, .ref o]) C hA hl.1 (kx_X7_pass C.2.2.2.2.2.2 h) (cwV 2 C.1.2.2.2.2 gL_pass_X7_pass rfl rfl rfl nd_X7_pass ⟨Nat.le_of_ble_eq_true rfl, Nat.le_of_ble_eq_true rfl⟩) 0 rfl rfl rfl rfl (Nat.le_of_ble_eq_true rfl) dL_pass_5 ⟨Nat.le_of_ble_eq_true rfl, Nat.le_of_ble_eq_true rfl⟩ (fun q9 ce H locs hA hce hcv hcl => ?_)
  refine vx_catch (own := RL) (name := "java/lang/IllegalStateException") (E := "java/lang/IllegalStateException") C.1.2.2.2.1 [⟨0, 10, 13, 25⟩, ⟨0, 10, 17, 13⟩] ⟨0, 10, 21, 15⟩ [] (hT.trans rfl) (List.forall_mem_cons.mpr ⟨Or.inr ⟨by decide, "java/lang/IndexOutOfBoundsException", C.1.2.2.2.2 (.classLink RL 25 "java/lang/IndexOutOfBoundsException") (by decide +kernel), C.2.2.2.2.2.1.2.2.2.2.2.2.2.2.2.2.2.2.2.2.2.2.2.2.2.2.2.2.2.2.2.2.2.2.2.2.2.2.2.2.2.2.2.2.2.1⟩, List.forall_mem_cons.mpr ⟨Or.inr ⟨by decide, "java/lang/IllegalArgumentException", C.1.2.2.2.2 (.classLink RL 13 "java/lang/IllegalArgumentException") (by decide +kernel), C.2.2.2.2.2.1.2.2.2.2.2.2.2.2.2.2.2.2.2.2.2.2.2.2.2.2.2.2.2.2.2.2.2.2.2.2.2.2.2.2.2.2.2.2.2.2.1⟩, fun _ h => nomatch h⟩⟩) (by decide) (by decide) (C.1.2.2.2.2 (.classLink RL 15 "java/lang/IllegalStateException") (by decide +kernel)) (va_Nw.use rfl C.2.2.2.2.2.1.2.2.2.2.2.2.1) hce hcv hcl ?_
  refine lv_astore (lv' := [(4, .ref q9), (0, .ref (g.2.1 0)), (1, .int x1), (2, .int x2), (3, .ref o)]) hx hb dL_pass_21 hl (by decide) rfl (fun ls hl => ?_)
  refine lv_iconst (v := 3) hx hb dL_pass_23 (by decide) ?_
  exact r_iret C hA dL_pass_24
abbrev rmL_breaks : Room := { frames := 8, cells := 1, slots := 6, locals := 132 }
theorem nd_L_breaks : yL_breaks.cls ≠ "java/lang/invoke/MethodHandle" ∧ yL_breaks.cls ≠ "java/lang/invoke/VarHandle" ∧ (parseMethodDescriptor yL_breaks.desc).map (fun d => d.parameters.length) = some 3 := by decide +kernel
set_option maxHeartbeats 4000000 in
set_option maxRecDepth 100000 in
theorem k_L_breaks {l : Launch} {g : Gm} {fu : Nat} {σ τ : SS} {x1 : Int32} {o : Nat} {f : Nat → Int64} {v0 : Int32} (hlt : l.stackTraces = false) (h : f_X7_breaks fu σ x1 = some (.inl v0, τ)) (sz : Nat) : Met l yL_breaks wsL_breaks rmL_breaks (Pw g (wX g σ ++ oc g o f) [.ref (g.2.1 0), .int x1, .ref o] sz) (Qi g (va_A (wX g σ ++ oc g o f) sz) (wX g τ ++ oc g o (vp_updL f (0 : Int32).toNatClampNeg v0.toInt64)) 0) 1 6 (va_A (wX g σ ++ oc g o f) sz) := by
  refine ofH (own := RL) hlt (by decide) rfl rfl (Nat.le_of_ble_eq_true rfl) (fun p e s m below meth c hsz C hT hA ls hl => ?_)
  have hx := C.1.1
  have hb := C.1.2.1
  have hl : lv_has ls 4 [(0, .ref (g.2.1 0)), (1, .int x1), (2, .ref o)] := hl
  refine lv_aload_n hx hb dL_breaks_0 rfl (lv_at hl 2 rfl) ?_
  refine lv_iconst (v := 0) hx hb dL_breaks_1 (by decide) ?_
  refine lv_aload_n hx hb dL_breaks_2 rfl (lv_at hl 0 rfl) ?_
  refine lv_iload_n hx hb dL_breaks_3 rfl (lv_at hl 1 rfl) ?_
  refine r_fVi (r := v0) (w := wX g σ) (w1 := wX g τ) (wr := oc g o f) (As := [.int x1]) (rest := [.int 0, .ref o]) C hA hl.1 (k_X7_breaks C.2.2.2.2.2.2 h) (cwV 1 C.1.2.2.2.2 gL_breaks_X7_breaks rfl rfl rfl nd_X7_breaks ⟨Nat.le_of_ble_eq_true rfl, Nat.le_of_ble_eq_true rfl⟩) 0 rfl rfl rfl rfl (Nat.le_of_ble_eq_true rfl) dL_breaks_4 ⟨Nat.le_of_ble_eq_true rfl, Nat.le_of_ble_eq_true rfl⟩ (fun H locs hA => ?_)
  refine lv_i2l hx hb dL_breaks_7 rfl ?_
  refine r_last (w1 := (wX g τ ++ oc g o (vp_updL f (0 : Int32).toNatClampNeg v0.toInt64))) C hA 44 1 rfl rfl (by decide) dL_breaks_8 rfl (fun H locs hA => ?_)
  refine lv_goto (tgt := 15) hx hb dL_breaks_9 (by decide) ?_
  refine lv_iconst (v := 0) hx hb dL_breaks_15 (by decide) ?_
  refine W.widen (k := 1) (n := 6) (Nat.le_of_ble_eq_true rfl) (Nat.le_of_ble_eq_true rfl) ?_
  exact r_iret C hA dL_breaks_16
set_option maxHeartbeats 4000000 in
set_option maxRecDepth 100000 in
theorem k_L_breaks_t2 {l : Launch} {g : Gm} {fu : Nat} {σ τ : SS} {x1 : Int32} {o : Nat} {f : Nat → Int64}  (hlt : l.stackTraces = false) (h : f_X7_breaks fu σ x1 = some (.inr 2, τ)) (sz : Nat) : Met l yL_breaks wsL_breaks rmL_breaks (Pw g (wX g σ ++ oc g o f) [.ref (g.2.1 0), .int x1, .ref o] sz) (Qi g (va_A (wX g σ ++ oc g o f) sz) (wX g τ ++ oc g o f) 1) 1 6 (va_A (wX g σ ++ oc g o f) sz) := by
  refine ofH (own := RL) hlt (by decide) rfl rfl (Nat.le_of_ble_eq_true rfl) (fun p e s m below meth c hsz C hT hA ls hl => ?_)
  have hx := C.1.1
  have hb := C.1.2.1
  have hl : lv_has ls 4 [(0, .ref (g.2.1 0)), (1, .int x1), (2, .ref o)] := hl
  refine lv_aload_n hx hb dL_breaks_0 rfl (lv_at hl 2 rfl) ?_
  refine lv_iconst (v := 0) hx hb dL_breaks_1 (by decide) ?_
  refine lv_aload_n hx hb dL_breaks_2 rfl (lv_at hl 0 rfl) ?_
  refine lv_iload_n hx hb dL_breaks_3 rfl (lv_at hl 1 rfl) ?_
  refine r_fXi (j := 2) (w := wX g σ) (w1 := wX g τ) (wr := oc g o f) (As := [.int x1]) (rest := [.int 0, .ref o]) C hA hl.1 (kx_X7_breaks C.2.2.2.2.2.2 h) (cwV 1 C.1.2.2.2.2 gL_breaks_X7_breaks rfl rfl rfl nd_X7_breaks ⟨Nat.le_of_ble_eq_true rfl, Nat.le_of_ble_eq_true rfl⟩) 0 rfl rfl rfl rfl (Nat.le_of_ble_eq_true rfl) dL_breaks_4 ⟨Nat.le_of_ble_eq_true rfl, Nat.le_of_ble_eq_true rfl⟩ (fun q9 ce H locs hA hce hcv hcl => ?_)
  refine vx_catch (own := RL) (name := "java/lang/IndexOutOfBoundsException") (E := "java/lang/IndexOutOfBoundsException") C.1.2.2.2.1 [] ⟨0, 9, 12, 25⟩ [] (hT.trans rfl) (fun _ h => nomatch h) (by decide) (by decide) (C.1.2.2.2.2 (.classLink RL 25 "java/lang/IndexOutOfBoundsException") (by decide +kernel)) (va_Nw.use rfl C.2.2.2.2.2.1.2.2.2.2.2.2.2.1) hce hcv hcl ?_
  refine lv_astore_n (lv' := [(3, .ref q9), (0, .ref (g.2.1 0)), (1, .int x1), (2, .ref o)]) hx hb dL_breaks_12 rfl hl (by decide) rfl (fun ls hl => ?_)
  refine lv_iconst (v := 1) hx hb dL_breaks_13 (by decide) ?_
  exact r_iret C hA dL_breaks_14
abbrev rmL_copperTold : Room := { frames := 8, cells := 1, slots := 6, locals := 133 }
theorem nd_L_copperTold : yL_copperTold.cls ≠ "java/lang/invoke/MethodHandle" ∧ yL_copperTold.cls ≠ "java/lang/invoke/VarHandle" ∧ (parseMethodDescriptor yL_copperTold.desc).map (fun d => d.parameters.length) = some 4 := by decide +kernel
set_option maxHeartbeats 4000000 in
set_option maxRecDepth 100000 in
theorem k_L_copperTold {l : Launch} {g : Gm} {fu : Nat} {σ : SS} {x1 x2 : Int32} {o : Nat} {f : Nat → Int64} {v0 : Int32} (hlt : l.stackTraces = false) (h : f_X7_copperTold fu σ x1 x2 = some (.inl v0)) (sz : Nat) : Met l yL_copperTold wsL_copperTold rmL_copperTold (Pw g (wX g σ ++ oc g o f) [.ref (g.2.1 0), .int x1, .int x2, .ref o] sz) (Qi g (va_A (wX g σ ++ oc g o f) sz) (wX g σ ++ oc g o (vp_updL f (0 : Int32).toNatClampNeg v0.toInt64)) 0) 1 6 (va_A (wX g σ ++ oc g o f) sz) := by
  refine ofH (own := RL) hlt (by decide) rfl rfl (Nat.le_of_ble_eq_true rfl) (fun p e s m below meth c hsz C hT hA ls hl => ?_)
  have hx := C.1.1
  have hb := C.1.2.1
  have hl : lv_has ls 5 [(0, .ref (g.2.1 0)), (1, .int x1), (2, .int x2), (3, .ref o)] := hl
  refine lv_aload_n hx hb dL_copperTold_0 rfl (lv_at hl 3 rfl) ?_
  refine lv_iconst (v := 0) hx hb dL_copperTold_1 (by decide) ?_
  refine lv_aload_n hx hb dL_copperTold_2 rfl (lv_at hl 0 rfl) ?_
  refine lv_iload_n hx hb dL_copperTold_3 rfl (lv_at hl 1 rfl) ?_
  refine lv_iload_n hx hb dL_copperTold_4 rfl (lv_at hl 2 rfl) ?_
  refine r_fVi (r := v0) (w := wX g σ) (w1 := wX g σ) (wr := oc g o f) (As := [.int x1, .int x2]) (rest := [.int 0, .ref o]) C hA hl.1 (k_X7_copperTold C.2.2.2.2.2.2 h) (cwV 2 C.1.2.2.2.2 gL_copperTold_X7_copperTold rfl rfl rfl nd_X7_copperTold ⟨Nat.le_of_ble_eq_true rfl, Nat.le_of_ble_eq_true rfl⟩) 0 rfl rfl rfl rfl (Nat.le_of_ble_eq_true rfl) dL_copperTold_5 ⟨Nat.le_of_ble_eq_true rfl, Nat.le_of_ble_eq_true rfl⟩ (fun H locs hA => ?_)
  refine lv_i2l hx hb dL_copperTold_8 rfl ?_
  refine r_last (w1 := (wX g σ ++ oc g o (vp_updL f (0 : Int32).toNatClampNeg v0.toInt64))) C hA 44 1 rfl rfl (by decide) dL_copperTold_9 rfl (fun H locs hA => ?_)
  refine lv_goto (tgt := 21) hx hb dL_copperTold_10 (by decide) ?_
  refine lv_iconst (v := 0) hx hb dL_copperTold_21 (by decide) ?_
  refine W.widen (k := 1) (n := 6) (Nat.le_of_ble_eq_true rfl) (Nat.le_of_ble_eq_true rfl) ?_
  exact r_iret C hA dL_copperTold_22
set_option maxHeartbeats 4000000 in
set_option maxRecDepth 100000 in
theorem k_L_copperTold_t2 {l : Launch} {g : Gm} {fu : Nat} {σ : SS} {x1 x2 : Int32} {o : Nat} {f : Nat → Int64}  (hlt : l.stackTraces = false) (h : f_X7_copperTold fu σ x1 x2 = some (.inr 2)) (sz : Nat) : Met l yL_copperTold wsL_copperTold rmL_copperTold (Pw g (wX g σ ++ oc g o f) [.ref (g.2.1 0), .int x1, .int x2, .ref o] sz) (Qi g (va_A (wX g σ ++ oc g o f) sz) (wX g σ ++ oc g o f) 1) 1 6 (va_A (wX g σ ++ oc g o f) sz) := by
  refine ofH (own := RL) hlt (by decide) rfl rfl (Nat.le_of_ble_eq_true rfl) (fun p e s m below meth c hsz C hT hA ls hl => ?_)
  have hx := C.1.1
  have hb := C.1.2.1
  have hl : lv_has ls 5 [(0, .ref (g.2.1 0)), (1, .int x1), (2, .int x2), (3, .ref o)] := hl
  refine lv_aload_n hx hb dL_copperTold_0 rfl (lv_at hl 3 rfl) ?_
  refine lv_iconst (v := 0) hx hb dL_copperTold_1 (by decide) ?_
  refine lv_aload_n hx hb dL_copperTold_2 rfl (lv_at hl 0 rfl) ?_
  refine lv_iload_n hx hb dL_copperTold_3 rfl (lv_at hl 1 rfl) ?_
  refine lv_iload_n hx hb dL_copperTold_4 rfl (lv_at hl 2 rfl) ?_
  refine r_fXi (j := 2) (w := wX g σ) (w1 := wX g σ) (wr := oc g o f) (As := [.int x1, .int x2]) (rest := [.int 0, .ref o]) C hA hl.1 (kx_X7_copperTold C.2.2.2.2.2.2 h) (cwV 2 C.1.2.2.2.2 gL_copperTold_X7_copperTold rfl rfl rfl nd_X7_copperTold ⟨Nat.le_of_ble_eq_true rfl, Nat.le_of_ble_eq_true rfl⟩) 0 rfl rfl rfl rfl (Nat.le_of_ble_eq_true rfl) dL_copperTold_5 ⟨Nat.le_of_ble_eq_true rfl, Nat.le_of_ble_eq_true rfl⟩ (fun q9 ce H locs hA hce hcv hcl => ?_)
  refine vx_catch (own := RL) (name := "java/lang/IndexOutOfBoundsException") (E := "java/lang/IndexOutOfBoundsException") C.1.2.2.2.1 [] ⟨0, 10, 13, 25⟩ [⟨0, 10, 17, 13⟩] (hT.trans rfl) (fun _ h => nomatch h) (by decide) (by decide) (C.1.2.2.2.2 (.classLink RL 25 "java/lang/IndexOutOfBoundsException") (by decide +kernel)) (va_Nw.use rfl C.2.2.2.2.2.1.2.2.2.2.2.2.2.1) hce hcv hcl ?_
  refine lv_astore (lv' := [(4, .ref q9), (0, .ref (g.2.1 0)), (1, .int x1), (2, .int x2), (3, .ref o)]) hx hb dL_copperTold_13 hl (by decide) rfl (fun ls hl => ?_)
  refine lv_iconst (v := 1) hx hb dL_copperTold_15 (by decide) ?_
  exact r_iret C hA dL_copperTold_16
set_option maxHeartbeats 4000000 in
set_option maxRecDepth 100000 in
theorem k_L_copperTold_t0 {l : Launch} {g : Gm} {fu : Nat} {σ : SS} {x1 x2 : Int32} {o : Nat} {f : Nat → Int64}  (hlt : l.stackTraces = false) (h : f_X7_copperTold fu σ x1 x2 = some (.inr 0)) (sz : Nat) : Met l yL_copperTold wsL_copperTold rmL_copperTold (Pw g (wX g σ ++ oc g o f) [.ref (g.2.1 0), .int x1, .int x2, .ref o] sz) (Qi g (va_A (wX g σ ++ oc g o f) sz) (wX g σ ++ oc g o f) 2) 1 6 (va_A (wX g σ ++ oc g o f) sz) := by
  refine ofH (own := RL) hlt (by decide) rfl rfl (Nat.le_of_ble_eq_true rfl) (fun p e s m below meth c hsz C hT hA ls hl => ?_)
  have hx := C.1.1
  have hb := C.1.2.1
  have hl : lv_has ls 5 [(0, .ref (g.2.1 0)), (1, .int x1), (2, .int x2), (3, .ref o)] := hl
  refine lv_aload_n hx hb dL_copperTold_0 rfl (lv_at hl 3 rfl) ?_
  refine lv_iconst (v := 0) hx hb dL_copperTold_1 (by decide) ?_
  refine lv_aload_n hx hb dL_copperTold_2 rfl (lv_at hl 0 rfl) ?_
  refine lv_iload_n hx hb dL_copperTold_3 rfl (lv_at hl 1 rfl) ?_
  refine lv_iload_n hx hb dL_copperTold_4 rfl (lv_at hl 2 rfl) ?_
  refine r_fXi (j := 0) (w := wX g σ) (w1 := wX g σ) (wr := oc g o f) (As := [.int x1, .int x2]) (rest := [.int 0, .ref o]) C hA hl.1 (kx_X7_copperTold C.2.2.2.2.2.2 h) (cwV 2 C.1.2.2.2.2 gL_copperTold_X7_copperTold rfl rfl rfl nd_X7_copperTold ⟨Nat.le_of_ble_eq_true rfl, Nat.le_of_ble_eq_true rfl⟩) 0 rfl rfl rfl rfl (Nat.le_of_ble_eq_true rfl) dL_copperTold_5 ⟨Nat.le_of_ble_eq_true rfl, Nat.le_of_ble_eq_true rfl⟩ (fun q9 ce H locs hA hce hcv hcl => ?_)
  refine vx_catch (own := RL) (name := "java/lang/IllegalArgumentException") (E := "java/lang/IllegalArgumentException") C.1.2.2.2.1 [⟨0, 10, 13, 25⟩] ⟨0, 10, 17, 13⟩ [] (hT.trans rfl) (List.forall_mem_cons.mpr ⟨Or.inr ⟨by decide, "java/lang/IndexOutOfBoundsException", C.1.2.2.2.2 (.classLink RL 25 "java/lang/IndexOutOfBoundsException") (by decide +kernel), C.2.2.2.2.2.1.2.2.2.2.2.2.2.2.2.2.2.2.2.2.2.2.2.2.2.2.2.2.2.2.2.2.2.2.2.2.2.2.2.2.2.2.2.2.1⟩, fun _ h => nomatch h⟩) (by decide) (by decide) (C.1.2.2.2.2 (.classLink RL 13 "java/lang/IllegalArgumentException") (by decide +kernel)) (va_Nw.use rfl C.2.2.2.2.2.1.2.2.2.2.2.1) hce hcv hcl ?_
  refine lv_astore (lv' := [(4, .ref q9), (0, .ref (g.2.1 0)), (1, .int x1), (2, .int x2), (3, .ref o)]) hx hb dL_copperTold_17 hl (by decide) rfl (fun ls hl => ?_)
  refine lv_iconst (v := 2) hx hb dL_copperTold_19 (by decide) ?_
  exact r_iret C hA dL_copperTold_20
abbrev rmL_feast : Room := { frames := 9, cells := 1, slots := 6, locals := 164 }
theorem nd_L_feast : yL_feast.cls ≠ "java/lang/invoke/MethodHandle" ∧ yL_feast.cls ≠ "java/lang/invoke/VarHandle" ∧ (parseMethodDescriptor yL_feast.desc).map (fun d => d.parameters.length) = some 6 := by decide +kernel
set_option maxHeartbeats 4000000 in
set_option maxRecDepth 100000 in
theorem k_L_feast {l : Launch} {g : Gm} {fu : Nat} {σ τ : SS} {x1 x2 x3 x4 : Int32} {o : Nat} {f : Nat → Int64} {v0 : Int32} (hlt : l.stackTraces = false) (h : f_X7_feast fu σ x1 x2 x3 x4 = some (.inl v0, τ)) (sz : Nat) : Met l yL_feast wsL_feast rmL_feast (Pw g (wX g σ ++ oc g o f) [.ref (g.2.1 0), .int x1, .int x2, .int x3, .int x4, .ref o] sz) (Qi g (va_A (wX g σ ++ oc g o f) sz) (wX g τ ++ oc g o (vp_updL f (0 : Int32).toNatClampNeg v0.toInt64)) 0) 1 6 (va_A (wX g σ ++ oc g o f) sz) := by
  refine ofH (own := RL) hlt (by decide) rfl rfl (Nat.le_of_ble_eq_true rfl) (fun p e s m below meth c hsz C hT hA ls hl => ?_)
  have hx := C.1.1
  have hb := C.1.2.1
  have hl : lv_has ls 7 [(0, .ref (g.2.1 0)), (1, .int x1), (2, .int x2), (3, .int x3), (4, .int x4), (5, .ref o)] := hl
  refine lv_aload hx hb dL_feast_0 (lv_at hl 5 rfl) ?_
  refine lv_iconst (v := 0) hx hb dL_feast_2 (by decide) ?_
  refine lv_aload_n hx hb dL_feast_3 rfl (lv_at hl 0 rfl) ?_
  refine lv_iload_n hx hb dL_feast_4 rfl (lv_at hl 1 rfl) ?_
  refine lv_iload_n hx hb dL_feast_5 rfl (lv_at hl 2 rfl) ?_
  refine lv_iload_n hx hb dL_feast_6 rfl (lv_at hl 3 rfl) ?_
  refine lv_iload hx hb dL_feast_7 (lv_at hl 4 rfl) ?_
  refine r_fVi (r := v0) (w := wX g σ) (w1 := wX g τ) (wr := oc g o f) (As := [.int x1, .int x2, .int x3, .int x4]) (rest := [.int 0, .ref o]) C hA hl.1 (k_X7_feast C.2.2.2.2.2.2 h) (cwV 4 C.1.2.2.2.2 gL_feast_X7_feast rfl rfl rfl nd_X7_feast ⟨Nat.le_of_ble_eq_true rfl, Nat.le_of_ble_eq_true rfl⟩) 0 rfl rfl rfl rfl (Nat.le_of_ble_eq_true rfl) dL_feast_9 ⟨Nat.le_of_ble_eq_true rfl, Nat.le_of_ble_eq_true rfl⟩ (fun H locs hA => ?_)
  refine lv_i2l hx hb dL_feast_12 rfl ?_
  refine r_last (w1 := (wX g τ ++ oc g o (vp_updL f (0 : Int32).toNatClampNeg v0.toInt64))) C hA 44 1 rfl rfl (by decide) dL_feast_13 rfl (fun H locs hA => ?_)
  refine lv_goto (tgt := 29) hx hb dL_feast_14 (by decide) ?_
  refine lv_iconst (v := 0) hx hb dL_feast_29 (by decide) ?_
  refine W.widen (k := 1) (n := 6) (Nat.le_of_ble_eq_true rfl) (Nat.le_of_ble_eq_true rfl) ?_
  exact r_iret C hA dL_feast_30
set_option maxHeartbeats 4000000 in
set_option maxRecDepth 100000 in
theorem k_L_feast_t2 {l : Launch} {g : Gm} {fu : Nat} {σ τ : SS} {x1 x2 x3 x4 : Int32} {o : Nat} {f : Nat → Int64}  (hlt : l.stackTraces = false) (h : f_X7_feast fu σ x1 x2 x3 x4 = some (.inr 2, τ)) (sz : Nat) : Met l yL_feast wsL_feast rmL_feast (Pw g (wX g σ ++ oc g o f) [.ref (g.2.1 0), .int x1, .int x2, .int x3, .int x4, .ref o] sz) (Qi g (va_A (wX g σ ++ oc g o f) sz) (wX g τ ++ oc g o f) 1) 1 6 (va_A (wX g σ ++ oc g o f) sz) := by
  refine ofH (own := RL) hlt (by decide) rfl rfl (Nat.le_of_ble_eq_true rfl) (fun p e s m below meth c hsz C hT hA ls hl => ?_)
  have hx := C.1.1
  have hb := C.1.2.1
  have hl : lv_has ls 7 [(0, .ref (g.2.1 0)), (1, .int x1), (2, .int x2), (3, .int x3), (4, .int x4), (5, .ref o)] := hl
  refine lv_aload hx hb dL_feast_0 (lv_at hl 5 rfl) ?_
  refine lv_iconst (v := 0) hx hb dL_feast_2 (by decide) ?_
  refine lv_aload_n hx hb dL_feast_3 rfl (lv_at hl 0 rfl) ?_
  refine lv_iload_n hx hb dL_feast_4 rfl (lv_at hl 1 rfl) ?_
  refine lv_iload_n hx hb dL_feast_5 rfl (lv_at hl 2 rfl) ?_
  refine lv_iload_n hx hb dL_feast_6 rfl (lv_at hl 3 rfl) ?_
  refine lv_iload hx hb dL_feast_7 (lv_at hl 4 rfl) ?_
  refine r_fXi (j := 2) (w := wX g σ) (w1 := wX g τ) (wr := oc g o f) (As := [.int x1, .int x2, .int x3, .int x4]) (rest := [.int 0, .ref o]) C hA hl.1 (kx_X7_feast C.2.2.2.2.2.2 h) (cwV 4 C.1.2.2.2.2 gL_feast_X7_feast rfl rfl rfl nd_X7_feast ⟨Nat.le_of_ble_eq_true rfl, Nat.le_of_ble_eq_true rfl⟩) 0 rfl rfl rfl rfl (Nat.le_of_ble_eq_true rfl) dL_feast_9 ⟨Nat.le_of_ble_eq_true rfl, Nat.le_of_ble_eq_true rfl⟩ (fun q9 ce H locs hA hce hcv hcl => ?_)
  refine vx_catch (own := RL) (name := "java/lang/IndexOutOfBoundsException") (E := "java/lang/IndexOutOfBoundsException") C.1.2.2.2.1 [] ⟨0, 14, 17, 25⟩ [⟨0, 14, 21, 13⟩, ⟨0, 14, 25, 15⟩] (hT.trans rfl) (fun _ h => nomatch h) (by decide) (by decide) (C.1.2.2.2.2 (.classLink RL 25 "java/lang/IndexOutOfBoundsException") (by decide +kernel)) (va_Nw.use rfl C.2.2.2.2.2.1.2.2.2.2.2.2.2.1) hce hcv hcl ?_
  refine lv_astore (lv' := [(6, .ref q9), (0, .ref (g.2.1 0)), (1, .int x1), (2, .int x2), (3, .int x3), (4, .int x4), (5, .ref o)]) hx hb dL_feast_17 hl (by decide) rfl (fun ls hl => ?_)
  refine lv_iconst (v := 1) hx hb dL_feast_19 (by decide) ?_
  exact r_iret C hA dL_feast_20
set_option maxHeartbeats 4000000 in
set_option maxRecDepth 100000 in
theorem k_L_feast_t0 {l : Launch} {g : Gm} {fu : Nat} {σ τ : SS} {x1 x2 x3 x4 : Int32} {o : Nat} {f : Nat → Int64}  (hlt : l.stackTraces = false) (h : f_X7_feast fu σ x1 x2 x3 x4 = some (.inr 0, τ)) (sz : Nat) : Met l yL_feast wsL_feast rmL_feast (Pw g (wX g σ ++ oc g o f) [.ref (g.2.1 0), .int x1, .int x2, .int x3, .int x4, .ref o] sz) (Qi g (va_A (wX g σ ++ oc g o f) sz) (wX g τ ++ oc g o f) 2) 1 6 (va_A (wX g σ ++ oc g o f) sz) := by
  refine ofH (own := RL) hlt (by decide) rfl rfl (Nat.le_of_ble_eq_true rfl) (fun p e s m below meth c hsz C hT hA ls hl => ?_)
  have hx := C.1.1
  have hb := C.1.2.1
  have hl : lv_has ls 7 [(0, .ref (g.2.1 0)), (1, .int x1), (2, .int x2), (3, .int x3), (4, .int x4), (5, .ref o)] := hl
  refine lv_aload hx hb dL_feast_0 (lv_at hl 5 rfl) ?_
  refine lv_iconst (v := 0) hx hb dL_feast_2 (by decide) ?_
  refine lv_aload_n hx hb dL_feast_3 rfl (lv_at hl 0 rfl) ?_
  refine lv_iload_n hx hb dL_feast_4 rfl (lv_at hl 1 rfl) ?_
  refine lv_iload_n hx hb dL_feast_5 rfl (lv_at hl 2 rfl) ?_
  refine lv_iload_n hx hb dL_feast_6 rfl (lv_at hl 3 rfl) ?_
  refine lv_iload hx hb dL_feast_7 (lv_at hl 4 rfl) ?_
  refine r_fXi (j := 0) (w := wX g σ) (w1 := wX g τ) (wr := oc g o f) (As := [.int x1, .int x2, .int x3, .int x4]) (rest := [.int 0, .ref o]) C hA hl.1 (kx_X7_feast C.2.2.2.2.2.2 h) (cwV 4 C.1.2.2.2.2 gL_feast_X7_feast rfl rfl rfl nd_X7_feast ⟨Nat.le_of_ble_eq_true rfl, Nat.le_of_ble_eq_true rfl⟩) 0 rfl rfl rfl rfl (Nat.le_of_ble_eq_true rfl) dL_feast_9 ⟨Nat.le_of_ble_eq_true rfl, Nat.le_of_ble_eq_true rfl⟩ (fun q9 ce H locs hA hce hcv hcl => ?_)
  refine vx_catch (own := RL) (name := "java/lang/IllegalArgumentException") (E := "java/lang/IllegalArgumentException") C.1.2.2.2.1 [⟨0, 14, 17, 25⟩] ⟨0, 14, 21, 13⟩ [⟨0, 14, 25, 15⟩] (hT.trans rfl) (List.forall_mem_cons.mpr ⟨Or.inr ⟨by decide, "java/lang/IndexOutOfBoundsException", C.1.2.2.2.2 (.classLink RL 25 "java/lang/IndexOutOfBoundsException") (by decide +kernel), C.2.2.2.2.2.1.2.2.2.2.2.2.2.2.2.2.2.2.2.2.2.2.2.2.2.2.2.2.2.2.2.2.2.2.2.2.2.2.2.2.2.2.2.2.1⟩, fun _ h => nomatch h⟩) (by decide) (by decide) (C.1.2.2.2.2 (.classLink RL 13 "java/lang/IllegalArgumentException") (by decide +kernel)) (va_Nw.use rfl C.2.2.2.2.2.1.2.2.2.2.2.1) hce hcv hcl ?_
  refine lv_astore (lv' := [(6, .ref q9), (0, .ref (g.2.1 0)), (1, .int x1), (2, .int x2), (3, .int x3), (4, .int x4), (5, .ref o)]) hx hb dL_feast_21 hl (by decide) rfl (fun ls hl => ?_)
  refine lv_iconst (v := 2) hx hb dL_feast_23 (by decide) ?_
  exact r_iret C hA dL_feast_24
set_option maxHeartbeats 4000000 in
set_option maxRecDepth 100000 in
theorem k_L_feast_t1 {l : Launch} {g : Gm} {fu : Nat} {σ τ : SS} {x1 x2 x3 x4 : Int32} {o : Nat} {f : Nat → Int64}  (hlt : l.stackTraces = false) (h : f_X7_feast fu σ x1 x2 x3 x4 = some (.inr 1, τ)) (sz : Nat) : Met l yL_feast wsL_feast rmL_feast (Pw g (wX g σ ++ oc g o f) [.ref (g.2.1 0), .int x1, .int x2, .int x3, .int x4, .ref o] sz) (Qi g (va_A (wX g σ ++ oc g o f) sz) (wX g τ ++ oc g o f) 3) 1 6 (va_A (wX g σ ++ oc g o f) sz) := by
  refine ofH (own := RL) hlt (by decide) rfl rfl (Nat.le_of_ble_eq_true rfl) (fun p e s m below meth c hsz C hT hA ls hl => ?_)
  have hx := C.1.1
  have hb := C.1.2.1
  have hl : lv_has ls 7 [(0, .ref (g.2.1 0)), (1, .int x1), (2, .int x2), (3, .int x3), (4, .int x4), (5, .ref o)] := hl
  refine lv_aload hx hb dL_feast_0 (lv_at hl 5 rfl) ?_
  refine lv_iconst (v := 0) hx hb dL_feast_2 (by decide) ?_
  refine lv_aload_n hx hb dL_feast_3 rfl (lv_at hl 0 rfl) ?_
  refine lv_iload_n hx hb dL_feast_4 rfl (lv_at hl 1 rfl) ?_
  refine lv_iload_n hx hb dL_feast_5 rfl (lv_at hl 2 rfl) ?_
  refine lv_iload_n hx hb dL_feast_6 rfl (lv_at hl 3 rfl) ?_
  refine lv_iload hx hb dL_feast_7 (lv_at hl 4 rfl) ?_
  refine r_fXi (j := 1) (w := wX g σ) (w1 := wX g τ) (wr := oc g o f) (As := [.int x1, .int x2, .int x3, .int x4]) (rest := [.int 0, .ref o]) C hA hl.1 (kx_X7_feast C.2.2.2.2.2.2 h) (cwV 4 C.1.2.2.2.2 gL_feast_X7_feast rfl rfl rfl nd_X7_feast ⟨Nat.le_of_ble_eq_true rfl, Nat.le_of_ble_eq_true rfl⟩) 0 rfl rfl rfl rfl (Nat.le_of_ble_eq_true rfl) dL_feast_9 ⟨Nat.le_of_ble_eq_true rfl, Nat.le_of_ble_eq_true rfl⟩ (fun q9 ce H locs hA hce hcv hcl => ?_)
  refine vx_catch (own := RL) (name := "java/lang/IllegalStateException") (E := "java/lang/IllegalStateException") C.1.2.2.2.1 [⟨0, 14, 17, 25⟩, ⟨0, 14, 21, 13⟩] ⟨0, 14, 25, 15⟩ [] (hT.trans rfl) (List.forall_mem_cons.mpr ⟨Or.inr ⟨by decide, "java/lang/IndexOutOfBoundsException", C.1.2.2.2.2 (.classLink RL 25 "java/lang/IndexOutOfBoundsException") (by decide +kernel), C.2.2.2.2.2.1.2.2.2.2.2.2.2.2.2.2.2.2.2.2.2.2.2.2.2.2.2.2.2.2.2.2.2.2.2.2.2.2.2.2.2.2.2.2.2.1⟩, List.forall_mem_cons.mpr ⟨Or.inr ⟨by decide, "java/lang/IllegalArgumentException", C.1.2.2.2.2 (.classLink RL 13 "java/lang/IllegalArgumentException") (by decide +kernel), C.2.2.2.2.2.1.2.2.2.2.2.2.2.2.2.2.2.2.2.2.2.2.2.2.2.2.2.2.2.2.2.2.2.2.2.2.2.2.2.2.2.2.2.2.2.2.1⟩, fun _ h => nomatch h⟩⟩) (by decide) (by decide) (C.1.2.2.2.2 (.classLink RL 15 "java/lang/IllegalStateException") (by decide +kernel)) (va_Nw.use rfl C.2.2.2.2.2.1.2.2.2.2.2.2.1) hce hcv hcl ?_
  refine lv_astore (lv' := [(6, .ref q9), (0, .ref (g.2.1 0)), (1, .int x1), (2, .int x2), (3, .int x3), (4, .int x4), (5, .ref o)]) hx hb dL_feast_25 hl (by decide) rfl (fun ls hl => ?_)
  refine lv_iconst (v := 3) hx hb dL_feast_27 (by decide) ?_
  exact r_iret C hA dL_feast_28
abbrev rmL_died : Room := { frames := 8, cells := 1, slots := 6, locals := 133 }
theorem nd_L_died : yL_died.cls ≠ "java/lang/invoke/MethodHandle" ∧ yL_died.cls ≠ "java/lang/invoke/VarHandle" ∧ (parseMethodDescriptor yL_died.desc).map (fun d => d.parameters.length) = some 4 := by decide +kernel
set_option maxHeartbeats 4000000 in
set_option maxRecDepth 100000 in
theorem k_L_died {l : Launch} {g : Gm} {fu : Nat} {σ τ : SS} {x1 x2 : Int32} {o : Nat} {f : Nat → Int64} {v0 : Int32} (hlt : l.stackTraces = false) (h : f_X7_died fu σ x1 x2 = some (.inl v0, τ)) (sz : Nat) : Met l yL_died wsL_died rmL_died (Pw g (wX g σ ++ oc g o f) [.ref (g.2.1 0), .int x1, .int x2, .ref o] sz) (Qi g (va_A (wX g σ ++ oc g o f) sz) (wX g τ ++ oc g o (vp_updL f (0 : Int32).toNatClampNeg v0.toInt64)) 0) 1 6 (va_A (wX g σ ++ oc g o f) sz) := by
  refine ofH (own := RL) hlt (by decide) rfl rfl (Nat.le_of_ble_eq_true rfl) (fun p e s m below meth c hsz C hT hA ls hl => ?_)
  have hx := C.1.1
  have hb := C.1.2.1
  have hl : lv_has ls 5 [(0, .ref (g.2.1 0)), (1, .int x1), (2, .int x2), (3, .ref o)] := hl
  refine lv_aload_n hx hb dL_died_0 rfl (lv_at hl 3 rfl) ?_
  refine lv_iconst (v := 0) hx hb dL_died_1 (by decide) ?_
  refine lv_aload_n hx hb dL_died_2 rfl (lv_at hl 0 rfl) ?_
  refine lv_iload_n hx hb dL_died_3 rfl (lv_at hl 1 rfl) ?_
  refine lv_iload_n hx hb dL_died_4 rfl (lv_at hl 2 rfl) ?_
  refine r_fVi (r := v0) (w := wX g σ) (w1 := wX g τ) (wr := oc g o f) (As := [.int x1, .int x2]) (rest := [.int 0, .ref o]) C hA hl.1 (k_X7_died C.2.2.2.2.2.2 h) (cwV 2 C.1.2.2.2.2 gL_died_X7_died rfl rfl rfl nd_X7_died ⟨Nat.le_of_ble_eq_true rfl, Nat.le_of_ble_eq_true rfl⟩) 0 rfl rfl rfl rfl (Nat.le_of_ble_eq_true rfl) dL_died_5 ⟨Nat.le_of_ble_eq_true rfl, Nat.le_of_ble_eq_true rfl⟩ (fun H locs hA => ?_)
  refine lv_i2l hx hb dL_died_8 rfl ?_
  refine r_last (w1 := (wX g τ ++ oc g o (vp_updL f (0 : Int32).toNatClampNeg v0.toInt64))) C hA 44 1 rfl rfl (by decide) dL_died_9 rfl (fun H locs hA => ?_)
  refine lv_goto (tgt := 25) hx hb dL_died_10 (by decide) ?_
  refine lv_iconst (v := 0) hx hb dL_died_25 (by decide) ?_
  refine W.widen (k := 1) (n := 6) (Nat.le_of_ble_eq_true rfl) (Nat.le_of_ble_eq_true rfl) ?_
  exact r_iret C hA dL_died_26
set_option maxHeartbeats 4000000 in
set_option maxRecDepth 100000 in
theorem k_L_died_t2 {l : Launch} {g : Gm} {fu : Nat} {σ τ : SS} {x1 x2 : Int32} {o : Nat} {f : Nat → Int64}  (hlt : l.stackTraces = false) (h : f_X7_died fu σ x1 x2 = some (.inr 2, τ)) (sz : Nat) : Met l yL_died wsL_died rmL_died (Pw g (wX g σ ++ oc g o f) [.ref (g.2.1 0), .int x1, .int x2, .ref o] sz) (Qi g (va_A (wX g σ ++ oc g o f) sz) (wX g τ ++ oc g o f) 1) 1 6 (va_A (wX g σ ++ oc g o f) sz) := by
  refine ofH (own := RL) hlt (by decide) rfl rfl (Nat.le_of_ble_eq_true rfl) (fun p e s m below meth c hsz C hT hA ls hl => ?_)
  have hx := C.1.1
  have hb := C.1.2.1
  have hl : lv_has ls 5 [(0, .ref (g.2.1 0)), (1, .int x1), (2, .int x2), (3, .ref o)] := hl
  refine lv_aload_n hx hb dL_died_0 rfl (lv_at hl 3 rfl) ?_
  refine lv_iconst (v := 0) hx hb dL_died_1 (by decide) ?_
  refine lv_aload_n hx hb dL_died_2 rfl (lv_at hl 0 rfl) ?_
  refine lv_iload_n hx hb dL_died_3 rfl (lv_at hl 1 rfl) ?_
  refine lv_iload_n hx hb dL_died_4 rfl (lv_at hl 2 rfl) ?_
  refine r_fXi (j := 2) (w := wX g σ) (w1 := wX g τ) (wr := oc g o f) (As := [.int x1, .int x2]) (rest := [.int 0, .ref o]) C hA hl.1 (kx_X7_died C.2.2.2.2.2.2 h) (cwV 2 C.1.2.2.2.2 gL_died_X7_died rfl rfl rfl nd_X7_died ⟨Nat.le_of_ble_eq_true rfl, Nat.le_of_ble_eq_true rfl⟩) 0 rfl rfl rfl rfl (Nat.le_of_ble_eq_true rfl) dL_died_5 ⟨Nat.le_of_ble_eq_true rfl, Nat.le_of_ble_eq_true rfl⟩ (fun q9 ce H locs hA hce hcv hcl => ?_)
  refine vx_catch (own := RL) (name := "java/lang/IndexOutOfBoundsException") (E := "java/lang/IndexOutOfBoundsException") C.1.2.2.2.1 [] ⟨0, 10, 13, 25⟩ [⟨0, 10, 17, 13⟩, ⟨0, 10, 21, 15⟩] (hT.trans rfl) (fun _ h => nomatch h) (by decide) (by decide) (C.1.2.2.2.2 (.classLink RL 25 "java/lang/IndexOutOfBoundsException") (by decide +kernel)) (va_Nw.use rfl C.2.2.2.2.2.1.2.2.2.2.2.2.2.1) hce hcv hcl ?_
  refine lv_astore (lv' := [(4, .ref q9), (0, .ref (g.2.1 0)), (1, .int x1), (2, .int x2), (3, .ref o)]) hx hb dL_died_13 hl (by decide) rfl (fun ls hl => ?_)
  refine lv_iconst (v := 1) hx hb dL_died_15 (by decide) ?_
  exact r_iret C hA dL_died_16
set_option maxHeartbeats 4000000 in
set_option maxRecDepth 100000 in
theorem k_L_died_t0 {l : Launch} {g : Gm} {fu : Nat} {σ τ : SS} {x1 x2 : Int32} {o : Nat} {f : Nat → Int64}  (hlt : l.stackTraces = false) (h : f_X7_died fu σ x1 x2 = some (.inr 0, τ)) (sz : Nat) : Met l yL_died wsL_died rmL_died (Pw g (wX g σ ++ oc g o f) [.ref (g.2.1 0), .int x1, .int x2, .ref o] sz) (Qi g (va_A (wX g σ ++ oc g o f) sz) (wX g τ ++ oc g o f) 2) 1 6 (va_A (wX g σ ++ oc g o f) sz) := by
  refine ofH (own := RL) hlt (by decide) rfl rfl (Nat.le_of_ble_eq_true rfl) (fun p e s m below meth c hsz C hT hA ls hl => ?_)
  have hx := C.1.1
  have hb := C.1.2.1
  have hl : lv_has ls 5 [(0, .ref (g.2.1 0)), (1, .int x1), (2, .int x2), (3, .ref o)] := hl
  refine lv_aload_n hx hb dL_died_0 rfl (lv_at hl 3 rfl) ?_
  refine lv_iconst (v := 0) hx hb dL_died_1 (by decide) ?_
  refine lv_aload_n hx hb dL_died_2 rfl (lv_at hl 0 rfl) ?_
  refine lv_iload_n hx hb dL_died_3 rfl (lv_at hl 1 rfl) ?_
  refine lv_iload_n hx hb dL_died_4 rfl (lv_at hl 2 rfl) ?_
  refine r_fXi (j := 0) (w := wX g σ) (w1 := wX g τ) (wr := oc g o f) (As := [.int x1, .int x2]) (rest := [.int 0, .ref o]) C hA hl.1 (kx_X7_died C.2.2.2.2.2.2 h) (cwV 2 C.1.2.2.2.2 gL_died_X7_died rfl rfl rfl nd_X7_died ⟨Nat.le_of_ble_eq_true rfl, Nat.le_of_ble_eq_true rfl⟩) 0 rfl rfl rfl rfl (Nat.le_of_ble_eq_true rfl) dL_died_5 ⟨Nat.le_of_ble_eq_true rfl, Nat.le_of_ble_eq_true rfl⟩ (fun q9 ce H locs hA hce hcv hcl => ?_)
  refine vx_catch (own := RL) (name := "java/lang/IllegalArgumentException") (E := "java/lang/IllegalArgumentException") C.1.2.2.2.1 [⟨0, 10, 13, 25⟩] ⟨0, 10, 17, 13⟩ [⟨0, 10, 21, 15⟩] (hT.trans rfl) (List.forall_mem_cons.mpr ⟨Or.inr ⟨by decide, "java/lang/IndexOutOfBoundsException", C.1.2.2.2.2 (.classLink RL 25 "java/lang/IndexOutOfBoundsException") (by decide +kernel), C.2.2.2.2.2.1.2.2.2.2.2.2.2.2.2.2.2.2.2.2.2.2.2.2.2.2.2.2.2.2.2.2.2.2.2.2.2.2.2.2.2.2.2.2.1⟩, fun _ h => nomatch h⟩) (by decide) (by decide) (C.1.2.2.2.2 (.classLink RL 13 "java/lang/IllegalArgumentException") (by decide +kernel)) (va_Nw.use rfl C.2.2.2.2.2.1.2.2.2.2.2.1) hce hcv hcl ?_
  refine lv_astore (lv' := [(4, .ref q9), (0, .ref (g.2.1 0)), (1, .int x1), (2, .int x2), (3, .ref o)]) hx hb dL_died_17 hl (by decide) rfl (fun ls hl => ?_)
  refine lv_iconst (v := 2) hx hb dL_died_19 (by decide) ?_
  exact r_iret C hA dL_died_20
set_option maxHeartbeats 4000000 in
set_option maxRecDepth 100000 in
theorem k_L_died_t1 {l : Launch} {g : Gm} {fu : Nat} {σ τ : SS} {x1 x2 : Int32} {o : Nat} {f : Nat → Int64}  (hlt : l.stackTraces = false) (h : f_X7_died fu σ x1 x2 = some (.inr 1, τ)) (sz : Nat) : Met l yL_died wsL_died rmL_died (Pw g (wX g σ ++ oc g o f) [.ref (g.2.1 0), .int x1, .int x2, .ref o] sz) (Qi g (va_A (wX g σ ++ oc g o f) sz) (wX g τ ++ oc g o f) 3) 1 6 (va_A (wX g σ ++ oc g o f) sz) := by
  refine ofH (own := RL) hlt (by decide) rfl rfl (Nat.le_of_ble_eq_true rfl) (fun p e s m below meth c hsz C hT hA ls hl => ?_)
  have hx := C.1.1
  have hb := C.1.2.1
  have hl : lv_has ls 5 [(0, .ref (g.2.1 0)), (1, .int x1), (2, .int x2), (3, .ref o)] := hl
  refine lv_aload_n hx hb dL_died_0 rfl (lv_at hl 3 rfl) ?_
  refine lv_iconst (v := 0) hx hb dL_died_1 (by decide) ?_
  refine lv_aload_n hx hb dL_died_2 rfl (lv_at hl 0 rfl) ?_
  refine lv_iload_n hx hb dL_died_3 rfl (lv_at hl 1 rfl) ?_
  refine lv_iload_n hx hb dL_died_4 rfl (lv_at hl 2 rfl) ?_
  refine r_fXi (j := 1) (w := wX g σ) (w1 := wX g τ) (wr := oc g o f) (As := [.int x1, .int x2]) (rest := [.int 0, .ref o]) C hA hl.1 (kx_X7_died C.2.2.2.2.2.2 h) (cwV 2 C.1.2.2.2.2 gL_died_X7_died rfl rfl rfl nd_X7_died ⟨Nat.le_of_ble_eq_true rfl, Nat.le_of_ble_eq_true rfl⟩) 0 rfl rfl rfl rfl (Nat.le_of_ble_eq_true rfl) dL_died_5 ⟨Nat.le_of_ble_eq_true rfl, Nat.le_of_ble_eq_true rfl⟩ (fun q9 ce H locs hA hce hcv hcl => ?_)
  refine vx_catch (own := RL) (name := "java/lang/IllegalStateException") (E := "java/lang/IllegalStateException") C.1.2.2.2.1 [⟨0, 10, 13, 25⟩, ⟨0, 10, 17, 13⟩] ⟨0, 10, 21, 15⟩ [] (hT.trans rfl) (List.forall_mem_cons.mpr ⟨Or.inr ⟨by decide, "java/lang/IndexOutOfBoundsException", C.1.2.2.2.2 (.classLink RL 25 "java/lang/IndexOutOfBoundsException") (by decide +kernel), C.2.2.2.2.2.1.2.2.2.2.2.2.2.2.2.2.2.2.2.2.2.2.2.2.2.2.2.2.2.2.2.2.2.2.2.2.2.2.2.2.2.2.2.2.2.1⟩, List.forall_mem_cons.mpr ⟨Or.inr ⟨by decide, "java/lang/IllegalArgumentException", C.1.2.2.2.2 (.classLink RL 13 "java/lang/IllegalArgumentException") (by decide +kernel), C.2.2.2.2.2.1.2.2.2.2.2.2.2.2.2.2.2.2.2.2.2.2.2.2.2.2.2.2.2.2.2.2.2.2.2.2.2.2.2.2.2.2.2.2.2.2.1⟩, fun _ h => nomatch h⟩⟩) (by decide) (by decide) (C.1.2.2.2.2 (.classLink RL 15 "java/lang/IllegalStateException") (by decide +kernel)) (va_Nw.use rfl C.2.2.2.2.2.1.2.2.2.2.2.2.1) hce hcv hcl ?_
  refine lv_astore (lv' := [(4, .ref q9), (0, .ref (g.2.1 0)), (1, .int x1), (2, .int x2), (3, .ref o)]) hx hb dL_died_21 hl (by decide) rfl (fun ls hl => ?_)
  refine lv_iconst (v := 3) hx hb dL_died_23 (by decide) ?_
  exact r_iret C hA dL_died_24
abbrev rmL_wait : Room := { frames := 7, cells := 1, slots := 6, locals := 112 }
theorem nd_L_wait : yL_wait.cls ≠ "java/lang/invoke/MethodHandle" ∧ yL_wait.cls ≠ "java/lang/invoke/VarHandle" ∧ (parseMethodDescriptor yL_wait.desc).map (fun d => d.parameters.length) = some 3 := by decide +kernel
set_option maxHeartbeats 4000000 in
set_option maxRecDepth 100000 in
theorem k_L_wait {l : Launch} {g : Gm} {fu : Nat} {σ τ : SS} {x1 : Int32} {o : Nat} {f : Nat → Int64} {v0 : Int32} (hlt : l.stackTraces = false) (h : f_X7_wait fu σ x1 = some (.inl v0, τ)) (sz : Nat) : Met l yL_wait wsL_wait rmL_wait (Pw g (wX g σ ++ oc g o f) [.ref (g.2.1 0), .int x1, .ref o] sz) (Qi g (va_A (wX g σ ++ oc g o f) sz) (wX g τ ++ oc g o (vp_updL f (0 : Int32).toNatClampNeg v0.toInt64)) 0) 1 6 (va_A (wX g σ ++ oc g o f) sz) := by
  refine ofH (own := RL) hlt (by decide) rfl rfl (Nat.le_of_ble_eq_true rfl) (fun p e s m below meth c hsz C hT hA ls hl => ?_)
  have hx := C.1.1
  have hb := C.1.2.1
  have hl : lv_has ls 4 [(0, .ref (g.2.1 0)), (1, .int x1), (2, .ref o)] := hl
  refine lv_aload_n hx hb dL_wait_0 rfl (lv_at hl 2 rfl) ?_
  refine lv_iconst (v := 0) hx hb dL_wait_1 (by decide) ?_
  refine lv_aload_n hx hb dL_wait_2 rfl (lv_at hl 0 rfl) ?_
  refine lv_iload_n hx hb dL_wait_3 rfl (lv_at hl 1 rfl) ?_
  refine r_fVi (r := v0) (w := wX g σ) (w1 := wX g τ) (wr := oc g o f) (As := [.int x1]) (rest := [.int 0, .ref o]) C hA hl.1 (k_X7_wait C.2.2.2.2.2.2 h) (cwV 1 C.1.2.2.2.2 gL_wait_X7_wait rfl rfl rfl nd_X7_wait ⟨Nat.le_of_ble_eq_true rfl, Nat.le_of_ble_eq_true rfl⟩) 0 rfl rfl rfl rfl (Nat.le_of_ble_eq_true rfl) dL_wait_4 ⟨Nat.le_of_ble_eq_true rfl, Nat.le_of_ble_eq_true rfl⟩ (fun H locs hA => ?_)
  refine lv_i2l hx hb dL_wait_7 rfl ?_
  refine r_last (w1 := (wX g τ ++ oc g o (vp_updL f (0 : Int32).toNatClampNeg v0.toInt64))) C hA 44 1 rfl rfl (by decide) dL_wait_8 rfl (fun H locs hA => ?_)
  refine lv_goto (tgt := 15) hx hb dL_wait_9 (by decide) ?_
  refine lv_iconst (v := 0) hx hb dL_wait_15 (by decide) ?_
  refine W.widen (k := 1) (n := 6) (Nat.le_of_ble_eq_true rfl) (Nat.le_of_ble_eq_true rfl) ?_
  exact r_iret C hA dL_wait_16
set_option maxHeartbeats 4000000 in
set_option maxRecDepth 100000 in
theorem k_L_wait_t0 {l : Launch} {g : Gm} {fu : Nat} {σ τ : SS} {x1 : Int32} {o : Nat} {f : Nat → Int64}  (hlt : l.stackTraces = false) (h : f_X7_wait fu σ x1 = some (.inr 0, τ)) (sz : Nat) : Met l yL_wait wsL_wait rmL_wait (Pw g (wX g σ ++ oc g o f) [.ref (g.2.1 0), .int x1, .ref o] sz) (Qi g (va_A (wX g σ ++ oc g o f) sz) (wX g τ ++ oc g o f) 1) 1 6 (va_A (wX g σ ++ oc g o f) sz) := by
  refine ofH (own := RL) hlt (by decide) rfl rfl (Nat.le_of_ble_eq_true rfl) (fun p e s m below meth c hsz C hT hA ls hl => ?_)
  have hx := C.1.1
  have hb := C.1.2.1
  have hl : lv_has ls 4 [(0, .ref (g.2.1 0)), (1, .int x1), (2, .ref o)] := hl
  refine lv_aload_n hx hb dL_wait_0 rfl (lv_at hl 2 rfl) ?_
  refine lv_iconst (v := 0) hx hb dL_wait_1 (by decide) ?_
  refine lv_aload_n hx hb dL_wait_2 rfl (lv_at hl 0 rfl) ?_
  refine lv_iload_n hx hb dL_wait_3 rfl (lv_at hl 1 rfl) ?_
  refine r_fXi (j := 0) (w := wX g σ) (w1 := wX g τ) (wr := oc g o f) (As := [.int x1]) (rest := [.int 0, .ref o]) C hA hl.1 (kx_X7_wait C.2.2.2.2.2.2 h) (cwV 1 C.1.2.2.2.2 gL_wait_X7_wait rfl rfl rfl nd_X7_wait ⟨Nat.le_of_ble_eq_true rfl, Nat.le_of_ble_eq_true rfl⟩) 0 rfl rfl rfl rfl (Nat.le_of_ble_eq_true rfl) dL_wait_4 ⟨Nat.le_of_ble_eq_true rfl, Nat.le_of_ble_eq_true rfl⟩ (fun q9 ce H locs hA hce hcv hcl => ?_)
  refine vx_catch (own := RL) (name := "java/lang/IllegalArgumentException") (E := "java/lang/IllegalArgumentException") C.1.2.2.2.1 [] ⟨0, 9, 12, 13⟩ [] (hT.trans rfl) (fun _ h => nomatch h) (by decide) (by decide) (C.1.2.2.2.2 (.classLink RL 13 "java/lang/IllegalArgumentException") (by decide +kernel)) (va_Nw.use rfl C.2.2.2.2.2.1.2.2.2.2.2.1) hce hcv hcl ?_
  refine lv_astore_n (lv' := [(3, .ref q9), (0, .ref (g.2.1 0)), (1, .int x1), (2, .ref o)]) hx hb dL_wait_12 rfl hl (by decide) rfl (fun ls hl => ?_)
  refine lv_iconst (v := 1) hx hb dL_wait_13 (by decide) ?_
  exact r_iret C hA dL_wait_14
abbrev rmL_debt : Room := { frames := 7, cells := 1, slots := 6, locals := 112 }
theorem nd_L_debt : yL_debt.cls ≠ "java/lang/invoke/MethodHandle" ∧ yL_debt.cls ≠ "java/lang/invoke/VarHandle" ∧ (parseMethodDescriptor yL_debt.desc).map (fun d => d.parameters.length) = some 4 := by decide +kernel
set_option maxHeartbeats 4000000 in
set_option maxRecDepth 100000 in
theorem k_L_debt {l : Launch} {g : Gm} {fu : Nat} {σ : SS} {x1 x2 : Int32} {o : Nat} {f : Nat → Int64} {v0 : Int32} (hlt : l.stackTraces = false) (h : f_X7_debt fu σ x1 x2 = some (.inl v0)) (sz : Nat) : Met l yL_debt wsL_debt rmL_debt (Pw g (wX g σ ++ oc g o f) [.ref (g.2.1 0), .int x1, .int x2, .ref o] sz) (Qi g (va_A (wX g σ ++ oc g o f) sz) (wX g σ ++ oc g o (vp_updL f (0 : Int32).toNatClampNeg v0.toInt64)) 0) 1 6 (va_A (wX g σ ++ oc g o f) sz) := by
  refine ofH (own := RL) hlt (by decide) rfl rfl (Nat.le_of_ble_eq_true rfl) (fun p e s m below meth c hsz C hT hA ls hl => ?_)
  have hx := C.1.1
  have hb := C.1.2.1
  have hl : lv_has ls 5 [(0, .ref (g.2.1 0)), (1, .int x1), (2, .int x2), (3, .ref o)] := hl
  refine lv_aload_n hx hb dL_debt_0 rfl (lv_at hl 3 rfl) ?_
  refine lv_iconst (v := 0) hx hb dL_debt_1 (by decide) ?_
  refine lv_aload_n hx hb dL_debt_2 rfl (lv_at hl 0 rfl) ?_
  refine lv_iload_n hx hb dL_debt_3 rfl (lv_at hl 1 rfl) ?_
  refine lv_iload_n hx hb dL_debt_4 rfl (lv_at hl 2 rfl) ?_
  refine r_fVi (r := v0) (w := wX g σ) (w1 := wX g σ) (wr := oc g o f) (As := [.int x1, .int x2]) (rest := [.int 0, .ref o]) C hA hl.1 (k_X7_debt C.2.2.2.2.2.2 h) (cwV 2 C.1.2.2.2.2 gL_debt_X7_debt rfl rfl rfl nd_X7_debt ⟨Nat.le_of_ble_eq_true rfl, Nat.le_of_ble_eq_true rfl⟩) 0 rfl rfl rfl rfl (Nat.le_of_ble_eq_true rfl) dL_debt_5 ⟨Nat.le_of_ble_eq_true rfl, Nat.le_of_ble_eq_true rfl⟩ (fun H locs hA => ?_)
  refine lv_i2l hx hb dL_debt_8 rfl ?_
  refine r_last (w1 := (wX g σ ++ oc g o (vp_updL f (0 : Int32).toNatClampNeg v0.toInt64))) C hA 44 1 rfl rfl (by decide) dL_debt_9 rfl (fun H locs hA => ?_)
  refine lv_goto (tgt := 21) hx hb dL_debt_10 (by decide) ?_
  refine lv_iconst (v := 0) hx hb dL_debt_21 (by decide) ?_
  refine W.widen (k := 1) (n := 6) (Nat.le_of_ble_eq_true rfl) (Nat.le_of_ble_eq_true rfl) ?_
  exact r_iret C hA dL_debt_22
set_option maxHeartbeats 4000000 in
set_option maxRecDepth 100000 in
theorem k_L_debt_t2 {l : Launch} {g : Gm} {fu : Nat} {σ : SS} {x1 x2 : Int32} {o : Nat} {f : Nat → Int64}  (hlt : l.stackTraces = false) (h : f_X7_debt fu σ x1 x2 = some (.inr 2)) (sz : Nat) : Met l yL_debt wsL_debt rmL_debt (Pw g (wX g σ ++ oc g o f) [.ref (g.2.1 0), .int x1, .int x2, .ref o] sz) (Qi g (va_A (wX g σ ++ oc g o f) sz) (wX g σ ++ oc g o f) 1) 1 6 (va_A (wX g σ ++ oc g o f) sz) := by
  refine ofH (own := RL) hlt (by decide) rfl rfl (Nat.le_of_ble_eq_true rfl) (fun p e s m below meth c hsz C hT hA ls hl => ?_)
  have hx := C.1.1
  have hb := C.1.2.1
  have hl : lv_has ls 5 [(0, .ref (g.2.1 0)), (1, .int x1), (2, .int x2), (3, .ref o)] := hl
  refine lv_aload_n hx hb dL_debt_0 rfl (lv_at hl 3 rfl) ?_
  refine lv_iconst (v := 0) hx hb dL_debt_1 (by decide) ?_
  refine lv_aload_n hx hb dL_debt_2 rfl (lv_at hl 0 rfl) ?_
  refine lv_iload_n hx hb dL_debt_3 rfl (lv_at hl 1 rfl) ?_
  refine lv_iload_n hx hb dL_debt_4 rfl (lv_at hl 2 rfl) ?_
  refine r_fXi (j := 2) (w := wX g σ) (w1 := wX g σ) (wr := oc g o f) (As := [.int x1, .int x2]) (rest := [.int 0, .ref o]) C hA hl.1 (kx_X7_debt C.2.2.2.2.2.2 h) (cwV 2 C.1.2.2.2.2 gL_debt_X7_debt rfl rfl rfl nd_X7_debt ⟨Nat.le_of_ble_eq_true rfl, Nat.le_of_ble_eq_true rfl⟩) 0 rfl rfl rfl rfl (Nat.le_of_ble_eq_true rfl) dL_debt_5 ⟨Nat.le_of_ble_eq_true rfl, Nat.le_of_ble_eq_true rfl⟩ (fun q9 ce H locs hA hce hcv hcl => ?_)
  refine vx_catch (own := RL) (name := "java/lang/IndexOutOfBoundsException") (E := "java/lang/IndexOutOfBoundsException") C.1.2.2.2.1 [] ⟨0, 10, 13, 25⟩ [⟨0, 10, 17, 13⟩] (hT.trans rfl) (fun _ h => nomatch h) (by decide) (by decide) (C.1.2.2.2.2 (.classLink RL 25 "java/lang/IndexOutOfBoundsException") (by decide +kernel)) (va_Nw.use rfl C.2.2.2.2.2.1.2.2.2.2.2.2.2.1) hce hcv hcl ?_
  refine lv_astore (lv' := [(4, .ref q9), (0, .ref (g.2.1 0)), (1, .int x1), (2, .int x2), (3, .ref o)]) hx hb dL_debt_13 hl (by decide) rfl (fun ls hl => ?_)
  refine lv_iconst (v := 1) hx hb dL_debt_15 (by decide) ?_
  exact r_iret C hA dL_debt_16
set_option maxHeartbeats 4000000 in
set_option maxRecDepth 100000 in
theorem k_L_debt_t0 {l : Launch} {g : Gm} {fu : Nat} {σ : SS} {x1 x2 : Int32} {o : Nat} {f : Nat → Int64}  (hlt : l.stackTraces = false) (h : f_X7_debt fu σ x1 x2 = some (.inr 0)) (sz : Nat) : Met l yL_debt wsL_debt rmL_debt (Pw g (wX g σ ++ oc g o f) [.ref (g.2.1 0), .int x1, .int x2, .ref o] sz) (Qi g (va_A (wX g σ ++ oc g o f) sz) (wX g σ ++ oc g o f) 2) 1 6 (va_A (wX g σ ++ oc g o f) sz) := by
  refine ofH (own := RL) hlt (by decide) rfl rfl (Nat.le_of_ble_eq_true rfl) (fun p e s m below meth c hsz C hT hA ls hl => ?_)
  have hx := C.1.1
  have hb := C.1.2.1
  have hl : lv_has ls 5 [(0, .ref (g.2.1 0)), (1, .int x1), (2, .int x2), (3, .ref o)] := hl
  refine lv_aload_n hx hb dL_debt_0 rfl (lv_at hl 3 rfl) ?_
  refine lv_iconst (v := 0) hx hb dL_debt_1 (by decide) ?_
  refine lv_aload_n hx hb dL_debt_2 rfl (lv_at hl 0 rfl) ?_
  refine lv_iload_n hx hb dL_debt_3 rfl (lv_at hl 1 rfl) ?_
  refine lv_iload_n hx hb dL_debt_4 rfl (lv_at hl 2 rfl) ?_
  refine r_fXi (j := 0) (w := wX g σ) (w1 := wX g σ) (wr := oc g o f) (As := [.int x1, .int x2]) (rest := [.int 0, .ref o]) C hA hl.1 (kx_X7_debt C.2.2.2.2.2.2 h) (cwV 2 C.1.2.2.2.2 gL_debt_X7_debt rfl rfl rfl nd_X7_debt ⟨Nat.le_of_ble_eq_true rfl, Nat.le_of_ble_eq_true rfl⟩) 0 rfl rfl rfl rfl (Nat.le_of_ble_eq_true rfl) dL_debt_5 ⟨Nat.le_of_ble_eq_true rfl, Nat.le_of_ble_eq_true rfl⟩ (fun q9 ce H locs hA hce hcv hcl => ?_)
  refine vx_catch (own := RL) (name := "java/lang/IllegalArgumentException") (E := "java/lang/IllegalArgumentException") C.1.2.2.2.1 [⟨0, 10, 13, 25⟩] ⟨0, 10, 17, 13⟩ [] (hT.trans rfl) (List.forall_mem_cons.mpr ⟨Or.inr ⟨by decide, "java/lang/IndexOutOfBoundsException", C.1.2.2.2.2 (.classLink RL 25 "java/lang/IndexOutOfBoundsException") (by decide +kernel), C.2.2.2.2.2.1.2.2.2.2.2.2.2.2.2.2.2.2.2.2.2.2.2.2.2.2.2.2.2.2.2.2.2.2.2.2.2.2.2.2.2.2.2.2.1⟩, fun _ h => nomatch h⟩) (by decide) (by decide) (C.1.2.2.2.2 (.classLink RL 13 "java/lang/IllegalArgumentException") (by decide +kernel)) (va_Nw.use rfl C.2.2.2.2.2.1.2.2.2.2.2.1) hce hcv hcl ?_
  refine lv_astore (lv' := [(4, .ref q9), (0, .ref (g.2.1 0)), (1, .int x1), (2, .int x2), (3, .ref o)]) hx hb dL_debt_17 hl (by decide) rfl (fun ls hl => ?_)
  refine lv_iconst (v := 2) hx hb dL_debt_19 (by decide) ?_
  exact r_iret C hA dL_debt_20
abbrev rmL_about : Room := { frames := 8, cells := 1, slots := 6, locals := 133 }
theorem nd_L_about : yL_about.cls ≠ "java/lang/invoke/MethodHandle" ∧ yL_about.cls ≠ "java/lang/invoke/VarHandle" ∧ (parseMethodDescriptor yL_about.desc).map (fun d => d.parameters.length) = some 4 := by decide +kernel
set_option maxHeartbeats 4000000 in
set_option maxRecDepth 100000 in
theorem k_L_about {l : Launch} {g : Gm} {fu : Nat} {σ : SS} {x1 x2 : Int32} {o : Nat} {f : Nat → Int64} {v0 : Int32} (hlt : l.stackTraces = false) (h : f_X7_about fu σ x1 x2 = some (.inl v0)) (sz : Nat) : Met l yL_about wsL_about rmL_about (Pw g (wX g σ ++ oc g o f) [.ref (g.2.1 0), .int x1, .int x2, .ref o] sz) (Qi g (va_A (wX g σ ++ oc g o f) sz) (wX g σ ++ oc g o (vp_updL f (0 : Int32).toNatClampNeg v0.toInt64)) 0) 1 6 (va_A (wX g σ ++ oc g o f) sz) := by
  refine ofH (own := RL) hlt (by decide) rfl rfl (Nat.le_of_ble_eq_true rfl) (fun p e s m below meth c hsz C hT hA ls hl => ?_)
  have hx := C.1.1
  have hb := C.1.2.1
  have hl : lv_has ls 5 [(0, .ref (g.2.1 0)), (1, .int x1), (2, .int x2), (3, .ref o)] := hl
  refine lv_aload_n hx hb dL_about_0 rfl (lv_at hl 3 rfl) ?_
  refine lv_iconst (v := 0) hx hb dL_about_1 (by decide) ?_
  refine lv_aload_n hx hb dL_about_2 rfl (lv_at hl 0 rfl) ?_
  refine lv_iload_n hx hb dL_about_3 rfl (lv_at hl 1 rfl) ?_
  refine lv_iload_n hx hb dL_about_4 rfl (lv_at hl 2 rfl) ?_
  refine r_fVi (r := v0) (w := wX g σ) (w1 := wX g σ) (wr := oc g o f) (As := [.int x1, .int x2]) (rest := [.int 0, .ref o]) C hA hl.1 (k_X7_about C.2.2.2.2.2.2 h) (cwV 2 C.1.2.2.2.2 gL_about_X7_about rfl rfl rfl nd_X7_about ⟨Nat.le_of_ble_eq_true rfl, Nat.le_of_ble_eq_true rfl⟩) 0 rfl rfl rfl rfl (Nat.le_of_ble_eq_true rfl) dL_about_5 ⟨Nat.le_of_ble_eq_true rfl, Nat.le_of_ble_eq_true rfl⟩ (fun H locs hA => ?_)
  refine lv_i2l hx hb dL_about_8 rfl ?_
  refine r_last (w1 := (wX g σ ++ oc g o (vp_updL f (0 : Int32).toNatClampNeg v0.toInt64))) C hA 44 1 rfl rfl (by decide) dL_about_9 rfl (fun H locs hA => ?_)
  refine lv_goto (tgt := 21) hx hb dL_about_10 (by decide) ?_
  refine lv_iconst (v := 0) hx hb dL_about_21 (by decide) ?_
  refine W.widen (k := 1) (n := 6) (Nat.le_of_ble_eq_true rfl) (Nat.le_of_ble_eq_true rfl) ?_
  exact r_iret C hA dL_about_22
set_option maxHeartbeats 4000000 in
set_option maxRecDepth 100000 in
theorem k_L_about_t2 {l : Launch} {g : Gm} {fu : Nat} {σ : SS} {x1 x2 : Int32} {o : Nat} {f : Nat → Int64}  (hlt : l.stackTraces = false) (h : f_X7_about fu σ x1 x2 = some (.inr 2)) (sz : Nat) : Met l yL_about wsL_about rmL_about (Pw g (wX g σ ++ oc g o f) [.ref (g.2.1 0), .int x1, .int x2, .ref o] sz) (Qi g (va_A (wX g σ ++ oc g o f) sz) (wX g σ ++ oc g o f) 1) 1 6 (va_A (wX g σ ++ oc g o f) sz) := by
  refine ofH (own := RL) hlt (by decide) rfl rfl (Nat.le_of_ble_eq_true rfl) (fun p e s m below meth c hsz C hT hA ls hl => ?_)
  have hx := C.1.1
  have hb := C.1.2.1
  have hl : lv_has ls 5 [(0, .ref (g.2.1 0)), (1, .int x1), (2, .int x2), (3, .ref o)] := hl
  refine lv_aload_n hx hb dL_about_0 rfl (lv_at hl 3 rfl) ?_
  refine lv_iconst (v := 0) hx hb dL_about_1 (by decide) ?_
  refine lv_aload_n hx hb dL_about_2 rfl (lv_at hl 0 rfl) ?_
  refine lv_iload_n hx hb dL_about_3 rfl (lv_at hl 1 rfl) ?_
  refine lv_iload_n hx hb dL_about_4 rfl (lv_at hl 2 rfl) ?_
  refine r_fXi (j := 2) (w := wX g σ) (w1 := wX g σ) (wr := oc g o f) (As := [.int x1, .int x2]) (rest := [.int 0, .ref o]) C hA hl.1 (kx_X7_about C.2.2.2.2.2.2 h) (cwV 2 C.1.2.2.2.2 gL_about_X7_about rfl rfl rfl nd_X7_about ⟨Nat.le_of_ble_eq_true rfl, Nat.le_of_ble_eq_true rfl⟩) 0 rfl rfl rfl rfl (Nat.le_of_ble_eq_true rfl) dL_about_5 ⟨Nat.le_of_ble_eq_true rfl, Nat.le_of_ble_eq_true rfl⟩ (fun q9 ce H locs hA hce hcv hcl => ?_)
  refine vx_catch (own := RL) (name := "java/lang/IndexOutOfBoundsException") (E := "java/lang/IndexOutOfBoundsException") C.1.2.2.2.1 [] ⟨0, 10, 13, 25⟩ [⟨0, 10, 17, 13⟩] (hT.trans rfl) (fun _ h => nomatch h) (by decide) (by decide) (C.1.2.2.2.2 (.classLink RL 25 "java/lang/IndexOutOfBoundsException") (by decide +kernel)) (va_Nw.use rfl C.2.2.2.2.2.1.2.2.2.2.2.2.2.1) hce hcv hcl ?_
  refine lv_astore (lv' := [(4, .ref q9), (0, .ref (g.2.1 0)), (1, .int x1), (2, .int x2), (3, .ref o)]) hx hb dL_about_13 hl (by decide) rfl (fun ls hl => ?_)
  refine lv_iconst (v := 1) hx hb dL_about_15 (by decide) ?_
  exact r_iret C hA dL_about_16
set_option maxHeartbeats 4000000 in
set_option maxRecDepth 100000 in
theorem k_L_about_t0 {l : Launch} {g : Gm} {fu : Nat} {σ : SS} {x1 x2 : Int32} {o : Nat} {f : Nat → Int64}  (hlt : l.stackTraces = false) (h : f_X7_about fu σ x1 x2 = some (.inr 0)) (sz : Nat) : Met l yL_about wsL_about rmL_about (Pw g (wX g σ ++ oc g o f) [.ref (g.2.1 0), .int x1, .int x2, .ref o] sz) (Qi g (va_A (wX g σ ++ oc g o f) sz) (wX g σ ++ oc g o f) 2) 1 6 (va_A (wX g σ ++ oc g o f) sz) := by
  refine ofH (own := RL) hlt (by decide) rfl rfl (Nat.le_of_ble_eq_true rfl) (fun p e s m below meth c hsz C hT hA ls hl => ?_)
  have hx := C.1.1
  have hb := C.1.2.1
  have hl : lv_has ls 5 [(0, .ref (g.2.1 0)), (1, .int x1), (2, .int x2), (3, .ref o)] := hl
  refine lv_aload_n hx hb dL_about_0 rfl (lv_at hl 3 rfl) ?_
  refine lv_iconst (v := 0) hx hb dL_about_1 (by decide) ?_
  refine lv_aload_n hx hb dL_about_2 rfl (lv_at hl 0 rfl) ?_
  refine lv_iload_n hx hb dL_about_3 rfl (lv_at hl 1 rfl) ?_
  refine lv_iload_n hx hb dL_about_4 rfl (lv_at hl 2 rfl) ?_
  refine r_fXi (j := 0) (w := wX g σ) (w1 := wX g σ) (wr := oc g o f) (As := [.int x1, .int x2]) (rest := [.int 0, .ref o]) C hA hl.1 (kx_X7_about C.2.2.2.2.2.2 h) (cwV 2 C.1.2.2.2.2 gL_about_X7_about rfl rfl rfl nd_X7_about ⟨Nat.le_of_ble_eq_true rfl, Nat.le_of_ble_eq_true rfl⟩) 0 rfl rfl rfl rfl (Nat.le_of_ble_eq_true rfl) dL_about_5 ⟨Nat.le_of_ble_eq_true rfl, Nat.le_of_ble_eq_true rfl⟩ (fun q9 ce H locs hA hce hcv hcl => ?_)
  refine vx_catch (own := RL) (name := "java/lang/IllegalArgumentException") (E := "java/lang/IllegalArgumentException") C.1.2.2.2.1 [⟨0, 10, 13, 25⟩] ⟨0, 10, 17, 13⟩ [] (hT.trans rfl) (List.forall_mem_cons.mpr ⟨Or.inr ⟨by decide, "java/lang/IndexOutOfBoundsException", C.1.2.2.2.2 (.classLink RL 25 "java/lang/IndexOutOfBoundsException") (by decide +kernel), C.2.2.2.2.2.1.2.2.2.2.2.2.2.2.2.2.2.2.2.2.2.2.2.2.2.2.2.2.2.2.2.2.2.2.2.2.2.2.2.2.2.2.2.2.1⟩, fun _ h => nomatch h⟩) (by decide) (by decide) (C.1.2.2.2.2 (.classLink RL 13 "java/lang/IllegalArgumentException") (by decide +kernel)) (va_Nw.use rfl C.2.2.2.2.2.1.2.2.2.2.2.1) hce hcv hcl ?_
  refine lv_astore (lv' := [(4, .ref q9), (0, .ref (g.2.1 0)), (1, .int x1), (2, .int x2), (3, .ref o)]) hx hb dL_about_17 hl (by decide) rfl (fun ls hl => ?_)
  refine lv_iconst (v := 2) hx hb dL_about_19 (by decide) ?_
  exact r_iret C hA dL_about_20
abbrev rmL_fame : Room := { frames := 8, cells := 1, slots := 6, locals := 132 }
theorem nd_L_fame : yL_fame.cls ≠ "java/lang/invoke/MethodHandle" ∧ yL_fame.cls ≠ "java/lang/invoke/VarHandle" ∧ (parseMethodDescriptor yL_fame.desc).map (fun d => d.parameters.length) = some 3 := by decide +kernel
set_option maxHeartbeats 4000000 in
set_option maxRecDepth 100000 in
theorem k_L_fame {l : Launch} {g : Gm} {fu : Nat} {σ : SS} {x1 : Int32} {o : Nat} {f : Nat → Int64} {v0 : Int64} (hlt : l.stackTraces = false) (h : f_X7_fame fu σ x1 = some (.inl v0)) (sz : Nat) : Met l yL_fame wsL_fame rmL_fame (Pw g (wX g σ ++ oc g o f) [.ref (g.2.1 0), .int x1, .ref o] sz) (Qi g (va_A (wX g σ ++ oc g o f) sz) (wX g σ ++ oc g o (vp_updL f (0 : Int32).toNatClampNeg v0)) 0) 1 6 (va_A (wX g σ ++ oc g o f) sz) := by
  refine ofH (own := RL) hlt (by decide) rfl rfl (Nat.le_of_ble_eq_true rfl) (fun p e s m below meth c hsz C hT hA ls hl => ?_)
  have hx := C.1.1
  have hb := C.1.2.1
  have hl : lv_has ls 4 [(0, .ref (g.2.1 0)), (1, .int x1), (2, .ref o)] := hl
  refine lv_aload_n hx hb dL_fame_0 rfl (lv_at hl 2 rfl) ?_
  refine lv_iconst (v := 0) hx hb dL_fame_1 (by decide) ?_
  refine lv_aload_n hx hb dL_fame_2 rfl (lv_at hl 0 rfl) ?_
  refine lv_iload_n hx hb dL_fame_3 rfl (lv_at hl 1 rfl) ?_
  refine r_fVl (r := v0) (w := wX g σ) (w1 := wX g σ) (wr := oc g o f) (As := [.int x1]) (rest := [.int 0, .ref o]) C hA hl.1 (k_X7_fame C.2.2.2.2.2.2 h) (cwV 1 C.1.2.2.2.2 gL_fame_X7_fame rfl rfl rfl nd_X7_fame ⟨Nat.le_of_ble_eq_true rfl, Nat.le_of_ble_eq_true rfl⟩) 0 rfl rfl rfl rfl (Nat.le_of_ble_eq_true rfl) dL_fame_4 ⟨Nat.le_of_ble_eq_true rfl, Nat.le_of_ble_eq_true rfl⟩ (fun H locs hA => ?_)
  refine r_last (w1 := (wX g σ ++ oc g o (vp_updL f (0 : Int32).toNatClampNeg v0))) C hA 44 1 rfl rfl (by decide) dL_fame_7 rfl (fun H locs hA => ?_)
  refine lv_goto (tgt := 14) hx hb dL_fame_8 (by decide) ?_
  refine lv_iconst (v := 0) hx hb dL_fame_14 (by decide) ?_
  refine W.widen (k := 1) (n := 6) (Nat.le_of_ble_eq_true rfl) (Nat.le_of_ble_eq_true rfl) ?_
  exact r_iret C hA dL_fame_15
set_option maxHeartbeats 4000000 in
set_option maxRecDepth 100000 in
theorem k_L_fame_t2 {l : Launch} {g : Gm} {fu : Nat} {σ : SS} {x1 : Int32} {o : Nat} {f : Nat → Int64}  (hlt : l.stackTraces = false) (h : f_X7_fame fu σ x1 = some (.inr 2)) (sz : Nat) : Met l yL_fame wsL_fame rmL_fame (Pw g (wX g σ ++ oc g o f) [.ref (g.2.1 0), .int x1, .ref o] sz) (Qi g (va_A (wX g σ ++ oc g o f) sz) (wX g σ ++ oc g o f) 1) 1 6 (va_A (wX g σ ++ oc g o f) sz) := by
  refine ofH (own := RL) hlt (by decide) rfl rfl (Nat.le_of_ble_eq_true rfl) (fun p e s m below meth c hsz C hT hA ls hl => ?_)
  have hx := C.1.1
  have hb := C.1.2.1
  have hl : lv_has ls 4 [(0, .ref (g.2.1 0)), (1, .int x1), (2, .ref o)] := hl
  refine lv_aload_n hx hb dL_fame_0 rfl (lv_at hl 2 rfl) ?_
  refine lv_iconst (v := 0) hx hb dL_fame_1 (by decide) ?_
  refine lv_aload_n hx hb dL_fame_2 rfl (lv_at hl 0 rfl) ?_
  refine lv_iload_n hx hb dL_fame_3 rfl (lv_at hl 1 rfl) ?_
  refine r_fXl (j := 2) (w := wX g σ) (w1 := wX g σ) (wr := oc g o f) (As := [.int x1]) (rest := [.int 0, .ref o]) C hA hl.1 (kx_X7_fame C.2.2.2.2.2.2 h) (cwV 1 C.1.2.2.2.2 gL_fame_X7_fame rfl rfl rfl nd_X7_fame ⟨Nat.le_of_ble_eq_true rfl, Nat.le_of_ble_eq_true rfl⟩) 0 rfl rfl rfl rfl (Nat.le_of_ble_eq_true rfl) dL_fame_4 ⟨Nat.le_of_ble_eq_true rfl, Nat.le_of_ble_eq_true rfl⟩ (fun q9 ce H locs hA hce hcv hcl => ?_)
  refine vx_catch (own := RL) (name := "java/lang/IndexOutOfBoundsException") (E := "java/lang/IndexOutOfBoundsException") C.1.2.2.2.1 [] ⟨0, 8, 11, 25⟩ [] (hT.trans rfl) (fun _ h => nomatch h) (by decide) (by decide) (C.1.2.2.2.2 (.classLink RL 25 "java/lang/IndexOutOfBoundsException") (by decide +kernel)) (va_Nw.use rfl C.2.2.2.2.2.1.2.2.2.2.2.2.2.1) hce hcv hcl ?_
  refine lv_astore_n (lv' := [(3, .ref q9), (0, .ref (g.2.1 0)), (1, .int x1), (2, .ref o)]) hx hb dL_fame_11 rfl hl (by decide) rfl (fun ls hl => ?_)
  refine lv_iconst (v := 1) hx hb dL_fame_12 (by decide) ?_
  exact r_iret C hA dL_fame_13
abbrev rmL_gather : Room := { frames := 8, cells := 1, slots := 6, locals := 133 }
theorem nd_L_gather : yL_gather.cls ≠ "java/lang/invoke/MethodHandle" ∧ yL_gather.cls ≠ "java/lang/invoke/VarHandle" ∧ (parseMethodDescriptor yL_gather.desc).map (fun d => d.parameters.length) = some 4 := by decide +kernel
set_option maxHeartbeats 4000000 in
set_option maxRecDepth 100000 in
theorem k_L_gather {l : Launch} {g : Gm} {fu : Nat} {σ τ : SS} {x1 x2 : Int32} {o : Nat} {f : Nat → Int64} {v0 : Int64} (hlt : l.stackTraces = false) (h : f_X7_gather fu σ x1 x2 = some (.inl v0, τ)) (sz : Nat) : Met l yL_gather wsL_gather rmL_gather (Pw g (wX g σ ++ oc g o f) [.ref (g.2.1 0), .int x1, .int x2, .ref o] sz) (Qi g (va_A (wX g σ ++ oc g o f) sz) (wX g τ ++ oc g o (vp_updL f (0 : Int32).toNatClampNeg v0)) 0) 1 6 (va_A (wX g σ ++ oc g o f) sz) := by
  refine ofH (own := RL) hlt (by decide) rfl rfl (Nat.le_of_ble_eq_true rfl) (fun p e s m below meth c hsz C hT hA ls hl => ?_)
  have hx := C.1.1
  have hb := C.1.2.1
  have hl : lv_has ls 5 [(0, .ref (g.2.1 0)), (1, .int x1), (2, .int x2), (3, .ref o)] := hl
  refine lv_aload_n hx hb dL_gather_0 rfl (lv_at hl 3 rfl) ?_
  refine lv_iconst (v := 0) hx hb dL_gather_1 (by decide) ?_
  refine lv_aload_n hx hb dL_gather_2 rfl (lv_at hl 0 rfl) ?_
  refine lv_iload_n hx hb dL_gather_3 rfl (lv_at hl 1 rfl) ?_
  refine lv_iload_n hx hb dL_gather_4 rfl (lv_at hl 2 rfl) ?_
  refine r_fVl (r := v0) (w := wX g σ) (w1 := wX g τ) (wr := oc g o f) (As := [.int x1, .int x2]) (rest := [.int 0, .ref o]) C hA hl.1 (k_X7_gather C.2.2.2.2.2.2 h) (cwV 2 C.1.2.2.2.2 gL_gather_X7_gather rfl rfl rfl nd_X7_gather ⟨Nat.le_of_ble_eq_true rfl, Nat.le_of_ble_eq_true rfl⟩) 0 rfl rfl rfl rfl (Nat.le_of_ble_eq_true rfl) dL_gather_5 ⟨Nat.le_of_ble_eq_true rfl, Nat.le_of_ble_eq_true rfl⟩ (fun H locs hA => ?_)
  refine r_last (w1 := (wX g τ ++ oc g o (vp_updL f (0 : Int32).toNatClampNeg v0))) C hA 44 1 rfl rfl (by decide) dL_gather_8 rfl (fun H locs hA => ?_)
  refine lv_goto (tgt := 16) hx hb dL_gather_9 (by decide) ?_
  refine lv_iconst (v := 0) hx hb dL_gather_16 (by decide) ?_
  refine W.widen (k := 1) (n := 6) (Nat.le_of_ble_eq_true rfl) (Nat.le_of_ble_eq_true rfl) ?_
  exact r_iret C hA dL_gather_17
set_option maxHeartbeats 4000000 in
set_option maxRecDepth 100000 in
theorem k_L_gather_t2 {l : Launch} {g : Gm} {fu : Nat} {σ τ : SS} {x1 x2 : Int32} {o : Nat} {f : Nat → Int64}  (hlt : l.stackTraces = false) (h : f_X7_gather fu σ x1 x2 = some (.inr 2, τ)) (sz : Nat) : Met l yL_gather wsL_gather rmL_gather (Pw g (wX g σ ++ oc g o f) [.ref (g.2.1 0), .int x1, .int x2, .ref o] sz) (Qi g (va_A (wX g σ ++ oc g o f) sz) (wX g τ ++ oc g o f) 1) 1 6 (va_A (wX g σ ++ oc g o f) sz) := by
  refine ofH (own := RL) hlt (by decide) rfl rfl (Nat.le_of_ble_eq_true rfl) (fun p e s m below meth c hsz C hT hA ls hl => ?_)
  have hx := C.1.1
  have hb := C.1.2.1
  have hl : lv_has ls 5 [(0, .ref (g.2.1 0)), (1, .int x1), (2, .int x2), (3, .ref o)] := hl
  refine lv_aload_n hx hb dL_gather_0 rfl (lv_at hl 3 rfl) ?_
  refine lv_iconst (v := 0) hx hb dL_gather_1 (by decide) ?_
  refine lv_aload_n hx hb dL_gather_2 rfl (lv_at hl 0 rfl) ?_
  refine lv_iload_n hx hb dL_gather_3 rfl (lv_at hl 1 rfl) ?_
  refine lv_iload_n hx hb dL_gather_4 rfl (lv_at hl 2 rfl) ?_
  refine r_fXl (j := 2) (w := wX g σ) (w1 := wX g τ) (wr := oc g o f) (As := [.int x1, .int x2]) (rest := [.int 0, .ref o]) C hA hl.1 (kx_X7_gather C.2.2.2.2.2.2 h) (cwV 2 C.1.2.2.2.2 gL_gather_X7_gather rfl rfl rfl nd_X7_gather ⟨Nat.le_of_ble_eq_true rfl, Nat.le_of_ble_eq_true rfl⟩) 0 rfl rfl rfl rfl (Nat.le_of_ble_eq_true rfl) dL_gather_5 ⟨Nat.le_of_ble_eq_true rfl, Nat.le_of_ble_eq_true rfl⟩ (fun q9 ce H locs hA hce hcv hcl => ?_)
  refine vx_catch (own := RL) (name := "java/lang/IndexOutOfBoundsException") (E := "java/lang/IndexOutOfBoundsException") C.1.2.2.2.1 [] ⟨0, 9, 12, 25⟩ [] (hT.trans rfl) (fun _ h => nomatch h) (by decide) (by decide) (C.1.2.2.2.2 (.classLink RL 25 "java/lang/IndexOutOfBoundsException") (by decide +kernel)) (va_Nw.use rfl C.2.2.2.2.2.1.2.2.2.2.2.2.2.1) hce hcv hcl ?_
  refine lv_astore (lv' := [(4, .ref q9), (0, .ref (g.2.1 0)), (1, .int x1), (2, .int x2), (3, .ref o)]) hx hb dL_gather_12 hl (by decide) rfl (fun ls hl => ?_)
  refine lv_iconst (v := 1) hx hb dL_gather_14 (by decide) ?_
  exact r_iret C hA dL_gather_15
abbrev rmL_hold : Room := { frames := 8, cells := 1, slots := 6, locals := 133 }
theorem nd_L_hold : yL_hold.cls ≠ "java/lang/invoke/MethodHandle" ∧ yL_hold.cls ≠ "java/lang/invoke/VarHandle" ∧ (parseMethodDescriptor yL_hold.desc).map (fun d => d.parameters.length) = some 4 := by decide +kernel
set_option maxHeartbeats 4000000 in
set_option maxRecDepth 100000 in
theorem k_L_hold {l : Launch} {g : Gm} {fu : Nat} {σ τ : SS} {x1 x2 : Int32} {o : Nat} {f : Nat → Int64} {v0 : Int32} (hlt : l.stackTraces = false) (h : f_X7_hold fu σ x1 x2 = some (.inl v0, τ)) (sz : Nat) : Met l yL_hold wsL_hold rmL_hold (Pw g (wX g σ ++ oc g o f) [.ref (g.2.1 0), .int x1, .int x2, .ref o] sz) (Qi g (va_A (wX g σ ++ oc g o f) sz) (wX g τ ++ oc g o (vp_updL f (0 : Int32).toNatClampNeg v0.toInt64)) 0) 1 6 (va_A (wX g σ ++ oc g o f) sz) := by
  refine ofH (own := RL) hlt (by decide) rfl rfl (Nat.le_of_ble_eq_true rfl) (fun p e s m below meth c hsz C hT hA ls hl => ?_)
  have hx := C.1.1
  have hb := C.1.2.1
  have hl : lv_has ls 5 [(0, .ref (g.2.1 0)), (1, .int x1), (2, .int x2), (3, .ref o)] := hl
  refine lv_aload_n hx hb dL_hold_0 rfl (lv_at hl 3 rfl) ?_
  refine lv_iconst (v := 0) hx hb dL_hold_1 (by decide) ?_
  refine lv_aload_n hx hb dL_hold_2 rfl (lv_at hl 0 rfl) ?_
  refine lv_iload_n hx hb dL_hold_3 rfl (lv_at hl 1 rfl) ?_
  refine lv_iload_n hx hb dL_hold_4 rfl (lv_at hl 2 rfl) ?_
  refine r_fVi (r := v0) (w := wX g σ) (w1 := wX g τ) (wr := oc g o f) (As := [.int x1, .int x2]) (rest := [.int 0, .ref o]) C hA hl.1 (k_X7_hold C.2.2.2.2.2.2 h) (cwV 2 C.1.2.2.2.2 gL_hold_X7_hold rfl rfl rfl nd_X7_hold ⟨Nat.le_of_ble_eq_true rfl, Nat.le_of_ble_eq_true rfl⟩) 0 rfl rfl rfl rfl (Nat.le_of_ble_eq_true rfl) dL_hold_5 ⟨Nat.le_of_ble_eq_true rfl, Nat.le_of_ble_eq_true rfl⟩ (fun H locs hA => ?_)
  refine lv_i2l hx hb dL_hold_8 rfl ?_
  refine r_last (w1 := (wX g τ ++ oc g o (vp_updL f (0 : Int32).toNatClampNeg v0.toInt64))) C hA 44 1 rfl rfl (by decide) dL_hold_9 rfl (fun H locs hA => ?_)
  refine lv_goto (tgt := 17) hx hb dL_hold_10 (by decide) ?_
  refine lv_iconst (v := 0) hx hb dL_hold_17 (by decide) ?_
  refine W.widen (k := 1) (n := 6) (Nat.le_of_ble_eq_true rfl) (Nat.le_of_ble_eq_true rfl) ?_
  exact r_iret C hA dL_hold_18
set_option maxHeartbeats 4000000 in
set_option maxRecDepth 100000 in
theorem k_L_hold_t2 {l : Launch} {g : Gm} {fu : Nat} {σ τ : SS} {x1 x2 : Int32} {o : Nat} {f : Nat → Int64}  (hlt : l.stackTraces = false) (h : f_X7_hold fu σ x1 x2 = some (.inr 2, τ)) (sz : Nat) : Met l yL_hold wsL_hold rmL_hold (Pw g (wX g σ ++ oc g o f) [.ref (g.2.1 0), .int x1, .int x2, .ref o] sz) (Qi g (va_A (wX g σ ++ oc g o f) sz) (wX g τ ++ oc g o f) 1) 1 6 (va_A (wX g σ ++ oc g o f) sz) := by
  refine ofH (own := RL) hlt (by decide) rfl rfl (Nat.le_of_ble_eq_true rfl) (fun p e s m below meth c hsz C hT hA ls hl => ?_)
  have hx := C.1.1
  have hb := C.1.2.1
  have hl : lv_has ls 5 [(0, .ref (g.2.1 0)), (1, .int x1), (2, .int x2), (3, .ref o)] := hl
  refine lv_aload_n hx hb dL_hold_0 rfl (lv_at hl 3 rfl) ?_
  refine lv_iconst (v := 0) hx hb dL_hold_1 (by decide) ?_
  refine lv_aload_n hx hb dL_hold_2 rfl (lv_at hl 0 rfl) ?_
  refine lv_iload_n hx hb dL_hold_3 rfl (lv_at hl 1 rfl) ?_
  refine lv_iload_n hx hb dL_hold_4 rfl (lv_at hl 2 rfl) ?_
  refine r_fXi (j := 2) (w := wX g σ) (w1 := wX g τ) (wr := oc g o f) (As := [.int x1, .int x2]) (rest := [.int 0, .ref o]) C hA hl.1 (kx_X7_hold C.2.2.2.2.2.2 h) (cwV 2 C.1.2.2.2.2 gL_hold_X7_hold rfl rfl rfl nd_X7_hold ⟨Nat.le_of_ble_eq_true rfl, Nat.le_of_ble_eq_true rfl⟩) 0 rfl rfl rfl rfl (Nat.le_of_ble_eq_true rfl) dL_hold_5 ⟨Nat.le_of_ble_eq_true rfl, Nat.le_of_ble_eq_true rfl⟩ (fun q9 ce H locs hA hce hcv hcl => ?_)
  refine vx_catch (own := RL) (name := "java/lang/IndexOutOfBoundsException") (E := "java/lang/IndexOutOfBoundsException") C.1.2.2.2.1 [] ⟨0, 10, 13, 25⟩ [] (hT.trans rfl) (fun _ h => nomatch h) (by decide) (by decide) (C.1.2.2.2.2 (.classLink RL 25 "java/lang/IndexOutOfBoundsException") (by decide +kernel)) (va_Nw.use rfl C.2.2.2.2.2.1.2.2.2.2.2.2.2.1) hce hcv hcl ?_
  refine lv_astore (lv' := [(4, .ref q9), (0, .ref (g.2.1 0)), (1, .int x1), (2, .int x2), (3, .ref o)]) hx hb dL_hold_13 hl (by decide) rfl (fun ls hl => ?_)
  refine lv_iconst (v := 1) hx hb dL_hold_15 (by decide) ?_
  exact r_iret C hA dL_hold_16
