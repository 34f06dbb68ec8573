abbrev rmX8_died : Room := { frames := 1, cells := 0, slots := 0, locals := 22 }
theorem iX8_died_X8 : ∀ x ∈ wsX80, x ∈ wsX8_died := by decide +kernel
theorem nd_X8_died : yX8_died.cls = RX8 ∧ yX8_died.cls ≠ "java/lang/invoke/MethodHandle" ∧ yX8_died.cls ≠ "java/lang/invoke/VarHandle" ∧ (parseMethodDescriptor yX8_died.desc).map (fun d => d.parameters.length) = some 2 := by decide +kernel
def f_X8_died_264 (fu : Nat) (k152 : SS → (Int32 × Int32 × Int32 × Int32) → Option (Int32 × SS)) (σ : SS) (x1 : Int32) (x2 : Int32) (x3 : Int32) (x4 : Int32) : Option (Int32 × SS) :=
  k152 σ (x1, x2, x3, (x4 + 1))
def f_X8_died_261 (fu : Nat) (k152 : SS → (Int32 × Int32 × Int32 × Int32) → Option (Int32 × SS)) (σ : SS) (x1 : Int32) (x2 : Int32) (x3 : Int32) (x4 : Int32) : Option (Int32 × SS) :=
  f_X8_died_264 fu k152 σ x1 x2 (x3 + 1) x4
def f_X8_died_220 (fu : Nat) (k152 : SS → (Int32 × Int32 × Int32 × Int32) → Option (Int32 × SS)) (σ : SS) (x1 : Int32) (x2 : Int32) (x3 : Int32) (x4 : Int32) : Option (Int32 × SS) :=
  if inB x4 400 then f_X8_died_264 fu k152 (sL σ 17 (x4).toNatClampNeg (0 : Int64)) x1 x2 x3 x4 else none
def f_X8_died_198 (fu : Nat) (k152 : SS → (Int32 × Int32 × Int32 × Int32) → Option (Int32 × SS)) (σ : SS) (x1 : Int32) (x2 : Int32) (x3 : Int32) (x4 : Int32) : Option (Int32 × SS) :=
  if inB x4 400 then (if (σ.2.1 15 (x4).toNatClampNeg) = x2 then f_X8_died_220 fu k152 σ x1 x2 x3 x4 else (if (σ.2.1 16 (x4).toNatClampNeg) = x2 then f_X8_died_220 fu k152 σ x1 x2 x3 x4 else (if (σ.2.1 15 (x4).toNatClampNeg) = x1 then f_X8_died_261 fu k152 (sA σ 15 (x4).toNatClampNeg x2) x1 x2 x3 x4 else f_X8_died_261 fu k152 (sA σ 16 (x4).toNatClampNeg x2) x1 x2 x3 x4))) else none
def f_X8_died_152 (fu : Nat) (k152 : SS → (Int32 × Int32 × Int32 × Int32) → Option (Int32 × SS)) (σ : SS) (x1 : Int32) (x2 : Int32) (x3 : Int32) (x4 : Int32) : Option (Int32 × SS) :=
  (if (σ.1 20) ≤ x4 then some (x3, σ) else if inB x4 400 then (if (lg_cmp (σ.2.2 17 (x4).toNatClampNeg) (0 : Int64)) = 0 then f_X8_died_264 fu k152 σ x1 x2 x3 x4 else (if (σ.2.1 15 (x4).toNatClampNeg) = x1 then f_X8_died_198 fu k152 σ x1 x2 x3 x4 else (if (σ.2.1 16 (x4).toNatClampNeg) = x1 then f_X8_died_198 fu k152 σ x1 x2 x3 x4 else f_X8_died_264 fu k152 σ x1 x2 x3 x4))) else none)
def f_X8_died_L152 (fu : Nat) : SS → (Int32 × Int32 × Int32 × Int32) → Option (Int32 × SS) := loopN (fun k152 σ x => f_X8_died_152 fu k152 σ x.1 x.2.1 x.2.2.1 x.2.2.2) fu
def f_X8_died_141 (fu : Nat) (k116 : SS → (Int32 × Int32 × Int32) → Option (Int32 × SS)) (σ : SS) (x1 : Int32) (x2 : Int32) (x3 : Int32) : Option (Int32 × SS) :=
  k116 σ (x1, x2, (x3 + 1))
def f_X8_died_116 (fu : Nat) (k116 : SS → (Int32 × Int32 × Int32) → Option (Int32 × SS)) (σ : SS) (x1 : Int32) (x2 : Int32) (x3 : Int32) : Option (Int32 × SS) :=
  (if (σ.1 24) ≤ x3 then f_X8_died_L152 fu σ (x1, x2, (0 : Int32), (0 : Int32)) else if inB x3 30 then (if (σ.2.1 21 (x3).toNatClampNeg) = x1 then f_X8_died_141 fu k116 (sA σ 21 (x3).toNatClampNeg x2) x1 x2 x3 else f_X8_died_141 fu k116 σ x1 x2 x3) else none)
def f_X8_died_L116 (fu : Nat) : SS → (Int32 × Int32 × Int32) → Option (Int32 × SS) := loopN (fun k116 σ x => f_X8_died_116 fu k116 σ x.1 x.2.1 x.2.2) fu
def f_X8_died_76 (fu : Nat) (σ : SS) (x1 : Int32) (x2 : Int32) (y0 : Int32) : Option (Int32 × SS) :=
  bnd (f_X8_bad fu σ y0 (3 : Int32)) (fun r1 t3 => (if r1 = 0 then if inB x1 12 then if inB x2 12 then f_X8_died_L116 fu (sA (sA (sA t3 3 (x1).toNatClampNeg (vp_nar .boolean (1 : Int32))) 1 (x2).toNatClampNeg ((t3.2.1 1 (x2).toNatClampNeg) + (t3.2.1 1 (x1).toNatClampNeg))) 1 (x1).toNatClampNeg (0 : Int32)) (x1, x2, (0 : Int32)) else none else none else some ((0 : Int32), t3)))
def f_X8_died_71 (fu : Nat) (σ : SS) (x1 : Int32) (x2 : Int32) : Option (Int32 × SS) :=
  f_X8_died_76 fu σ x1 x2 (1 : Int32)
def f_X8_died_45 (fu : Nat) (σ : SS) (x1 : Int32) (x2 : Int32) (y0 : Int32) : Option (Int32 × SS) :=
  bnd (f_X8_bad fu σ y0 (2 : Int32)) (fun r1 t3 => (if r1 = 0 then if inB x1 12 then (if (t3.2.1 3 (x1).toNatClampNeg) = 0 then if inB x2 12 then (if (t3.2.1 3 (x2).toNatClampNeg) = 0 then f_X8_died_76 fu t3 x1 x2 (0 : Int32) else f_X8_died_71 fu t3 x1 x2) else none else f_X8_died_71 fu t3 x1 x2) else none else some ((0 : Int32), t3)))
def f_X8_died_27 (fu : Nat) (σ : SS) (x1 : Int32) (x2 : Int32) (y0 : Int32) : Option (Int32 × SS) :=
  bnd (f_X8_bad fu σ y0 (1 : Int32)) (fun r1 t3 => (if r1 = 0 then (if x1 = x2 then f_X8_died_45 fu t3 x1 x2 (1 : Int32) else f_X8_died_45 fu t3 x1 x2 (0 : Int32)) else some ((0 : Int32), t3)))
def f_X8_died_22 (fu : Nat) (σ : SS) (x1 : Int32) (x2 : Int32) : Option (Int32 × SS) :=
  f_X8_died_27 fu σ x1 x2 (1 : Int32)
def f_X8_died (fu : Nat) (σ : SS) (x1 : Int32) (x2 : Int32) : Option (Int32 × SS) :=
  bnd1 (f_X8_isChief fu (sI σ 0 (0 : Int32)) x1) (fun r1 => (if r1 = 0 then f_X8_died_22 fu (sI σ 0 (0 : Int32)) x1 x2 else bnd1 (f_X8_isChief fu (sI σ 0 (0 : Int32)) x2) (fun r4 => (if r4 = 0 then f_X8_died_22 fu (sI σ 0 (0 : Int32)) x1 x2 else f_X8_died_27 fu (sI σ 0 (0 : Int32)) x1 x2 (0 : Int32)))))
section
variable {p : Program} {l : Launch} {e : Env} {s : State} {m : MethodId} {args : Array Value} {below : List Frame} {meth : Method} {c : Code} {g : Gm} {A : Nat → Prop} {fu : Nat} {R : Int32 × SS}
set_option maxHeartbeats 4000000 in
set_option maxRecDepth 100000 in
theorem w_X8_died_264 {σ : SS} {x1 : Int32} {x2 : Int32} {x3 : Int32} {x4 : Int32} (C : Cx p l s m args meth c cX8_died 5 wsX8_died (some .int) RX8 g A) {k152 : SS → (Int32 × Int32 × Int32 × Int32) → Option (Int32 × SS)} (hk152 : ∀ (σ : SS) (x : Int32 × Int32 × Int32 × Int32), k152 σ x = some R → ∀ (H : Heap) (locs : List Loc) (ls : Array Slot), Aw g A s.heap (wM g σ) H locs → lv_has ls 5 [(0, .ref (g.2.1 0)), (1, .int x.1), (2, .int x.2.1), (3, .int x.2.2.1), (4, .int x.2.2.2)] → W p l e rmX8_died s m args below meth c H locs 0 0 (MQ below (Qi g A (wM g R.2) R.1) args s 0 0 A) (F0 m 152 ls [])) (h : f_X8_died_264 fu k152 σ x1 x2 x3 x4 = some R) {H : Heap} {locs : List Loc} {ls : Array Slot} (hA : Aw g A s.heap (wM g σ) H locs) (hl : lv_has ls 5 [(0, .ref (g.2.1 0)), (1, .int x1), (2, .int x2), (3, .int x3), (4, .int x4)]) : W p l e rmX8_died s m args below meth c H locs 0 0 (MQ below (Qi g A (wM g R.2) R.1) args s 0 0 A) (F0 m 264 ls []) := by
  have hx := C.1.1
  have hb := C.1.2.1
  unfold f_X8_died_264 at h
  refine lv_iinc (v := (x4 + 1)) (lv' := [(4, .int (x4 + 1)), (0, .ref (g.2.1 0)), (1, .int x1), (2, .int x2), (3, .int x3)]) hx hb dX8_died_264 hl (k := 4) rfl rfl (by decide) rfl (fun ls hl => ?_)
  refine lv_goto (tgt := 152) hx hb dX8_died_267 (by decide) ?_
  exact hk152 _ _ h _ _ _ hA (lv_sub hl [1, 2, 3, 4, 0] rfl)
set_option maxHeartbeats 4000000 in
set_option maxRecDepth 100000 in
theorem w_X8_died_261 {σ : SS} {x1 : Int32} {x2 : Int32} {x3 : Int32} {x4 : Int32} (C : Cx p l s m args meth c cX8_died 5 wsX8_died (some .int) RX8 g A) {k152 : SS → (Int32 × Int32 × Int32 × Int32) → Option (Int32 × SS)} (hk152 : ∀ (σ : SS) (x : Int32 × Int32 × Int32 × Int32), k152 σ x = some R → ∀ (H : Heap) (locs : List Loc) (ls : Array Slot), Aw g A s.heap (wM g σ) H locs → lv_has ls 5 [(0, .ref (g.2.1 0)), (1, .int x.1), (2, .int x.2.1), (3, .int x.2.2.1), (4, .int x.2.2.2)] → W p l e rmX8_died s m args below meth c H locs 0 0 (MQ below (Qi g A (wM g R.2) R.1) args s 0 0 A) (F0 m 152 ls [])) (h : f_X8_died_261 fu k152 σ x1 x2 x3 x4 = some R) {H : Heap} {locs : List Loc} {ls : Array Slot} (hA : Aw g A s.heap (wM g σ) H locs) (hl : lv_has ls 5 [(0, .ref (g.2.1 0)), (1, .int x1), (2, .int x2), (3, .int x3), (4, .int x4)]) : W p l e rmX8_died s m args below meth c H locs 0 0 (MQ below (Qi g A (wM g R.2) R.1) args s 0 0 A) (F0 m 261 ls []) := by
  have hx := C.1.1
  have hb := C.1.2.1
  unfold f_X8_died_261 at h
  refine lv_iinc (v := (x3 + 1)) (lv' := [(3, .int (x3 + 1)), (0, .ref (g.2.1 0)), (1, .int x1), (2, .int x2), (4, .int x4)]) hx hb dX8_died_261 hl (k := 3) rfl rfl (by decide) rfl (fun ls hl => ?_)
  exact w_X8_died_264 C hk152 h hA (lv_sub hl [1, 2, 3, 0, 4] rfl)
set_option maxHeartbeats 4000000 in
set_option maxRecDepth 100000 in
theorem w_X8_died_220 {σ : SS} {x1 : Int32} {x2 : Int32} {x3 : Int32} {x4 : Int32} (C : Cx p l s m args meth c cX8_died 5 wsX8_died (some .int) RX8 g A) {k152 : SS → (Int32 × Int32 × Int32 × Int32) → Option (Int32 × SS)} (hk152 : ∀ (σ : SS) (x : Int32 × Int32 × Int32 × Int32), k152 σ x = some R → ∀ (H : Heap) (locs : List Loc) (ls : Array Slot), Aw g A s.heap (wM g σ) H locs → lv_has ls 5 [(0, .ref (g.2.1 0)), (1, .int x.1), (2, .int x.2.1), (3, .int x.2.2.1), (4, .int x.2.2.2)] → W p l e rmX8_died s m args below meth c H locs 0 0 (MQ below (Qi g A (wM g R.2) R.1) args s 0 0 A) (F0 m 152 ls [])) (h : f_X8_died_220 fu k152 σ x1 x2 x3 x4 = some R) {H : Heap} {locs : List Loc} {ls : Array Slot} (hA : Aw g A s.heap (wM g σ) H locs) (hl : lv_has ls 5 [(0, .ref (g.2.1 0)), (1, .int x1), (2, .int x2), (3, .int x3), (4, .int x4)]) : W p l e rmX8_died s m args below meth c H locs 0 0 (MQ below (Qi g A (wM g R.2) R.1) args s 0 0 A) (F0 m 220 ls []) := by
  have hx := C.1.1
  have hb := C.1.2.1
  unfold f_X8_died_220 at h
  refine lv_aload_n hx hb dX8_died_220 rfl (lv_at hl 0 rfl) ?_
  refine Mg_X8_left C hA iX8_died_X8 (by decide +kernel) dX8_died_221 ?_
  refine lv_iload hx hb dX8_died_224 (lv_at hl 4 rfl) ?_
  refine lv_lconst (v := 0) hx hb dX8_died_226 (by decide) ?_
  obtain ⟨g1, h⟩ := gd h
  refine Mst_17 C hA g1 dX8_died_227 (fun H locs hA => ?_)
  refine lv_goto (tgt := 264) hx hb dX8_died_228 (by decide) ?_
  exact w_X8_died_264 C hk152 h hA (lv_sub hl [0, 1, 2, 3, 4] rfl)
set_option maxHeartbeats 4000000 in
set_option maxRecDepth 100000 in
theorem w_X8_died_198 {σ : SS} {x1 : Int32} {x2 : Int32} {x3 : Int32} {x4 : Int32} (C : Cx p l s m args meth c cX8_died 5 wsX8_died (some .int) RX8 g A) {k152 : SS → (Int32 × Int32 × Int32 × Int32) → Option (Int32 × SS)} (hk152 : ∀ (σ : SS) (x : Int32 × Int32 × Int32 × Int32), k152 σ x = some R → ∀ (H : Heap) (locs : List Loc) (ls : Array Slot), Aw g A s.heap (wM g σ) H locs → lv_has ls 5 [(0, .ref (g.2.1 0)), (1, .int x.1), (2, .int x.2.1), (3, .int x.2.2.1), (4, .int x.2.2.2)] → W p l e rmX8_died s m args below meth c H locs 0 0 (MQ below (Qi g A (wM g R.2) R.1) args s 0 0 A) (F0 m 152 ls [])) (h : f_X8_died_198 fu k152 σ x1 x2 x3 x4 = some R) {H : Heap} {locs : List Loc} {ls : Array Slot} (hA : Aw g A s.heap (wM g σ) H locs) (hl : lv_has ls 5 [(0, .ref (g.2.1 0)), (1, .int x1), (2, .int x2), (3, .int x3), (4, .int x4)]) : W p l e rmX8_died s m args below meth c H locs 0 0 (MQ below (Qi g A (wM g R.2) R.1) args s 0 0 A) (F0 m 198 ls []) := by
  have hx := C.1.1
  have hb := C.1.2.1
  unfold f_X8_died_198 at h
  refine lv_aload_n hx hb dX8_died_198 rfl (lv_at hl 0 rfl) ?_
  refine Mg_X8_owes C hA iX8_died_X8 (by decide +kernel) dX8_died_199 ?_
  refine lv_iload hx hb dX8_died_202 (lv_at hl 4 rfl) ?_
  obtain ⟨g1, h⟩ := gd h
  refine Mld_15 (v := (σ.2.1 15 (x4).toNatClampNeg)) C hA rfl g1 dX8_died_204 ?_
  refine lv_iload_n hx hb dX8_died_205 rfl (lv_at hl 2 rfl) ?_
  refine lv_icmp_eq (tgt := 220) hx hb dX8_died_206 (by decide) (fun c2 => ?_) (fun c2 => ?_)
  · replace h := (if_pos c2).symm.trans h
    exact w_X8_died_220 C hk152 h hA (lv_sub hl [0, 1, 2, 3, 4] rfl)
  · replace h := (if_neg c2).symm.trans h
    refine lv_aload_n hx hb dX8_died_209 rfl (lv_at hl 0 rfl) ?_
    refine Mg_X8_whom C hA iX8_died_X8 (by decide +kernel) dX8_died_210 ?_
    refine lv_iload hx hb dX8_died_213 (lv_at hl 4 rfl) ?_
    refine Mld_16 (v := (σ.2.1 16 (x4).toNatClampNeg)) C hA rfl g1 dX8_died_215 ?_
    refine lv_iload_n hx hb dX8_died_216 rfl (lv_at hl 2 rfl) ?_
    refine lv_icmp_ne (tgt := 231) hx hb dX8_died_217 (by decide) (fun c3 => ?_) (fun c3 => ?_)
    · replace h := (if_neg c3).symm.trans h
      refine lv_aload_n hx hb dX8_died_231 rfl (lv_at hl 0 rfl) ?_
      refine Mg_X8_owes C hA iX8_died_X8 (by decide +kernel) dX8_died_232 ?_
      refine lv_iload hx hb dX8_died_235 (lv_at hl 4 rfl) ?_
      refine Mld_15 (v := (σ.2.1 15 (x4).toNatClampNeg)) C hA rfl g1 dX8_died_237 ?_
      refine lv_iload_n hx hb dX8_died_238 rfl (lv_at hl 1 rfl) ?_
      refine lv_icmp_ne (tgt := 253) hx hb dX8_died_239 (by decide) (fun c4 => ?_) (fun c4 => ?_)
      · replace h := (if_neg c4).symm.trans h
        refine lv_aload_n hx hb dX8_died_253 rfl (lv_at hl 0 rfl) ?_
        refine Mg_X8_whom C hA iX8_died_X8 (by decide +kernel) dX8_died_254 ?_
        refine lv_iload hx hb dX8_died_257 (lv_at hl 4 rfl) ?_
        refine lv_iload_n hx hb dX8_died_259 rfl (lv_at hl 2 rfl) ?_
        refine Mst_16 C hA g1 dX8_died_260 (fun H locs hA => ?_)
        exact w_X8_died_261 C hk152 h hA (lv_sub hl [0, 1, 2, 3, 4] rfl)
      · replace h := (if_pos c4).symm.trans h
        refine lv_aload_n hx hb dX8_died_242 rfl (lv_at hl 0 rfl) ?_
        refine Mg_X8_owes C hA iX8_died_X8 (by decide +kernel) dX8_died_243 ?_
        refine lv_iload hx hb dX8_died_246 (lv_at hl 4 rfl) ?_
        refine lv_iload_n hx hb dX8_died_248 rfl (lv_at hl 2 rfl) ?_
        refine Mst_15 C hA g1 dX8_died_249 (fun H locs hA => ?_)
        refine lv_goto (tgt := 261) hx hb dX8_died_250 (by decide) ?_
        exact w_X8_died_261 C hk152 h hA (lv_sub hl [0, 1, 2, 3, 4] rfl)
    · replace h := (if_pos c3).symm.trans h
      exact w_X8_died_220 C hk152 h hA (lv_sub hl [0, 1, 2, 3, 4] rfl)
set_option maxHeartbeats 4000000 in
set_option maxRecDepth 100000 in
theorem w_X8_died_152 {σ : SS} {x1 : Int32} {x2 : Int32} {x3 : Int32} {x4 : Int32} (C : Cx p l s m args meth c cX8_died 5 wsX8_died (some .int) RX8 g A) {k152 : SS → (Int32 × Int32 × Int32 × Int32) → Option (Int32 × SS)} (hk152 : ∀ (σ : SS) (x : Int32 × Int32 × Int32 × Int32), k152 σ x = some R → ∀ (H : Heap) (locs : List Loc) (ls : Array Slot), Aw g A s.heap (wM g σ) H locs → lv_has ls 5 [(0, .ref (g.2.1 0)), (1, .int x.1), (2, .int x.2.1), (3, .int x.2.2.1), (4, .int x.2.2.2)] → W p l e rmX8_died s m args below meth c H locs 0 0 (MQ below (Qi g A (wM g R.2) R.1) args s 0 0 A) (F0 m 152 ls [])) (h : f_X8_died_152 fu k152 σ x1 x2 x3 x4 = some R) {H : Heap} {locs : List Loc} {ls : Array Slot} (hA : Aw g A s.heap (wM g σ) H locs) (hl : lv_has ls 5 [(0, .ref (g.2.1 0)), (1, .int x1), (2, .int x2), (3, .int x3), (4, .int x4)]) : W p l e rmX8_died s m args below meth c H locs 0 0 (MQ below (Qi g A (wM g R.2) R.1) args s 0 0 A) (F0 m 152 ls []) := by
  have hx := C.1.1
  have hb := C.1.2.1
  unfold f_X8_died_152 at h
  refine lv_iload hx hb dX8_died_152 (lv_at hl 4 rfl) ?_
  refine lv_aload_n hx hb dX8_died_154 rfl (lv_at hl 0 rfl) ?_
  refine Mg_X8_debts (v := (σ.1 20)) C hA rfl iX8_died_X8 (by decide +kernel) dX8_died_155 ?_
  refine lv_icmp_ge (tgt := 270) hx hb dX8_died_158 (by decide) (fun c1 => ?_) (fun c1 => ?_)
  · replace h := (if_pos c1).symm.trans h
    refine lv_iload_n hx hb dX8_died_270 rfl (lv_at hl 3 rfl) ?_
    obtain rfl := Option.some.inj h
    exact r_iret C hA dX8_died_271
  · replace h := (if_neg c1).symm.trans h
    refine lv_aload_n hx hb dX8_died_161 rfl (lv_at hl 0 rfl) ?_
    refine Mg_X8_left C hA iX8_died_X8 (by decide +kernel) dX8_died_162 ?_
    refine lv_iload hx hb dX8_died_165 (lv_at hl 4 rfl) ?_
    obtain ⟨g2, h⟩ := gd h
    refine Mld_17 (v := (σ.2.2 17 (x4).toNatClampNeg)) C hA rfl g2 dX8_died_167 ?_
    refine lv_lconst (v := 0) hx hb dX8_died_168 (by decide) ?_
    refine W.lcmp hx hb dX8_died_169 ?_
    refine lv_if_eq (tgt := 264) hx hb dX8_died_170 (by decide) (fun c3 => ?_) (fun c3 => ?_)
    · replace h := (if_pos c3).symm.trans h
      exact w_X8_died_264 C hk152 h hA (lv_sub hl [0, 1, 2, 3, 4] rfl)
    · replace h := (if_neg c3).symm.trans h
      refine lv_aload_n hx hb dX8_died_173 rfl (lv_at hl 0 rfl) ?_
      refine Mg_X8_owes C hA iX8_died_X8 (by decide +kernel) dX8_died_174 ?_
      refine lv_iload hx hb dX8_died_177 (lv_at hl 4 rfl) ?_
      refine Mld_15 (v := (σ.2.1 15 (x4).toNatClampNeg)) C hA rfl g2 dX8_died_179 ?_
      refine lv_iload_n hx hb dX8_died_180 rfl (lv_at hl 1 rfl) ?_
      refine lv_icmp_eq (tgt := 198) hx hb dX8_died_181 (by decide) (fun c4 => ?_) (fun c4 => ?_)
      · replace h := (if_pos c4).symm.trans h
        exact w_X8_died_198 C hk152 h hA (lv_sub hl [0, 1, 2, 3, 4] rfl)
      · replace h := (if_neg c4).symm.trans h
        refine lv_aload_n hx hb dX8_died_184 rfl (lv_at hl 0 rfl) ?_
        refine Mg_X8_whom C hA iX8_died_X8 (by decide +kernel) dX8_died_185 ?_
        refine lv_iload hx hb dX8_died_188 (lv_at hl 4 rfl) ?_
        refine Mld_16 (v := (σ.2.1 16 (x4).toNatClampNeg)) C hA rfl g2 dX8_died_190 ?_
        refine lv_iload_n hx hb dX8_died_191 rfl (lv_at hl 1 rfl) ?_
        refine lv_icmp_eq (tgt := 198) hx hb dX8_died_192 (by decide) (fun c5 => ?_) (fun c5 => ?_)
        · replace h := (if_pos c5).symm.trans h
          exact w_X8_died_198 C hk152 h hA (lv_sub hl [0, 1, 2, 3, 4] rfl)
        · replace h := (if_neg c5).symm.trans h
          refine lv_goto (tgt := 264) hx hb dX8_died_195 (by decide) ?_
          exact w_X8_died_264 C hk152 h hA (lv_sub hl [0, 1, 2, 3, 4] rfl)
set_option maxHeartbeats 4000000 in
theorem w_X8_died_L152 {σ : SS} {x : Int32 × Int32 × Int32 × Int32} (C : Cx p l s m args meth c cX8_died 5 wsX8_died (some .int) RX8 g A) (h : f_X8_died_L152 fu σ x = some R) {H : Heap} {locs : List Loc} {ls : Array Slot} (hA : Aw g A s.heap (wM g σ) H locs) (hl : lv_has ls 5 [(0, .ref (g.2.1 0)), (1, .int x.1), (2, .int x.2.1), (3, .int x.2.2.1), (4, .int x.2.2.2)]) : W p l e rmX8_died s m args below meth c H locs 0 0 (MQ below (Qi g A (wM g R.2) R.1) args s 0 0 A) (F0 m 152 ls []) := by
  refine loopW (P := fun σ x => ∀ (H : Heap) (locs : List Loc) (ls : Array Slot), Aw g A s.heap (wM g σ) H locs → lv_has ls 5 [(0, .ref (g.2.1 0)), (1, .int x.1), (2, .int x.2.1), (3, .int x.2.2.1), (4, .int x.2.2.2)] → W p l e rmX8_died s m args below meth c H locs 0 0 (MQ below (Qi g A (wM g R.2) R.1) args s 0 0 A) (F0 m 152 ls [])) (fun k hk σ x h9 H locs ls hA9 hl9 => ?_) fu σ x h H locs ls hA hl
  exact w_X8_died_152 C hk h9 hA9 hl9
set_option maxHeartbeats 4000000 in
set_option maxRecDepth 100000 in
theorem w_X8_died_141 {σ : SS} {x1 : Int32} {x2 : Int32} {x3 : Int32} (C : Cx p l s m args meth c cX8_died 5 wsX8_died (some .int) RX8 g A) {k116 : SS → (Int32 × Int32 × Int32) → Option (Int32 × SS)} (hk116 : ∀ (σ : SS) (x : Int32 × Int32 × Int32), k116 σ x = some R → ∀ (H : Heap) (locs : List Loc) (ls : Array Slot), Aw g A s.heap (wM g σ) H locs → lv_has ls 5 [(0, .ref (g.2.1 0)), (1, .int x.1), (2, .int x.2.1), (3, .int x.2.2)] → W p l e rmX8_died s m args below meth c H locs 0 0 (MQ below (Qi g A (wM g R.2) R.1) args s 0 0 A) (F0 m 116 ls [])) (h : f_X8_died_141 fu k116 σ x1 x2 x3 = some R) {H : Heap} {locs : List Loc} {ls : Array Slot} (hA : Aw g A s.heap (wM g σ) H locs) (hl : lv_has ls 5 [(0, .ref (g.2.1 0)), (1, .int x1), (2, .int x2), (3, .int x3)]) : W p l e rmX8_died s m args below meth c H locs 0 0 (MQ below (Qi g A (wM g R.2) R.1) args s 0 0 A) (F0 m 141 ls []) := by
  have hx := C.1.1
  have hb := C.1.2.1
  unfold f_X8_died_141 at h
  refine lv_iinc (v := (x3 + 1)) (lv' := [(3, .int (x3 + 1)), (0, .ref (g.2.1 0)), (1, .int x1), (2, .int x2)]) hx hb dX8_died_141 hl (k := 3) rfl rfl (by decide) rfl (fun ls hl => ?_)
  refine lv_goto (tgt := 116) hx hb dX8_died_144 (by decide) ?_
  exact hk116 _ _ h _ _ _ hA (lv_sub hl [1, 2, 3, 0] rfl)
set_option maxHeartbeats 4000000 in
set_option maxRecDepth 100000 in
theorem w_X8_died_116 {σ : SS} {x1 : Int32} {x2 : Int32} {x3 : Int32} (C : Cx p l s m args meth c cX8_died 5 wsX8_died (some .int) RX8 g A) {k116 : SS → (Int32 × Int32 × Int32) → Option (Int32 × SS)} (hk116 : ∀ (σ : SS) (x : Int32 × Int32 × Int32), k116 σ x = some R → ∀ (H : Heap) (locs : List Loc) (ls : Array Slot), Aw g A s.heap (wM g σ) H locs → lv_has ls 5 [(0, .ref (g.2.1 0)), (1, .int x.1), (2, .int x.2.1), (3, .int x.2.2)] → W p l e rmX8_died s m args below meth c H locs 0 0 (MQ below (Qi g A (wM g R.2) R.1) args s 0 0 A) (F0 m 116 ls [])) (h : f_X8_died_116 fu k116 σ x1 x2 x3 = some R) {H : Heap} {locs : List Loc} {ls : Array Slot} (hA : Aw g A s.heap (wM g σ) H locs) (hl : lv_has ls 5 [(0, .ref (g.2.1 0)), (1, .int x1), (2, .int x2), (3, .int x3)]) : W p l e rmX8_died s m args below meth c H locs 0 0 (MQ below (Qi g A (wM g R.2) R.1) args s 0 0 A) (F0 m 116 ls []) := by
  have hx := C.1.1
  have hb := C.1.2.1
  unfold f_X8_died_116 at h
  refine lv_iload_n hx hb dX8_died_116 rfl (lv_at hl 3 rfl) ?_
  refine lv_aload_n hx hb dX8_died_117 rfl (lv_at hl 0 rfl) ?_
  refine Mg_X8_coppers (v := (σ.1 24)) C hA rfl iX8_died_X8 (by decide +kernel) dX8_died_118 ?_
  refine lv_icmp_ge (tgt := 147) hx hb dX8_died_121 (by decide) (fun c1 => ?_) (fun c1 => ?_)
  · replace h := (if_pos c1).symm.trans h
    refine lv_iconst (v := 0) hx hb dX8_died_147 (by decide) ?_
    refine lv_istore_n (lv' := [(3, .int (0 : Int32)), (0, .ref (g.2.1 0)), (1, .int x1), (2, .int x2)]) hx hb dX8_died_148 rfl hl (by decide) rfl (fun ls hl => ?_)
    refine lv_iconst (v := 0) hx hb dX8_died_149 (by decide) ?_
    refine lv_istore (lv' := [(4, .int (0 : Int32)), (3, .int (0 : Int32)), (0, .ref (g.2.1 0)), (1, .int x1), (2, .int x2)]) hx hb dX8_died_150 hl (by decide) rfl (fun ls hl => ?_)
    exact w_X8_died_L152 C h hA (lv_sub hl [2, 3, 4, 1, 0] rfl)
  · replace h := (if_neg c1).symm.trans h
    refine lv_aload_n hx hb dX8_died_124 rfl (lv_at hl 0 rfl) ?_
    refine Mg_X8_owner C hA iX8_died_X8 (by decide +kernel) dX8_died_125 ?_
    refine lv_iload_n hx hb dX8_died_128 rfl (lv_at hl 3 rfl) ?_
    obtain ⟨g2, h⟩ := gd h
    refine Mld_21 (v := (σ.2.1 21 (x3).toNatClampNeg)) C hA rfl g2 dX8_died_129 ?_
    refine lv_iload_n hx hb dX8_died_130 rfl (lv_at hl 1 rfl) ?_
    refine lv_icmp_ne (tgt := 141) hx hb dX8_died_131 (by decide) (fun c3 => ?_) (fun c3 => ?_)
    · replace h := (if_neg c3).symm.trans h
      exact w_X8_died_141 C hk116 h hA (lv_sub hl [0, 1, 2, 3] rfl)
    · replace h := (if_pos c3).symm.trans h
      refine lv_aload_n hx hb dX8_died_134 rfl (lv_at hl 0 rfl) ?_
      refine Mg_X8_owner C hA iX8_died_X8 (by decide +kernel) dX8_died_135 ?_
      refine lv_iload_n hx hb dX8_died_138 rfl (lv_at hl 3 rfl) ?_
      refine lv_iload_n hx hb dX8_died_139 rfl (lv_at hl 2 rfl) ?_
      refine Mst_21 C hA g2 dX8_died_140 (fun H locs hA => ?_)
      exact w_X8_died_141 C hk116 h hA (lv_sub hl [0, 1, 2, 3] rfl)
set_option maxHeartbeats 4000000 in
theorem w_X8_died_L116 {σ : SS} {x : Int32 × Int32 × Int32} (C : Cx p l s m args meth c cX8_died 5 wsX8_died (some .int) RX8 g A) (h : f_X8_died_L116 fu σ x = some R) {H : Heap} {locs : List Loc} {ls : Array Slot} (hA : Aw g A s.heap (wM g σ) H locs) (hl : lv_has ls 5 [(0, .ref (g.2.1 0)), (1, .int x.1), (2, .int x.2.1), (3, .int x.2.2)]) : W p l e rmX8_died s m args below meth c H locs 0 0 (MQ below (Qi g A (wM g R.2) R.1) args s 0 0 A) (F0 m 116 ls []) := by
  refine loopW (P := fun σ x => ∀ (H : Heap) (locs : List Loc) (ls : Array Slot), Aw g A s.heap (wM g σ) H locs → lv_has ls 5 [(0, .ref (g.2.1 0)), (1, .int x.1), (2, .int x.2.1), (3, .int x.2.2)] → W p l e rmX8_died s m args below meth c H locs 0 0 (MQ below (Qi g A (wM g R.2) R.1) args s 0 0 A) (F0 m 116 ls [])) (fun k hk σ x h9 H locs ls hA9 hl9 => ?_) fu σ x h H locs ls hA hl
  exact w_X8_died_116 C hk h9 hA9 hl9
set_option maxHeartbeats 4000000 in
set_option maxRecDepth 100000 in
theorem w_X8_died_76 {σ : SS} {x1 : Int32} {x2 : Int32} {y0 : Int32} (C : Cx p l s m args meth c cX8_died 5 wsX8_died (some .int) RX8 g A) (h : f_X8_died_76 fu σ x1 x2 y0 = some R) {H : Heap} {locs : List Loc} {ls : Array Slot} (hA : Aw g A s.heap (wM g σ) H locs) (hl : lv_has ls 5 [(0, .ref (g.2.1 0)), (1, .int x1), (2, .int x2)]) : W p l e rmX8_died s m args below meth c H locs 0 0 (MQ below (Qi g A (wM g R.2) R.1) args s 0 0 A) (F0 m 76 ls [.int y0, .ref (g.2.1 0)]) := by
  have hx := C.1.1
  have hb := C.1.2.1
  unfold f_X8_died_76 at h
  refine lv_iconst (v := 3) hx hb dX8_died_76 (by decide) ?_
  obtain ⟨r1, t3, hc2, h⟩ := bd h
  refine r_callVi (r := r1) (w1 := wM g t3) (As := [.int y0, .int (3 : Int32)]) (rest := []) C hA hl.1 (k_X8_bad C.2.2.2.2.2.2 hc2) (cwV 2 C.1.2.2.2.2 gX8_died_X8_bad rfl rfl rfl nd_X8_bad ⟨Nat.le_of_ble_eq_true rfl, Nat.le_of_ble_eq_true rfl⟩) 0 rfl rfl rfl rfl (Nat.le_of_ble_eq_true rfl) dX8_died_77 ⟨Nat.le_of_ble_eq_true rfl, Nat.le_of_ble_eq_true rfl⟩ (fun H locs hA => ?_)
  refine lv_if_eq (tgt := 85) hx hb dX8_died_80 (by decide) (fun c4 => ?_) (fun c4 => ?_)
  · replace h := (if_pos c4).symm.trans h
    refine lv_aload_n hx hb dX8_died_85 rfl (lv_at hl 0 rfl) ?_
    refine Mg_X8_isDead C hA iX8_died_X8 (by decide +kernel) dX8_died_86 ?_
    refine lv_iload_n hx hb dX8_died_89 rfl (lv_at hl 1 rfl) ?_
    refine lv_iconst (v := 1) hx hb dX8_died_90 (by decide) ?_
    obtain ⟨g5, h⟩ := gd h
    refine Mst_3 C hA g5 dX8_died_91 (fun H locs hA => ?_)
    refine lv_aload_n hx hb dX8_died_92 rfl (lv_at hl 0 rfl) ?_
    refine Mg_X8_blankets C hA iX8_died_X8 (by decide +kernel) dX8_died_93 ?_
    refine lv_iload_n hx hb dX8_died_96 rfl (lv_at hl 2 rfl) ?_
    refine lv_dup2_11 hx hb dX8_died_97 rfl rfl ?_
    obtain ⟨g6, h⟩ := gd h
    refine Mld_1 (v := (t3.2.1 1 (x2).toNatClampNeg)) C hA rfl g6 dX8_died_98 ?_
    refine lv_aload_n hx hb dX8_died_99 rfl (lv_at hl 0 rfl) ?_
    refine Mg_X8_blankets C hA iX8_died_X8 (by decide +kernel) dX8_died_100 ?_
    refine lv_iload_n hx hb dX8_died_103 rfl (lv_at hl 1 rfl) ?_
    refine Mld_1 (v := (t3.2.1 1 (x1).toNatClampNeg)) C hA rfl g5 dX8_died_104 ?_
    refine lv_iadd hx hb dX8_died_105 ?_
    refine Mst_1 C hA g6 dX8_died_106 (fun H locs hA => ?_)
    refine lv_aload_n hx hb dX8_died_107 rfl (lv_at hl 0 rfl) ?_
    refine Mg_X8_blankets C hA iX8_died_X8 (by decide +kernel) dX8_died_108 ?_
    refine lv_iload_n hx hb dX8_died_111 rfl (lv_at hl 1 rfl) ?_
    refine lv_iconst (v := 0) hx hb dX8_died_112 (by decide) ?_
    refine Mst_1 C hA g5 dX8_died_113 (fun H locs hA => ?_)
    refine lv_iconst (v := 0) hx hb dX8_died_114 (by decide) ?_
    refine lv_istore_n (lv' := [(3, .int (0 : Int32)), (0, .ref (g.2.1 0)), (1, .int x1), (2, .int x2)]) hx hb dX8_died_115 rfl hl (by decide) rfl (fun ls hl => ?_)
    exact w_X8_died_L116 C h hA (lv_sub hl [1, 2, 3, 0] rfl)
  · replace h := (if_neg c4).symm.trans h
    refine lv_iconst (v := 0) hx hb dX8_died_83 (by decide) ?_
    obtain rfl := Option.some.inj h
    exact r_iret C hA dX8_died_84
set_option maxHeartbeats 4000000 in
set_option maxRecDepth 100000 in
theorem w_X8_died_71 {σ : SS} {x1 : Int32} {x2 : Int32} (C : Cx p l s m args meth c cX8_died 5 wsX8_died (some .int) RX8 g A) (h : f_X8_died_71 fu σ x1 x2 = some R) {H : Heap} {locs : List Loc} {ls : Array Slot} (hA : Aw g A s.heap (wM g σ) H locs) (hl : lv_has ls 5 [(0, .ref (g.2.1 0)), (1, .int x1), (2, .int x2)]) : W p l e rmX8_died s m args below meth c H locs 0 0 (MQ below (Qi g A (wM g R.2) R.1) args s 0 0 A) (F0 m 71 ls [.ref (g.2.1 0)]) := by
  have hx := C.1.1
  have hb := C.1.2.1
  unfold f_X8_died_71 at h
  refine lv_iconst (v := 1) hx hb dX8_died_71 (by decide) ?_
  refine lv_goto (tgt := 76) hx hb dX8_died_72 (by decide) ?_
  exact w_X8_died_76 C h hA (lv_sub hl [0, 1, 2] rfl)
set_option maxHeartbeats 4000000 in
set_option maxRecDepth 100000 in
theorem w_X8_died_45 {σ : SS} {x1 : Int32} {x2 : Int32} {y0 : Int32} (C : Cx p l s m args meth c cX8_died 5 wsX8_died (some .int) RX8 g A) (h : f_X8_died_45 fu σ x1 x2 y0 = some R) {H : Heap} {locs : List Loc} {ls : Array Slot} (hA : Aw g A s.heap (wM g σ) H locs) (hl : lv_has ls 5 [(0, .ref (g.2.1 0)), (1, .int x1), (2, .int x2)]) : W p l e rmX8_died s m args below meth c H locs 0 0 (MQ below (Qi g A (wM g R.2) R.1) args s 0 0 A) (F0 m 45 ls [.int y0, .ref (g.2.1 0)]) := by
  have hx := C.1.1
  have hb := C.1.2.1
  unfold f_X8_died_45 at h
  refine lv_iconst (v := 2) hx hb dX8_died_45 (by decide) ?_
  obtain ⟨r1, t3, hc2, h⟩ := bd h
  refine r_callVi (r := r1) (w1 := wM g t3) (As := [.int y0, .int (2 : Int32)]) (rest := []) C hA hl.1 (k_X8_bad C.2.2.2.2.2.2 hc2) (cwV 2 C.1.2.2.2.2 gX8_died_X8_bad rfl rfl rfl nd_X8_bad ⟨Nat.le_of_ble_eq_true rfl, Nat.le_of_ble_eq_true rfl⟩) 0 rfl rfl rfl rfl (Nat.le_of_ble_eq_true rfl) dX8_died_46 ⟨Nat.le_of_ble_eq_true rfl, Nat.le_of_ble_eq_true rfl⟩ (fun H locs hA => ?_)
  refine lv_if_ne (tgt := 83) hx hb dX8_died_49 (by decide) (fun c4 => ?_) (fun c4 => ?_)
  · replace h := (if_neg c4).symm.trans h
    refine lv_iconst (v := 0) hx hb dX8_died_83 (by decide) ?_
    obtain rfl := Option.some.inj h
    exact r_iret C hA dX8_died_84
  · replace h := (if_pos c4).symm.trans h
    refine lv_aload_n hx hb dX8_died_52 rfl (lv_at hl 0 rfl) ?_
    refine lv_aload_n hx hb dX8_died_53 rfl (lv_at hl 0 rfl) ?_
    refine Mg_X8_isDead C hA iX8_died_X8 (by decide +kernel) dX8_died_54 ?_
    refine lv_iload_n hx hb dX8_died_57 rfl (lv_at hl 1 rfl) ?_
    obtain ⟨g5, h⟩ := gd h
    refine Mld_3 (v := (t3.2.1 3 (x1).toNatClampNeg)) C hA rfl g5 dX8_died_58 ?_
    refine lv_if_ne (tgt := 71) hx hb dX8_died_59 (by decide) (fun c6 => ?_) (fun c6 => ?_)
    · replace h := (if_neg c6).symm.trans h
      exact w_X8_died_71 C h hA (lv_sub hl [0, 1, 2] rfl)
    · replace h := (if_pos c6).symm.trans h
      refine lv_aload_n hx hb dX8_died_62 rfl (lv_at hl 0 rfl) ?_
      refine Mg_X8_isDead C hA iX8_died_X8 (by decide +kernel) dX8_died_63 ?_
      refine lv_iload_n hx hb dX8_died_66 rfl (lv_at hl 2 rfl) ?_
      obtain ⟨g7, h⟩ := gd h
      refine Mld_3 (v := (t3.2.1 3 (x2).toNatClampNeg)) C hA rfl g7 dX8_died_67 ?_
      refine lv_if_eq (tgt := 75) hx hb dX8_died_68 (by decide) (fun c8 => ?_) (fun c8 => ?_)
      · replace h := (if_pos c8).symm.trans h
        refine lv_iconst (v := 0) hx hb dX8_died_75 (by decide) ?_
        exact w_X8_died_76 C h hA (lv_sub hl [0, 1, 2] rfl)
      · replace h := (if_neg c8).symm.trans h
        exact w_X8_died_71 C h hA (lv_sub hl [0, 1, 2] rfl)
set_option maxHeartbeats 4000000 in
set_option maxRecDepth 100000 in
theorem w_X8_died_27 {σ : SS} {x1 : Int32} {x2 : Int32} {y0 : Int32} (C : Cx p l s m args meth c cX8_died 5 wsX8_died (some .int) RX8 g A) (h : f_X8_died_27 fu σ x1 x2 y0 = some R) {H : Heap} {locs : List Loc} {ls : Array Slot} (hA : Aw g A s.heap (wM g σ) H locs) (hl : lv_has ls 5 [(0, .ref (g.2.1 0)), (1, .int x1), (2, .int x2)]) : W p l e rmX8_died s m args below meth c H locs 0 0 (MQ below (Qi g A (wM g R.2) R.1) args s 0 0 A) (F0 m 27 ls [.int y0, .ref (g.2.1 0)]) := by
  have hx := C.1.1
  have hb := C.1.2.1
  unfold f_X8_died_27 at h
  refine lv_iconst (v := 1) hx hb dX8_died_27 (by decide) ?_
  obtain ⟨r1, t3, hc2, h⟩ := bd h
  refine r_callVi (r := r1) (w1 := wM g t3) (As := [.int y0, .int (1 : Int32)]) (rest := []) C hA hl.1 (k_X8_bad C.2.2.2.2.2.2 hc2) (cwV 2 C.1.2.2.2.2 gX8_died_X8_bad rfl rfl rfl nd_X8_bad ⟨Nat.le_of_ble_eq_true rfl, Nat.le_of_ble_eq_true rfl⟩) 0 rfl rfl rfl rfl (Nat.le_of_ble_eq_true rfl) dX8_died_28 ⟨Nat.le_of_ble_eq_true rfl, Nat.le_of_ble_eq_true rfl⟩ (fun H locs hA => ?_)
  refine lv_if_ne (tgt := 83) hx hb dX8_died_31 (by decide) (fun c4 => ?_) (fun c4 => ?_)
  · replace h := (if_neg c4).symm.trans h
    refine lv_iconst (v := 0) hx hb dX8_died_83 (by decide) ?_
    obtain rfl := Option.some.inj h
    exact r_iret C hA dX8_died_84
  · replace h := (if_pos c4).symm.trans h
    refine lv_aload_n hx hb dX8_died_34 rfl (lv_at hl 0 rfl) ?_
    refine lv_iload_n hx hb dX8_died_35 rfl (lv_at hl 1 rfl) ?_
    refine lv_iload_n hx hb dX8_died_36 rfl (lv_at hl 2 rfl) ?_
    refine lv_icmp_ne (tgt := 44) hx hb dX8_died_37 (by decide) (fun c5 => ?_) (fun c5 => ?_)
    · replace h := (if_neg c5).symm.trans h
      refine lv_iconst (v := 0) hx hb dX8_died_44 (by decide) ?_
      exact w_X8_died_45 C h hA (lv_sub hl [0, 1, 2] rfl)
    · replace h := (if_pos c5).symm.trans h
      refine lv_iconst (v := 1) hx hb dX8_died_40 (by decide) ?_
      refine lv_goto (tgt := 45) hx hb dX8_died_41 (by decide) ?_
      exact w_X8_died_45 C h hA (lv_sub hl [0, 1, 2] rfl)
set_option maxHeartbeats 4000000 in
set_option maxRecDepth 100000 in
theorem w_X8_died_22 {σ : SS} {x1 : Int32} {x2 : Int32} (C : Cx p l s m args meth c cX8_died 5 wsX8_died (some .int) RX8 g A) (h : f_X8_died_22 fu σ x1 x2 = some R) {H : Heap} {locs : List Loc} {ls : Array Slot} (hA : Aw g A s.heap (wM g σ) H locs) (hl : lv_has ls 5 [(0, .ref (g.2.1 0)), (1, .int x1), (2, .int x2)]) : W p l e rmX8_died s m args below meth c H locs 0 0 (MQ below (Qi g A (wM g R.2) R.1) args s 0 0 A) (F0 m 22 ls [.ref (g.2.1 0)]) := by
  have hx := C.1.1
  have hb := C.1.2.1
  unfold f_X8_died_22 at h
  refine lv_iconst (v := 1) hx hb dX8_died_22 (by decide) ?_
  refine lv_goto (tgt := 27) hx hb dX8_died_23 (by decide) ?_
  exact w_X8_died_27 C h hA (lv_sub hl [0, 1, 2] rfl)
set_option maxHeartbeats 4000000 in
set_option maxRecDepth 100000 in
theorem w_X8_died_0 {σ : SS} {x1 : Int32} {x2 : Int32} (C : Cx p l s m args meth c cX8_died 5 wsX8_died (some .int) RX8 g A) (h : f_X8_died fu σ x1 x2 = some R) {H : Heap} {locs : List Loc} {ls : Array Slot} (hA : Aw g A s.heap (wM g σ) H locs) (hl : lv_has ls 5 [(0, .ref (g.2.1 0)), (1, .int x1), (2, .int x2)]) : W p l e rmX8_died s m args below meth c H locs 0 0 (MQ below (Qi g A (wM g R.2) R.1) args s 0 0 A) (F0 m 0 ls []) := by
  have hx := C.1.1
  have hb := C.1.2.1
  unfold f_X8_died at h
  refine lv_aload_n hx hb dX8_died_0 rfl (lv_at hl 0 rfl) ?_
  refine lv_iconst (v := 0) hx hb dX8_died_1 (by decide) ?_
  refine Mp_X8_thrown C hA iX8_died_X8 (by decide +kernel) dX8_died_2 (fun H locs hA => ?_)
  refine lv_aload_n hx hb dX8_died_5 rfl (lv_at hl 0 rfl) ?_
  refine lv_aload_n hx hb dX8_died_6 rfl (lv_at hl 0 rfl) ?_
  refine lv_iload_n hx hb dX8_died_7 rfl (lv_at hl 1 rfl) ?_
  obtain ⟨r1, hc2, h⟩ := bd1 h
  refine r_callVi (r := r1) (w1 := wM g (sI σ 0 (0 : Int32))) (As := [.int x1]) (rest := [.ref (g.2.1 0)]) C hA hl.1 (k_X8_isChief C.2.2.2.2.2.2 hc2) (cwV 1 C.1.2.2.2.2 gX8_died_X8_isChief rfl rfl rfl nd_X8_isChief ⟨Nat.le_of_ble_eq_true rfl, Nat.le_of_ble_eq_true rfl⟩) 0 rfl rfl rfl rfl (Nat.le_of_ble_eq_true rfl) dX8_died_8 ⟨Nat.le_of_ble_eq_true rfl, Nat.le_of_ble_eq_true rfl⟩ (fun H locs hA => ?_)
  refine lv_if_eq (tgt := 22) hx hb dX8_died_11 (by decide) (fun c3 => ?_) (fun c3 => ?_)
  · replace h := (if_pos c3).symm.trans h
    exact w_X8_died_22 C h hA (lv_sub hl [0, 1, 2] rfl)
  · replace h := (if_neg c3).symm.trans h
    refine lv_aload_n hx hb dX8_died_14 rfl (lv_at hl 0 rfl) ?_
    refine lv_iload_n hx hb dX8_died_15 rfl (lv_at hl 2 rfl) ?_
    obtain ⟨r4, hc5, h⟩ := bd1 h
    refine r_callVi (r := r4) (w1 := wM g (sI σ 0 (0 : Int32))) (As := [.int x2]) (rest := [.ref (g.2.1 0)]) C hA hl.1 (k_X8_isChief C.2.2.2.2.2.2 hc5) (cwV 1 C.1.2.2.2.2 gX8_died_X8_isChief rfl rfl rfl nd_X8_isChief ⟨Nat.le_of_ble_eq_true rfl, Nat.le_of_ble_eq_true rfl⟩) 0 rfl rfl rfl rfl (Nat.le_of_ble_eq_true rfl) dX8_died_16 ⟨Nat.le_of_ble_eq_true rfl, Nat.le_of_ble_eq_true rfl⟩ (fun H locs hA => ?_)
    refine lv_if_ne (tgt := 26) hx hb dX8_died_19 (by decide) (fun c6 => ?_) (fun c6 => ?_)
    · replace h := (if_neg c6).symm.trans h
      refine lv_iconst (v := 0) hx hb dX8_died_26 (by decide) ?_
      exact w_X8_died_27 C h hA (lv_sub hl [0, 1, 2] rfl)
    · replace h := (if_pos c6).symm.trans h
      exact w_X8_died_22 C h hA (lv_sub hl [0, 1, 2] rfl)
end
set_option maxRecDepth 100000 in
theorem k_X8_died {l : Launch} {g : Gm} {fu : Nat} {σ : SS} {x1 : Int32} {x2 : Int32} {R : Int32 × SS} (hlt : l.stackTraces = false) (h : f_X8_died fu σ x1 x2 = some R) (sz : Nat) : Met l yX8_died wsX8_died rmX8_died (Pw g (wM g σ) [.ref (g.2.1 0), .int x1, .int x2] sz) (Qi g (va_A (wM g σ) sz) (wM g R.2) R.1) 0 0 (va_A (wM g σ) sz) :=
  ofM (own := RX8) hlt (by decide) rfl rfl (Nat.le_of_ble_eq_true rfl) (fun p e s m below meth c hsz C hA ls hl => w_X8_died_0 C h hA hl)
abbrev rmX8_wait : Room := { frames := 2, cells := 0, slots := 0, locals := 45 }
theorem iX8_wait_X8 : ∀ x ∈ wsX80, x ∈ wsX8_wait := by decide +kernel
theorem nd_X8_wait : yX8_wait.cls = RX8 ∧ yX8_wait.cls ≠ "java/lang/invoke/MethodHandle" ∧ yX8_wait.cls ≠ "java/lang/invoke/VarHandle" ∧ (parseMethodDescriptor yX8_wait.desc).map (fun d => d.parameters.length) = some 1 := by decide +kernel
def f_X8_wait_156 (fu : Nat) (k44 : SS → (Int32 × Int32) → Option (Int32 × SS)) (σ : SS) (x1 : Int32) (x2 : Int32) : Option (Int32 × SS) :=
  k44 (sI σ 5 ((σ.1 5) + (1 : Int32))) (x1, (x2 + 1))
def f_X8_wait_150 (fu : Nat) (k44 : SS → (Int32 × Int32) → Option (Int32 × SS)) (k65 : SS → (Int32 × Int32 × Int32 × Int32 × Int32) → Option (Int32 × SS)) (σ : SS) (x1 : Int32) (x2 : Int32) (x3 : Int32) (x4 : Int32) (x5 : Int32) : Option (Int32 × SS) :=
  k65 σ (x1, x2, x3, x4, (x5 + 1))
def f_X8_wait_149 (fu : Nat) (k44 : SS → (Int32 × Int32) → Option (Int32 × SS)) (k65 : SS → (Int32 × Int32 × Int32 × Int32 × Int32) → Option (Int32 × SS)) (σ : SS) (x1 : Int32) (x2 : Int32) (x3 : Int32) (x4 : Int32) (x5 : Int32) (y0 : Int64) (y1 : Int32) : Option (Int32 × SS) :=
  if inB y1 400 then f_X8_wait_150 fu k44 k65 (sL σ 17 (y1).toNatClampNeg y0) x1 x2 x3 x4 x5 else none
def f_X8_wait_65 (fu : Nat) (k44 : SS → (Int32 × Int32) → Option (Int32 × SS)) (k65 : SS → (Int32 × Int32 × Int32 × Int32 × Int32) → Option (Int32 × SS)) (σ : SS) (x1 : Int32) (x2 : Int32) (x3 : Int32) (x4 : Int32) (x5 : Int32) : Option (Int32 × SS) :=
  (if (σ.1 20) ≤ x5 then f_X8_wait_156 fu k44 σ x1 x2 else (if x4 ≤ 0 then f_X8_wait_156 fu k44 σ x1 x2 else if inB x5 400 then (if (σ.2.1 18 (x5).toNatClampNeg) = 0 then f_X8_wait_150 fu k44 k65 σ x1 x2 x3 x4 x5 else if ¬ (x4).toInt64 = 0 then (if (lg_cmp ((sL σ 17 (x5).toNatClampNeg ((σ.2.2 17 (x5).toNatClampNeg) + (((σ.2.2 17 (x5).toNatClampNeg) * (x3).toInt64) / (x4).toInt64))).2.2 17 (x5).toNatClampNeg) (1000000000 : Int64)) ≤ 0 then f_X8_wait_149 fu k44 k65 (sL σ 17 (x5).toNatClampNeg ((σ.2.2 17 (x5).toNatClampNeg) + (((σ.2.2 17 (x5).toNatClampNeg) * (x3).toInt64) / (x4).toInt64))) x1 x2 x3 x4 x5 ((sL σ 17 (x5).toNatClampNeg ((σ.2.2 17 (x5).toNatClampNeg) + (((σ.2.2 17 (x5).toNatClampNeg) * (x3).toInt64) / (x4).toInt64))).2.2 17 (x5).toNatClampNeg) x5 else f_X8_wait_149 fu k44 k65 (sL σ 17 (x5).toNatClampNeg ((σ.2.2 17 (x5).toNatClampNeg) + (((σ.2.2 17 (x5).toNatClampNeg) * (x3).toInt64) / (x4).toInt64))) x1 x2 x3 x4 x5 (1000000000 : Int64) x5) else none) else none))
def f_X8_wait_L65 (fu : Nat) (k44 : SS → (Int32 × Int32) → Option (Int32 × SS)) : SS → (Int32 × Int32 × Int32 × Int32 × Int32) → Option (Int32 × SS) := loopN (fun k65 σ x => f_X8_wait_65 fu k44 k65 σ x.1 x.2.1 x.2.2.1 x.2.2.2.1 x.2.2.2.2) fu
def f_X8_wait_44 (fu : Nat) (k44 : SS → (Int32 × Int32) → Option (Int32 × SS)) (σ : SS) (x1 : Int32) (x2 : Int32) : Option (Int32 × SS) :=
  (if x1 ≤ x2 then some ((σ.1 5), σ) else bnd1 (f_X8_term fu σ (3 : Int32)) (fun r2 => bnd1 (f_X8_term fu σ (4 : Int32)) (fun r4 => f_X8_wait_L65 fu k44 σ (x1, x2, r2, r4, (0 : Int32)))))
def f_X8_wait_L44 (fu : Nat) : SS → (Int32 × Int32) → Option (Int32 × SS) := loopN (fun k44 σ x => f_X8_wait_44 fu k44 σ x.1 x.2) fu
def f_X8_wait_33 (fu : Nat) (σ : SS) (x1 : Int32) (y0 : Int32) : Option (Int32 × SS) :=
  bnd (f_X8_bad fu σ y0 (1 : Int32)) (fun r1 t3 => (if r1 = 0 then f_X8_wait_L44 fu t3 (x1, (0 : Int32)) else some ((0 : Int32), t3)))
def f_X8_wait_28 (fu : Nat) (σ : SS) (x1 : Int32) : Option (Int32 × SS) :=
  f_X8_wait_33 fu σ x1 (1 : Int32)
def f_X8_wait (fu : Nat) (σ : SS) (x1 : Int32) : Option (Int32 × SS) :=
  (if x1 < 0 then f_X8_wait_28 fu (sI σ 0 (0 : Int32)) x1 else (if (100 : Int32) < x1 then f_X8_wait_28 fu (sI σ 0 (0 : Int32)) x1 else (if ((σ.1 5) + x1) ≤ (1000 : Int32) then f_X8_wait_33 fu (sI σ 0 (0 : Int32)) x1 (0 : Int32) else f_X8_wait_28 fu (sI σ 0 (0 : Int32)) x1)))
section
variable {p : Program} {l : Launch} {e : Env} {s : State} {m : MethodId} {args : Array Value} {below : List Frame} {meth : Method} {c : Code} {g : Gm} {A : Nat → Prop} {fu : Nat} {R : Int32 × SS}
set_option maxHeartbeats 4000000 in
set_option maxRecDepth 100000 in
theorem w_X8_wait_156 {σ : SS} {x1 : Int32} {x2 : Int32} (C : Cx p l s m args meth c cX8_wait 6 wsX8_wait (some .int) RX8 g A) {k44 : SS → (Int32 × Int32) → Option (Int32 × SS)} (hk44 : ∀ (σ : SS) (x : Int32 × Int32), k44 σ x = some R → ∀ (H : Heap) (locs : List Loc) (ls : Array Slot), Aw g A s.heap (wM g σ) H locs → lv_has ls 6 [(0, .ref (g.2.1 0)), (1, .int x.1), (2, .int x.2)] → W p l e rmX8_wait s m args below meth c H locs 0 0 (MQ below (Qi g A (wM g R.2) R.1) args s 0 0 A) (F0 m 44 ls [])) (h : f_X8_wait_156 fu k44 σ x1 x2 = some R) {H : Heap} {locs : List Loc} {ls : Array Slot} (hA : Aw g A s.heap (wM g σ) H locs) (hl : lv_has ls 6 [(0, .ref (g.2.1 0)), (1, .int x1), (2, .int x2)]) : W p l e rmX8_wait s m args below meth c H locs 0 0 (MQ below (Qi g A (wM g R.2) R.1) args s 0 0 A) (F0 m 156 ls []) := by
  have hx := C.1.1
  have hb := C.1.2.1
  unfold f_X8_wait_156 at h
  refine lv_aload_n hx hb dX8_wait_156 rfl (lv_at hl 0 rfl) ?_
  refine lv_dup hx hb dX8_wait_157 rfl ?_
  refine Mg_X8_now (v := (σ.1 5)) C hA rfl iX8_wait_X8 (by decide +kernel) dX8_wait_158 ?_
  refine lv_iconst (v := 1) hx hb dX8_wait_161 (by decide) ?_
  refine lv_iadd hx hb dX8_wait_162 ?_
  refine Mp_X8_now C hA iX8_wait_X8 (by decide +kernel) dX8_wait_163 (fun H locs hA => ?_)
  refine lv_iinc (v := (x2 + 1)) (lv' := [(2, .int (x2 + 1)), (0, .ref (g.2.1 0)), (1, .int x1)]) hx hb dX8_wait_166 hl (k := 2) rfl rfl (by decide) rfl (fun ls hl => ?_)
  refine lv_goto (tgt := 44) hx hb dX8_wait_169 (by decide) ?_
  exact hk44 _ _ h _ _ _ hA (lv_sub hl [1, 2, 0] rfl)
set_option maxHeartbeats 4000000 in
set_option maxRecDepth 100000 in
theorem w_X8_wait_150 {σ : SS} {x1 : Int32} {x2 : Int32} {x3 : Int32} {x4 : Int32} {x5 : Int32} (C : Cx p l s m args meth c cX8_wait 6 wsX8_wait (some .int) RX8 g A) {k44 : SS → (Int32 × Int32) → Option (Int32 × SS)} (hk44 : ∀ (σ : SS) (x : Int32 × Int32), k44 σ x = some R → ∀ (H : Heap) (locs : List Loc) (ls : Array Slot), Aw g A s.heap (wM g σ) H locs → lv_has ls 6 [(0, .ref (g.2.1 0)), (1, .int x.1), (2, .int x.2)] → W p l e rmX8_wait s m args below meth c H locs 0 0 (MQ below (Qi g A (wM g R.2) R.1) args s 0 0 A) (F0 m 44 ls [])) {k65 : SS → (Int32 × Int32 × Int32 × Int32 × Int32) → Option (Int32 × SS)} (hk65 : ∀ (σ : SS) (x : Int32 × Int32 × Int32 × Int32 × Int32), k65 σ x = some R → ∀ (H : Heap) (locs : List Loc) (ls : Array Slot), Aw g A s.heap (wM g σ) H locs → lv_has ls 6 [(0, .ref (g.2.1 0)), (1, .int x.1), (2, .int x.2.1), (3, .int x.2.2.1), (4, .int x.2.2.2.1), (5, .int x.2.2.2.2)] → W p l e rmX8_wait s m args below meth c H locs 0 0 (MQ below (Qi g A (wM g R.2) R.1) args s 0 0 A) (F0 m 65 ls [])) (h : f_X8_wait_150 fu k44 k65 σ x1 x2 x3 x4 x5 = some R) {H : Heap} {locs : List Loc} {ls : Array Slot} (hA : Aw g A s.heap (wM g σ) H locs) (hl : lv_has ls 6 [(0, .ref (g.2.1 0)), (1, .int x1), (2, .int x2), (3, .int x3), (4, .int x4), (5, .int x5)]) : W p l e rmX8_wait s m args below meth c H locs 0 0 (MQ below (Qi g A (wM g R.2) R.1) args s 0 0 A) (F0 m 150 ls []) := by
  have hx := C.1.1
  have hb := C.1.2.1
  unfold f_X8_wait_150 at h
  refine lv_iinc (v := (x5 + 1)) (lv' := [(5, .int (x5 + 1)), (0, .ref (g.2.1 0)), (1, .int x1), (2, .int x2), (3, .int x3), (4, .int x4)]) hx hb dX8_wait_150 hl (k := 5) rfl rfl (by decide) rfl (fun ls hl => ?_)
  refine lv_goto (tgt := 65) hx hb dX8_wait_153 (by decide) ?_
  exact hk65 _ _ h _ _ _ hA (lv_sub hl [1, 2, 3, 4, 5, 0] rfl)
set_option maxHeartbeats 4000000 in
set_option maxRecDepth 100000 in
theorem w_X8_wait_149 {σ : SS} {x1 : Int32} {x2 : Int32} {x3 : Int32} {x4 : Int32} {x5 : Int32} {y0 : Int64} {y1 : Int32} (C : Cx p l s m args meth c cX8_wait 6 wsX8_wait (some .int) RX8 g A) {k44 : SS → (Int32 × Int32) → Option (Int32 × SS)} (hk44 : ∀ (σ : SS) (x : Int32 × Int32), k44 σ x = some R → ∀ (H : Heap) (locs : List Loc) (ls : Array Slot), Aw g A s.heap (wM g σ) H locs → lv_has ls 6 [(0, .ref (g.2.1 0)), (1, .int x.1), (2, .int x.2)] → W p l e rmX8_wait s m args below meth c H locs 0 0 (MQ below (Qi g A (wM g R.2) R.1) args s 0 0 A) (F0 m 44 ls [])) {k65 : SS → (Int32 × Int32 × Int32 × Int32 × Int32) → Option (Int32 × SS)} (hk65 : ∀ (σ : SS) (x : Int32 × Int32 × Int32 × Int32 × Int32), k65 σ x = some R → ∀ (H : Heap) (locs : List Loc) (ls : Array Slot), Aw g A s.heap (wM g σ) H locs → lv_has ls 6 [(0, .ref (g.2.1 0)), (1, .int x.1), (2, .int x.2.1), (3, .int x.2.2.1), (4, .int x.2.2.2.1), (5, .int x.2.2.2.2)] → W p l e rmX8_wait s m args below meth c H locs 0 0 (MQ below (Qi g A (wM g R.2) R.1) args s 0 0 A) (F0 m 65 ls [])) (h : f_X8_wait_149 fu k44 k65 σ x1 x2 x3 x4 x5 y0 y1 = some R) {H : Heap} {locs : List Loc} {ls : Array Slot} (hA : Aw g A s.heap (wM g σ) H locs) (hl : lv_has ls 6 [(0, .ref (g.2.1 0)), (1, .int x1), (2, .int x2), (3, .int x3), (4, .int x4), (5, .int x5)]) : W p l e rmX8_wait s m args below meth c H locs 0 0 (MQ below (Qi g A (wM g R.2) R.1) args s 0 0 A) (F0 m 149 ls [.long y0, .int y1, .ref (g.2.1 17)]) := by
  have hx := C.1.1
  have hb := C.1.2.1
  unfold f_X8_wait_149 at h
  obtain ⟨g1, h⟩ := gd h
  refine Mst_17 C hA g1 dX8_wait_149 (fun H locs hA => ?_)
  exact w_X8_wait_150 C hk44 hk65 h hA (lv_sub hl [0, 1, 2, 3, 4, 5] rfl)
set_option maxHeartbeats 4000000 in
set_option maxRecDepth 100000 in
theorem w_X8_wait_65 {σ : SS} {x1 : Int32} {x2 : Int32} {x3 : Int32} {x4 : Int32} {x5 : Int32} (C : Cx p l s m args meth c cX8_wait 6 wsX8_wait (some .int) RX8 g A) {k44 : SS → (Int32 × Int32) → Option (Int32 × SS)} (hk44 : ∀ (σ : SS) (x : Int32 × Int32), k44 σ x = some R → ∀ (H : Heap) (locs : List Loc) (ls : Array Slot), Aw g A s.heap (wM g σ) H locs → lv_has ls 6 [(0, .ref (g.2.1 0)), (1, .int x.1), (2, .int x.2)] → W p l e rmX8_wait s m args below meth c H locs 0 0 (MQ below (Qi g A (wM g R.2) R.1) args s 0 0 A) (F0 m 44 ls [])) {k65 : SS → (Int32 × Int32 × Int32 × Int32 × Int32) → Option (Int32 × SS)} (hk65 : ∀ (σ : SS) (x : Int32 × Int32 × Int32 × Int32 × Int32), k65 σ x = some R → ∀ (H : Heap) (locs : List Loc) (ls : Array Slot), Aw g A s.heap (wM g σ) H locs → lv_has ls 6 [(0, .ref (g.2.1 0)), (1, .int x.1), (2, .int x.2.1), (3, .int x.2.2.1), (4, .int x.2.2.2.1), (5, .int x.2.2.2.2)] → W p l e rmX8_wait s m args below meth c H locs 0 0 (MQ below (Qi g A (wM g R.2) R.1) args s 0 0 A) (F0 m 65 ls [])) (h : f_X8_wait_65 fu k44 k65 σ x1 x2 x3 x4 x5 = some R) {H : Heap} {locs : List Loc} {ls : Array Slot} (hA : Aw g A s.heap (wM g σ) H locs) (hl : lv_has ls 6 [(0, .ref (g.2.1 0)), (1, .int x1), (2, .int x2), (3, .int x3), (4, .int x4), (5, .int x5)]) : W p l e rmX8_wait s m args below meth c H locs 0 0 (MQ below (Qi g A (wM g R.2) R.1) args s 0 0 A) (F0 m 65 ls []) := by
  have hx := C.1.1
  have hb := C.1.2.1
  unfold f_X8_wait_65 at h
  refine lv_iload hx hb dX8_wait_65 (lv_at hl 5 rfl) ?_
  refine lv_aload_n hx hb dX8_wait_67 rfl (lv_at hl 0 rfl) ?_
  refine Mg_X8_debts (v := (σ.1 20)) C hA rfl iX8_wait_X8 (by decide +kernel) dX8_wait_68 ?_
  refine lv_icmp_ge (tgt := 156) hx hb dX8_wait_71 (by decide) (fun c1 => ?_) (fun c1 => ?_)
  · replace h := (if_pos c1).symm.trans h
    exact w_X8_wait_156 C hk44 h hA (lv_sub hl [0, 1, 2] rfl)
  · replace h := (if_neg c1).symm.trans h
    refine lv_iload hx hb dX8_wait_74 (lv_at hl 4 rfl) ?_
    refine lv_if_le (tgt := 156) hx hb dX8_wait_76 (by decide) (fun c2 => ?_) (fun c2 => ?_)
    · replace h := (if_pos c2).symm.trans h
      exact w_X8_wait_156 C hk44 h hA (lv_sub hl [0, 1, 2] rfl)
    · replace h := (if_neg c2).symm.trans h
      refine lv_aload_n hx hb dX8_wait_79 rfl (lv_at hl 0 rfl) ?_
      refine Mg_X8_isLoan C hA iX8_wait_X8 (by decide +kernel) dX8_wait_80 ?_
      refine lv_iload hx hb dX8_wait_83 (lv_at hl 5 rfl) ?_
      obtain ⟨g3, h⟩ := gd h
      refine Mld_18 (v := (σ.2.1 18 (x5).toNatClampNeg)) C hA rfl g3 dX8_wait_85 ?_
      refine lv_if_ne (tgt := 92) hx hb dX8_wait_86 (by decide) (fun c4 => ?_) (fun c4 => ?_)
      · replace h := (if_neg c4).symm.trans h
        refine lv_aload_n hx hb dX8_wait_92 rfl (lv_at hl 0 rfl) ?_
        refine Mg_X8_left C hA iX8_wait_X8 (by decide +kernel) dX8_wait_93 ?_
        refine lv_iload hx hb dX8_wait_96 (lv_at hl 5 rfl) ?_
        refine lv_dup2_11 hx hb dX8_wait_98 rfl rfl ?_
        refine Mld_17 (v := (σ.2.2 17 (x5).toNatClampNeg)) C hA rfl g3 dX8_wait_99 ?_
        refine lv_aload_n hx hb dX8_wait_100 rfl (lv_at hl 0 rfl) ?_
        refine Mg_X8_left C hA iX8_wait_X8 (by decide +kernel) dX8_wait_101 ?_
        refine lv_iload hx hb dX8_wait_104 (lv_at hl 5 rfl) ?_
        refine Mld_17 (v := (σ.2.2 17 (x5).toNatClampNeg)) C hA rfl g3 dX8_wait_106 ?_
        refine lv_iload_n hx hb dX8_wait_107 rfl (lv_at hl 3 rfl) ?_
        refine lv_i2l hx hb dX8_wait_108 rfl ?_
        refine lv_lmul hx hb dX8_wait_109 ?_
        refine lv_iload hx hb dX8_wait_110 (lv_at hl 4 rfl) ?_
        refine lv_i2l hx hb dX8_wait_112 rfl ?_
        obtain ⟨g5, h⟩ := gd h
        refine lv_ldiv hx hb dX8_wait_113 g5 ?_
        refine lv_ladd hx hb dX8_wait_114 ?_
        refine Mst_17 C hA g3 dX8_wait_115 (fun H locs hA => ?_)
        refine lv_aload_n hx hb dX8_wait_116 rfl (lv_at hl 0 rfl) ?_
        refine Mg_X8_left C hA iX8_wait_X8 (by decide +kernel) dX8_wait_117 ?_
        refine lv_iload hx hb dX8_wait_120 (lv_at hl 5 rfl) ?_
        refine lv_aload_n hx hb dX8_wait_122 rfl (lv_at hl 0 rfl) ?_
        refine Mg_X8_left C hA iX8_wait_X8 (by decide +kernel) dX8_wait_123 ?_
        refine lv_iload hx hb dX8_wait_126 (lv_at hl 5 rfl) ?_
        refine Mld_17 (v := ((sL σ 17 (x5).toNatClampNeg ((σ.2.2 17 (x5).toNatClampNeg) + (((σ.2.2 17 (x5).toNatClampNeg) * (x3).toInt64) / (x4).toInt64))).2.2 17 (x5).toNatClampNeg)) C hA rfl g3 dX8_wait_128 ?_
        refine lv_ldc2 (v := 1000000000) hx hb C.1.2.2.2.1 (C.1.2.2.2.2 (.constantLong RX8 170 (1000000000)) (by decide +kernel)) dX8_wait_129 ?_
        refine W.lcmp hx hb dX8_wait_132 ?_
        refine lv_if_le (tgt := 142) hx hb dX8_wait_133 (by decide) (fun c6 => ?_) (fun c6 => ?_)
        · replace h := (if_pos c6).symm.trans h
          refine lv_aload_n hx hb dX8_wait_142 rfl (lv_at hl 0 rfl) ?_
          refine Mg_X8_left C hA iX8_wait_X8 (by decide +kernel) dX8_wait_143 ?_
          refine lv_iload hx hb dX8_wait_146 (lv_at hl 5 rfl) ?_
          refine Mld_17 (v := ((sL σ 17 (x5).toNatClampNeg ((σ.2.2 17 (x5).toNatClampNeg) + (((σ.2.2 17 (x5).toNatClampNeg) * (x3).toInt64) / (x4).toInt64))).2.2 17 (x5).toNatClampNeg)) C hA rfl g3 dX8_wait_148 ?_
          exact w_X8_wait_149 C hk44 hk65 h hA (lv_sub hl [0, 1, 2, 3, 4, 5] rfl)
        · replace h := (if_neg c6).symm.trans h
          refine lv_ldc2 (v := 1000000000) hx hb C.1.2.2.2.1 (C.1.2.2.2.2 (.constantLong RX8 170 (1000000000)) (by decide +kernel)) dX8_wait_136 ?_
          refine lv_goto (tgt := 149) hx hb dX8_wait_139 (by decide) ?_
          exact w_X8_wait_149 C hk44 hk65 h hA (lv_sub hl [0, 1, 2, 3, 4, 5] rfl)
      · replace h := (if_pos c4).symm.trans h
        refine lv_goto (tgt := 150) hx hb dX8_wait_89 (by decide) ?_
        exact w_X8_wait_150 C hk44 hk65 h hA (lv_sub hl [0, 1, 2, 3, 4, 5] rfl)
set_option maxHeartbeats 4000000 in
theorem w_X8_wait_L65 {σ : SS} {x : Int32 × Int32 × Int32 × Int32 × Int32} (C : Cx p l s m args meth c cX8_wait 6 wsX8_wait (some .int) RX8 g A) {k44 : SS → (Int32 × Int32) → Option (Int32 × SS)} (hk44 : ∀ (σ : SS) (x : Int32 × Int32), k44 σ x = some R → ∀ (H : Heap) (locs : List Loc) (ls : Array Slot), Aw g A s.heap (wM g σ) H locs → lv_has ls 6 [(0, .ref (g.2.1 0)), (1, .int x.1), (2, .int x.2)] → W p l e rmX8_wait s m args below meth c H locs 0 0 (MQ below (Qi g A (wM g R.2) R.1) args s 0 0 A) (F0 m 44 ls [])) (h : f_X8_wait_L65 fu k44 σ x = some R) {H : Heap} {locs : List Loc} {ls : Array Slot} (hA : Aw g A s.heap (wM g σ) H locs) (hl : lv_has ls 6 [(0, .ref (g.2.1 0)), (1, .int x.1), (2, .int x.2.1), (3, .int x.2.2.1), (4, .int x.2.2.2.1), (5, .int x.2.2.2.2)]) : W p l e rmX8_wait s m args below meth c H locs 0 0 (MQ below (Qi g A (wM g R.2) R.1) args s 0 0 A) (F0 m 65 ls []) := by
  refine loopW (P := fun σ x => ∀ (H : Heap) (locs : List Loc) (ls : Array Slot), Aw g A s.heap (wM g σ) H locs → lv_has ls 6 [(0, .ref (g.2.1 0)), (1, .int x.1), (2, .int x.2.1), (3, .int x.2.2.1), (4, .int x.2.2.2.1), (5, .int x.2.2.2.2)] → W p l e rmX8_wait s m args below meth c H locs 0 0 (MQ below (Qi g A (wM g R.2) R.1) args s 0 0 A) (F0 m 65 ls [])) (fun k hk σ x h9 H locs ls hA9 hl9 => ?_) fu σ x h H locs ls hA hl
  exact w_X8_wait_65 C hk44 hk h9 hA9 hl9
set_option maxHeartbeats 4000000 in
set_option maxRecDepth 100000 in
theorem w_X8_wait_44 {σ : SS} {x1 : Int32} {x2 : Int32} (C : Cx p l s m args meth c cX8_wait 6 wsX8_wait (some .int) RX8 g A) {k44 : SS → (Int32 × Int32) → Option (Int32 × SS)} (hk44 : ∀ (σ : SS) (x : Int32 × Int32), k44 σ x = some R → ∀ (H : Heap) (locs : List Loc) (ls : Array Slot), Aw g A s.heap (wM g σ) H locs → lv_has ls 6 [(0, .ref (g.2.1 0)), (1, .int x.1), (2, .int x.2)] → W p l e rmX8_wait s m args below meth c H locs 0 0 (MQ below (Qi g A (wM g R.2) R.1) args s 0 0 A) (F0 m 44 ls [])) (h : f_X8_wait_44 fu k44 σ x1 x2 = some R) {H : Heap} {locs : List Loc} {ls : Array Slot} (hA : Aw g A s.heap (wM g σ) H locs) (hl : lv_has ls 6 [(0, .ref (g.2.1 0)), (1, .int x1), (2, .int x2)]) : W p l e rmX8_wait s m args below meth c H locs 0 0 (MQ below (Qi g A (wM g R.2) R.1) args s 0 0 A) (F0 m 44 ls []) := by
  have hx := C.1.1
  have hb := C.1.2.1
  unfold f_X8_wait_44 at h
  refine lv_iload_n hx hb dX8_wait_44 rfl (lv_at hl 2 rfl) ?_
  refine lv_iload_n hx hb dX8_wait_45 rfl (lv_at hl 1 rfl) ?_
  refine lv_icmp_ge (tgt := 172) hx hb dX8_wait_46 (by decide) (fun c1 => ?_) (fun c1 => ?_)
  · replace h := (if_pos c1).symm.trans h
    refine lv_aload_n hx hb dX8_wait_172 rfl (lv_at hl 0 rfl) ?_
    refine Mg_X8_now (v := (σ.1 5)) C hA rfl iX8_wait_X8 (by decide +kernel) dX8_wait_173 ?_
    obtain rfl := Option.some.inj h
    exact r_iret C hA dX8_wait_176
  · replace h := (if_neg c1).symm.trans h
    refine lv_aload_n hx hb dX8_wait_49 rfl (lv_at hl 0 rfl) ?_
    refine lv_iconst (v := 3) hx hb dX8_wait_50 (by decide) ?_
    obtain ⟨r2, hc3, h⟩ := bd1 h
    refine r_callVi (r := r2) (w1 := wM g σ) (As := [.int (3 : Int32)]) (rest := []) C hA hl.1 (k_X8_term C.2.2.2.2.2.2 hc3) (cwV 1 C.1.2.2.2.2 gX8_wait_X8_term rfl rfl rfl nd_X8_term ⟨Nat.le_of_ble_eq_true rfl, Nat.le_of_ble_eq_true rfl⟩) 0 rfl rfl rfl rfl (Nat.le_of_ble_eq_true rfl) dX8_wait_51 ⟨Nat.le_of_ble_eq_true rfl, Nat.le_of_ble_eq_true rfl⟩ (fun H locs hA => ?_)
    refine lv_istore_n (lv' := [(3, .int r2), (0, .ref (g.2.1 0)), (1, .int x1), (2, .int x2)]) hx hb dX8_wait_54 rfl hl (by decide) rfl (fun ls hl => ?_)
    refine lv_aload_n hx hb dX8_wait_55 rfl (lv_at hl 1 rfl) ?_
    refine lv_iconst (v := 4) hx hb dX8_wait_56 (by decide) ?_
    obtain ⟨r4, hc5, h⟩ := bd1 h
    refine r_callVi (r := r4) (w1 := wM g σ) (As := [.int (4 : Int32)]) (rest := []) C hA hl.1 (k_X8_term C.2.2.2.2.2.2 hc5) (cwV 1 C.1.2.2.2.2 gX8_wait_X8_term rfl rfl rfl nd_X8_term ⟨Nat.le_of_ble_eq_true rfl, Nat.le_of_ble_eq_true rfl⟩) 0 rfl rfl rfl rfl (Nat.le_of_ble_eq_true rfl) dX8_wait_57 ⟨Nat.le_of_ble_eq_true rfl, Nat.le_of_ble_eq_true rfl⟩ (fun H locs hA => ?_)
    refine lv_istore (lv' := [(4, .int r4), (3, .int r2), (0, .ref (g.2.1 0)), (1, .int x1), (2, .int x2)]) hx hb dX8_wait_60 hl (by decide) rfl (fun ls hl => ?_)
    refine lv_iconst (v := 0) hx hb dX8_wait_62 (by decide) ?_
    refine lv_istore (lv' := [(5, .int (0 : Int32)), (4, .int r4), (3, .int r2), (0, .ref (g.2.1 0)), (1, .int x1), (2, .int x2)]) hx hb dX8_wait_63 hl (by decide) rfl (fun ls hl => ?_)
    exact w_X8_wait_L65 C hk44 h hA (lv_sub hl [3, 4, 5, 2, 1, 0] rfl)
set_option maxHeartbeats 4000000 in
theorem w_X8_wait_L44 {σ : SS} {x : Int32 × Int32} (C : Cx p l s m args meth c cX8_wait 6 wsX8_wait (some .int) RX8 g A) (h : f_X8_wait_L44 fu σ x = some R) {H : Heap} {locs : List Loc} {ls : Array Slot} (hA : Aw g A s.heap (wM g σ) H locs) (hl : lv_has ls 6 [(0, .ref (g.2.1 0)), (1, .int x.1), (2, .int x.2)]) : W p l e rmX8_wait s m args below meth c H locs 0 0 (MQ below (Qi g A (wM g R.2) R.1) args s 0 0 A) (F0 m 44 ls []) := by
  refine loopW (P := fun σ x => ∀ (H : Heap) (locs : List Loc) (ls : Array Slot), Aw g A s.heap (wM g σ) H locs → lv_has ls 6 [(0, .ref (g.2.1 0)), (1, .int x.1), (2, .int x.2)] → W p l e rmX8_wait s m args below meth c H locs 0 0 (MQ below (Qi g A (wM g R.2) R.1) args s 0 0 A) (F0 m 44 ls [])) (fun k hk σ x h9 H locs ls hA9 hl9 => ?_) fu σ x h H locs ls hA hl
  exact w_X8_wait_44 C hk h9 hA9 hl9
set_option maxHeartbeats 4000000 in
set_option maxRecDepth 100000 in
theorem w_X8_wait_33 {σ : SS} {x1 : Int32} {y0 : Int32} (C : Cx p l s m args meth c cX8_wait 6 wsX8_wait (some .int) RX8 g A) (h : f_X8_wait_33 fu σ x1 y0 = some R) {H : Heap} {locs : List Loc} {ls : Array Slot} (hA : Aw g A s.heap (wM g σ) H locs) (hl : lv_has ls 6 [(0, .ref (g.2.1 0)), (1, .int x1)]) : W p l e rmX8_wait s m args below meth c H locs 0 0 (MQ below (Qi g A (wM g R.2) R.1) args s 0 0 A) (F0 m 33 ls [.int y0, .ref (g.2.1 0)]) := by
  have hx := C.1.1
  have hb := C.1.2.1
  unfold f_X8_wait_33 at h
  refine lv_iconst (v := 1) hx hb dX8_wait_33 (by decide) ?_
  obtain ⟨r1, t3, hc2, h⟩ := bd h
  refine r_callVi (r := r1) (w1 := wM g t3) (As := [.int y0, .int (1 : Int32)]) (rest := []) C hA hl.1 (k_X8_bad C.2.2.2.2.2.2 hc2) (cwV 2 C.1.2.2.2.2 gX8_wait_X8_bad rfl rfl rfl nd_X8_bad ⟨Nat.le_of_ble_eq_true rfl, Nat.le_of_ble_eq_true rfl⟩) 0 rfl rfl rfl rfl (Nat.le_of_ble_eq_true rfl) dX8_wait_34 ⟨Nat.le_of_ble_eq_true rfl, Nat.le_of_ble_eq_true rfl⟩ (fun H locs hA => ?_)
  refine lv_if_eq (tgt := 42) hx hb dX8_wait_37 (by decide) (fun c4 => ?_) (fun c4 => ?_)
  · replace h := (if_pos c4).symm.trans h
    refine lv_iconst (v := 0) hx hb dX8_wait_42 (by decide) ?_
    refine lv_istore_n (lv' := [(2, .int (0 : Int32)), (0, .ref (g.2.1 0)), (1, .int x1)]) hx hb dX8_wait_43 rfl hl (by decide) rfl (fun ls hl => ?_)
    exact w_X8_wait_L44 C h hA (lv_sub hl [1, 2, 0] rfl)
  · replace h := (if_neg c4).symm.trans h
    refine lv_iconst (v := 0) hx hb dX8_wait_40 (by decide) ?_
    obtain rfl := Option.some.inj h
    exact r_iret C hA dX8_wait_41
set_option maxHeartbeats 4000000 in
set_option maxRecDepth 100000 in
theorem w_X8_wait_28 {σ : SS} {x1 : Int32} (C : Cx p l s m args meth c cX8_wait 6 wsX8_wait (some .int) RX8 g A) (h : f_X8_wait_28 fu σ x1 = some R) {H : Heap} {locs : List Loc} {ls : Array Slot} (hA : Aw g A s.heap (wM g σ) H locs) (hl : lv_has ls 6 [(0, .ref (g.2.1 0)), (1, .int x1)]) : W p l e rmX8_wait s m args below meth c H locs 0 0 (MQ below (Qi g A (wM g R.2) R.1) args s 0 0 A) (F0 m 28 ls [.ref (g.2.1 0)]) := by
  have hx := C.1.1
  have hb := C.1.2.1
  unfold f_X8_wait_28 at h
  refine lv_iconst (v := 1) hx hb dX8_wait_28 (by decide) ?_
  refine lv_goto (tgt := 33) hx hb dX8_wait_29 (by decide) ?_
  exact w_X8_wait_33 C h hA (lv_sub hl [0, 1] rfl)
set_option maxHeartbeats 4000000 in
set_option maxRecDepth 100000 in
theorem w_X8_wait_0 {σ : SS} {x1 : Int32} (C : Cx p l s m args meth c cX8_wait 6 wsX8_wait (some .int) RX8 g A) (h : f_X8_wait fu σ x1 = some R) {H : Heap} {locs : List Loc} {ls : Array Slot} (hA : Aw g A s.heap (wM g σ) H locs) (hl : lv_has ls 6 [(0, .ref (g.2.1 0)), (1, .int x1)]) : W p l e rmX8_wait s m args below meth c H locs 0 0 (MQ below (Qi g A (wM g R.2) R.1) args s 0 0 A) (F0 m 0 ls []) := by
  have hx := C.1.1
  have hb := C.1.2.1
  unfold f_X8_wait at h
  refine lv_aload_n hx hb dX8_wait_0 rfl (lv_at hl 0 rfl) ?_
  refine lv_iconst (v := 0) hx hb dX8_wait_1 (by decide) ?_
  refine Mp_X8_thrown C hA iX8_wait_X8 (by decide +kernel) dX8_wait_2 (fun H locs hA => ?_)
  refine lv_aload_n hx hb dX8_wait_5 rfl (lv_at hl 0 rfl) ?_
  refine lv_iload_n hx hb dX8_wait_6 rfl (lv_at hl 1 rfl) ?_
  refine lv_if_lt (tgt := 28) hx hb dX8_wait_7 (by decide) (fun c1 => ?_) (fun c1 => ?_)
  · replace h := (if_pos c1).symm.trans h
    exact w_X8_wait_28 C h hA (lv_sub hl [0, 1] rfl)
  · replace h := (if_neg c1).symm.trans h
    refine lv_iload_n hx hb dX8_wait_10 rfl (lv_at hl 1 rfl) ?_
    refine lv_bipush (v := 100) hx hb dX8_wait_11 (by decide) ?_
    refine lv_icmp_gt (tgt := 28) hx hb dX8_wait_13 (by decide) (fun c2 => ?_) (fun c2 => ?_)
    · replace h := (if_pos c2).symm.trans h
      exact w_X8_wait_28 C h hA (lv_sub hl [0, 1] rfl)
    · replace h := (if_neg c2).symm.trans h
      refine lv_aload_n hx hb dX8_wait_16 rfl (lv_at hl 0 rfl) ?_
      refine Mg_X8_now (v := (σ.1 5)) C hA rfl iX8_wait_X8 (by decide +kernel) dX8_wait_17 ?_
      refine lv_iload_n hx hb dX8_wait_20 rfl (lv_at hl 1 rfl) ?_
      refine lv_iadd hx hb dX8_wait_21 ?_
      refine lv_sipush (v := 1000) hx hb dX8_wait_22 (by decide) ?_
      refine lv_icmp_le (tgt := 32) hx hb dX8_wait_25 (by decide) (fun c3 => ?_) (fun c3 => ?_)
      · replace h := (if_pos c3).symm.trans h
        refine lv_iconst (v := 0) hx hb dX8_wait_32 (by decide) ?_
        exact w_X8_wait_33 C h hA (lv_sub hl [0, 1] rfl)
      · replace h := (if_neg c3).symm.trans h
        exact w_X8_wait_28 C h hA (lv_sub hl [0, 1] rfl)
end
set_option maxRecDepth 100000 in
theorem k_X8_wait {l : Launch} {g : Gm} {fu : Nat} {σ : SS} {x1 : Int32} {R : Int32 × SS} (hlt : l.stackTraces = false) (h : f_X8_wait fu σ x1 = some R) (sz : Nat) : Met l yX8_wait wsX8_wait rmX8_wait (Pw g (wM g σ) [.ref (g.2.1 0), .int x1] sz) (Qi g (va_A (wM g σ) sz) (wM g R.2) R.1) 0 0 (va_A (wM g σ) sz) :=
  ofM (own := RX8) hlt (by decide) rfl rfl (Nat.le_of_ble_eq_true rfl) (fun p e s m below meth c hsz C hA ls hl => w_X8_wait_0 C h hA hl)
abbrev rmX8_debt : Room := { frames := 1, cells := 0, slots := 0, locals := 22 }
theorem iX8_debt_X8 : ∀ x ∈ wsX80, x ∈ wsX8_debt := by decide +kernel
theorem nd_X8_debt : yX8_debt.cls = RX8 ∧ yX8_debt.cls ≠ "java/lang/invoke/MethodHandle" ∧ yX8_debt.cls ≠ "java/lang/invoke/VarHandle" ∧ (parseMethodDescriptor yX8_debt.desc).map (fun d => d.parameters.length) = some 2 := by decide +kernel
def f_X8_debt_45 (fu : Nat) (σ : SS) (x1 : Int32) (x2 : Int32) (y0 : Int32) : Option (Int32 × SS) :=
  bnd (f_X8_bad fu σ y0 (2 : Int32)) (fun r1 t3 => (if r1 = 0 then (if x2 = 0 then if inB x1 400 then some ((t3.2.1 15 (x1).toNatClampNeg), t3) else none else (if x2 = (1 : Int32) then if inB x1 400 then some ((t3.2.1 16 (x1).toNatClampNeg), t3) else none else (if x2 = (2 : Int32) then if inB x1 400 then some (((t3.2.2 17 (x1).toNatClampNeg)).toInt32, t3) else none else (if x2 = (3 : Int32) then if inB x1 400 then (if (t3.2.1 18 (x1).toNatClampNeg) = 0 then some ((0 : Int32), t3) else some ((1 : Int32), t3)) else none else if inB x1 400 then some ((t3.2.1 19 (x1).toNatClampNeg), t3) else none)))) else some ((0 : Int32), t3)))
def f_X8_debt_40 (fu : Nat) (σ : SS) (x1 : Int32) (x2 : Int32) : Option (Int32 × SS) :=
  f_X8_debt_45 fu σ x1 x2 (1 : Int32)
def f_X8_debt_23 (fu : Nat) (σ : SS) (x1 : Int32) (x2 : Int32) (y0 : Int32) : Option (Int32 × SS) :=
  bnd (f_X8_bad fu σ y0 (1 : Int32)) (fun r1 t3 => (if r1 = 0 then (if x2 < 0 then f_X8_debt_40 fu t3 x1 x2 else (if x2 ≤ (4 : Int32) then f_X8_debt_45 fu t3 x1 x2 (0 : Int32) else f_X8_debt_40 fu t3 x1 x2)) else some ((0 : Int32), t3)))
def f_X8_debt_18 (fu : Nat) (σ : SS) (x1 : Int32) (x2 : Int32) : Option (Int32 × SS) :=
  f_X8_debt_23 fu σ x1 x2 (1 : Int32)
def f_X8_debt (fu : Nat) (σ : SS) (x1 : Int32) (x2 : Int32) : Option (Int32 × SS) :=
  (if x1 < 0 then f_X8_debt_18 fu (sI σ 0 (0 : Int32)) x1 x2 else (if x1 < (σ.1 20) then f_X8_debt_23 fu (sI σ 0 (0 : Int32)) x1 x2 (0 : Int32) else f_X8_debt_18 fu (sI σ 0 (0 : Int32)) x1 x2))
section
variable {p : Program} {l : Launch} {e : Env} {s : State} {m : MethodId} {args : Array Value} {below : List Frame} {meth : Method} {c : Code} {g : Gm} {A : Nat → Prop} {fu : Nat} {R : Int32 × SS}
set_option maxHeartbeats 4000000 in
set_option maxRecDepth 100000 in
theorem w_X8_debt_45 {σ : SS} {x1 : Int32} {x2 : Int32} {y0 : Int32} (C : Cx p l s m args meth c cX8_debt 3 wsX8_debt (some .int) RX8 g A) (h : f_X8_debt_45 fu σ x1 x2 y0 = some R) {H : Heap} {locs : List Loc} {ls : Array Slot} (hA : Aw g A s.heap (wM g σ) H locs) (hl : lv_has ls 3 [(0, .ref (g.2.1 0)), (1, .int x1), (2, .int x2)]) : W p l e rmX8_debt s m args below meth c H locs 0 0 (MQ below (Qi g A (wM g R.2) R.1) args s 0 0 A) (F0 m 45 ls [.int y0, .ref (g.2.1 0)]) := by
  have hx := C.1.1
  have hb := C.1.2.1
  unfold f_X8_debt_45 at h
  refine lv_iconst (v := 2) hx hb dX8_debt_45 (by decide) ?_
  obtain ⟨r1, t3, hc2, h⟩ := bd h
  refine r_callVi (r := r1) (w1 := wM g t3) (As := [.int y0, .int (2 : Int32)]) (rest := []) C hA hl.1 (k_X8_bad C.2.2.2.2.2.2 hc2) (cwV 2 C.1.2.2.2.2 gX8_debt_X8_bad rfl rfl rfl nd_X8_bad ⟨Nat.le_of_ble_eq_true rfl, Nat.le_of_ble_eq_true rfl⟩) 0 rfl rfl rfl rfl (Nat.le_of_ble_eq_true rfl) dX8_debt_46 ⟨Nat.le_of_ble_eq_true rfl, Nat.le_of_ble_eq_true rfl⟩ (fun H locs hA => ?_)
  refine lv_if_eq (tgt := 54) hx hb dX8_debt_49 (by decide) (fun c4 => ?_) (fun c4 => ?_)
  · replace h := (if_pos c4).symm.trans h
    refine lv_iload_n hx hb dX8_debt_54 rfl (lv_at hl 2 rfl) ?_
    refine lv_if_ne (tgt := 67) hx hb dX8_debt_55 (by decide) (fun c5 => ?_) (fun c5 => ?_)
    · replace h := (if_neg c5).symm.trans h
      refine lv_iload_n hx hb dX8_debt_67 rfl (lv_at hl 2 rfl) ?_
      refine lv_iconst (v := 1) hx hb dX8_debt_68 (by decide) ?_
      refine lv_icmp_ne (tgt := 81) hx hb dX8_debt_69 (by decide) (fun c6 => ?_) (fun c6 => ?_)
      · replace h := (if_neg c6).symm.trans h
        refine lv_iload_n hx hb dX8_debt_81 rfl (lv_at hl 2 rfl) ?_
        refine lv_iconst (v := 2) hx hb dX8_debt_82 (by decide) ?_
        refine lv_icmp_ne (tgt := 96) hx hb dX8_debt_83 (by decide) (fun c7 => ?_) (fun c7 => ?_)
        · replace h := (if_neg c7).symm.trans h
          refine lv_iload_n hx hb dX8_debt_96 rfl (lv_at hl 2 rfl) ?_
          refine lv_iconst (v := 3) hx hb dX8_debt_97 (by decide) ?_
          refine lv_icmp_ne (tgt := 118) hx hb dX8_debt_98 (by decide) (fun c8 => ?_) (fun c8 => ?_)
          · replace h := (if_neg c8).symm.trans h
            refine lv_aload_n hx hb dX8_debt_118 rfl (lv_at hl 0 rfl) ?_
            refine Mg_X8_due C hA iX8_debt_X8 (by decide +kernel) dX8_debt_119 ?_
            refine lv_iload_n hx hb dX8_debt_122 rfl (lv_at hl 1 rfl) ?_
            obtain ⟨g9, h⟩ := gd h
            refine Mld_19 (v := (t3.2.1 19 (x1).toNatClampNeg)) C hA rfl g9 dX8_debt_123 ?_
            obtain rfl := Option.some.inj h
            exact r_iret C hA dX8_debt_124
          · replace h := (if_pos c8).symm.trans h
            refine lv_aload_n hx hb dX8_debt_101 rfl (lv_at hl 0 rfl) ?_
            refine Mg_X8_isLoan C hA iX8_debt_X8 (by decide +kernel) dX8_debt_102 ?_
            refine lv_iload_n hx hb dX8_debt_105 rfl (lv_at hl 1 rfl) ?_
            obtain ⟨g10, h⟩ := gd h
            refine Mld_18 (v := (t3.2.1 18 (x1).toNatClampNeg)) C hA rfl g10 dX8_debt_106 ?_
            refine lv_if_eq (tgt := 114) hx hb dX8_debt_107 (by decide) (fun c11 => ?_) (fun c11 => ?_)
            · replace h := (if_pos c11).symm.trans h
              refine lv_iconst (v := 0) hx hb dX8_debt_114 (by decide) ?_
              refine lv_goto (tgt := 124) hx hb dX8_debt_115 (by decide) ?_
              obtain rfl := Option.some.inj h
              exact r_iret C hA dX8_debt_124
            · replace h := (if_neg c11).symm.trans h
              refine lv_iconst (v := 1) hx hb dX8_debt_110 (by decide) ?_
              refine lv_goto (tgt := 124) hx hb dX8_debt_111 (by decide) ?_
              obtain rfl := Option.some.inj h
              exact r_iret C hA dX8_debt_124
        · replace h := (if_pos c7).symm.trans h
          refine lv_aload_n hx hb dX8_debt_86 rfl (lv_at hl 0 rfl) ?_
          refine Mg_X8_left C hA iX8_debt_X8 (by decide +kernel) dX8_debt_87 ?_
          refine lv_iload_n hx hb dX8_debt_90 rfl (lv_at hl 1 rfl) ?_
          obtain ⟨g12, h⟩ := gd h
          refine Mld_17 (v := (t3.2.2 17 (x1).toNatClampNeg)) C hA rfl g12 dX8_debt_91 ?_
          refine lv_l2i hx hb dX8_debt_92 rfl ?_
          refine lv_goto (tgt := 124) hx hb dX8_debt_93 (by decide) ?_
          obtain rfl := Option.some.inj h
          exact r_iret C hA dX8_debt_124
      · replace h := (if_pos c6).symm.trans h
        refine lv_aload_n hx hb dX8_debt_72 rfl (lv_at hl 0 rfl) ?_
        refine Mg_X8_whom C hA iX8_debt_X8 (by decide +kernel) dX8_debt_73 ?_
        refine lv_iload_n hx hb dX8_debt_76 rfl (lv_at hl 1 rfl) ?_
        obtain ⟨g13, h⟩ := gd h
        refine Mld_16 (v := (t3.2.1 16 (x1).toNatClampNeg)) C hA rfl g13 dX8_debt_77 ?_
        refine lv_goto (tgt := 124) hx hb dX8_debt_78 (by decide) ?_
        obtain rfl := Option.some.inj h
        exact r_iret C hA dX8_debt_124
    · replace h := (if_pos c5).symm.trans h
      refine lv_aload_n hx hb dX8_debt_58 rfl (lv_at hl 0 rfl) ?_
      refine Mg_X8_owes C hA iX8_debt_X8 (by decide +kernel) dX8_debt_59 ?_
      refine lv_iload_n hx hb dX8_debt_62 rfl (lv_at hl 1 rfl) ?_
      obtain ⟨g14, h⟩ := gd h
      refine Mld_15 (v := (t3.2.1 15 (x1).toNatClampNeg)) C hA rfl g14 dX8_debt_63 ?_
      refine lv_goto (tgt := 124) hx hb dX8_debt_64 (by decide) ?_
      obtain rfl := Option.some.inj h
      exact r_iret C hA dX8_debt_124
  · replace h := (if_neg c4).symm.trans h
    refine lv_iconst (v := 0) hx hb dX8_debt_52 (by decide) ?_
    obtain rfl := Option.some.inj h
    exact r_iret C hA dX8_debt_53
set_option maxHeartbeats 4000000 in
set_option maxRecDepth 100000 in
theorem w_X8_debt_40 {σ : SS} {x1 : Int32} {x2 : Int32} (C : Cx p l s m args meth c cX8_debt 3 wsX8_debt (some .int) RX8 g A) (h : f_X8_debt_40 fu σ x1 x2 = some R) {H : Heap} {locs : List Loc} {ls : Array Slot} (hA : Aw g A s.heap (wM g σ) H locs) (hl : lv_has ls 3 [(0, .ref (g.2.1 0)), (1, .int x1), (2, .int x2)]) : W p l e rmX8_debt s m args below meth c H locs 0 0 (MQ below (Qi g A (wM g R.2) R.1) args s 0 0 A) (F0 m 40 ls [.ref (g.2.1 0)]) := by
  have hx := C.1.1
  have hb := C.1.2.1
  unfold f_X8_debt_40 at h
  refine lv_iconst (v := 1) hx hb dX8_debt_40 (by decide) ?_
  refine lv_goto (tgt := 45) hx hb dX8_debt_41 (by decide) ?_
  exact w_X8_debt_45 C h hA (lv_sub hl [0, 1, 2] rfl)
set_option maxHeartbeats 4000000 in
set_option maxRecDepth 100000 in
theorem w_X8_debt_23 {σ : SS} {x1 : Int32} {x2 : Int32} {y0 : Int32} (C : Cx p l s m args meth c cX8_debt 3 wsX8_debt (some .int) RX8 g A) (h : f_X8_debt_23 fu σ x1 x2 y0 = some R) {H : Heap} {locs : List Loc} {ls : Array Slot} (hA : Aw g A s.heap (wM g σ) H locs) (hl : lv_has ls 3 [(0, .ref (g.2.1 0)), (1, .int x1), (2, .int x2)]) : W p l e rmX8_debt s m args below meth c H locs 0 0 (MQ below (Qi g A (wM g R.2) R.1) args s 0 0 A) (F0 m 23 ls [.int y0, .ref (g.2.1 0)]) := by
  have hx := C.1.1
  have hb := C.1.2.1
  unfold f_X8_debt_23 at h
  refine lv_iconst (v := 1) hx hb dX8_debt_23 (by decide) ?_
  obtain ⟨r1, t3, hc2, h⟩ := bd h
  refine r_callVi (r := r1) (w1 := wM g t3) (As := [.int y0, .int (1 : Int32)]) (rest := []) C hA hl.1 (k_X8_bad C.2.2.2.2.2.2 hc2) (cwV 2 C.1.2.2.2.2 gX8_debt_X8_bad rfl rfl rfl nd_X8_bad ⟨Nat.le_of_ble_eq_true rfl, Nat.le_of_ble_eq_true rfl⟩) 0 rfl rfl rfl rfl (Nat.le_of_ble_eq_true rfl) dX8_debt_24 ⟨Nat.le_of_ble_eq_true rfl, Nat.le_of_ble_eq_true rfl⟩ (fun H locs hA => ?_)
  refine lv_if_ne (tgt := 52) hx hb dX8_debt_27 (by decide) (fun c4 => ?_) (fun c4 => ?_)
  · replace h := (if_neg c4).symm.trans h
    refine lv_iconst (v := 0) hx hb dX8_debt_52 (by decide) ?_
    obtain rfl := Option.some.inj h
    exact r_iret C hA dX8_debt_53
  · replace h := (if_pos c4).symm.trans h
    refine lv_aload_n hx hb dX8_debt_30 rfl (lv_at hl 0 rfl) ?_
    refine lv_iload_n hx hb dX8_debt_31 rfl (lv_at hl 2 rfl) ?_
    refine lv_if_lt (tgt := 40) hx hb dX8_debt_32 (by decide) (fun c5 => ?_) (fun c5 => ?_)
    · replace h := (if_pos c5).symm.trans h
      exact w_X8_debt_40 C h hA (lv_sub hl [0, 1, 2] rfl)
    · replace h := (if_neg c5).symm.trans h
      refine lv_iload_n hx hb dX8_debt_35 rfl (lv_at hl 2 rfl) ?_
      refine lv_iconst (v := 4) hx hb dX8_debt_36 (by decide) ?_
      refine lv_icmp_le (tgt := 44) hx hb dX8_debt_37 (by decide) (fun c6 => ?_) (fun c6 => ?_)
      · replace h := (if_pos c6).symm.trans h
        refine lv_iconst (v := 0) hx hb dX8_debt_44 (by decide) ?_
        exact w_X8_debt_45 C h hA (lv_sub hl [0, 1, 2] rfl)
      · replace h := (if_neg c6).symm.trans h
        exact w_X8_debt_40 C h hA (lv_sub hl [0, 1, 2] rfl)
set_option maxHeartbeats 4000000 in
set_option maxRecDepth 100000 in
theorem w_X8_debt_18 {σ : SS} {x1 : Int32} {x2 : Int32} (C : Cx p l s m args meth c cX8_debt 3 wsX8_debt (some .int) RX8 g A) (h : f_X8_debt_18 fu σ x1 x2 = some R) {H : Heap} {locs : List Loc} {ls : Array Slot} (hA : Aw g A s.heap (wM g σ) H locs) (hl : lv_has ls 3 [(0, .ref (g.2.1 0)), (1, .int x1), (2, .int x2)]) : W p l e rmX8_debt s m args below meth c H locs 0 0 (MQ below (Qi g A (wM g R.2) R.1) args s 0 0 A) (F0 m 18 ls [.ref (g.2.1 0)]) := by
  have hx := C.1.1
  have hb := C.1.2.1
  unfold f_X8_debt_18 at h
  refine lv_iconst (v := 1) hx hb dX8_debt_18 (by decide) ?_
  refine lv_goto (tgt := 23) hx hb dX8_debt_19 (by decide) ?_
  exact w_X8_debt_23 C h hA (lv_sub hl [0, 1, 2] rfl)
set_option maxHeartbeats 4000000 in
set_option maxRecDepth 100000 in
theorem w_X8_debt_0 {σ : SS} {x1 : Int32} {x2 : Int32} (C : Cx p l s m args meth c cX8_debt 3 wsX8_debt (some .int) RX8 g A) (h : f_X8_debt fu σ x1 x2 = some R) {H : Heap} {locs : List Loc} {ls : Array Slot} (hA : Aw g A s.heap (wM g σ) H locs) (hl : lv_has ls 3 [(0, .ref (g.2.1 0)), (1, .int x1), (2, .int x2)]) : W p l e rmX8_debt s m args below meth c H locs 0 0 (MQ below (Qi g A (wM g R.2) R.1) args s 0 0 A) (F0 m 0 ls []) := by
  have hx := C.1.1
  have hb := C.1.2.1
  unfold f_X8_debt at h
  refine lv_aload_n hx hb dX8_debt_0 rfl (lv_at hl 0 rfl) ?_
  refine lv_iconst (v := 0) hx hb dX8_debt_1 (by decide) ?_
  refine Mp_X8_thrown C hA iX8_debt_X8 (by decide +kernel) dX8_debt_2 (fun H locs hA => ?_)
  refine lv_aload_n hx hb dX8_debt_5 rfl (lv_at hl 0 rfl) ?_
  refine lv_iload_n hx hb dX8_debt_6 rfl (lv_at hl 1 rfl) ?_
  refine lv_if_lt (tgt := 18) hx hb dX8_debt_7 (by decide) (fun c1 => ?_) (fun c1 => ?_)
  · replace h := (if_pos c1).symm.trans h
    exact w_X8_debt_18 C h hA (lv_sub hl [0, 1, 2] rfl)
  · replace h := (if_neg c1).symm.trans h
    refine lv_iload_n hx hb dX8_debt_10 rfl (lv_at hl 1 rfl) ?_
    refine lv_aload_n hx hb dX8_debt_11 rfl (lv_at hl 0 rfl) ?_
    refine Mg_X8_debts (v := (σ.1 20)) C hA rfl iX8_debt_X8 (by decide +kernel) dX8_debt_12 ?_
    refine lv_icmp_lt (tgt := 22) hx hb dX8_debt_15 (by decide) (fun c2 => ?_) (fun c2 => ?_)
    · replace h := (if_pos c2).symm.trans h
      refine lv_iconst (v := 0) hx hb dX8_debt_22 (by decide) ?_
      exact w_X8_debt_23 C h hA (lv_sub hl [0, 1, 2] rfl)
    · replace h := (if_neg c2).symm.trans h
      exact w_X8_debt_18 C h hA (lv_sub hl [0, 1, 2] rfl)
end
set_option maxRecDepth 100000 in
theorem k_X8_debt {l : Launch} {g : Gm} {fu : Nat} {σ : SS} {x1 : Int32} {x2 : Int32} {R : Int32 × SS} (hlt : l.stackTraces = false) (h : f_X8_debt fu σ x1 x2 = some R) (sz : Nat) : Met l yX8_debt wsX8_debt rmX8_debt (Pw g (wM g σ) [.ref (g.2.1 0), .int x1, .int x2] sz) (Qi g (va_A (wM g σ) sz) (wM g R.2) R.1) 0 0 (va_A (wM g σ) sz) :=
  ofM (own := RX8) hlt (by decide) rfl rfl (Nat.le_of_ble_eq_true rfl) (fun p e s m below meth c hsz C hA ls hl => w_X8_debt_0 C h hA hl)
abbrev rmX8_late : Room := { frames := 0, cells := 0, slots := 0, locals := 0 }
theorem iX8_late_X8 : ∀ x ∈ wsX80, x ∈ wsX8_late := by decide +kernel
theorem nd_X8_late : yX8_late.cls = RX8 ∧ yX8_late.cls ≠ "java/lang/invoke/MethodHandle" ∧ yX8_late.cls ≠ "java/lang/invoke/VarHandle" ∧ (parseMethodDescriptor yX8_late.desc).map (fun d => d.parameters.length) = some 1 := by decide +kernel
def f_X8_late_66 (fu : Nat) (k9 : SS → (Int32 × Int32 × Int32) → Option (Int32 × SS)) (σ : SS) (x1 : Int32) (x2 : Int32) (x3 : Int32) : Option (Int32 × SS) :=
  k9 σ (x1, x2, (x3 + 1))
def f_X8_late_9 (fu : Nat) (k9 : SS → (Int32 × Int32 × Int32) → Option (Int32 × SS)) (σ : SS) (x1 : Int32) (x2 : Int32) (x3 : Int32) : Option (Int32 × SS) :=
  (if (σ.1 20) ≤ x3 then some ((-1), σ) else (if x1 < 0 then some ((-1), σ) else if inB x3 400 then (if (σ.2.1 18 (x3).toNatClampNeg) = 0 then (if (lg_cmp (σ.2.2 17 (x3).toNatClampNeg) (0 : Int64)) = 0 then f_X8_late_66 fu k9 σ x1 x2 x3 else (if (σ.2.1 19 (x3).toNatClampNeg) < (σ.1 5) then (if x2 = 0 then some (x3, σ) else f_X8_late_66 fu k9 σ x1 (x2 + (-1)) x3) else f_X8_late_66 fu k9 σ x1 x2 x3)) else f_X8_late_66 fu k9 σ x1 x2 x3) else none))
def f_X8_late_L9 (fu : Nat) : SS → (Int32 × Int32 × Int32) → Option (Int32 × SS) := loopN (fun k9 σ x => f_X8_late_9 fu k9 σ x.1 x.2.1 x.2.2) fu
def f_X8_late (fu : Nat) (σ : SS) (x1 : Int32) : Option (Int32 × SS) :=
  f_X8_late_L9 fu (sI σ 0 (0 : Int32)) (x1, x1, (0 : Int32))
section
variable {p : Program} {l : Launch} {e : Env} {s : State} {m : MethodId} {args : Array Value} {below : List Frame} {meth : Method} {c : Code} {g : Gm} {A : Nat → Prop} {fu : Nat} {R : Int32 × SS}
set_option maxHeartbeats 4000000 in
set_option maxRecDepth 100000 in
theorem w_X8_late_66 {σ : SS} {x1 : Int32} {x2 : Int32} {x3 : Int32} (C : Cx p l s m args meth c cX8_late 4 wsX8_late (some .int) RX8 g A) {k9 : SS → (Int32 × Int32 × Int32) → Option (Int32 × SS)} (hk9 : ∀ (σ : SS) (x : Int32 × Int32 × Int32), k9 σ x = some R → ∀ (H : Heap) (locs : List Loc) (ls : Array Slot), Aw g A s.heap (wM g σ) H locs → lv_has ls 4 [(0, .ref (g.2.1 0)), (1, .int x.1), (2, .int x.2.1), (3, .int x.2.2)] → W p l e rmX8_late s m args below meth c H locs 0 0 (MQ below (Qi g A (wM g R.2) R.1) args s 0 0 A) (F0 m 9 ls [])) (h : f_X8_late_66 fu k9 σ x1 x2 x3 = some R) {H : Heap} {locs : List Loc} {ls : Array Slot} (hA : Aw g A s.heap (wM g σ) H locs) (hl : lv_has ls 4 [(0, .ref (g.2.1 0)), (1, .int x1), (2, .int x2), (3, .int x3)]) : W p l e rmX8_late s m args below meth c H locs 0 0 (MQ below (Qi g A (wM g R.2) R.1) args s 0 0 A) (F0 m 66 ls []) := by
  have hx := C.1.1
  have hb := C.1.2.1
  unfold f_X8_late_66 at h
  refine lv_iinc (v := (x3 + 1)) (lv' := [(3, .int (x3 + 1)), (0, .ref (g.2.1 0)), (1, .int x1), (2, .int x2)]) hx hb dX8_late_66 hl (k := 3) rfl rfl (by decide) rfl (fun ls hl => ?_)
  refine lv_goto (tgt := 9) hx hb dX8_late_69 (by decide) ?_
  exact hk9 _ _ h _ _ _ hA (lv_sub hl [1, 2, 3, 0] rfl)
set_option maxHeartbeats 4000000 in
set_option maxRecDepth 100000 in
theorem w_X8_late_9 {σ : SS} {x1 : Int32} {x2 : Int32} {x3 : Int32} (C : Cx p l s m args meth c cX8_late 4 wsX8_late (some .int) RX8 g A) {k9 : SS → (Int32 × Int32 × Int32) → Option (Int32 × SS)} (hk9 : ∀ (σ : SS) (x : Int32 × Int32 × Int32), k9 σ x = some R → ∀ (H : Heap) (locs : List Loc) (ls : Array Slot), Aw g A s.heap (wM g σ) H locs → lv_has ls 4 [(0, .ref (g.2.1 0)), (1, .int x.1), (2, .int x.2.1), (3, .int x.2.2)] → W p l e rmX8_late s m args below meth c H locs 0 0 (MQ below (Qi g A (wM g R.2) R.1) args s 0 0 A) (F0 m 9 ls [])) (h : f_X8_late_9 fu k9 σ x1 x2 x3 = some R) {H : Heap} {locs : List Loc} {ls : Array Slot} (hA : Aw g A s.heap (wM g σ) H locs) (hl : lv_has ls 4 [(0, .ref (g.2.1 0)), (1, .int x1), (2, .int x2), (3, .int x3)]) : W p l e rmX8_late s m args below meth c H locs 0 0 (MQ below (Qi g A (wM g R.2) R.1) args s 0 0 A) (F0 m 9 ls []) := by
  have hx := C.1.1
  have hb := C.1.2.1
  unfold f_X8_late_9 at h
  refine lv_iload_n hx hb dX8_late_9 rfl (lv_at hl 3 rfl) ?_
  refine lv_aload_n hx hb dX8_late_10 rfl (lv_at hl 0 rfl) ?_
  refine Mg_X8_debts (v := (σ.1 20)) C hA rfl iX8_late_X8 (by decide +kernel) dX8_late_11 ?_
  refine lv_icmp_ge (tgt := 72) hx hb dX8_late_14 (by decide) (fun c1 => ?_) (fun c1 => ?_)
  · replace h := (if_pos c1).symm.trans h
    refine lv_iconst (v := (-1)) hx hb dX8_late_72 (by decide) ?_
    obtain rfl := Option.some.inj h
    exact r_iret C hA dX8_late_73
  · replace h := (if_neg c1).symm.trans h
    refine lv_iload_n hx hb dX8_late_17 rfl (lv_at hl 1 rfl) ?_
    refine lv_if_lt (tgt := 72) hx hb dX8_late_18 (by decide) (fun c2 => ?_) (fun c2 => ?_)
    · replace h := (if_pos c2).symm.trans h
      refine lv_iconst (v := (-1)) hx hb dX8_late_72 (by decide) ?_
      obtain rfl := Option.some.inj h
      exact r_iret C hA dX8_late_73
    · replace h := (if_neg c2).symm.trans h
      refine lv_aload_n hx hb dX8_late_21 rfl (lv_at hl 0 rfl) ?_
      refine Mg_X8_isLoan C hA iX8_late_X8 (by decide +kernel) dX8_late_22 ?_
      refine lv_iload_n hx hb dX8_late_25 rfl (lv_at hl 3 rfl) ?_
      obtain ⟨g3, h⟩ := gd h
      refine Mld_18 (v := (σ.2.1 18 (x3).toNatClampNeg)) C hA rfl g3 dX8_late_26 ?_
      refine lv_if_ne (tgt := 66) hx hb dX8_late_27 (by decide) (fun c4 => ?_) (fun c4 => ?_)
      · replace h := (if_neg c4).symm.trans h
        exact w_X8_late_66 C hk9 h hA (lv_sub hl [0, 1, 2, 3] rfl)
      · replace h := (if_pos c4).symm.trans h
        refine lv_aload_n hx hb dX8_late_30 rfl (lv_at hl 0 rfl) ?_
        refine Mg_X8_left C hA iX8_late_X8 (by decide +kernel) dX8_late_31 ?_
        refine lv_iload_n hx hb dX8_late_34 rfl (lv_at hl 3 rfl) ?_
        refine Mld_17 (v := (σ.2.2 17 (x3).toNatClampNeg)) C hA rfl g3 dX8_late_35 ?_
        refine lv_lconst (v := 0) hx hb dX8_late_36 (by decide) ?_
        refine W.lcmp hx hb dX8_late_37 ?_
        refine lv_if_eq (tgt := 66) hx hb dX8_late_38 (by decide) (fun c5 => ?_) (fun c5 => ?_)
        · replace h := (if_pos c5).symm.trans h
          exact w_X8_late_66 C hk9 h hA (lv_sub hl [0, 1, 2, 3] rfl)
        · replace h := (if_neg c5).symm.trans h
          refine lv_aload_n hx hb dX8_late_41 rfl (lv_at hl 0 rfl) ?_
          refine Mg_X8_due C hA iX8_late_X8 (by decide +kernel) dX8_late_42 ?_
          refine lv_iload_n hx hb dX8_late_45 rfl (lv_at hl 3 rfl) ?_
          refine Mld_19 (v := (σ.2.1 19 (x3).toNatClampNeg)) C hA rfl g3 dX8_late_46 ?_
          refine lv_aload_n hx hb dX8_late_47 rfl (lv_at hl 0 rfl) ?_
          refine Mg_X8_now (v := (σ.1 5)) C hA rfl iX8_late_X8 (by decide +kernel) dX8_late_48 ?_
          refine lv_icmp_lt (tgt := 57) hx hb dX8_late_51 (by decide) (fun c6 => ?_) (fun c6 => ?_)
          · replace h := (if_pos c6).symm.trans h
            refine lv_iload_n hx hb dX8_late_57 rfl (lv_at hl 2 rfl) ?_
            refine lv_if_ne (tgt := 63) hx hb dX8_late_58 (by decide) (fun c7 => ?_) (fun c7 => ?_)
            · replace h := (if_neg c7).symm.trans h
              refine lv_iinc (v := (x2 + (-1))) (lv' := [(2, .int (x2 + (-1))), (0, .ref (g.2.1 0)), (1, .int x1), (3, .int x3)]) hx hb dX8_late_63 hl (k := 2) rfl rfl (by decide) rfl (fun ls hl => ?_)
              exact w_X8_late_66 C hk9 h hA (lv_sub hl [1, 2, 0, 3] rfl)
            · replace h := (if_pos c7).symm.trans h
              refine lv_iload_n hx hb dX8_late_61 rfl (lv_at hl 3 rfl) ?_
              obtain rfl := Option.some.inj h
              exact r_iret C hA dX8_late_62
          · replace h := (if_neg c6).symm.trans h
            refine lv_goto (tgt := 66) hx hb dX8_late_54 (by decide) ?_
            exact w_X8_late_66 C hk9 h hA (lv_sub hl [0, 1, 2, 3] rfl)
set_option maxHeartbeats 4000000 in
theorem w_X8_late_L9 {σ : SS} {x : Int32 × Int32 × Int32} (C : Cx p l s m args meth c cX8_late 4 wsX8_late (some .int) RX8 g A) (h : f_X8_late_L9 fu σ x = some R) {H : Heap} {locs : List Loc} {ls : Array Slot} (hA : Aw g A s.heap (wM g σ) H locs) (hl : lv_has ls 4 [(0, .ref (g.2.1 0)), (1, .int x.1), (2, .int x.2.1), (3, .int x.2.2)]) : W p l e rmX8_late s m args below meth c H locs 0 0 (MQ below (Qi g A (wM g R.2) R.1) args s 0 0 A) (F0 m 9 ls []) := by
  refine loopW (P := fun σ x => ∀ (H : Heap) (locs : List Loc) (ls : Array Slot), Aw g A s.heap (wM g σ) H locs → lv_has ls 4 [(0, .ref (g.2.1 0)), (1, .int x.1), (2, .int x.2.1), (3, .int x.2.2)] → W p l e rmX8_late s m args below meth c H locs 0 0 (MQ below (Qi g A (wM g R.2) R.1) args s 0 0 A) (F0 m 9 ls [])) (fun k hk σ x h9 H locs ls hA9 hl9 => ?_) fu σ x h H locs ls hA hl
  exact w_X8_late_9 C hk h9 hA9 hl9
set_option maxHeartbeats 4000000 in
set_option maxRecDepth 100000 in
theorem w_X8_late_0 {σ : SS} {x1 : Int32} (C : Cx p l s m args meth c cX8_late 4 wsX8_late (some .int) RX8 g A) (h : f_X8_late fu σ x1 = some R) {H : Heap} {locs : List Loc} {ls : Array Slot} (hA : Aw g A s.heap (wM g σ) H locs) (hl : lv_has ls 4 [(0, .ref (g.2.1 0)), (1, .int x1)]) : W p l e rmX8_late s m args below meth c H locs 0 0 (MQ below (Qi g A (wM g R.2) R.1) args s 0 0 A) (F0 m 0 ls []) := by
  have hx := C.1.1
  have hb := C.1.2.1
  unfold f_X8_late at h
  refine lv_aload_n hx hb dX8_late_0 rfl (lv_at hl 0 rfl) ?_
  refine lv_iconst (v := 0) hx hb dX8_late_1 (by decide) ?_
  refine Mp_X8_thrown C hA iX8_late_X8 (by decide +kernel) dX8_late_2 (fun H locs hA => ?_)
  refine lv_iload_n hx hb dX8_late_5 rfl (lv_at hl 1 rfl) ?_
  refine lv_istore_n (lv' := [(2, .int x1), (0, .ref (g.2.1 0)), (1, .int x1)]) hx hb dX8_late_6 rfl hl (by decide) rfl (fun ls hl => ?_)
  refine lv_iconst (v := 0) hx hb dX8_late_7 (by decide) ?_
  refine lv_istore_n (lv' := [(3, .int (0 : Int32)), (2, .int x1), (0, .ref (g.2.1 0)), (1, .int x1)]) hx hb dX8_late_8 rfl hl (by decide) rfl (fun ls hl => ?_)
  exact w_X8_late_L9 C h hA (lv_sub hl [2, 3, 1, 0] rfl)
end
set_option maxRecDepth 100000 in
theorem k_X8_late {l : Launch} {g : Gm} {fu : Nat} {σ : SS} {x1 : Int32} {R : Int32 × SS} (hlt : l.stackTraces = false) (h : f_X8_late fu σ x1 = some R) (sz : Nat) : Met l yX8_late wsX8_late rmX8_late (Pw g (wM g σ) [.ref (g.2.1 0), .int x1] sz) (Qi g (va_A (wM g σ) sz) (wM g R.2) R.1) 0 0 (va_A (wM g σ) sz) :=
  ofM (own := RX8) hlt (by decide) rfl rfl (Nat.le_of_ble_eq_true rfl) (fun p e s m below meth c hsz C hA ls hl => w_X8_late_0 C h hA hl)
abbrev rmX8_about : Room := { frames := 1, cells := 0, slots := 0, locals := 22 }
theorem iX8_about_X8 : ∀ x ∈ wsX80, x ∈ wsX8_about := by decide +kernel
theorem nd_X8_about : yX8_about.cls = RX8 ∧ yX8_about.cls ≠ "java/lang/invoke/MethodHandle" ∧ yX8_about.cls ≠ "java/lang/invoke/VarHandle" ∧ (parseMethodDescriptor yX8_about.desc).map (fun d => d.parameters.length) = some 2 := by decide +kernel
def f_X8_about_164 (fu : Nat) (k99 : SS → (Int32 × Int32 × Int32) → Option (Int32 × SS)) (σ : SS) (x1 : Int32) (x4 : Int32) (y0 : Int32) (y1 : Int32) : Option (Int32 × SS) :=
  k99 σ (x1, (y1 + y0), (x4 + 1))
def f_X8_about_163 (fu : Nat) (k99 : SS → (Int32 × Int32 × Int32) → Option (Int32 × SS)) (σ : SS) (x1 : Int32) (x4 : Int32) (y0 : Int32) : Option (Int32 × SS) :=
  f_X8_about_164 fu k99 σ x1 x4 (0 : Int32) y0
def f_X8_about_159 (fu : Nat) (k99 : SS → (Int32 × Int32 × Int32) → Option (Int32 × SS)) (σ : SS) (x1 : Int32) (x4 : Int32) (y0 : Int32) : Option (Int32 × SS) :=
  f_X8_about_164 fu k99 σ x1 x4 (1 : Int32) y0
def f_X8_about_99 (fu : Nat) (k99 : SS → (Int32 × Int32 × Int32) → Option (Int32 × SS)) (σ : SS) (x1 : Int32) (x3 : Int32) (x4 : Int32) : Option (Int32 × SS) :=
  (if (σ.1 4) ≤ x4 then some (x3, σ) else if inB x4 12 then (if (σ.2.1 3 (x4).toNatClampNeg) = 0 then if inB x1 12 then (if 0 < (lg_cmp (σ.2.2 2 (x4).toNatClampNeg) (σ.2.2 2 (x1).toNatClampNeg)) then f_X8_about_159 fu k99 σ x1 x4 x3 else (if (lg_cmp (σ.2.2 2 (x4).toNatClampNeg) (σ.2.2 2 (x1).toNatClampNeg)) = 0 then (if x1 ≤ x4 then f_X8_about_163 fu k99 σ x1 x4 x3 else f_X8_about_159 fu k99 σ x1 x4 x3) else f_X8_about_163 fu k99 σ x1 x4 x3)) else none else f_X8_about_163 fu k99 σ x1 x4 x3) else none)
def f_X8_about_L99 (fu : Nat) : SS → (Int32 × Int32 × Int32) → Option (Int32 × SS) := loopN (fun k99 σ x => f_X8_about_99 fu k99 σ x.1 x.2.1 x.2.2) fu
def f_X8_about_41 (fu : Nat) (σ : SS) (x1 : Int32) (x2 : Int32) (y0 : Int32) : Option (Int32 × SS) :=
  bnd (f_X8_bad fu σ y0 (2 : Int32)) (fun r1 t3 => (if r1 = 0 then (if (2 : Int32) ≤ x2 then if inB x1 12 then (if (t3.2.1 3 (x1).toNatClampNeg) = 0 then f_X8_about_L99 fu t3 (x1, (0 : Int32), (0 : Int32)) else some ((-1), t3)) else none else (if x2 = 0 then if inB x1 12 then some ((t3.2.1 1 (x1).toNatClampNeg), t3) else none else if inB x1 12 then (if (t3.2.1 3 (x1).toNatClampNeg) = 0 then some ((1 : Int32), t3) else some ((0 : Int32), t3)) else none)) else some ((0 : Int32), t3)))
def f_X8_about_36 (fu : Nat) (σ : SS) (x1 : Int32) (x2 : Int32) : Option (Int32 × SS) :=
  f_X8_about_41 fu σ x1 x2 (1 : Int32)
def f_X8_about_19 (fu : Nat) (σ : SS) (x1 : Int32) (x2 : Int32) (y0 : Int32) : Option (Int32 × SS) :=
  bnd (f_X8_bad fu σ y0 (1 : Int32)) (fun r1 t3 => (if r1 = 0 then (if x2 < 0 then f_X8_about_36 fu t3 x1 x2 else (if x2 ≤ (2 : Int32) then f_X8_about_41 fu t3 x1 x2 (0 : Int32) else f_X8_about_36 fu t3 x1 x2)) else some ((0 : Int32), t3)))
def f_X8_about (fu : Nat) (σ : SS) (x1 : Int32) (x2 : Int32) : Option (Int32 × SS) :=
  bnd1 (f_X8_isChief fu (sI σ 0 (0 : Int32)) x1) (fun r1 => (if r1 = 0 then f_X8_about_19 fu (sI σ 0 (0 : Int32)) x1 x2 (1 : Int32) else f_X8_about_19 fu (sI σ 0 (0 : Int32)) x1 x2 (0 : Int32)))
section
variable {p : Program} {l : Launch} {e : Env} {s : State} {m : MethodId} {args : Array Value} {below : List Frame} {meth : Method} {c : Code} {g : Gm} {A : Nat → Prop} {fu : Nat} {R : Int32 × SS}
set_option maxHeartbeats 4000000 in
set_option maxRecDepth 100000 in
theorem w_X8_about_164 {σ : SS} {x1 : Int32} {x4 : Int32} {y0 : Int32} {y1 : Int32} (C : Cx p l s m args meth c cX8_about 5 wsX8_about (some .int) RX8 g A) {k99 : SS → (Int32 × Int32 × Int32) → Option (Int32 × SS)} (hk99 : ∀ (σ : SS) (x : Int32 × Int32 × Int32), k99 σ x = some R → ∀ (H : Heap) (locs : List Loc) (ls : Array Slot), Aw g A s.heap (wM g σ) H locs → lv_has ls 5 [(0, .ref (g.2.1 0)), (1, .int x.1), (3, .int x.2.1), (4, .int x.2.2)] → W p l e rmX8_about s m args below meth c H locs 0 0 (MQ below (Qi g A (wM g R.2) R.1) args s 0 0 A) (F0 m 99 ls [])) (h : f_X8_about_164 fu k99 σ x1 x4 y0 y1 = some R) {H : Heap} {locs : List Loc} {ls : Array Slot} (hA : Aw g A s.heap (wM g σ) H locs) (hl : lv_has ls 5 [(0, .ref (g.2.1 0)), (1, .int x1), (4, .int x4)]) : W p l e rmX8_about s m args below meth c H locs 0 0 (MQ below (Qi g A (wM g R.2) R.1) args s 0 0 A) (F0 m 164 ls [.int y0, .int y1]) := by
  have hx := C.1.1
  have hb := C.1.2.1
  unfold f_X8_about_164 at h
  refine lv_iadd hx hb dX8_about_164 ?_
  refine lv_istore_n (lv' := [(3, .int (y1 + y0)), (0, .ref (g.2.1 0)), (1, .int x1), (4, .int x4)]) hx hb dX8_about_165 rfl hl (by decide) rfl (fun ls hl => ?_)
  refine lv_iinc (v := (x4 + 1)) (lv' := [(4, .int (x4 + 1)), (3, .int (y1 + y0)), (0, .ref (g.2.1 0)), (1, .int x1)]) hx hb dX8_about_166 hl (k := 3) rfl rfl (by decide) rfl (fun ls hl => ?_)
  refine lv_goto (tgt := 99) hx hb dX8_about_169 (by decide) ?_
  exact hk99 _ _ h _ _ _ hA (lv_sub hl [2, 3, 1, 0] rfl)
set_option maxHeartbeats 4000000 in
set_option maxRecDepth 100000 in
theorem w_X8_about_163 {σ : SS} {x1 : Int32} {x4 : Int32} {y0 : Int32} (C : Cx p l s m args meth c cX8_about 5 wsX8_about (some .int) RX8 g A) {k99 : SS → (Int32 × Int32 × Int32) → Option (Int32 × SS)} (hk99 : ∀ (σ : SS) (x : Int32 × Int32 × Int32), k99 σ x = some R → ∀ (H : Heap) (locs : List Loc) (ls : Array Slot), Aw g A s.heap (wM g σ) H locs → lv_has ls 5 [(0, .ref (g.2.1 0)), (1, .int x.1), (3, .int x.2.1), (4, .int x.2.2)] → W p l e rmX8_about s m args below meth c H locs 0 0 (MQ below (Qi g A (wM g R.2) R.1) args s 0 0 A) (F0 m 99 ls [])) (h : f_X8_about_163 fu k99 σ x1 x4 y0 = some R) {H : Heap} {locs : List Loc} {ls : Array Slot} (hA : Aw g A s.heap (wM g σ) H locs) (hl : lv_has ls 5 [(0, .ref (g.2.1 0)), (1, .int x1), (4, .int x4)]) : W p l e rmX8_about s m args below meth c H locs 0 0 (MQ below (Qi g A (wM g R.2) R.1) args s 0 0 A) (F0 m 163 ls [.int y0]) := by
  have hx := C.1.1
  have hb := C.1.2.1
  unfold f_X8_about_163 at h
  refine lv_iconst (v := 0) hx hb dX8_about_163 (by decide) ?_
  exact w_X8_about_164 C hk99 h hA (lv_sub hl [0, 1, 2] rfl)
set_option maxHeartbeats 4000000 in
set_option maxRecDepth 100000 in
theorem w_X8_about_159 {σ : SS} {x1 : Int32} {x4 : Int32} {y0 : Int32} (C : Cx p l s m args meth c cX8_about 5 wsX8_about (some .int) RX8 g A) {k99 : SS → (Int32 × Int32 × Int32) → Option (Int32 × SS)} (hk99 : ∀ (σ : SS) (x : Int32 × Int32 × Int32), k99 σ x = some R → ∀ (H : Heap) (locs : List Loc) (ls : Array Slot), Aw g A s.heap (wM g σ) H locs → lv_has ls 5 [(0, .ref (g.2.1 0)), (1, .int x.1), (3, .int x.2.1), (4, .int x.2.2)] → W p l e rmX8_about s m args below meth c H locs 0 0 (MQ below (Qi g A (wM g R.2) R.1) args s 0 0 A) (F0 m 99 ls [])) (h : f_X8_about_159 fu k99 σ x1 x4 y0 = some R) {H : Heap} {locs : List Loc} {ls : Array Slot} (hA : Aw g A s.heap (wM g σ) H locs) (hl : lv_has ls 5 [(0, .ref (g.2.1 0)), (1, .int x1), (4, .int x4)]) : W p l e rmX8_about s m args below meth c H locs 0 0 (MQ below (Qi g A (wM g R.2) R.1) args s 0 0 A) (F0 m 159 ls [.int y0]) := by
  have hx := C.1.1
  have hb := C.1.2.1
  unfold f_X8_about_159 at h
  refine lv_iconst (v := 1) hx hb dX8_about_159 (by decide) ?_
  refine lv_goto (tgt := 164) hx hb dX8_about_160 (by decide) ?_
  exact w_X8_about_164 C hk99 h hA (lv_sub hl [0, 1, 2] rfl)
set_option maxHeartbeats 4000000 in
set_option maxRecDepth 100000 in
theorem w_X8_about_99 {σ : SS} {x1 : Int32} {x3 : Int32} {x4 : Int32} (C : Cx p l s m args meth c cX8_about 5 wsX8_about (some .int) RX8 g A) {k99 : SS → (Int32 × Int32 × Int32) → Option (Int32 × SS)} (hk99 : ∀ (σ : SS) (x : Int32 × Int32 × Int32), k99 σ x = some R → ∀ (H : Heap) (locs : List Loc) (ls : Array Slot), Aw g A s.heap (wM g σ) H locs → lv_has ls 5 [(0, .ref (g.2.1 0)), (1, .int x.1), (3, .int x.2.1), (4, .int x.2.2)] → W p l e rmX8_about s m args below meth c H locs 0 0 (MQ below (Qi g A (wM g R.2) R.1) args s 0 0 A) (F0 m 99 ls [])) (h : f_X8_about_99 fu k99 σ x1 x3 x4 = some R) {H : Heap} {locs : List Loc} {ls : Array Slot} (hA : Aw g A s.heap (wM g σ) H locs) (hl : lv_has ls 5 [(0, .ref (g.2.1 0)), (1, .int x1), (3, .int x3), (4, .int x4)]) : W p l e rmX8_about s m args below meth c H locs 0 0 (MQ below (Qi g A (wM g R.2) R.1) args s 0 0 A) (F0 m 99 ls []) := by
  have hx := C.1.1
  have hb := C.1.2.1
  unfold f_X8_about_99 at h
  refine lv_iload hx hb dX8_about_99 (lv_at hl 3 rfl) ?_
  refine lv_aload_n hx hb dX8_about_101 rfl (lv_at hl 0 rfl) ?_
  refine Mg_X8_chiefs (v := (σ.1 4)) C hA rfl iX8_about_X8 (by decide +kernel) dX8_about_102 ?_
  refine lv_icmp_ge (tgt := 172) hx hb dX8_about_105 (by decide) (fun c1 => ?_) (fun c1 => ?_)
  · replace h := (if_pos c1).symm.trans h
    refine lv_iload_n hx hb dX8_about_172 rfl (lv_at hl 2 rfl) ?_
    obtain rfl := Option.some.inj h
    exact r_iret C hA dX8_about_173
  · replace h := (if_neg c1).symm.trans h
    refine lv_iload_n hx hb dX8_about_108 rfl (lv_at hl 2 rfl) ?_
    refine lv_aload_n hx hb dX8_about_109 rfl (lv_at hl 0 rfl) ?_
    refine Mg_X8_isDead C hA iX8_about_X8 (by decide +kernel) dX8_about_110 ?_
    refine lv_iload hx hb dX8_about_113 (lv_at hl 3 rfl) ?_
    obtain ⟨g2, h⟩ := gd h
    refine Mld_3 (v := (σ.2.1 3 (x4).toNatClampNeg)) C hA rfl g2 dX8_about_115 ?_
    refine lv_if_ne (tgt := 163) hx hb dX8_about_116 (by decide) (fun c3 => ?_) (fun c3 => ?_)
    · replace h := (if_neg c3).symm.trans h
      exact w_X8_about_163 C hk99 h hA (lv_sub hl [0, 1, 3] rfl)
    · replace h := (if_pos c3).symm.trans h
      refine lv_aload_n hx hb dX8_about_119 rfl (lv_at hl 0 rfl) ?_
      refine Mg_X8_fames C hA iX8_about_X8 (by decide +kernel) dX8_about_120 ?_
      refine lv_iload hx hb dX8_about_123 (lv_at hl 3 rfl) ?_
      refine Mld_2 (v := (σ.2.2 2 (x4).toNatClampNeg)) C hA rfl g2 dX8_about_125 ?_
      refine lv_aload_n hx hb dX8_about_126 rfl (lv_at hl 0 rfl) ?_
      refine Mg_X8_fames C hA iX8_about_X8 (by decide +kernel) dX8_about_127 ?_
      refine lv_iload_n hx hb dX8_about_130 rfl (lv_at hl 1 rfl) ?_
      obtain ⟨g4, h⟩ := gd h
      refine Mld_2 (v := (σ.2.2 2 (x1).toNatClampNeg)) C hA rfl g4 dX8_about_131 ?_
      refine W.lcmp hx hb dX8_about_132 ?_
      refine lv_if_gt (tgt := 159) hx hb dX8_about_133 (by decide) (fun c5 => ?_) (fun c5 => ?_)
      · replace h := (if_pos c5).symm.trans h
        exact w_X8_about_159 C hk99 h hA (lv_sub hl [0, 1, 3] rfl)
      · replace h := (if_neg c5).symm.trans h
        refine lv_aload_n hx hb dX8_about_136 rfl (lv_at hl 0 rfl) ?_
        refine Mg_X8_fames C hA iX8_about_X8 (by decide +kernel) dX8_about_137 ?_
        refine lv_iload hx hb dX8_about_140 (lv_at hl 3 rfl) ?_
        refine Mld_2 (v := (σ.2.2 2 (x4).toNatClampNeg)) C hA rfl g2 dX8_about_142 ?_
        refine lv_aload_n hx hb dX8_about_143 rfl (lv_at hl 0 rfl) ?_
        refine Mg_X8_fames C hA iX8_about_X8 (by decide +kernel) dX8_about_144 ?_
        refine lv_iload_n hx hb dX8_about_147 rfl (lv_at hl 1 rfl) ?_
        refine Mld_2 (v := (σ.2.2 2 (x1).toNatClampNeg)) C hA rfl g4 dX8_about_148 ?_
        refine W.lcmp hx hb dX8_about_149 ?_
        refine lv_if_ne (tgt := 163) hx hb dX8_about_150 (by decide) (fun c6 => ?_) (fun c6 => ?_)
        · replace h := (if_neg c6).symm.trans h
          exact w_X8_about_163 C hk99 h hA (lv_sub hl [0, 1, 3] rfl)
        · replace h := (if_pos c6).symm.trans h
          refine lv_iload hx hb dX8_about_153 (lv_at hl 3 rfl) ?_
          refine lv_iload_n hx hb dX8_about_155 rfl (lv_at hl 1 rfl) ?_
          refine lv_icmp_ge (tgt := 163) hx hb dX8_about_156 (by decide) (fun c7 => ?_) (fun c7 => ?_)
          · replace h := (if_pos c7).symm.trans h
            exact w_X8_about_163 C hk99 h hA (lv_sub hl [0, 1, 3] rfl)
          · replace h := (if_neg c7).symm.trans h
            exact w_X8_about_159 C hk99 h hA (lv_sub hl [0, 1, 3] rfl)
set_option maxHeartbeats 4000000 in
theorem w_X8_about_L99 {σ : SS} {x : Int32 × Int32 × Int32} (C : Cx p l s m args meth c cX8_about 5 wsX8_about (some .int) RX8 g A) (h : f_X8_about_L99 fu σ x = some R) {H : Heap} {locs : List Loc} {ls : Array Slot} (hA : Aw g A s.heap (wM g σ) H locs) (hl : lv_has ls 5 [(0, .ref (g.2.1 0)), (1, .int x.1), (3, .int x.2.1), (4, .int x.2.2)]) : W p l e rmX8_about s m args below meth c H locs 0 0 (MQ below (Qi g A (wM g R.2) R.1) args s 0 0 A) (F0 m 99 ls []) := by
  refine loopW (P := fun σ x => ∀ (H : Heap) (locs : List Loc) (ls : Array Slot), Aw g A s.heap (wM g σ) H locs → lv_has ls 5 [(0, .ref (g.2.1 0)), (1, .int x.1), (3, .int x.2.1), (4, .int x.2.2)] → W p l e rmX8_about s m args below meth c H locs 0 0 (MQ below (Qi g A (wM g R.2) R.1) args s 0 0 A) (F0 m 99 ls [])) (fun k hk σ x h9 H locs ls hA9 hl9 => ?_) fu σ x h H locs ls hA hl
  exact w_X8_about_99 C hk h9 hA9 hl9
set_option maxHeartbeats 4000000 in
set_option maxRecDepth 100000 in
theorem w_X8_about_41 {σ : SS} {x1 : Int32} {x2 : Int32} {y0 : Int32} (C : Cx p l s m args meth c cX8_about 5 wsX8_about (some .int) RX8 g A) (h : f_X8_about_41 fu σ x1 x2 y0 = some R) {H : Heap} {locs : List Loc} {ls : Array Slot} (hA : Aw g A s.heap (wM g σ) H locs) (hl : lv_has ls 5 [(0, .ref (g.2.1 0)), (1, .int x1), (2, .int x2)]) : W p l e rmX8_about s m args below meth c H locs 0 0 (MQ below (Qi g A (wM g R.2) R.1) args s 0 0 A) (F0 m 41 ls [.int y0, .ref (g.2.1 0)]) := by
  have hx := C.1.1
  have hb := C.1.2.1
  unfold f_X8_about_41 at h
  refine lv_iconst (v := 2) hx hb dX8_about_41 (by decide) ?_
  obtain ⟨r1, t3, hc2, h⟩ := bd h
  refine r_callVi (r := r1) (w1 := wM g t3) (As := [.int y0, .int (2 : Int32)]) (rest := []) C hA hl.1 (k_X8_bad C.2.2.2.2.2.2 hc2) (cwV 2 C.1.2.2.2.2 gX8_about_X8_bad rfl rfl rfl nd_X8_bad ⟨Nat.le_of_ble_eq_true rfl, Nat.le_of_ble_eq_true rfl⟩) 0 rfl rfl rfl rfl (Nat.le_of_ble_eq_true rfl) dX8_about_42 ⟨Nat.le_of_ble_eq_true rfl, Nat.le_of_ble_eq_true rfl⟩ (fun H locs hA => ?_)
  refine lv_if_eq (tgt := 50) hx hb dX8_about_45 (by decide) (fun c4 => ?_) (fun c4 => ?_)
  · replace h := (if_pos c4).symm.trans h
    refine lv_iload_n hx hb dX8_about_50 rfl (lv_at hl 2 rfl) ?_
    refine lv_iconst (v := 2) hx hb dX8_about_51 (by decide) ?_
    refine lv_icmp_ge (tgt := 83) hx hb dX8_about_52 (by decide) (fun c5 => ?_) (fun c5 => ?_)
    · replace h := (if_pos c5).symm.trans h
      refine lv_aload_n hx hb dX8_about_83 rfl (lv_at hl 0 rfl) ?_
      refine Mg_X8_isDead C hA iX8_about_X8 (by decide +kernel) dX8_about_84 ?_
      refine lv_iload_n hx hb dX8_about_87 rfl (lv_at hl 1 rfl) ?_
      obtain ⟨g6, h⟩ := gd h
      refine Mld_3 (v := (t3.2.1 3 (x1).toNatClampNeg)) C hA rfl g6 dX8_about_88 ?_
      refine lv_if_eq (tgt := 94) hx hb dX8_about_89 (by decide) (fun c7 => ?_) (fun c7 => ?_)
      · replace h := (if_pos c7).symm.trans h
        refine lv_iconst (v := 0) hx hb dX8_about_94 (by decide) ?_
        refine lv_istore_n (lv' := [(3, .int (0 : Int32)), (0, .ref (g.2.1 0)), (1, .int x1), (2, .int x2)]) hx hb dX8_about_95 rfl hl (by decide) rfl (fun ls hl => ?_)
        refine lv_iconst (v := 0) hx hb dX8_about_96 (by decide) ?_
        refine lv_istore (lv' := [(4, .int (0 : Int32)), (3, .int (0 : Int32)), (0, .ref (g.2.1 0)), (1, .int x1), (2, .int x2)]) hx hb dX8_about_97 hl (by decide) rfl (fun ls hl => ?_)
        exact w_X8_about_L99 C h hA (lv_sub hl [2, 3, 1, 0] rfl)
      · replace h := (if_neg c7).symm.trans h
        refine lv_iconst (v := (-1)) hx hb dX8_about_92 (by decide) ?_
        obtain rfl := Option.some.inj h
        exact r_iret C hA dX8_about_93
    · replace h := (if_neg c5).symm.trans h
      refine lv_iload_n hx hb dX8_about_55 rfl (lv_at hl 2 rfl) ?_
      refine lv_if_ne (tgt := 68) hx hb dX8_about_56 (by decide) (fun c8 => ?_) (fun c8 => ?_)
      · replace h := (if_neg c8).symm.trans h
        refine lv_aload_n hx hb dX8_about_68 rfl (lv_at hl 0 rfl) ?_
        refine Mg_X8_isDead C hA iX8_about_X8 (by decide +kernel) dX8_about_69 ?_
        refine lv_iload_n hx hb dX8_about_72 rfl (lv_at hl 1 rfl) ?_
        obtain ⟨g9, h⟩ := gd h
        refine Mld_3 (v := (t3.2.1 3 (x1).toNatClampNeg)) C hA rfl g9 dX8_about_73 ?_
        refine lv_if_eq (tgt := 81) hx hb dX8_about_74 (by decide) (fun c10 => ?_) (fun c10 => ?_)
        · replace h := (if_pos c10).symm.trans h
          refine lv_iconst (v := 1) hx hb dX8_about_81 (by decide) ?_
          obtain rfl := Option.some.inj h
          exact r_iret C hA dX8_about_82
        · replace h := (if_neg c10).symm.trans h
          refine lv_iconst (v := 0) hx hb dX8_about_77 (by decide) ?_
          refine lv_goto (tgt := 82) hx hb dX8_about_78 (by decide) ?_
          obtain rfl := Option.some.inj h
          exact r_iret C hA dX8_about_82
      · replace h := (if_pos c8).symm.trans h
        refine lv_aload_n hx hb dX8_about_59 rfl (lv_at hl 0 rfl) ?_
        refine Mg_X8_blankets C hA iX8_about_X8 (by decide +kernel) dX8_about_60 ?_
        refine lv_iload_n hx hb dX8_about_63 rfl (lv_at hl 1 rfl) ?_
        obtain ⟨g11, h⟩ := gd h
        refine Mld_1 (v := (t3.2.1 1 (x1).toNatClampNeg)) C hA rfl g11 dX8_about_64 ?_
        refine lv_goto (tgt := 82) hx hb dX8_about_65 (by decide) ?_
        obtain rfl := Option.some.inj h
        exact r_iret C hA dX8_about_82
  · replace h := (if_neg c4).symm.trans h
    refine lv_iconst (v := 0) hx hb dX8_about_48 (by decide) ?_
    obtain rfl := Option.some.inj h
    exact r_iret C hA dX8_about_49
set_option maxHeartbeats 4000000 in
set_option maxRecDepth 100000 in
theorem w_X8_about_36 {σ : SS} {x1 : Int32} {x2 : Int32} (C : Cx p l s m args meth c cX8_about 5 wsX8_about (some .int) RX8 g A) (h : f_X8_about_36 fu σ x1 x2 = some R) {H : Heap} {locs : List Loc} {ls : Array Slot} (hA : Aw g A s.heap (wM g σ) H locs) (hl : lv_has ls 5 [(0, .ref (g.2.1 0)), (1, .int x1), (2, .int x2)]) : W p l e rmX8_about s m args below meth c H locs 0 0 (MQ below (Qi g A (wM g R.2) R.1) args s 0 0 A) (F0 m 36 ls [.ref (g.2.1 0)]) := by
  have hx := C.1.1
  have hb := C.1.2.1
  unfold f_X8_about_36 at h
  refine lv_iconst (v := 1) hx hb dX8_about_36 (by decide) ?_
  refine lv_goto (tgt := 41) hx hb dX8_about_37 (by decide) ?_
  exact w_X8_about_41 C h hA (lv_sub hl [0, 1, 2] rfl)
set_option maxHeartbeats 4000000 in
set_option maxRecDepth 100000 in
theorem w_X8_about_19 {σ : SS} {x1 : Int32} {x2 : Int32} {y0 : Int32} (C : Cx p l s m args meth c cX8_about 5 wsX8_about (some .int) RX8 g A) (h : f_X8_about_19 fu σ x1 x2 y0 = some R) {H : Heap} {locs : List Loc} {ls : Array Slot} (hA : Aw g A s.heap (wM g σ) H locs) (hl : lv_has ls 5 [(0, .ref (g.2.1 0)), (1, .int x1), (2, .int x2)]) : W p l e rmX8_about s m args below meth c H locs 0 0 (MQ below (Qi g A (wM g R.2) R.1) args s 0 0 A) (F0 m 19 ls [.int y0, .ref (g.2.1 0)]) := by
  have hx := C.1.1
  have hb := C.1.2.1
  unfold f_X8_about_19 at h
  refine lv_iconst (v := 1) hx hb dX8_about_19 (by decide) ?_
  obtain ⟨r1, t3, hc2, h⟩ := bd h
  refine r_callVi (r := r1) (w1 := wM g t3) (As := [.int y0, .int (1 : Int32)]) (rest := []) C hA hl.1 (k_X8_bad C.2.2.2.2.2.2 hc2) (cwV 2 C.1.2.2.2.2 gX8_about_X8_bad rfl rfl rfl nd_X8_bad ⟨Nat.le_of_ble_eq_true rfl, Nat.le_of_ble_eq_true rfl⟩) 0 rfl rfl rfl rfl (Nat.le_of_ble_eq_true rfl) dX8_about_20 ⟨Nat.le_of_ble_eq_true rfl, Nat.le_of_ble_eq_true rfl⟩ (fun H locs hA => ?_)
  refine lv_if_ne (tgt := 48) hx hb dX8_about_23 (by decide) (fun c4 => ?_) (fun c4 => ?_)
  · replace h := (if_neg c4).symm.trans h
    refine lv_iconst (v := 0) hx hb dX8_about_48 (by decide) ?_
    obtain rfl := Option.some.inj h
    exact r_iret C hA dX8_about_49
  · replace h := (if_pos c4).symm.trans h
    refine lv_aload_n hx hb dX8_about_26 rfl (lv_at hl 0 rfl) ?_
    refine lv_iload_n hx hb dX8_about_27 rfl (lv_at hl 2 rfl) ?_
    refine lv_if_lt (tgt := 36) hx hb dX8_about_28 (by decide) (fun c5 => ?_) (fun c5 => ?_)
    · replace h := (if_pos c5).symm.trans h
      exact w_X8_about_36 C h hA (lv_sub hl [0, 1, 2] rfl)
    · replace h := (if_neg c5).symm.trans h
      refine lv_iload_n hx hb dX8_about_31 rfl (lv_at hl 2 rfl) ?_
      refine lv_iconst (v := 2) hx hb dX8_about_32 (by decide) ?_
      refine lv_icmp_le (tgt := 40) hx hb dX8_about_33 (by decide) (fun c6 => ?_) (fun c6 => ?_)
      · replace h := (if_pos c6).symm.trans h
        refine lv_iconst (v := 0) hx hb dX8_about_40 (by decide) ?_
        exact w_X8_about_41 C h hA (lv_sub hl [0, 1, 2] rfl)
      · replace h := (if_neg c6).symm.trans h
        exact w_X8_about_36 C h hA (lv_sub hl [0, 1, 2] rfl)
set_option maxHeartbeats 4000000 in
set_option maxRecDepth 100000 in
theorem w_X8_about_0 {σ : SS} {x1 : Int32} {x2 : Int32} (C : Cx p l s m args meth c cX8_about 5 wsX8_about (some .int) RX8 g A) (h : f_X8_about fu σ x1 x2 = some R) {H : Heap} {locs : List Loc} {ls : Array Slot} (hA : Aw g A s.heap (wM g σ) H locs) (hl : lv_has ls 5 [(0, .ref (g.2.1 0)), (1, .int x1), (2, .int x2)]) : W p l e rmX8_about s m args below meth c H locs 0 0 (MQ below (Qi g A (wM g R.2) R.1) args s 0 0 A) (F0 m 0 ls []) := by
  have hx := C.1.1
  have hb := C.1.2.1
  unfold f_X8_about at h
  refine lv_aload_n hx hb dX8_about_0 rfl (lv_at hl 0 rfl) ?_
  refine lv_iconst (v := 0) hx hb dX8_about_1 (by decide) ?_
  refine Mp_X8_thrown C hA iX8_about_X8 (by decide +kernel) dX8_about_2 (fun H locs hA => ?_)
  refine lv_aload_n hx hb dX8_about_5 rfl (lv_at hl 0 rfl) ?_
  refine lv_aload_n hx hb dX8_about_6 rfl (lv_at hl 0 rfl) ?_
  refine lv_iload_n hx hb dX8_about_7 rfl (lv_at hl 1 rfl) ?_
  obtain ⟨r1, hc2, h⟩ := bd1 h
  refine r_callVi (r := r1) (w1 := wM g (sI σ 0 (0 : Int32))) (As := [.int x1]) (rest := [.ref (g.2.1 0)]) C hA hl.1 (k_X8_isChief C.2.2.2.2.2.2 hc2) (cwV 1 C.1.2.2.2.2 gX8_about_X8_isChief rfl rfl rfl nd_X8_isChief ⟨Nat.le_of_ble_eq_true rfl, Nat.le_of_ble_eq_true rfl⟩) 0 rfl rfl rfl rfl (Nat.le_of_ble_eq_true rfl) dX8_about_8 ⟨Nat.le_of_ble_eq_true rfl, Nat.le_of_ble_eq_true rfl⟩ (fun H locs hA => ?_)
  refine lv_if_ne (tgt := 18) hx hb dX8_about_11 (by decide) (fun c3 => ?_) (fun c3 => ?_)
  · replace h := (if_neg c3).symm.trans h
    refine lv_iconst (v := 0) hx hb dX8_about_18 (by decide) ?_
    exact w_X8_about_19 C h hA (lv_sub hl [0, 1, 2] rfl)
  · replace h := (if_pos c3).symm.trans h
    refine lv_iconst (v := 1) hx hb dX8_about_14 (by decide) ?_
    refine lv_goto (tgt := 19) hx hb dX8_about_15 (by decide) ?_
    exact w_X8_about_19 C h hA (lv_sub hl [0, 1, 2] rfl)
end
set_option maxRecDepth 100000 in
theorem k_X8_about {l : Launch} {g : Gm} {fu : Nat} {σ : SS} {x1 : Int32} {x2 : Int32} {R : Int32 × SS} (hlt : l.stackTraces = false) (h : f_X8_about fu σ x1 x2 = some R) (sz : Nat) : Met l yX8_about wsX8_about rmX8_about (Pw g (wM g σ) [.ref (g.2.1 0), .int x1, .int x2] sz) (Qi g (va_A (wM g σ) sz) (wM g R.2) R.1) 0 0 (va_A (wM g σ) sz) :=
  ofM (own := RX8) hlt (by decide) rfl rfl (Nat.le_of_ble_eq_true rfl) (fun p e s m below meth c hsz C hA ls hl => w_X8_about_0 C h hA hl)
abbrev rmX8_fame : Room := { frames := 1, cells := 0, slots := 0, locals := 22 }
theorem iX8_fame_X8 : ∀ x ∈ wsX80, x ∈ wsX8_fame := by decide +kernel
theorem nd_X8_fame : yX8_fame.cls = RX8 ∧ yX8_fame.cls ≠ "java/lang/invoke/MethodHandle" ∧ yX8_fame.cls ≠ "java/lang/invoke/VarHandle" ∧ (parseMethodDescriptor yX8_fame.desc).map (fun d => d.parameters.length) = some 1 := by decide +kernel
def f_X8_fame_19 (fu : Nat) (σ : SS) (x1 : Int32) (y0 : Int32) : Option (Int64 × SS) :=
  bnd (f_X8_bad fu σ y0 (1 : Int32)) (fun r1 t3 => (if r1 = 0 then if inB x1 12 then some ((t3.2.2 2 (x1).toNatClampNeg), t3) else none else some ((0 : Int64), t3)))
def f_X8_fame (fu : Nat) (σ : SS) (x1 : Int32) : Option (Int64 × SS) :=
  bnd1 (f_X8_isChief fu (sI σ 0 (0 : Int32)) x1) (fun r1 => (if r1 = 0 then f_X8_fame_19 fu (sI σ 0 (0 : Int32)) x1 (1 : Int32) else f_X8_fame_19 fu (sI σ 0 (0 : Int32)) x1 (0 : Int32)))
section
variable {p : Program} {l : Launch} {e : Env} {s : State} {m : MethodId} {args : Array Value} {below : List Frame} {meth : Method} {c : Code} {g : Gm} {A : Nat → Prop} {fu : Nat} {R : Int64 × SS}
set_option maxHeartbeats 4000000 in
set_option maxRecDepth 100000 in
theorem w_X8_fame_19 {σ : SS} {x1 : Int32} {y0 : Int32} (C : Cx p l s m args meth c cX8_fame 2 wsX8_fame (some .long) RX8 g A) (h : f_X8_fame_19 fu σ x1 y0 = some R) {H : Heap} {locs : List Loc} {ls : Array Slot} (hA : Aw g A s.heap (wM g σ) H locs) (hl : lv_has ls 2 [(0, .ref (g.2.1 0)), (1, .int x1)]) : W p l e rmX8_fame s m args below meth c H locs 0 0 (MQ below (Ql g A (wM g R.2) R.1) args s 0 0 A) (F0 m 19 ls [.int y0, .ref (g.2.1 0)]) := by
  have hx := C.1.1
  have hb := C.1.2.1
  unfold f_X8_fame_19 at h
  refine lv_iconst (v := 1) hx hb dX8_fame_19 (by decide) ?_
  obtain ⟨r1, t3, hc2, h⟩ := bd h
  refine r_callVi (r := r1) (w1 := wM g t3) (As := [.int y0, .int (1 : Int32)]) (rest := []) C hA hl.1 (k_X8_bad C.2.2.2.2.2.2 hc2) (cwV 2 C.1.2.2.2.2 gX8_fame_X8_bad rfl rfl rfl nd_X8_bad ⟨Nat.le_of_ble_eq_true rfl, Nat.le_of_ble_eq_true rfl⟩) 0 rfl rfl rfl rfl (Nat.le_of_ble_eq_true rfl) dX8_fame_20 ⟨Nat.le_of_ble_eq_true rfl, Nat.le_of_ble_eq_true rfl⟩ (fun H locs hA => ?_)
  refine lv_if_eq (tgt := 30) hx hb dX8_fame_23 (by decide) (fun c4 => ?_) (fun c4 => ?_)
  · replace h := (if_pos c4).symm.trans h
    refine lv_aload_n hx hb dX8_fame_30 rfl (lv_at hl 0 rfl) ?_
    refine Mg_X8_fames C hA iX8_fame_X8 (by decide +kernel) dX8_fame_31 ?_
    refine lv_iload_n hx hb dX8_fame_34 rfl (lv_at hl 1 rfl) ?_
    obtain ⟨g5, h⟩ := gd h
    refine Mld_2 (v := (t3.2.2 2 (x1).toNatClampNeg)) C hA rfl g5 dX8_fame_35 ?_
    obtain rfl := Option.some.inj h
    exact r_lret C hA dX8_fame_36
  · replace h := (if_neg c4).symm.trans h
    refine lv_lconst (v := 0) hx hb dX8_fame_26 (by decide) ?_
    refine lv_goto (tgt := 36) hx hb dX8_fame_27 (by decide) ?_
    obtain rfl := Option.some.inj h
    exact r_lret C hA dX8_fame_36
set_option maxHeartbeats 4000000 in
set_option maxRecDepth 100000 in
theorem w_X8_fame_0 {σ : SS} {x1 : Int32} (C : Cx p l s m args meth c cX8_fame 2 wsX8_fame (some .long) RX8 g A) (h : f_X8_fame fu σ x1 = some R) {H : Heap} {locs : List Loc} {ls : Array Slot} (hA : Aw g A s.heap (wM g σ) H locs) (hl : lv_has ls 2 [(0, .ref (g.2.1 0)), (1, .int x1)]) : W p l e rmX8_fame s m args below meth c H locs 0 0 (MQ below (Ql g A (wM g R.2) R.1) args s 0 0 A) (F0 m 0 ls []) := by
  have hx := C.1.1
  have hb := C.1.2.1
  unfold f_X8_fame at h
  refine lv_aload_n hx hb dX8_fame_0 rfl (lv_at hl 0 rfl) ?_
  refine lv_iconst (v := 0) hx hb dX8_fame_1 (by decide) ?_
  refine Mp_X8_thrown C hA iX8_fame_X8 (by decide +kernel) dX8_fame_2 (fun H locs hA => ?_)
  refine lv_aload_n hx hb dX8_fame_5 rfl (lv_at hl 0 rfl) ?_
  refine lv_aload_n hx hb dX8_fame_6 rfl (lv_at hl 0 rfl) ?_
  refine lv_iload_n hx hb dX8_fame_7 rfl (lv_at hl 1 rfl) ?_
  obtain ⟨r1, hc2, h⟩ := bd1 h
  refine r_callVi (r := r1) (w1 := wM g (sI σ 0 (0 : Int32))) (As := [.int x1]) (rest := [.ref (g.2.1 0)]) C hA hl.1 (k_X8_isChief C.2.2.2.2.2.2 hc2) (cwV 1 C.1.2.2.2.2 gX8_fame_X8_isChief rfl rfl rfl nd_X8_isChief ⟨Nat.le_of_ble_eq_true rfl, Nat.le_of_ble_eq_true rfl⟩) 0 rfl rfl rfl rfl (Nat.le_of_ble_eq_true rfl) dX8_fame_8 ⟨Nat.le_of_ble_eq_true rfl, Nat.le_of_ble_eq_true rfl⟩ (fun H locs hA => ?_)
  refine lv_if_ne (tgt := 18) hx hb dX8_fame_11 (by decide) (fun c3 => ?_) (fun c3 => ?_)
  · replace h := (if_neg c3).symm.trans h
    refine lv_iconst (v := 0) hx hb dX8_fame_18 (by decide) ?_
    exact w_X8_fame_19 C h hA (lv_sub hl [0, 1] rfl)
  · replace h := (if_pos c3).symm.trans h
    refine lv_iconst (v := 1) hx hb dX8_fame_14 (by decide) ?_
    refine lv_goto (tgt := 19) hx hb dX8_fame_15 (by decide) ?_
    exact w_X8_fame_19 C h hA (lv_sub hl [0, 1] rfl)
end
set_option maxRecDepth 100000 in
theorem k_X8_fame {l : Launch} {g : Gm} {fu : Nat} {σ : SS} {x1 : Int32} {R : Int64 × SS} (hlt : l.stackTraces = false) (h : f_X8_fame fu σ x1 = some R) (sz : Nat) : Met l yX8_fame wsX8_fame rmX8_fame (Pw g (wM g σ) [.ref (g.2.1 0), .int x1] sz) (Ql g (va_A (wM g σ) sz) (wM g R.2) R.1) 0 0 (va_A (wM g σ) sz) :=
  ofM (own := RX8) hlt (by decide) rfl rfl (Nat.le_of_ble_eq_true rfl) (fun p e s m below meth c hsz C hA ls hl => w_X8_fame_0 C h hA hl)
abbrev rmX8_ways : Room := { frames := 0, cells := 0, slots := 0, locals := 0 }
theorem iX8_ways_X8 : ∀ x ∈ wsX80, x ∈ wsX8_ways := by decide +kernel
theorem nd_X8_ways : yX8_ways.cls = RX8 ∧ yX8_ways.cls ≠ "java/lang/invoke/MethodHandle" ∧ yX8_ways.cls ≠ "java/lang/invoke/VarHandle" ∧ (parseMethodDescriptor yX8_ways.desc).map (fun d => d.parameters.length) = some 1 := by decide +kernel
def f_X8_ways_141 (fu : Nat) (k51 : SS → Int32 → Option (Unit × SS)) (k61 : SS → (Int32 × Int32) → Option (Unit × SS)) (σ : SS) (x2 : Int32) (x3 : Int32) : Option (Unit × SS) :=
  k61 σ (x2, (x3 + 1))
def f_X8_ways_61 (fu : Nat) (k51 : SS → Int32 → Option (Unit × SS)) (k61 : SS → (Int32 × Int32) → Option (Unit × SS)) (σ : SS) (x2 : Int32) (x3 : Int32) : Option (Unit × SS) :=
  (if (σ.1 4) ≤ x3 then k51 σ (x2 + 1) else if inB x3 12 then (if (σ.2.1 28 (x3).toNatClampNeg) = 0 then if inB x2 12 then if inB (((12 : Int32) * x3) + (σ.2.1 29 (x2).toNatClampNeg)) 144 then (if (lg_cmp (σ.2.2 25 ((((12 : Int32) * x3) + (σ.2.1 29 (x2).toNatClampNeg))).toNatClampNeg) (0 : Int64)) = 0 then f_X8_ways_141 fu k51 k61 σ x2 x3 else if inB (σ.1 30) 12 then f_X8_ways_141 fu k51 k61 (sI (sA (sA (sA σ 28 (x3).toNatClampNeg (vp_nar .boolean (1 : Int32))) 27 (x3).toNatClampNeg (σ.2.1 29 (x2).toNatClampNeg)) 29 ((σ.1 30)).toNatClampNeg x3) 30 ((σ.1 30) + (1 : Int32))) x2 x3 else none) else none else none else f_X8_ways_141 fu k51 k61 σ x2 x3) else none)
def f_X8_ways_L61 (fu : Nat) (k51 : SS → Int32 → Option (Unit × SS)) : SS → (Int32 × Int32) → Option (Unit × SS) := loopN (fun k61 σ x => f_X8_ways_61 fu k51 k61 σ x.1 x.2) fu
def f_X8_ways_51 (fu : Nat) (k51 : SS → Int32 → Option (Unit × SS)) (σ : SS) (x2 : Int32) : Option (Unit × SS) :=
  (if (σ.1 30) ≤ x2 then some ((), σ) else f_X8_ways_L61 fu k51 σ (x2, (0 : Int32)))
def f_X8_ways_L51 (fu : Nat) : SS → Int32 → Option (Unit × SS) := loopN (fun k51 σ x => f_X8_ways_51 fu k51 σ x) fu
def f_X8_ways_2 (fu : Nat) (k2 : SS → (Int32 × Int32) → Option (Unit × SS)) (σ : SS) (x1 : Int32) (x2 : Int32) : Option (Unit × SS) :=
  (if (σ.1 4) ≤ x2 then if inB x1 12 then if inB (0 : Int32) 12 then f_X8_ways_L51 fu (sI (sA (sA (sA σ 28 (x1).toNatClampNeg (vp_nar .boolean (1 : Int32))) 27 (x1).toNatClampNeg (-1)) 29 ((0 : Int32)).toNatClampNeg x1) 30 (1 : Int32)) (0 : Int32) else none else none else if inB x2 12 then k2 (sA σ 28 (x2).toNatClampNeg (vp_nar .boolean (0 : Int32))) (x1, (x2 + 1)) else none)
def f_X8_ways_L2 (fu : Nat) : SS → (Int32 × Int32) → Option (Unit × SS) := loopN (fun k2 σ x => f_X8_ways_2 fu k2 σ x.1 x.2) fu
def f_X8_ways (fu : Nat) (σ : SS) (x1 : Int32) : Option (Unit × SS) :=
  f_X8_ways_L2 fu σ (x1, (0 : Int32))
section
variable {p : Program} {l : Launch} {e : Env} {s : State} {m : MethodId} {args : Array Value} {below : List Frame} {meth : Method} {c : Code} {g : Gm} {A : Nat → Prop} {fu : Nat} {R : Unit × SS}
set_option maxHeartbeats 4000000 in
set_option maxRecDepth 100000 in
theorem w_X8_ways_141 {σ : SS} {x2 : Int32} {x3 : Int32} (C : Cx p l s m args meth c cX8_ways 4 wsX8_ways none RX8 g A) {k51 : SS → Int32 → Option (Unit × SS)} (hk51 : ∀ (σ : SS) (x : Int32), k51 σ x = some R → ∀ (H : Heap) (locs : List Loc) (ls : Array Slot), Aw g A s.heap (wM g σ) H locs → lv_has ls 4 [(0, .ref (g.2.1 0)), (2, .int x)] → W p l e rmX8_ways s m args below meth c H locs 0 0 (MQ below (Qv g A (wM g R.2) R.1) args s 0 0 A) (F0 m 51 ls [])) {k61 : SS → (Int32 × Int32) → Option (Unit × SS)} (hk61 : ∀ (σ : SS) (x : Int32 × Int32), k61 σ x = some R → ∀ (H : Heap) (locs : List Loc) (ls : Array Slot), Aw g A s.heap (wM g σ) H locs → lv_has ls 4 [(0, .ref (g.2.1 0)), (2, .int x.1), (3, .int x.2)] → W p l e rmX8_ways s m args below meth c H locs 0 0 (MQ below (Qv g A (wM g R.2) R.1) args s 0 0 A) (F0 m 61 ls [])) (h : f_X8_ways_141 fu k51 k61 σ x2 x3 = some R) {H : Heap} {locs : List Loc} {ls : Array Slot} (hA : Aw g A s.heap (wM g σ) H locs) (hl : lv_has ls 4 [(0, .ref (g.2.1 0)), (2, .int x2), (3, .int x3)]) : W p l e rmX8_ways s m args below meth c H locs 0 0 (MQ below (Qv g A (wM g R.2) R.1) args s 0 0 A) (F0 m 141 ls []) := by
  have hx := C.1.1
  have hb := C.1.2.1
  unfold f_X8_ways_141 at h
  refine lv_iinc (v := (x3 + 1)) (lv' := [(3, .int (x3 + 1)), (0, .ref (g.2.1 0)), (2, .int x2)]) hx hb dX8_ways_141 hl (k := 2) rfl rfl (by decide) rfl (fun ls hl => ?_)
  refine lv_goto (tgt := 61) hx hb dX8_ways_144 (by decide) ?_
  exact hk61 _ _ h _ _ _ hA (lv_sub hl [1, 2, 0] rfl)
set_option maxHeartbeats 4000000 in
set_option maxRecDepth 100000 in
theorem w_X8_ways_61 {σ : SS} {x2 : Int32} {x3 : Int32} (C : Cx p l s m args meth c cX8_ways 4 wsX8_ways none RX8 g A) {k51 : SS → Int32 → Option (Unit × SS)} (hk51 : ∀ (σ : SS) (x : Int32), k51 σ x = some R → ∀ (H : Heap) (locs : List Loc) (ls : Array Slot), Aw g A s.heap (wM g σ) H locs → lv_has ls 4 [(0, .ref (g.2.1 0)), (2, .int x)] → W p l e rmX8_ways s m args below meth c H locs 0 0 (MQ below (Qv g A (wM g R.2) R.1) args s 0 0 A) (F0 m 51 ls [])) {k61 : SS → (Int32 × Int32) → Option (Unit × SS)} (hk61 : ∀ (σ : SS) (x : Int32 × Int32), k61 σ x = some R → ∀ (H : Heap) (locs : List Loc) (ls : Array Slot), Aw g A s.heap (wM g σ) H locs → lv_has ls 4 [(0, .ref (g.2.1 0)), (2, .int x.1), (3, .int x.2)] → W p l e rmX8_ways s m args below meth c H locs 0 0 (MQ below (Qv g A (wM g R.2) R.1) args s 0 0 A) (F0 m 61 ls [])) (h : f_X8_ways_61 fu k51 k61 σ x2 x3 = some R) {H : Heap} {locs : List Loc} {ls : Array Slot} (hA : Aw g A s.heap (wM g σ) H locs) (hl : lv_has ls 4 [(0, .ref (g.2.1 0)), (2, .int x2), (3, .int x3)]) : W p l e rmX8_ways s m args below meth c H locs 0 0 (MQ below (Qv g A (wM g R.2) R.1) args s 0 0 A) (F0 m 61 ls []) := by
  have hx := C.1.1
  have hb := C.1.2.1
  unfold f_X8_ways_61 at h
  refine lv_iload_n hx hb dX8_ways_61 rfl (lv_at hl 2 rfl) ?_
  refine lv_aload_n hx hb dX8_ways_62 rfl (lv_at hl 0 rfl) ?_
  refine Mg_X8_chiefs (v := (σ.1 4)) C hA rfl iX8_ways_X8 (by decide +kernel) dX8_ways_63 ?_
  refine lv_icmp_ge (tgt := 147) hx hb dX8_ways_66 (by decide) (fun c1 => ?_) (fun c1 => ?_)
  · replace h := (if_pos c1).symm.trans h
    refine lv_iinc (v := (x2 + 1)) (lv' := [(2, .int (x2 + 1)), (0, .ref (g.2.1 0)), (3, .int x3)]) hx hb dX8_ways_147 hl (k := 1) rfl rfl (by decide) rfl (fun ls hl => ?_)
    refine lv_goto (tgt := 51) hx hb dX8_ways_150 (by decide) ?_
    exact hk51 _ _ h _ _ _ hA (lv_sub hl [1, 0] rfl)
  · replace h := (if_neg c1).symm.trans h
    refine lv_aload_n hx hb dX8_ways_69 rfl (lv_at hl 0 rfl) ?_
    refine Mg_X8_isSeen C hA iX8_ways_X8 (by decide +kernel) dX8_ways_70 ?_
    refine lv_iload_n hx hb dX8_ways_73 rfl (lv_at hl 2 rfl) ?_
    obtain ⟨g2, h⟩ := gd h
    refine Mld_28 (v := (σ.2.1 28 (x3).toNatClampNeg)) C hA rfl g2 dX8_ways_74 ?_
    refine lv_if_ne (tgt := 141) hx hb dX8_ways_75 (by decide) (fun c3 => ?_) (fun c3 => ?_)
    · replace h := (if_neg c3).symm.trans h
      exact w_X8_ways_141 C hk51 hk61 h hA (lv_sub hl [0, 1, 2] rfl)
    · replace h := (if_pos c3).symm.trans h
      refine lv_aload_n hx hb dX8_ways_78 rfl (lv_at hl 0 rfl) ?_
      refine Mg_X8_can C hA iX8_ways_X8 (by decide +kernel) dX8_ways_79 ?_
      refine lv_bipush (v := 12) hx hb dX8_ways_82 (by decide) ?_
      refine lv_iload_n hx hb dX8_ways_84 rfl (lv_at hl 2 rfl) ?_
      refine lv_imul hx hb dX8_ways_85 ?_
      refine lv_aload_n hx hb dX8_ways_86 rfl (lv_at hl 0 rfl) ?_
      refine Mg_X8_row C hA iX8_ways_X8 (by decide +kernel) dX8_ways_87 ?_
      refine lv_iload_n hx hb dX8_ways_90 rfl (lv_at hl 1 rfl) ?_
      obtain ⟨g4, h⟩ := gd h
      refine Mld_29 (v := (σ.2.1 29 (x2).toNatClampNeg)) C hA rfl g4 dX8_ways_91 ?_
      refine lv_iadd hx hb dX8_ways_92 ?_
      obtain ⟨g5, h⟩ := gd h
      refine Mld_25 (v := (σ.2.2 25 ((((12 : Int32) * x3) + (σ.2.1 29 (x2).toNatClampNeg))).toNatClampNeg)) C hA rfl g5 dX8_ways_93 ?_
      refine lv_lconst (v := 0) hx hb dX8_ways_94 (by decide) ?_
      refine W.lcmp hx hb dX8_ways_95 ?_
      refine lv_if_ne (tgt := 102) hx hb dX8_ways_96 (by decide) (fun c6 => ?_) (fun c6 => ?_)
      · replace h := (if_neg c6).symm.trans h
        refine lv_aload_n hx hb dX8_ways_102 rfl (lv_at hl 0 rfl) ?_
        refine Mg_X8_isSeen C hA iX8_ways_X8 (by decide +kernel) dX8_ways_103 ?_
        refine lv_iload_n hx hb dX8_ways_106 rfl (lv_at hl 2 rfl) ?_
        refine lv_iconst (v := 1) hx hb dX8_ways_107 (by decide) ?_
        refine Mst_28 C hA g2 dX8_ways_108 (fun H locs hA => ?_)
        refine lv_aload_n hx hb dX8_ways_109 rfl (lv_at hl 0 rfl) ?_
        refine Mg_X8_to C hA iX8_ways_X8 (by decide +kernel) dX8_ways_110 ?_
        refine lv_iload_n hx hb dX8_ways_113 rfl (lv_at hl 2 rfl) ?_
        refine lv_aload_n hx hb dX8_ways_114 rfl (lv_at hl 0 rfl) ?_
        refine Mg_X8_row C hA iX8_ways_X8 (by decide +kernel) dX8_ways_115 ?_
        refine lv_iload_n hx hb dX8_ways_118 rfl (lv_at hl 1 rfl) ?_
        refine Mld_29 (v := (σ.2.1 29 (x2).toNatClampNeg)) C hA rfl g4 dX8_ways_119 ?_
        refine Mst_27 C hA g2 dX8_ways_120 (fun H locs hA => ?_)
        refine lv_aload_n hx hb dX8_ways_121 rfl (lv_at hl 0 rfl) ?_
        refine Mg_X8_row C hA iX8_ways_X8 (by decide +kernel) dX8_ways_122 ?_
        refine lv_aload_n hx hb dX8_ways_125 rfl (lv_at hl 0 rfl) ?_
        refine Mg_X8_seen (v := (σ.1 30)) C hA rfl iX8_ways_X8 (by decide +kernel) dX8_ways_126 ?_
        refine lv_iload_n hx hb dX8_ways_129 rfl (lv_at hl 2 rfl) ?_
        obtain ⟨g7, h⟩ := gd h
        refine Mst_29 C hA g7 dX8_ways_130 (fun H locs hA => ?_)
        refine lv_aload_n hx hb dX8_ways_131 rfl (lv_at hl 0 rfl) ?_
        refine lv_dup hx hb dX8_ways_132 rfl ?_
        refine Mg_X8_seen (v := (σ.1 30)) C hA rfl iX8_ways_X8 (by decide +kernel) dX8_ways_133 ?_
        refine lv_iconst (v := 1) hx hb dX8_ways_136 (by decide) ?_
        refine lv_iadd hx hb dX8_ways_137 ?_
        refine Mp_X8_seen C hA iX8_ways_X8 (by decide +kernel) dX8_ways_138 (fun H locs hA => ?_)
        exact w_X8_ways_141 C hk51 hk61 h hA (lv_sub hl [0, 1, 2] rfl)
      · replace h := (if_pos c6).symm.trans h
        refine lv_goto (tgt := 141) hx hb dX8_ways_99 (by decide) ?_
        exact w_X8_ways_141 C hk51 hk61 h hA (lv_sub hl [0, 1, 2] rfl)
set_option maxHeartbeats 4000000 in
theorem w_X8_ways_L61 {σ : SS} {x : Int32 × Int32} (C : Cx p l s m args meth c cX8_ways 4 wsX8_ways none RX8 g A) {k51 : SS → Int32 → Option (Unit × SS)} (hk51 : ∀ (σ : SS) (x : Int32), k51 σ x = some R → ∀ (H : Heap) (locs : List Loc) (ls : Array Slot), Aw g A s.heap (wM g σ) H locs → lv_has ls 4 [(0, .ref (g.2.1 0)), (2, .int x)] → W p l e rmX8_ways s m args below meth c H locs 0 0 (MQ below (Qv g A (wM g R.2) R.1) args s 0 0 A) (F0 m 51 ls [])) (h : f_X8_ways_L61 fu k51 σ x = some R) {H : Heap} {locs : List Loc} {ls : Array Slot} (hA : Aw g A s.heap (wM g σ) H locs) (hl : lv_has ls 4 [(0, .ref (g.2.1 0)), (2, .int x.1), (3, .int x.2)]) : W p l e rmX8_ways s m args below meth c H locs 0 0 (MQ below (Qv g A (wM g R.2) R.1) args s 0 0 A) (F0 m 61 ls []) := by
  refine loopW (P := fun σ x => ∀ (H : Heap) (locs : List Loc) (ls : Array Slot), Aw g A s.heap (wM g σ) H locs → lv_has ls 4 [(0, .ref (g.2.1 0)), (2, .int x.1), (3, .int x.2)] → W p l e rmX8_ways s m args below meth c H locs 0 0 (MQ below (Qv g A (wM g R.2) R.1) args s 0 0 A) (F0 m 61 ls [])) (fun k hk σ x h9 H locs ls hA9 hl9 => ?_) fu σ x h H locs ls hA hl
  exact w_X8_ways_61 C hk51 hk h9 hA9 hl9
set_option maxHeartbeats 4000000 in
set_option maxRecDepth 100000 in
theorem w_X8_ways_51 {σ : SS} {x2 : Int32} (C : Cx p l s m args meth c cX8_ways 4 wsX8_ways none RX8 g A) {k51 : SS → Int32 → Option (Unit × SS)} (hk51 : ∀ (σ : SS) (x : Int32), k51 σ x = some R → ∀ (H : Heap) (locs : List Loc) (ls : Array Slot), Aw g A s.heap (wM g σ) H locs → lv_has ls 4 [(0, .ref (g.2.1 0)), (2, .int x)] → W p l e rmX8_ways s m args below meth c H locs 0 0 (MQ below (Qv g A (wM g R.2) R.1) args s 0 0 A) (F0 m 51 ls [])) (h : f_X8_ways_51 fu k51 σ x2 = some R) {H : Heap} {locs : List Loc} {ls : Array Slot} (hA : Aw g A s.heap (wM g σ) H locs) (hl : lv_has ls 4 [(0, .ref (g.2.1 0)), (2, .int x2)]) : W p l e rmX8_ways s m args below meth c H locs 0 0 (MQ below (Qv g A (wM g R.2) R.1) args s 0 0 A) (F0 m 51 ls []) := by
  have hx := C.1.1
  have hb := C.1.2.1
  unfold f_X8_ways_51 at h
  refine lv_iload_n hx hb dX8_ways_51 rfl (lv_at hl 1 rfl) ?_
  refine lv_aload_n hx hb dX8_ways_52 rfl (lv_at hl 0 rfl) ?_
  refine Mg_X8_seen (v := (σ.1 30)) C hA rfl iX8_ways_X8 (by decide +kernel) dX8_ways_53 ?_
  refine lv_icmp_ge (tgt := 153) hx hb dX8_ways_56 (by decide) (fun c1 => ?_) (fun c1 => ?_)
  · replace h := (if_pos c1).symm.trans h
    obtain rfl := Option.some.inj h
    exact r_vret C hA dX8_ways_153
  · replace h := (if_neg c1).symm.trans h
    refine lv_iconst (v := 0) hx hb dX8_ways_59 (by decide) ?_
    refine lv_istore_n (lv' := [(3, .int (0 : Int32)), (0, .ref (g.2.1 0)), (2, .int x2)]) hx hb dX8_ways_60 rfl hl (by decide) rfl (fun ls hl => ?_)
    exact w_X8_ways_L61 C hk51 h hA (lv_sub hl [1, 2, 0] rfl)
set_option maxHeartbeats 4000000 in
theorem w_X8_ways_L51 {σ : SS} {x : Int32} (C : Cx p l s m args meth c cX8_ways 4 wsX8_ways none RX8 g A) (h : f_X8_ways_L51 fu σ x = some R) {H : Heap} {locs : List Loc} {ls : Array Slot} (hA : Aw g A s.heap (wM g σ) H locs) (hl : lv_has ls 4 [(0, .ref (g.2.1 0)), (2, .int x)]) : W p l e rmX8_ways s m args below meth c H locs 0 0 (MQ below (Qv g A (wM g R.2) R.1) args s 0 0 A) (F0 m 51 ls []) := by
  refine loopW (P := fun σ x => ∀ (H : Heap) (locs : List Loc) (ls : Array Slot), Aw g A s.heap (wM g σ) H locs → lv_has ls 4 [(0, .ref (g.2.1 0)), (2, .int x)] → W p l e rmX8_ways s m args below meth c H locs 0 0 (MQ below (Qv g A (wM g R.2) R.1) args s 0 0 A) (F0 m 51 ls [])) (fun k hk σ x h9 H locs ls hA9 hl9 => ?_) fu σ x h H locs ls hA hl
  exact w_X8_ways_51 C hk h9 hA9 hl9
set_option maxHeartbeats 4000000 in
set_option maxRecDepth 100000 in
theorem w_X8_ways_2 {σ : SS} {x1 : Int32} {x2 : Int32} (C : Cx p l s m args meth c cX8_ways 4 wsX8_ways none RX8 g A) {k2 : SS → (Int32 × Int32) → Option (Unit × SS)} (hk2 : ∀ (σ : SS) (x : Int32 × Int32), k2 σ x = some R → ∀ (H : Heap) (locs : List Loc) (ls : Array Slot), Aw g A s.heap (wM g σ) H locs → lv_has ls 4 [(0, .ref (g.2.1 0)), (1, .int x.1), (2, .int x.2)] → W p l e rmX8_ways s m args below meth c H locs 0 0 (MQ below (Qv g A (wM g R.2) R.1) args s 0 0 A) (F0 m 2 ls [])) (h : f_X8_ways_2 fu k2 σ x1 x2 = some R) {H : Heap} {locs : List Loc} {ls : Array Slot} (hA : Aw g A s.heap (wM g σ) H locs) (hl : lv_has ls 4 [(0, .ref (g.2.1 0)), (1, .int x1), (2, .int x2)]) : W p l e rmX8_ways s m args below meth c H locs 0 0 (MQ below (Qv g A (wM g R.2) R.1) args s 0 0 A) (F0 m 2 ls []) := by
  have hx := C.1.1
  have hb := C.1.2.1
  unfold f_X8_ways_2 at h
  refine lv_iload_n hx hb dX8_ways_2 rfl (lv_at hl 2 rfl) ?_
  refine lv_aload_n hx hb dX8_ways_3 rfl (lv_at hl 0 rfl) ?_
  refine Mg_X8_chiefs (v := (σ.1 4)) C hA rfl iX8_ways_X8 (by decide +kernel) dX8_ways_4 ?_
  refine lv_icmp_ge (tgt := 23) hx hb dX8_ways_7 (by decide) (fun c1 => ?_) (fun c1 => ?_)
  · replace h := (if_pos c1).symm.trans h
    refine lv_aload_n hx hb dX8_ways_23 rfl (lv_at hl 0 rfl) ?_
    refine Mg_X8_isSeen C hA iX8_ways_X8 (by decide +kernel) dX8_ways_24 ?_
    refine lv_iload_n hx hb dX8_ways_27 rfl (lv_at hl 1 rfl) ?_
    refine lv_iconst (v := 1) hx hb dX8_ways_28 (by decide) ?_
    obtain ⟨g2, h⟩ := gd h
    refine Mst_28 C hA g2 dX8_ways_29 (fun H locs hA => ?_)
    refine lv_aload_n hx hb dX8_ways_30 rfl (lv_at hl 0 rfl) ?_
    refine Mg_X8_to C hA iX8_ways_X8 (by decide +kernel) dX8_ways_31 ?_
    refine lv_iload_n hx hb dX8_ways_34 rfl (lv_at hl 1 rfl) ?_
    refine lv_iconst (v := (-1)) hx hb dX8_ways_35 (by decide) ?_
    refine Mst_27 C hA g2 dX8_ways_36 (fun H locs hA => ?_)
    refine lv_aload_n hx hb dX8_ways_37 rfl (lv_at hl 0 rfl) ?_
    refine Mg_X8_row C hA iX8_ways_X8 (by decide +kernel) dX8_ways_38 ?_
    refine lv_iconst (v := 0) hx hb dX8_ways_41 (by decide) ?_
    refine lv_iload_n hx hb dX8_ways_42 rfl (lv_at hl 1 rfl) ?_
    obtain ⟨g3, h⟩ := gd h
    refine Mst_29 C hA g3 dX8_ways_43 (fun H locs hA => ?_)
    refine lv_aload_n hx hb dX8_ways_44 rfl (lv_at hl 0 rfl) ?_
    refine lv_iconst (v := 1) hx hb dX8_ways_45 (by decide) ?_
    refine Mp_X8_seen C hA iX8_ways_X8 (by decide +kernel) dX8_ways_46 (fun H locs hA => ?_)
    refine lv_iconst (v := 0) hx hb dX8_ways_49 (by decide) ?_
    refine lv_istore_n (lv' := [(2, .int (0 : Int32)), (0, .ref (g.2.1 0)), (1, .int x1)]) hx hb dX8_ways_50 rfl hl (by decide) rfl (fun ls hl => ?_)
    exact w_X8_ways_L51 C h hA (lv_sub hl [1, 0] rfl)
  · replace h := (if_neg c1).symm.trans h
    refine lv_aload_n hx hb dX8_ways_10 rfl (lv_at hl 0 rfl) ?_
    refine Mg_X8_isSeen C hA iX8_ways_X8 (by decide +kernel) dX8_ways_11 ?_
    refine lv_iload_n hx hb dX8_ways_14 rfl (lv_at hl 2 rfl) ?_
    refine lv_iconst (v := 0) hx hb dX8_ways_15 (by decide) ?_
    obtain ⟨g4, h⟩ := gd h
    refine Mst_28 C hA g4 dX8_ways_16 (fun H locs hA => ?_)
    refine lv_iinc (v := (x2 + 1)) (lv' := [(2, .int (x2 + 1)), (0, .ref (g.2.1 0)), (1, .int x1)]) hx hb dX8_ways_17 hl (k := 2) rfl rfl (by decide) rfl (fun ls hl => ?_)
    refine lv_goto (tgt := 2) hx hb dX8_ways_20 (by decide) ?_
    exact hk2 _ _ h _ _ _ hA (lv_sub hl [1, 2, 0] rfl)
set_option maxHeartbeats 4000000 in
theorem w_X8_ways_L2 {σ : SS} {x : Int32 × Int32} (C : Cx p l s m args meth c cX8_ways 4 wsX8_ways none RX8 g A) (h : f_X8_ways_L2 fu σ x = some R) {H : Heap} {locs : List Loc} {ls : Array Slot} (hA : Aw g A s.heap (wM g σ) H locs) (hl : lv_has ls 4 [(0, .ref (g.2.1 0)), (1, .int x.1), (2, .int x.2)]) : W p l e rmX8_ways s m args below meth c H locs 0 0 (MQ below (Qv g A (wM g R.2) R.1) args s 0 0 A) (F0 m 2 ls []) := by
  refine loopW (P := fun σ x => ∀ (H : Heap) (locs : List Loc) (ls : Array Slot), Aw g A s.heap (wM g σ) H locs → lv_has ls 4 [(0, .ref (g.2.1 0)), (1, .int x.1), (2, .int x.2)] → W p l e rmX8_ways s m args below meth c H locs 0 0 (MQ below (Qv g A (wM g R.2) R.1) args s 0 0 A) (F0 m 2 ls [])) (fun k hk σ x h9 H locs ls hA9 hl9 => ?_) fu σ x h H locs ls hA hl
  exact w_X8_ways_2 C hk h9 hA9 hl9
set_option maxHeartbeats 4000000 in
set_option maxRecDepth 100000 in
theorem w_X8_ways_0 {σ : SS} {x1 : Int32} (C : Cx p l s m args meth c cX8_ways 4 wsX8_ways none RX8 g A) (h : f_X8_ways fu σ x1 = some R) {H : Heap} {locs : List Loc} {ls : Array Slot} (hA : Aw g A s.heap (wM g σ) H locs) (hl : lv_has ls 4 [(0, .ref (g.2.1 0)), (1, .int x1)]) : W p l e rmX8_ways s m args below meth c H locs 0 0 (MQ below (Qv g A (wM g R.2) R.1) args s 0 0 A) (F0 m 0 ls []) := by
  have hx := C.1.1
  have hb := C.1.2.1
  unfold f_X8_ways at h
  refine lv_iconst (v := 0) hx hb dX8_ways_0 (by decide) ?_
  refine lv_istore_n (lv' := [(2, .int (0 : Int32)), (0, .ref (g.2.1 0)), (1, .int x1)]) hx hb dX8_ways_1 rfl hl (by decide) rfl (fun ls hl => ?_)
  exact w_X8_ways_L2 C h hA (lv_sub hl [1, 2, 0] rfl)
end
set_option maxRecDepth 100000 in
theorem k_X8_ways {l : Launch} {g : Gm} {fu : Nat} {σ : SS} {x1 : Int32} {R : Unit × SS} (hlt : l.stackTraces = false) (h : f_X8_ways fu σ x1 = some R) (sz : Nat) : Met l yX8_ways wsX8_ways rmX8_ways (Pw g (wM g σ) [.ref (g.2.1 0), .int x1] sz) (Qv g (va_A (wM g σ) sz) (wM g R.2) R.1) 0 0 (va_A (wM g σ) sz) :=
  ofM (own := RX8) hlt (by decide) rfl rfl (Nat.le_of_ble_eq_true rfl) (fun p e s m below meth c hsz C hA ls hl => w_X8_ways_0 C h hA hl)
abbrev rmX8_gathers : Room := { frames := 1, cells := 0, slots := 0, locals := 23 }
theorem iX8_gathers_X8 : ∀ x ∈ wsX80, x ∈ wsX8_gathers := by decide +kernel
theorem nd_X8_gathers : yX8_gathers.cls = RX8 ∧ yX8_gathers.cls ≠ "java/lang/invoke/MethodHandle" ∧ yX8_gathers.cls ≠ "java/lang/invoke/VarHandle" ∧ (parseMethodDescriptor yX8_gathers.desc).map (fun d => d.parameters.length) = some 2 := by decide +kernel
def f_X8_gathers_295 (fu : Nat) (k133 : SS → (Int32 × Int64 × Int32) → Option (Int64 × SS)) (k295 : SS → (Int32 × Int64 × Int32 × Int32 × Int64 × Int32) → Option (Int64 × SS)) (σ : SS) (x1 : Int32) (x3 : Int64) (x5 : Int32) (x7 : Int32) (x8 : Int64) (x10 : Int32) : Option (Int64 × SS) :=
  (if x10 = x1 then if inB x7 12 then k133 (sL σ 26 (x7).toNatClampNeg ((σ.2.2 26 (x7).toNatClampNeg) - x8)) (x1, (x3 + x8), x5) else none else if inB x10 12 then if inB (((12 : Int32) * x10) + (σ.2.1 27 (x10).toNatClampNeg)) 144 then if inB (((12 : Int32) * (σ.2.1 27 (x10).toNatClampNeg)) + x10) 144 then k295 (sL (sL σ 25 ((((12 : Int32) * x10) + (σ.2.1 27 (x10).toNatClampNeg))).toNatClampNeg ((σ.2.2 25 ((((12 : Int32) * x10) + (σ.2.1 27 (x10).toNatClampNeg))).toNatClampNeg) - x8)) 25 ((((12 : Int32) * (σ.2.1 27 (x10).toNatClampNeg)) + x10)).toNatClampNeg (((sL σ 25 ((((12 : Int32) * x10) + (σ.2.1 27 (x10).toNatClampNeg))).toNatClampNeg ((σ.2.2 25 ((((12 : Int32) * x10) + (σ.2.1 27 (x10).toNatClampNeg))).toNatClampNeg) - x8)).2.2 25 ((((12 : Int32) * (σ.2.1 27 (x10).toNatClampNeg)) + x10)).toNatClampNeg) + x8)) (x1, x3, x5, x7, x8, (σ.2.1 27 (x10).toNatClampNeg)) else none else none else none)
def f_X8_gathers_L295 (fu : Nat) (k133 : SS → (Int32 × Int64 × Int32) → Option (Int64 × SS)) : SS → (Int32 × Int64 × Int32 × Int32 × Int64 × Int32) → Option (Int64 × SS) := loopN (fun k295 σ x => f_X8_gathers_295 fu k133 k295 σ x.1 x.2.1 x.2.2.1 x.2.2.2.1 x.2.2.2.2.1 x.2.2.2.2.2) fu
def f_X8_gathers_277 (fu : Nat) (k133 : SS → (Int32 × Int64 × Int32) → Option (Int64 × SS)) (k224 : SS → (Int32 × Int64 × Int32 × Int32 × Int64 × Int32) → Option (Int64 × SS)) (σ : SS) (x1 : Int32) (x3 : Int64) (x5 : Int32) (x7 : Int32) (x10 : Int32) (y0 : Int64) : Option (Int64 × SS) :=
  if inB x10 12 then k224 σ (x1, x3, x5, x7, y0, (σ.2.1 27 (x10).toNatClampNeg)) else none
def f_X8_gathers_224 (fu : Nat) (k133 : SS → (Int32 × Int64 × Int32) → Option (Int64 × SS)) (k224 : SS → (Int32 × Int64 × Int32 × Int32 × Int64 × Int32) → Option (Int64 × SS)) (σ : SS) (x1 : Int32) (x3 : Int64) (x5 : Int32) (x7 : Int32) (x8 : Int64) (x10 : Int32) : Option (Int64 × SS) :=
  (if x10 = x1 then f_X8_gathers_L295 fu k133 σ (x1, x3, x5, x7, x8, x7) else if inB x10 12 then if inB (((12 : Int32) * x10) + (σ.2.1 27 (x10).toNatClampNeg)) 144 then (if 0 ≤ (lg_cmp (σ.2.2 25 ((((12 : Int32) * x10) + (σ.2.1 27 (x10).toNatClampNeg))).toNatClampNeg) x8) then f_X8_gathers_277 fu k133 k224 σ x1 x3 x5 x7 x10 x8 else f_X8_gathers_277 fu k133 k224 σ x1 x3 x5 x7 x10 (σ.2.2 25 ((((12 : Int32) * x10) + (σ.2.1 27 (x10).toNatClampNeg))).toNatClampNeg)) else none else none)
def f_X8_gathers_L224 (fu : Nat) (k133 : SS → (Int32 × Int64 × Int32) → Option (Int64 × SS)) : SS → (Int32 × Int64 × Int32 × Int32 × Int64 × Int32) → Option (Int64 × SS) := loopN (fun k224 σ x => f_X8_gathers_224 fu k133 k224 σ x.1 x.2.1 x.2.2.1 x.2.2.2.1 x.2.2.2.2.1 x.2.2.2.2.2) fu
def f_X8_gathers_192 (fu : Nat) (k133 : SS → (Int32 × Int64 × Int32) → Option (Int64 × SS)) (σ : SS) (x1 : Int32) (x3 : Int64) (x6 : Int32) (y0 : Int32) : Option (Int64 × SS) :=
  (if y0 = 0 then k133 σ (x1, x3, y0) else if inB x6 12 then if inB (σ.2.1 29 (x6).toNatClampNeg) 12 then f_X8_gathers_L224 fu k133 σ (x1, x3, y0, (σ.2.1 29 (x6).toNatClampNeg), (σ.2.2 26 ((σ.2.1 29 (x6).toNatClampNeg)).toNatClampNeg), (σ.2.1 29 (x6).toNatClampNeg)) else none else none)
def f_X8_gathers_178 (fu : Nat) (k133 : SS → (Int32 × Int64 × Int32) → Option (Int64 × SS)) (σ : SS) (x1 : Int32) (x3 : Int64) (x6 : Int32) : Option (Int64 × SS) :=
  (if (σ.1 30) ≤ x6 then f_X8_gathers_192 fu k133 σ x1 x3 x6 (0 : Int32) else f_X8_gathers_192 fu k133 σ x1 x3 x6 (1 : Int32))
def f_X8_gathers_146 (fu : Nat) (k133 : SS → (Int32 × Int64 × Int32) → Option (Int64 × SS)) (k146 : SS → (Int32 × Int64 × Int32) → Option (Int64 × SS)) (σ : SS) (x1 : Int32) (x3 : Int64) (x6 : Int32) : Option (Int64 × SS) :=
  (if (σ.1 30) ≤ x6 then f_X8_gathers_178 fu k133 σ x1 x3 x6 else if inB x6 12 then if inB (σ.2.1 29 (x6).toNatClampNeg) 12 then (if (lg_cmp (σ.2.2 26 ((σ.2.1 29 (x6).toNatClampNeg)).toNatClampNeg) (0 : Int64)) = 0 then k146 σ (x1, x3, (x6 + 1)) else f_X8_gathers_178 fu k133 σ x1 x3 x6) else none else none)
def f_X8_gathers_L146 (fu : Nat) (k133 : SS → (Int32 × Int64 × Int32) → Option (Int64 × SS)) : SS → (Int32 × Int64 × Int32) → Option (Int64 × SS) := loopN (fun k146 σ x => f_X8_gathers_146 fu k133 k146 σ x.1 x.2.1 x.2.2) fu
def f_X8_gathers_133 (fu : Nat) (k133 : SS → (Int32 × Int64 × Int32) → Option (Int64 × SS)) (σ : SS) (x1 : Int32) (x3 : Int64) (x5 : Int32) : Option (Int64 × SS) :=
  (if x5 = 0 then some (x3, σ) else bnd (f_X8_ways fu σ x1) (fun r2 t4 => f_X8_gathers_L146 fu k133 t4 (x1, x3, (0 : Int32))))
def f_X8_gathers_L133 (fu : Nat) : SS → (Int32 × Int64 × Int32) → Option (Int64 × SS) := loopN (fun k133 σ x => f_X8_gathers_133 fu k133 σ x.1 x.2.1 x.2.2) fu
def f_X8_gathers_110 (fu : Nat) (k53 : SS → (Int32 × Int32 × Int32) → Option (Int64 × SS)) (σ : SS) (x1 : Int32) (x2 : Int32) (x3 : Int32) : Option (Int64 × SS) :=
  k53 σ (x1, x2, (x3 + 1))
def f_X8_gathers_80 (fu : Nat) (k53 : SS → (Int32 × Int32 × Int32) → Option (Int64 × SS)) (σ : SS) (x1 : Int32) (x2 : Int32) (x3 : Int32) : Option (Int64 × SS) :=
  if inB x3 400 then if inB (((12 : Int32) * (σ.2.1 15 (x3).toNatClampNeg)) + (σ.2.1 16 (x3).toNatClampNeg)) 144 then f_X8_gathers_110 fu k53 (sL σ 25 ((((12 : Int32) * (σ.2.1 15 (x3).toNatClampNeg)) + (σ.2.1 16 (x3).toNatClampNeg))).toNatClampNeg ((σ.2.2 25 ((((12 : Int32) * (σ.2.1 15 (x3).toNatClampNeg)) + (σ.2.1 16 (x3).toNatClampNeg))).toNatClampNeg) + (σ.2.2 17 (x3).toNatClampNeg))) x1 x2 x3 else none else none
def f_X8_gathers_53 (fu : Nat) (k53 : SS → (Int32 × Int32 × Int32) → Option (Int64 × SS)) (σ : SS) (x1 : Int32) (x2 : Int32) (x3 : Int32) : Option (Int64 × SS) :=
  (if (σ.1 20) ≤ x3 then if inB x1 12 then f_X8_gathers_L133 fu (sL σ 26 (x1).toNatClampNeg (0 : Int64)) (x1, (σ.2.2 26 (x1).toNatClampNeg), (1 : Int32)) else none else if inB x3 400 then (if (σ.2.1 18 (x3).toNatClampNeg) = 0 then (if x2 < (σ.2.1 19 (x3).toNatClampNeg) then f_X8_gathers_110 fu k53 σ x1 x2 x3 else f_X8_gathers_80 fu k53 σ x1 x2 x3) else f_X8_gathers_80 fu k53 σ x1 x2 x3) else none)
def f_X8_gathers_L53 (fu : Nat) : SS → (Int32 × Int32 × Int32) → Option (Int64 × SS) := loopN (fun k53 σ x => f_X8_gathers_53 fu k53 σ x.1 x.2.1 x.2.2) fu
def f_X8_gathers_24 (fu : Nat) (k24 : SS → (Int32 × Int32 × Int32) → Option (Int64 × SS)) (σ : SS) (x1 : Int32) (x2 : Int32) (x3 : Int32) : Option (Int64 × SS) :=
  (if (σ.1 4) ≤ x3 then f_X8_gathers_L53 fu σ (x1, x2, (0 : Int32)) else if inB x3 12 then k24 (sL σ 26 (x3).toNatClampNeg ((σ.2.1 1 (x3).toNatClampNeg)).toInt64) (x1, x2, (x3 + 1)) else none)
def f_X8_gathers_L24 (fu : Nat) : SS → (Int32 × Int32 × Int32) → Option (Int64 × SS) := loopN (fun k24 σ x => f_X8_gathers_24 fu k24 σ x.1 x.2.1 x.2.2) fu
def f_X8_gathers_2 (fu : Nat) (k2 : SS → (Int32 × Int32 × Int32) → Option (Int64 × SS)) (σ : SS) (x1 : Int32) (x2 : Int32) (x3 : Int32) : Option (Int64 × SS) :=
  (if (144 : Int32) ≤ x3 then f_X8_gathers_L24 fu σ (x1, x2, (0 : Int32)) else if inB x3 144 then k2 (sL σ 25 (x3).toNatClampNeg (0 : Int64)) (x1, x2, (x3 + 1)) else none)
def f_X8_gathers_L2 (fu : Nat) : SS → (Int32 × Int32 × Int32) → Option (Int64 × SS) := loopN (fun k2 σ x => f_X8_gathers_2 fu k2 σ x.1 x.2.1 x.2.2) fu
def f_X8_gathers (fu : Nat) (σ : SS) (x1 : Int32) (x2 : Int32) : Option (Int64 × SS) :=
  f_X8_gathers_L2 fu σ (x1, x2, (0 : Int32))
section
variable {p : Program} {l : Launch} {e : Env} {s : State} {m : MethodId} {args : Array Value} {below : List Frame} {meth : Method} {c : Code} {g : Gm} {A : Nat → Prop} {fu : Nat} {R : Int64 × SS}
set_option maxHeartbeats 4000000 in
set_option maxRecDepth 100000 in
theorem w_X8_gathers_295 {σ : SS} {x1 : Int32} {x3 : Int64} {x5 : Int32} {x7 : Int32} {x8 : Int64} {x10 : Int32} (C : Cx p l s m args meth c cX8_gathers 11 wsX8_gathers (some .long) RX8 g A) {k133 : SS → (Int32 × Int64 × Int32) → Option (Int64 × SS)} (hk133 : ∀ (σ : SS) (x : Int32 × Int64 × Int32), k133 σ x = some R → ∀ (H : Heap) (locs : List Loc) (ls : Array Slot), Aw g A s.heap (wM g σ) H locs → lv_has ls 11 [(0, .ref (g.2.1 0)), (1, .int x.1), (3, .long x.2.1), (5, .int x.2.2)] → W p l e rmX8_gathers s m args below meth c H locs 0 0 (MQ below (Ql g A (wM g R.2) R.1) args s 0 0 A) (F0 m 133 ls [])) {k295 : SS → (Int32 × Int64 × Int32 × Int32 × Int64 × Int32) → Option (Int64 × SS)} (hk295 : ∀ (σ : SS) (x : Int32 × Int64 × Int32 × Int32 × Int64 × Int32), k295 σ x = some R → ∀ (H : Heap) (locs : List Loc) (ls : Array Slot), Aw g A s.heap (wM g σ) H locs → lv_has ls 11 [(0, .ref (g.2.1 0)), (1, .int x.1), (3, .long x.2.1), (5, .int x.2.2.1), (7, .int x.2.2.2.1), (8, .long x.2.2.2.2.1), (10, .int x.2.2.2.2.2)] → W p l e rmX8_gathers s m args below meth c H locs 0 0 (MQ below (Ql g A (wM g R.2) R.1) args s 0 0 A) (F0 m 295 ls [])) (h : f_X8_gathers_295 fu k133 k295 σ x1 x3 x5 x7 x8 x10 = some R) {H : Heap} {locs : List Loc} {ls : Array Slot} (hA : Aw g A s.heap (wM g σ) H locs) (hl : lv_has ls 11 [(0, .ref (g.2.1 0)), (1, .int x1), (3, .long x3), (5, .int x5), (7, .int x7), (8, .long x8), (10, .int x10)]) : W p l e rmX8_gathers s m args below meth c H locs 0 0 (MQ below (Ql g A (wM g R.2) R.1) args s 0 0 A) (F0 m 295 ls []) := by
  have hx := C.1.1
  have hb := C.1.2.1
  unfold f_X8_gathers_295 at h
  refine lv_iload hx hb dX8_gathers_295 (lv_at hl 6 rfl) ?_
  refine lv_iload_n hx hb dX8_gathers_297 rfl (lv_at hl 1 rfl) ?_
  refine lv_icmp_eq (tgt := 359) hx hb dX8_gathers_298 (by decide) (fun c1 => ?_) (fun c1 => ?_)
  · replace h := (if_pos c1).symm.trans h
    refine lv_aload_n hx hb dX8_gathers_359 rfl (lv_at hl 0 rfl) ?_
    refine Mg_X8_has C hA iX8_gathers_X8 (by decide +kernel) dX8_gathers_360 ?_
    refine lv_iload hx hb dX8_gathers_363 (lv_at hl 4 rfl) ?_
    refine lv_dup2_11 hx hb dX8_gathers_365 rfl rfl ?_
    obtain ⟨g2, h⟩ := gd h
    refine Mld_26 (v := (σ.2.2 26 (x7).toNatClampNeg)) C hA rfl g2 dX8_gathers_366 ?_
    refine lv_lload hx hb dX8_gathers_367 (lv_at hl 5 rfl) ?_
    refine lv_lsub hx hb dX8_gathers_369 ?_
    refine Mst_26 C hA g2 dX8_gathers_370 (fun H locs hA => ?_)
    refine lv_lload_n hx hb dX8_gathers_371 rfl (lv_at hl 2 rfl) ?_
    refine lv_lload hx hb dX8_gathers_372 (lv_at hl 5 rfl) ?_
    refine lv_ladd hx hb dX8_gathers_374 ?_
    refine lv_lstore_n (lv' := [(3, .long (x3 + x8)), (0, .ref (g.2.1 0)), (1, .int x1), (5, .int x5), (7, .int x7), (8, .long x8), (10, .int x10)]) hx hb dX8_gathers_375 rfl hl (by decide) rfl (fun ls hl => ?_)
    refine lv_goto (tgt := 133) hx hb dX8_gathers_376 (by decide) ?_
    exact hk133 _ _ h _ _ _ hA (lv_sub hl [1, 2, 0, 3] rfl)
  · replace h := (if_neg c1).symm.trans h
    refine lv_aload_n hx hb dX8_gathers_301 rfl (lv_at hl 0 rfl) ?_
    refine Mg_X8_can C hA iX8_gathers_X8 (by decide +kernel) dX8_gathers_302 ?_
    refine lv_bipush (v := 12) hx hb dX8_gathers_305 (by decide) ?_
    refine lv_iload hx hb dX8_gathers_307 (lv_at hl 6 rfl) ?_
    refine lv_imul hx hb dX8_gathers_309 ?_
    refine lv_aload_n hx hb dX8_gathers_310 rfl (lv_at hl 0 rfl) ?_
    refine Mg_X8_to C hA iX8_gathers_X8 (by decide +kernel) dX8_gathers_311 ?_
    refine lv_iload hx hb dX8_gathers_314 (lv_at hl 6 rfl) ?_
    obtain ⟨g3, h⟩ := gd h
    refine Mld_27 (v := (σ.2.1 27 (x10).toNatClampNeg)) C hA rfl g3 dX8_gathers_316 ?_
    refine lv_iadd hx hb dX8_gathers_317 ?_
    refine lv_dup2_11 hx hb dX8_gathers_318 rfl rfl ?_
    obtain ⟨g4, h⟩ := gd h
    refine Mld_25 (v := (σ.2.2 25 ((((12 : Int32) * x10) + (σ.2.1 27 (x10).toNatClampNeg))).toNatClampNeg)) C hA rfl g4 dX8_gathers_319 ?_
    refine lv_lload hx hb dX8_gathers_320 (lv_at hl 5 rfl) ?_
    refine lv_lsub hx hb dX8_gathers_322 ?_
    refine Mst_25 C hA g4 dX8_gathers_323 (fun H locs hA => ?_)
    refine lv_aload_n hx hb dX8_gathers_324 rfl (lv_at hl 0 rfl) ?_
    refine Mg_X8_can C hA iX8_gathers_X8 (by decide +kernel) dX8_gathers_325 ?_
    refine lv_bipush (v := 12) hx hb dX8_gathers_328 (by decide) ?_
    refine lv_aload_n hx hb dX8_gathers_330 rfl (lv_at hl 0 rfl) ?_
    refine Mg_X8_to C hA iX8_gathers_X8 (by decide +kernel) dX8_gathers_331 ?_
    refine lv_iload hx hb dX8_gathers_334 (lv_at hl 6 rfl) ?_
    refine Mld_27 (v := (σ.2.1 27 (x10).toNatClampNeg)) C hA rfl g3 dX8_gathers_336 ?_
    refine lv_imul hx hb dX8_gathers_337 ?_
    refine lv_iload hx hb dX8_gathers_338 (lv_at hl 6 rfl) ?_
    refine lv_iadd hx hb dX8_gathers_340 ?_
    refine lv_dup2_11 hx hb dX8_gathers_341 rfl rfl ?_
    obtain ⟨g5, h⟩ := gd h
    refine Mld_25 (v := ((sL σ 25 ((((12 : Int32) * x10) + (σ.2.1 27 (x10).toNatClampNeg))).toNatClampNeg ((σ.2.2 25 ((((12 : Int32) * x10) + (σ.2.1 27 (x10).toNatClampNeg))).toNatClampNeg) - x8)).2.2 25 ((((12 : Int32) * (σ.2.1 27 (x10).toNatClampNeg)) + x10)).toNatClampNeg)) C hA rfl g5 dX8_gathers_342 ?_
    refine lv_lload hx hb dX8_gathers_343 (lv_at hl 5 rfl) ?_
    refine lv_ladd hx hb dX8_gathers_345 ?_
    refine Mst_25 C hA g5 dX8_gathers_346 (fun H locs hA => ?_)
    refine lv_aload_n hx hb dX8_gathers_347 rfl (lv_at hl 0 rfl) ?_
    refine Mg_X8_to C hA iX8_gathers_X8 (by decide +kernel) dX8_gathers_348 ?_
    refine lv_iload hx hb dX8_gathers_351 (lv_at hl 6 rfl) ?_
    refine Mld_27 (v := (σ.2.1 27 (x10).toNatClampNeg)) C hA rfl g3 dX8_gathers_353 ?_
    refine lv_istore (lv' := [(10, .int (σ.2.1 27 (x10).toNatClampNeg)), (0, .ref (g.2.1 0)), (1, .int x1), (3, .long x3), (5, .int x5), (7, .int x7), (8, .long x8)]) hx hb dX8_gathers_354 hl (by decide) rfl (fun ls hl => ?_)
    refine lv_goto (tgt := 295) hx hb dX8_gathers_356 (by decide) ?_
    exact hk295 _ _ h _ _ _ hA (lv_sub hl [1, 2, 3, 4, 5, 6, 0] rfl)
set_option maxHeartbeats 4000000 in
theorem w_X8_gathers_L295 {σ : SS} {x : Int32 × Int64 × Int32 × Int32 × Int64 × Int32} (C : Cx p l s m args meth c cX8_gathers 11 wsX8_gathers (some .long) RX8 g A) {k133 : SS → (Int32 × Int64 × Int32) → Option (Int64 × SS)} (hk133 : ∀ (σ : SS) (x : Int32 × Int64 × Int32), k133 σ x = some R → ∀ (H : Heap) (locs : List Loc) (ls : Array Slot), Aw g A s.heap (wM g σ) H locs → lv_has ls 11 [(0, .ref (g.2.1 0)), (1, .int x.1), (3, .long x.2.1), (5, .int x.2.2)] → W p l e rmX8_gathers s m args below meth c H locs 0 0 (MQ below (Ql g A (wM g R.2) R.1) args s 0 0 A) (F0 m 133 ls [])) (h : f_X8_gathers_L295 fu k133 σ x = some R) {H : Heap} {locs : List Loc} {ls : Array Slot} (hA : Aw g A s.heap (wM g σ) H locs) (hl : lv_has ls 11 [(0, .ref (g.2.1 0)), (1, .int x.1), (3, .long x.2.1), (5, .int x.2.2.1), (7, .int x.2.2.2.1), (8, .long x.2.2.2.2.1), (10, .int x.2.2.2.2.2)]) : W p l e rmX8_gathers s m args below meth c H locs 0 0 (MQ below (Ql g A (wM g R.2) R.1) args s 0 0 A) (F0 m 295 ls []) := by
  refine loopW (P := fun σ x => ∀ (H : Heap) (locs : List Loc) (ls : Array Slot), Aw g A s.heap (wM g σ) H locs → lv_has ls 11 [(0, .ref (g.2.1 0)), (1, .int x.1), (3, .long x.2.1), (5, .int x.2.2.1), (7, .int x.2.2.2.1), (8, .long x.2.2.2.2.1), (10, .int x.2.2.2.2.2)] → W p l e rmX8_gathers s m args below meth c H locs 0 0 (MQ below (Ql g A (wM g R.2) R.1) args s 0 0 A) (F0 m 295 ls [])) (fun k hk σ x h9 H locs ls hA9 hl9 => ?_) fu σ x h H locs ls hA hl
  exact w_X8_gathers_295 C hk133 hk h9 hA9 hl9
set_option maxHeartbeats 4000000 in
set_option maxRecDepth 100000 in
theorem w_X8_gathers_277 {σ : SS} {x1 : Int32} {x3 : Int64} {x5 : Int32} {x7 : Int32} {x10 : Int32} {y0 : Int64} (C : Cx p l s m args meth c cX8_gathers 11 wsX8_gathers (some .long) RX8 g A) {k133 : SS → (Int32 × Int64 × Int32) → Option (Int64 × SS)} (hk133 : ∀ (σ : SS) (x : Int32 × Int64 × Int32), k133 σ x = some R → ∀ (H : Heap) (locs : List Loc) (ls : Array Slot), Aw g A s.heap (wM g σ) H locs → lv_has ls 11 [(0, .ref (g.2.1 0)), (1, .int x.1), (3, .long x.2.1), (5, .int x.2.2)] → W p l e rmX8_gathers s m args below meth c H locs 0 0 (MQ below (Ql g A (wM g R.2) R.1) args s 0 0 A) (F0 m 133 ls [])) {k224 : SS → (Int32 × Int64 × Int32 × Int32 × Int64 × Int32) → Option (Int64 × SS)} (hk224 : ∀ (σ : SS) (x : Int32 × Int64 × Int32 × Int32 × Int64 × Int32), k224 σ x = some R → ∀ (H : Heap) (locs : List Loc) (ls : Array Slot), Aw g A s.heap (wM g σ) H locs → lv_has ls 11 [(0, .ref (g.2.1 0)), (1, .int x.1), (3, .long x.2.1), (5, .int x.2.2.1), (7, .int x.2.2.2.1), (8, .long x.2.2.2.2.1), (10, .int x.2.2.2.2.2)] → W p l e rmX8_gathers s m args below meth c H locs 0 0 (MQ below (Ql g A (wM g R.2) R.1) args s 0 0 A) (F0 m 224 ls [])) (h : f_X8_gathers_277 fu k133 k224 σ x1 x3 x5 x7 x10 y0 = some R) {H : Heap} {locs : List Loc} {ls : Array Slot} (hA : Aw g A s.heap (wM g σ) H locs) (hl : lv_has ls 11 [(0, .ref (g.2.1 0)), (1, .int x1), (3, .long x3), (5, .int x5), (7, .int x7), (10, .int x10)]) : W p l e rmX8_gathers s m args below meth c H locs 0 0 (MQ below (Ql g A (wM g R.2) R.1) args s 0 0 A) (F0 m 277 ls [.long y0]) := by
  have hx := C.1.1
  have hb := C.1.2.1
  unfold f_X8_gathers_277 at h
  refine lv_lstore (lv' := [(8, .long y0), (0, .ref (g.2.1 0)), (1, .int x1), (3, .long x3), (5, .int x5), (7, .int x7), (10, .int x10)]) hx hb dX8_gathers_277 hl (by decide) rfl (fun ls hl => ?_)
  refine lv_aload_n hx hb dX8_gathers_279 rfl (lv_at hl 1 rfl) ?_
  refine Mg_X8_to C hA iX8_gathers_X8 (by decide +kernel) dX8_gathers_280 ?_
  refine lv_iload hx hb dX8_gathers_283 (lv_at hl 6 rfl) ?_
  obtain ⟨g1, h⟩ := gd h
  refine Mld_27 (v := (σ.2.1 27 (x10).toNatClampNeg)) C hA rfl g1 dX8_gathers_285 ?_
  refine lv_istore (lv' := [(10, .int (σ.2.1 27 (x10).toNatClampNeg)), (8, .long y0), (0, .ref (g.2.1 0)), (1, .int x1), (3, .long x3), (5, .int x5), (7, .int x7)]) hx hb dX8_gathers_286 hl (by decide) rfl (fun ls hl => ?_)
  refine lv_goto (tgt := 224) hx hb dX8_gathers_288 (by decide) ?_
  exact hk224 _ _ h _ _ _ hA (lv_sub hl [2, 3, 4, 5, 6, 1, 0] rfl)
set_option maxHeartbeats 4000000 in
set_option maxRecDepth 100000 in
theorem w_X8_gathers_224 {σ : SS} {x1 : Int32} {x3 : Int64} {x5 : Int32} {x7 : Int32} {x8 : Int64} {x10 : Int32} (C : Cx p l s m args meth c cX8_gathers 11 wsX8_gathers (some .long) RX8 g A) {k133 : SS → (Int32 × Int64 × Int32) → Option (Int64 × SS)} (hk133 : ∀ (σ : SS) (x : Int32 × Int64 × Int32), k133 σ x = some R → ∀ (H : Heap) (locs : List Loc) (ls : Array Slot), Aw g A s.heap (wM g σ) H locs → lv_has ls 11 [(0, .ref (g.2.1 0)), (1, .int x.1), (3, .long x.2.1), (5, .int x.2.2)] → W p l e rmX8_gathers s m args below meth c H locs 0 0 (MQ below (Ql g A (wM g R.2) R.1) args s 0 0 A) (F0 m 133 ls [])) {k224 : SS → (Int32 × Int64 × Int32 × Int32 × Int64 × Int32) → Option (Int64 × SS)} (hk224 : ∀ (σ : SS) (x : Int32 × Int64 × Int32 × Int32 × Int64 × Int32), k224 σ x = some R → ∀ (H : Heap) (locs : List Loc) (ls : Array Slot), Aw g A s.heap (wM g σ) H locs → lv_has ls 11 [(0, .ref (g.2.1 0)), (1, .int x.1), (3, .long x.2.1), (5, .int x.2.2.1), (7, .int x.2.2.2.1), (8, .long x.2.2.2.2.1), (10, .int x.2.2.2.2.2)] → W p l e rmX8_gathers s m args below meth c H locs 0 0 (MQ below (Ql g A (wM g R.2) R.1) args s 0 0 A) (F0 m 224 ls [])) (h : f_X8_gathers_224 fu k133 k224 σ x1 x3 x5 x7 x8 x10 = some R) {H : Heap} {locs : List Loc} {ls : Array Slot} (hA : Aw g A s.heap (wM g σ) H locs) (hl : lv_has ls 11 [(0, .ref (g.2.1 0)), (1, .int x1), (3, .long x3), (5, .int x5), (7, .int x7), (8, .long x8), (10, .int x10)]) : W p l e rmX8_gathers s m args below meth c H locs 0 0 (MQ below (Ql g A (wM g R.2) R.1) args s 0 0 A) (F0 m 224 ls []) := by
  have hx := C.1.1
  have hb := C.1.2.1
  unfold f_X8_gathers_224 at h
  refine lv_iload hx hb dX8_gathers_224 (lv_at hl 6 rfl) ?_
  refine lv_iload_n hx hb dX8_gathers_226 rfl (lv_at hl 1 rfl) ?_
  refine lv_icmp_eq (tgt := 291) hx hb dX8_gathers_227 (by decide) (fun c1 => ?_) (fun c1 => ?_)
  · replace h := (if_pos c1).symm.trans h
    refine lv_iload hx hb dX8_gathers_291 (lv_at hl 4 rfl) ?_
    refine lv_istore (lv' := [(10, .int x7), (0, .ref (g.2.1 0)), (1, .int x1), (3, .long x3), (5, .int x5), (7, .int x7), (8, .long x8)]) hx hb dX8_gathers_293 hl (by decide) rfl (fun ls hl => ?_)
    exact w_X8_gathers_L295 C hk133 h hA (lv_sub hl [1, 2, 3, 4, 5, 6, 0] rfl)
  · replace h := (if_neg c1).symm.trans h
    refine lv_aload_n hx hb dX8_gathers_230 rfl (lv_at hl 0 rfl) ?_
    refine Mg_X8_can C hA iX8_gathers_X8 (by decide +kernel) dX8_gathers_231 ?_
    refine lv_bipush (v := 12) hx hb dX8_gathers_234 (by decide) ?_
    refine lv_iload hx hb dX8_gathers_236 (lv_at hl 6 rfl) ?_
    refine lv_imul hx hb dX8_gathers_238 ?_
    refine lv_aload_n hx hb dX8_gathers_239 rfl (lv_at hl 0 rfl) ?_
    refine Mg_X8_to C hA iX8_gathers_X8 (by decide +kernel) dX8_gathers_240 ?_
    refine lv_iload hx hb dX8_gathers_243 (lv_at hl 6 rfl) ?_
    obtain ⟨g2, h⟩ := gd h
    refine Mld_27 (v := (σ.2.1 27 (x10).toNatClampNeg)) C hA rfl g2 dX8_gathers_245 ?_
    refine lv_iadd hx hb dX8_gathers_246 ?_
    obtain ⟨g3, h⟩ := gd h
    refine Mld_25 (v := (σ.2.2 25 ((((12 : Int32) * x10) + (σ.2.1 27 (x10).toNatClampNeg))).toNatClampNeg)) C hA rfl g3 dX8_gathers_247 ?_
    refine lv_lload hx hb dX8_gathers_248 (lv_at hl 5 rfl) ?_
    refine W.lcmp hx hb dX8_gathers_250 ?_
    refine lv_if_ge (tgt := 275) hx hb dX8_gathers_251 (by decide) (fun c4 => ?_) (fun c4 => ?_)
    · replace h := (if_pos c4).symm.trans h
      refine lv_lload hx hb dX8_gathers_275 (lv_at hl 5 rfl) ?_
      exact w_X8_gathers_277 C hk133 hk224 h hA (lv_sub hl [0, 1, 2, 3, 4, 6] rfl)
    · replace h := (if_neg c4).symm.trans h
      refine lv_aload_n hx hb dX8_gathers_254 rfl (lv_at hl 0 rfl) ?_
      refine Mg_X8_can C hA iX8_gathers_X8 (by decide +kernel) dX8_gathers_255 ?_
      refine lv_bipush (v := 12) hx hb dX8_gathers_258 (by decide) ?_
      refine lv_iload hx hb dX8_gathers_260 (lv_at hl 6 rfl) ?_
      refine lv_imul hx hb dX8_gathers_262 ?_
      refine lv_aload_n hx hb dX8_gathers_263 rfl (lv_at hl 0 rfl) ?_
      refine Mg_X8_to C hA iX8_gathers_X8 (by decide +kernel) dX8_gathers_264 ?_
      refine lv_iload hx hb dX8_gathers_267 (lv_at hl 6 rfl) ?_
      refine Mld_27 (v := (σ.2.1 27 (x10).toNatClampNeg)) C hA rfl g2 dX8_gathers_269 ?_
      refine lv_iadd hx hb dX8_gathers_270 ?_
      refine Mld_25 (v := (σ.2.2 25 ((((12 : Int32) * x10) + (σ.2.1 27 (x10).toNatClampNeg))).toNatClampNeg)) C hA rfl g3 dX8_gathers_271 ?_
      refine lv_goto (tgt := 277) hx hb dX8_gathers_272 (by decide) ?_
      exact w_X8_gathers_277 C hk133 hk224 h hA (lv_sub hl [0, 1, 2, 3, 4, 6] rfl)
set_option maxHeartbeats 4000000 in
theorem w_X8_gathers_L224 {σ : SS} {x : Int32 × Int64 × Int32 × Int32 × Int64 × Int32} (C : Cx p l s m args meth c cX8_gathers 11 wsX8_gathers (some .long) RX8 g A) {k133 : SS → (Int32 × Int64 × Int32) → Option (Int64 × SS)} (hk133 : ∀ (σ : SS) (x : Int32 × Int64 × Int32), k133 σ x = some R → ∀ (H : Heap) (locs : List Loc) (ls : Array Slot), Aw g A s.heap (wM g σ) H locs → lv_has ls 11 [(0, .ref (g.2.1 0)), (1, .int x.1), (3, .long x.2.1), (5, .int x.2.2)] → W p l e rmX8_gathers s m args below meth c H locs 0 0 (MQ below (Ql g A (wM g R.2) R.1) args s 0 0 A) (F0 m 133 ls [])) (h : f_X8_gathers_L224 fu k133 σ x = some R) {H : Heap} {locs : List Loc} {ls : Array Slot} (hA : Aw g A s.heap (wM g σ) H locs) (hl : lv_has ls 11 [(0, .ref (g.2.1 0)), (1, .int x.1), (3, .long x.2.1), (5, .int x.2.2.1), (7, .int x.2.2.2.1), (8, .long x.2.2.2.2.1), (10, .int x.2.2.2.2.2)]) : W p l e rmX8_gathers s m args below meth c H locs 0 0 (MQ below (Ql g A (wM g R.2) R.1) args s 0 0 A) (F0 m 224 ls []) := by
  refine loopW (P := fun σ x => ∀ (H : Heap) (locs : List Loc) (ls : Array Slot), Aw g A s.heap (wM g σ) H locs → lv_has ls 11 [(0, .ref (g.2.1 0)), (1, .int x.1), (3, .long x.2.1), (5, .int x.2.2.1), (7, .int x.2.2.2.1), (8, .long x.2.2.2.2.1), (10, .int x.2.2.2.2.2)] → W p l e rmX8_gathers s m args below meth c H locs 0 0 (MQ below (Ql g A (wM g R.2) R.1) args s 0 0 A) (F0 m 224 ls [])) (fun k hk σ x h9 H locs ls hA9 hl9 => ?_) fu σ x h H locs ls hA hl
  exact w_X8_gathers_224 C hk133 hk h9 hA9 hl9
set_option maxHeartbeats 4000000 in
set_option maxRecDepth 100000 in
theorem w_X8_gathers_192 {σ : SS} {x1 : Int32} {x3 : Int64} {x6 : Int32} {y0 : Int32} (C : Cx p l s m args meth c cX8_gathers 11 wsX8_gathers (some .long) RX8 g A) {k133 : SS → (Int32 × Int64 × Int32) → Option (Int64 × SS)} (hk133 : ∀ (σ : SS) (x : Int32 × Int64 × Int32), k133 σ x = some R → ∀ (H : Heap) (locs : List Loc) (ls : Array Slot), Aw g A s.heap (wM g σ) H locs → lv_has ls 11 [(0, .ref (g.2.1 0)), (1, .int x.1), (3, .long x.2.1), (5, .int x.2.2)] → W p l e rmX8_gathers s m args below meth c H locs 0 0 (MQ below (Ql g A (wM g R.2) R.1) args s 0 0 A) (F0 m 133 ls [])) (h : f_X8_gathers_192 fu k133 σ x1 x3 x6 y0 = some R) {H : Heap} {locs : List Loc} {ls : Array Slot} (hA : Aw g A s.heap (wM g σ) H locs) (hl : lv_has ls 11 [(0, .ref (g.2.1 0)), (1, .int x1), (3, .long x3), (6, .int x6)]) : W p l e rmX8_gathers s m args below meth c H locs 0 0 (MQ below (Ql g A (wM g R.2) R.1) args s 0 0 A) (F0 m 192 ls [.int y0]) := by
  have hx := C.1.1
  have hb := C.1.2.1
  unfold f_X8_gathers_192 at h
  refine lv_istore (lv' := [(5, .int y0), (0, .ref (g.2.1 0)), (1, .int x1), (3, .long x3), (6, .int x6)]) hx hb dX8_gathers_192 hl (by decide) rfl (fun ls hl => ?_)
  refine lv_iload hx hb dX8_gathers_194 (lv_at hl 0 rfl) ?_
  refine lv_if_ne (tgt := 202) hx hb dX8_gathers_196 (by decide) (fun c1 => ?_) (fun c1 => ?_)
  · replace h := (if_neg c1).symm.trans h
    refine lv_aload_n hx hb dX8_gathers_202 rfl (lv_at hl 1 rfl) ?_
    refine Mg_X8_row C hA iX8_gathers_X8 (by decide +kernel) dX8_gathers_203 ?_
    refine lv_iload hx hb dX8_gathers_206 (lv_at hl 4 rfl) ?_
    obtain ⟨g2, h⟩ := gd h
    refine Mld_29 (v := (σ.2.1 29 (x6).toNatClampNeg)) C hA rfl g2 dX8_gathers_208 ?_
    refine lv_istore (lv' := [(7, .int (σ.2.1 29 (x6).toNatClampNeg)), (5, .int y0), (0, .ref (g.2.1 0)), (1, .int x1), (3, .long x3), (6, .int x6)]) hx hb dX8_gathers_209 hl (by decide) rfl (fun ls hl => ?_)
    refine lv_aload_n hx hb dX8_gathers_211 rfl (lv_at hl 2 rfl) ?_
    refine Mg_X8_has C hA iX8_gathers_X8 (by decide +kernel) dX8_gathers_212 ?_
    refine lv_iload hx hb dX8_gathers_215 (lv_at hl 0 rfl) ?_
    obtain ⟨g3, h⟩ := gd h
    refine Mld_26 (v := (σ.2.2 26 ((σ.2.1 29 (x6).toNatClampNeg)).toNatClampNeg)) C hA rfl g3 dX8_gathers_217 ?_
    refine lv_lstore (lv' := [(8, .long (σ.2.2 26 ((σ.2.1 29 (x6).toNatClampNeg)).toNatClampNeg)), (7, .int (σ.2.1 29 (x6).toNatClampNeg)), (5, .int y0), (0, .ref (g.2.1 0)), (1, .int x1), (3, .long x3), (6, .int x6)]) hx hb dX8_gathers_218 hl (by decide) rfl (fun ls hl => ?_)
    refine lv_iload hx hb dX8_gathers_220 (lv_at hl 1 rfl) ?_
    refine lv_istore (lv' := [(10, .int (σ.2.1 29 (x6).toNatClampNeg)), (8, .long (σ.2.2 26 ((σ.2.1 29 (x6).toNatClampNeg)).toNatClampNeg)), (7, .int (σ.2.1 29 (x6).toNatClampNeg)), (5, .int y0), (0, .ref (g.2.1 0)), (1, .int x1), (3, .long x3), (6, .int x6)]) hx hb dX8_gathers_222 hl (by decide) rfl (fun ls hl => ?_)
    exact w_X8_gathers_L224 C hk133 h hA (lv_sub hl [4, 5, 6, 3, 2, 1, 0] rfl)
  · replace h := (if_pos c1).symm.trans h
    refine lv_goto (tgt := 133) hx hb dX8_gathers_199 (by decide) ?_
    exact hk133 _ _ h _ _ _ hA (lv_sub hl [1, 2, 3, 0] rfl)
set_option maxHeartbeats 4000000 in
set_option maxRecDepth 100000 in
theorem w_X8_gathers_178 {σ : SS} {x1 : Int32} {x3 : Int64} {x6 : Int32} (C : Cx p l s m args meth c cX8_gathers 11 wsX8_gathers (some .long) RX8 g A) {k133 : SS → (Int32 × Int64 × Int32) → Option (Int64 × SS)} (hk133 : ∀ (σ : SS) (x : Int32 × Int64 × Int32), k133 σ x = some R → ∀ (H : Heap) (locs : List Loc) (ls : Array Slot), Aw g A s.heap (wM g σ) H locs → lv_has ls 11 [(0, .ref (g.2.1 0)), (1, .int x.1), (3, .long x.2.1), (5, .int x.2.2)] → W p l e rmX8_gathers s m args below meth c H locs 0 0 (MQ below (Ql g A (wM g R.2) R.1) args s 0 0 A) (F0 m 133 ls [])) (h : f_X8_gathers_178 fu k133 σ x1 x3 x6 = some R) {H : Heap} {locs : List Loc} {ls : Array Slot} (hA : Aw g A s.heap (wM g σ) H locs) (hl : lv_has ls 11 [(0, .ref (g.2.1 0)), (1, .int x1), (3, .long x3), (6, .int x6)]) : W p l e rmX8_gathers s m args below meth c H locs 0 0 (MQ below (Ql g A (wM g R.2) R.1) args s 0 0 A) (F0 m 178 ls []) := by
  have hx := C.1.1
  have hb := C.1.2.1
  unfold f_X8_gathers_178 at h
  refine lv_iload hx hb dX8_gathers_178 (lv_at hl 3 rfl) ?_
  refine lv_aload_n hx hb dX8_gathers_180 rfl (lv_at hl 0 rfl) ?_
  refine Mg_X8_seen (v := (σ.1 30)) C hA rfl iX8_gathers_X8 (by decide +kernel) dX8_gathers_181 ?_
  refine lv_icmp_ge (tgt := 191) hx hb dX8_gathers_184 (by decide) (fun c1 => ?_) (fun c1 => ?_)
  · replace h := (if_pos c1).symm.trans h
    refine lv_iconst (v := 0) hx hb dX8_gathers_191 (by decide) ?_
    exact w_X8_gathers_192 C hk133 h hA (lv_sub hl [0, 1, 2, 3] rfl)
  · replace h := (if_neg c1).symm.trans h
    refine lv_iconst (v := 1) hx hb dX8_gathers_187 (by decide) ?_
    refine lv_goto (tgt := 192) hx hb dX8_gathers_188 (by decide) ?_
    exact w_X8_gathers_192 C hk133 h hA (lv_sub hl [0, 1, 2, 3] rfl)
set_option maxHeartbeats 4000000 in
set_option maxRecDepth 100000 in
theorem w_X8_gathers_146 {σ : SS} {x1 : Int32} {x3 : Int64} {x6 : Int32} (C : Cx p l s m args meth c cX8_gathers 11 wsX8_gathers (some .long) RX8 g A) {k133 : SS → (Int32 × Int64 × Int32) → Option (Int64 × SS)} (hk133 : ∀ (σ : SS) (x : Int32 × Int64 × Int32), k133 σ x = some R → ∀ (H : Heap) (locs : List Loc) (ls : Array Slot), Aw g A s.heap (wM g σ) H locs → lv_has ls 11 [(0, .ref (g.2.1 0)), (1, .int x.1), (3, .long x.2.1), (5, .int x.2.2)] → W p l e rmX8_gathers s m args below meth c H locs 0 0 (MQ below (Ql g A (wM g R.2) R.1) args s 0 0 A) (F0 m 133 ls [])) {k146 : SS → (Int32 × Int64 × Int32) → Option (Int64 × SS)} (hk146 : ∀ (σ : SS) (x : Int32 × Int64 × Int32), k146 σ x = some R → ∀ (H : Heap) (locs : List Loc) (ls : Array Slot), Aw g A s.heap (wM g σ) H locs → lv_has ls 11 [(0, .ref (g.2.1 0)), (1, .int x.1), (3, .long x.2.1), (6, .int x.2.2)] → W p l e rmX8_gathers s m args below meth c H locs 0 0 (MQ below (Ql g A (wM g R.2) R.1) args s 0 0 A) (F0 m 146 ls [])) (h : f_X8_gathers_146 fu k133 k146 σ x1 x3 x6 = some R) {H : Heap} {locs : List Loc} {ls : Array Slot} (hA : Aw g A s.heap (wM g σ) H locs) (hl : lv_has ls 11 [(0, .ref (g.2.1 0)), (1, .int x1), (3, .long x3), (6, .int x6)]) : W p l e rmX8_gathers s m args below meth c H locs 0 0 (MQ below (Ql g A (wM g R.2) R.1) args s 0 0 A) (F0 m 146 ls []) := by
  have hx := C.1.1
  have hb := C.1.2.1
  unfold f_X8_gathers_146 at h
  refine lv_iload hx hb dX8_gathers_146 (lv_at hl 3 rfl) ?_
  refine lv_aload_n hx hb dX8_gathers_148 rfl (lv_at hl 0 rfl) ?_
  refine Mg_X8_seen (v := (σ.1 30)) C hA rfl iX8_gathers_X8 (by decide +kernel) dX8_gathers_149 ?_
  refine lv_icmp_ge (tgt := 178) hx hb dX8_gathers_152 (by decide) (fun c1 => ?_) (fun c1 => ?_)
  · replace h := (if_pos c1).symm.trans h
    exact w_X8_gathers_178 C hk133 h hA (lv_sub hl [0, 1, 2, 3] rfl)
  · replace h := (if_neg c1).symm.trans h
    refine lv_aload_n hx hb dX8_gathers_155 rfl (lv_at hl 0 rfl) ?_
    refine Mg_X8_has C hA iX8_gathers_X8 (by decide +kernel) dX8_gathers_156 ?_
    refine lv_aload_n hx hb dX8_gathers_159 rfl (lv_at hl 0 rfl) ?_
    refine Mg_X8_row C hA iX8_gathers_X8 (by decide +kernel) dX8_gathers_160 ?_
    refine lv_iload hx hb dX8_gathers_163 (lv_at hl 3 rfl) ?_
    obtain ⟨g2, h⟩ := gd h
    refine Mld_29 (v := (σ.2.1 29 (x6).toNatClampNeg)) C hA rfl g2 dX8_gathers_165 ?_
    obtain ⟨g3, h⟩ := gd h
    refine Mld_26 (v := (σ.2.2 26 ((σ.2.1 29 (x6).toNatClampNeg)).toNatClampNeg)) C hA rfl g3 dX8_gathers_166 ?_
    refine lv_lconst (v := 0) hx hb dX8_gathers_167 (by decide) ?_
    refine W.lcmp hx hb dX8_gathers_168 ?_
    refine lv_if_ne (tgt := 178) hx hb dX8_gathers_169 (by decide) (fun c4 => ?_) (fun c4 => ?_)
    · replace h := (if_neg c4).symm.trans h
      exact w_X8_gathers_178 C hk133 h hA (lv_sub hl [0, 1, 2, 3] rfl)
    · replace h := (if_pos c4).symm.trans h
      refine lv_iinc (v := (x6 + 1)) (lv' := [(6, .int (x6 + 1)), (0, .ref (g.2.1 0)), (1, .int x1), (3, .long x3)]) hx hb dX8_gathers_172 hl (k := 3) rfl rfl (by decide) rfl (fun ls hl => ?_)
      refine lv_goto (tgt := 146) hx hb dX8_gathers_175 (by decide) ?_
      exact hk146 _ _ h _ _ _ hA (lv_sub hl [1, 2, 3, 0] rfl)
set_option maxHeartbeats 4000000 in
theorem w_X8_gathers_L146 {σ : SS} {x : Int32 × Int64 × Int32} (C : Cx p l s m args meth c cX8_gathers 11 wsX8_gathers (some .long) RX8 g A) {k133 : SS → (Int32 × Int64 × Int32) → Option (Int64 × SS)} (hk133 : ∀ (σ : SS) (x : Int32 × Int64 × Int32), k133 σ x = some R → ∀ (H : Heap) (locs : List Loc) (ls : Array Slot), Aw g A s.heap (wM g σ) H locs → lv_has ls 11 [(0, .ref (g.2.1 0)), (1, .int x.1), (3, .long x.2.1), (5, .int x.2.2)] → W p l e rmX8_gathers s m args below meth c H locs 0 0 (MQ below (Ql g A (wM g R.2) R.1) args s 0 0 A) (F0 m 133 ls [])) (h : f_X8_gathers_L146 fu k133 σ x = some R) {H : Heap} {locs : List Loc} {ls : Array Slot} (hA : Aw g A s.heap (wM g σ) H locs) (hl : lv_has ls 11 [(0, .ref (g.2.1 0)), (1, .int x.1), (3, .long x.2.1), (6, .int x.2.2)]) : W p l e rmX8_gathers s m args below meth c H locs 0 0 (MQ below (Ql g A (wM g R.2) R.1) args s 0 0 A) (F0 m 146 ls []) := by
  refine loopW (P := fun σ x => ∀ (H : Heap) (locs : List Loc) (ls : Array Slot), Aw g A s.heap (wM g σ) H locs → lv_has ls 11 [(0, .ref (g.2.1 0)), (1, .int x.1), (3, .long x.2.1), (6, .int x.2.2)] → W p l e rmX8_gathers s m args below meth c H locs 0 0 (MQ below (Ql g A (wM g R.2) R.1) args s 0 0 A) (F0 m 146 ls [])) (fun k hk σ x h9 H locs ls hA9 hl9 => ?_) fu σ x h H locs ls hA hl
  exact w_X8_gathers_146 C hk133 hk h9 hA9 hl9
set_option maxHeartbeats 4000000 in
set_option maxRecDepth 100000 in
theorem w_X8_gathers_133 {σ : SS} {x1 : Int32} {x3 : Int64} {x5 : Int32} (C : Cx p l s m args meth c cX8_gathers 11 wsX8_gathers (some .long) RX8 g A) {k133 : SS → (Int32 × Int64 × Int32) → Option (Int64 × SS)} (hk133 : ∀ (σ : SS) (x : Int32 × Int64 × Int32), k133 σ x = some R → ∀ (H : Heap) (locs : List Loc) (ls : Array Slot), Aw g A s.heap (wM g σ) H locs → lv_has ls 11 [(0, .ref (g.2.1 0)), (1, .int x.1), (3, .long x.2.1), (5, .int x.2.2)] → W p l e rmX8_gathers s m args below meth c H locs 0 0 (MQ below (Ql g A (wM g R.2) R.1) args s 0 0 A) (F0 m 133 ls [])) (h : f_X8_gathers_133 fu k133 σ x1 x3 x5 = some R) {H : Heap} {locs : List Loc} {ls : Array Slot} (hA : Aw g A s.heap (wM g σ) H locs) (hl : lv_has ls 11 [(0, .ref (g.2.1 0)), (1, .int x1), (3, .long x3), (5, .int x5)]) : W p l e rmX8_gathers s m args below meth c H locs 0 0 (MQ below (Ql g A (wM g R.2) R.1) args s 0 0 A) (F0 m 133 ls []) := by
  have hx := C.1.1
  have hb := C.1.2.1
  unfold f_X8_gathers_133 at h
  refine lv_iload hx hb dX8_gathers_133 (lv_at hl 3 rfl) ?_
  refine lv_if_eq (tgt := 379) hx hb dX8_gathers_135 (by decide) (fun c1 => ?_) (fun c1 => ?_)
  · replace h := (if_pos c1).symm.trans h
    refine lv_lload_n hx hb dX8_gathers_379 rfl (lv_at hl 2 rfl) ?_
    obtain rfl := Option.some.inj h
    exact r_lret C hA dX8_gathers_380
  · replace h := (if_neg c1).symm.trans h
    refine lv_aload_n hx hb dX8_gathers_138 rfl (lv_at hl 0 rfl) ?_
    refine lv_iload_n hx hb dX8_gathers_139 rfl (lv_at hl 1 rfl) ?_
    obtain ⟨r2, t4, hc3, h⟩ := bd h
    refine r_callVv (r := r2) (w1 := wM g t4) (As := [.int x1]) (rest := []) C hA hl.1 (k_X8_ways C.2.2.2.2.2.2 hc3) (cwV 1 C.1.2.2.2.2 gX8_gathers_X8_ways rfl rfl rfl nd_X8_ways ⟨Nat.le_of_ble_eq_true rfl, Nat.le_of_ble_eq_true rfl⟩) 0 rfl rfl rfl rfl (Nat.le_of_ble_eq_true rfl) dX8_gathers_140 ⟨Nat.le_of_ble_eq_true rfl, Nat.le_of_ble_eq_true rfl⟩ (fun H locs hA => ?_)
    refine lv_iconst (v := 0) hx hb dX8_gathers_143 (by decide) ?_
    refine lv_istore (lv' := [(6, .int (0 : Int32)), (0, .ref (g.2.1 0)), (1, .int x1), (3, .long x3), (5, .int x5)]) hx hb dX8_gathers_144 hl (by decide) rfl (fun ls hl => ?_)
    exact w_X8_gathers_L146 C hk133 h hA (lv_sub hl [1, 2, 3, 0] rfl)
set_option maxHeartbeats 4000000 in
theorem w_X8_gathers_L133 {σ : SS} {x : Int32 × Int64 × Int32} (C : Cx p l s m args meth c cX8_gathers 11 wsX8_gathers (some .long) RX8 g A) (h : f_X8_gathers_L133 fu σ x = some R) {H : Heap} {locs : List Loc} {ls : Array Slot} (hA : Aw g A s.heap (wM g σ) H locs) (hl : lv_has ls 11 [(0, .ref (g.2.1 0)), (1, .int x.1), (3, .long x.2.1), (5, .int x.2.2)]) : W p l e rmX8_gathers s m args below meth c H locs 0 0 (MQ below (Ql g A (wM g R.2) R.1) args s 0 0 A) (F0 m 133 ls []) := by
  refine loopW (P := fun σ x => ∀ (H : Heap) (locs : List Loc) (ls : Array Slot), Aw g A s.heap (wM g σ) H locs → lv_has ls 11 [(0, .ref (g.2.1 0)), (1, .int x.1), (3, .long x.2.1), (5, .int x.2.2)] → W p l e rmX8_gathers s m args below meth c H locs 0 0 (MQ below (Ql g A (wM g R.2) R.1) args s 0 0 A) (F0 m 133 ls [])) (fun k hk σ x h9 H locs ls hA9 hl9 => ?_) fu σ x h H locs ls hA hl
  exact w_X8_gathers_133 C hk h9 hA9 hl9
set_option maxHeartbeats 4000000 in
set_option maxRecDepth 100000 in
theorem w_X8_gathers_110 {σ : SS} {x1 : Int32} {x2 : Int32} {x3 : Int32} (C : Cx p l s m args meth c cX8_gathers 11 wsX8_gathers (some .long) RX8 g A) {k53 : SS → (Int32 × Int32 × Int32) → Option (Int64 × SS)} (hk53 : ∀ (σ : SS) (x : Int32 × Int32 × Int32), k53 σ x = some R → ∀ (H : Heap) (locs : List Loc) (ls : Array Slot), Aw g A s.heap (wM g σ) H locs → lv_has ls 11 [(0, .ref (g.2.1 0)), (1, .int x.1), (2, .int x.2.1), (3, .int x.2.2)] → W p l e rmX8_gathers s m args below meth c H locs 0 0 (MQ below (Ql g A (wM g R.2) R.1) args s 0 0 A) (F0 m 53 ls [])) (h : f_X8_gathers_110 fu k53 σ x1 x2 x3 = some R) {H : Heap} {locs : List Loc} {ls : Array Slot} (hA : Aw g A s.heap (wM g σ) H locs) (hl : lv_has ls 11 [(0, .ref (g.2.1 0)), (1, .int x1), (2, .int x2), (3, .int x3)]) : W p l e rmX8_gathers s m args below meth c H locs 0 0 (MQ below (Ql g A (wM g R.2) R.1) args s 0 0 A) (F0 m 110 ls []) := by
  have hx := C.1.1
  have hb := C.1.2.1
  unfold f_X8_gathers_110 at h
  refine lv_iinc (v := (x3 + 1)) (lv' := [(3, .int (x3 + 1)), (0, .ref (g.2.1 0)), (1, .int x1), (2, .int x2)]) hx hb dX8_gathers_110 hl (k := 3) rfl rfl (by decide) rfl (fun ls hl => ?_)
  refine lv_goto (tgt := 53) hx hb dX8_gathers_113 (by decide) ?_
  exact hk53 _ _ h _ _ _ hA (lv_sub hl [1, 2, 3, 0] rfl)
set_option maxHeartbeats 4000000 in
set_option maxRecDepth 100000 in
theorem w_X8_gathers_80 {σ : SS} {x1 : Int32} {x2 : Int32} {x3 : Int32} (C : Cx p l s m args meth c cX8_gathers 11 wsX8_gathers (some .long) RX8 g A) {k53 : SS → (Int32 × Int32 × Int32) → Option (Int64 × SS)} (hk53 : ∀ (σ : SS) (x : Int32 × Int32 × Int32), k53 σ x = some R → ∀ (H : Heap) (locs : List Loc) (ls : Array Slot), Aw g A s.heap (wM g σ) H locs → lv_has ls 11 [(0, .ref (g.2.1 0)), (1, .int x.1), (2, .int x.2.1), (3, .int x.2.2)] → W p l e rmX8_gathers s m args below meth c H locs 0 0 (MQ below (Ql g A (wM g R.2) R.1) args s 0 0 A) (F0 m 53 ls [])) (h : f_X8_gathers_80 fu k53 σ x1 x2 x3 = some R) {H : Heap} {locs : List Loc} {ls : Array Slot} (hA : Aw g A s.heap (wM g σ) H locs) (hl : lv_has ls 11 [(0, .ref (g.2.1 0)), (1, .int x1), (2, .int x2), (3, .int x3)]) : W p l e rmX8_gathers s m args below meth c H locs 0 0 (MQ below (Ql g A (wM g R.2) R.1) args s 0 0 A) (F0 m 80 ls []) := by
  have hx := C.1.1
  have hb := C.1.2.1
  unfold f_X8_gathers_80 at h
  refine lv_aload_n hx hb dX8_gathers_80 rfl (lv_at hl 0 rfl) ?_
  refine Mg_X8_can C hA iX8_gathers_X8 (by decide +kernel) dX8_gathers_81 ?_
  refine lv_bipush (v := 12) hx hb dX8_gathers_84 (by decide) ?_
  refine lv_aload_n hx hb dX8_gathers_86 rfl (lv_at hl 0 rfl) ?_
  refine Mg_X8_owes C hA iX8_gathers_X8 (by decide +kernel) dX8_gathers_87 ?_
  refine lv_iload_n hx hb dX8_gathers_90 rfl (lv_at hl 3 rfl) ?_
  obtain ⟨g1, h⟩ := gd h
  refine Mld_15 (v := (σ.2.1 15 (x3).toNatClampNeg)) C hA rfl g1 dX8_gathers_91 ?_
  refine lv_imul hx hb dX8_gathers_92 ?_
  refine lv_aload_n hx hb dX8_gathers_93 rfl (lv_at hl 0 rfl) ?_
  refine Mg_X8_whom C hA iX8_gathers_X8 (by decide +kernel) dX8_gathers_94 ?_
  refine lv_iload_n hx hb dX8_gathers_97 rfl (lv_at hl 3 rfl) ?_
  refine Mld_16 (v := (σ.2.1 16 (x3).toNatClampNeg)) C hA rfl g1 dX8_gathers_98 ?_
  refine lv_iadd hx hb dX8_gathers_99 ?_
  refine lv_dup2_11 hx hb dX8_gathers_100 rfl rfl ?_
  obtain ⟨g2, h⟩ := gd h
  refine Mld_25 (v := (σ.2.2 25 ((((12 : Int32) * (σ.2.1 15 (x3).toNatClampNeg)) + (σ.2.1 16 (x3).toNatClampNeg))).toNatClampNeg)) C hA rfl g2 dX8_gathers_101 ?_
  refine lv_aload_n hx hb dX8_gathers_102 rfl (lv_at hl 0 rfl) ?_
  refine Mg_X8_left C hA iX8_gathers_X8 (by decide +kernel) dX8_gathers_103 ?_
  refine lv_iload_n hx hb dX8_gathers_106 rfl (lv_at hl 3 rfl) ?_
  refine Mld_17 (v := (σ.2.2 17 (x3).toNatClampNeg)) C hA rfl g1 dX8_gathers_107 ?_
  refine lv_ladd hx hb dX8_gathers_108 ?_
  refine Mst_25 C hA g2 dX8_gathers_109 (fun H locs hA => ?_)
  exact w_X8_gathers_110 C hk53 h hA (lv_sub hl [0, 1, 2, 3] rfl)
set_option maxHeartbeats 4000000 in
set_option maxRecDepth 100000 in
theorem w_X8_gathers_53 {σ : SS} {x1 : Int32} {x2 : Int32} {x3 : Int32} (C : Cx p l s m args meth c cX8_gathers 11 wsX8_gathers (some .long) RX8 g A) {k53 : SS → (Int32 × Int32 × Int32) → Option (Int64 × SS)} (hk53 : ∀ (σ : SS) (x : Int32 × Int32 × Int32), k53 σ x = some R → ∀ (H : Heap) (locs : List Loc) (ls : Array Slot), Aw g A s.heap (wM g σ) H locs → lv_has ls 11 [(0, .ref (g.2.1 0)), (1, .int x.1), (2, .int x.2.1), (3, .int x.2.2)] → W p l e rmX8_gathers s m args below meth c H locs 0 0 (MQ below (Ql g A (wM g R.2) R.1) args s 0 0 A) (F0 m 53 ls [])) (h : f_X8_gathers_53 fu k53 σ x1 x2 x3 = some R) {H : Heap} {locs : List Loc} {ls : Array Slot} (hA : Aw g A s.heap (wM g σ) H locs) (hl : lv_has ls 11 [(0, .ref (g.2.1 0)), (1, .int x1), (2, .int x2), (3, .int x3)]) : W p l e rmX8_gathers s m args below meth c H locs 0 0 (MQ below (Ql g A (wM g R.2) R.1) args s 0 0 A) (F0 m 53 ls []) := by
  have hx := C.1.1
  have hb := C.1.2.1
  unfold f_X8_gathers_53 at h
  refine lv_iload_n hx hb dX8_gathers_53 rfl (lv_at hl 3 rfl) ?_
  refine lv_aload_n hx hb dX8_gathers_54 rfl (lv_at hl 0 rfl) ?_
  refine Mg_X8_debts (v := (σ.1 20)) C hA rfl iX8_gathers_X8 (by decide +kernel) dX8_gathers_55 ?_
  refine lv_icmp_ge (tgt := 116) hx hb dX8_gathers_58 (by decide) (fun c1 => ?_) (fun c1 => ?_)
  · replace h := (if_pos c1).symm.trans h
    refine lv_aload_n hx hb dX8_gathers_116 rfl (lv_at hl 0 rfl) ?_
    refine Mg_X8_has C hA iX8_gathers_X8 (by decide +kernel) dX8_gathers_117 ?_
    refine lv_iload_n hx hb dX8_gathers_120 rfl (lv_at hl 1 rfl) ?_
    obtain ⟨g2, h⟩ := gd h
    refine Mld_26 (v := (σ.2.2 26 (x1).toNatClampNeg)) C hA rfl g2 dX8_gathers_121 ?_
    refine lv_lstore_n (lv' := [(3, .long (σ.2.2 26 (x1).toNatClampNeg)), (0, .ref (g.2.1 0)), (1, .int x1), (2, .int x2)]) hx hb dX8_gathers_122 rfl hl (by decide) rfl (fun ls hl => ?_)
    refine lv_aload_n hx hb dX8_gathers_123 rfl (lv_at hl 1 rfl) ?_
    refine Mg_X8_has C hA iX8_gathers_X8 (by decide +kernel) dX8_gathers_124 ?_
    refine lv_iload_n hx hb dX8_gathers_127 rfl (lv_at hl 2 rfl) ?_
    refine lv_lconst (v := 0) hx hb dX8_gathers_128 (by decide) ?_
    refine Mst_26 C hA g2 dX8_gathers_129 (fun H locs hA => ?_)
    refine lv_iconst (v := 1) hx hb dX8_gathers_130 (by decide) ?_
    refine lv_istore (lv' := [(5, .int (1 : Int32)), (3, .long (σ.2.2 26 (x1).toNatClampNeg)), (0, .ref (g.2.1 0)), (1, .int x1), (2, .int x2)]) hx hb dX8_gathers_131 hl (by decide) rfl (fun ls hl => ?_)
    exact w_X8_gathers_L133 C h hA (lv_sub hl [2, 3, 1, 0] rfl)
  · replace h := (if_neg c1).symm.trans h
    refine lv_aload_n hx hb dX8_gathers_61 rfl (lv_at hl 0 rfl) ?_
    refine Mg_X8_isLoan C hA iX8_gathers_X8 (by decide +kernel) dX8_gathers_62 ?_
    refine lv_iload_n hx hb dX8_gathers_65 rfl (lv_at hl 3 rfl) ?_
    obtain ⟨g3, h⟩ := gd h
    refine Mld_18 (v := (σ.2.1 18 (x3).toNatClampNeg)) C hA rfl g3 dX8_gathers_66 ?_
    refine lv_if_ne (tgt := 80) hx hb dX8_gathers_67 (by decide) (fun c4 => ?_) (fun c4 => ?_)
    · replace h := (if_neg c4).symm.trans h
      exact w_X8_gathers_80 C hk53 h hA (lv_sub hl [0, 1, 2, 3] rfl)
    · replace h := (if_pos c4).symm.trans h
      refine lv_aload_n hx hb dX8_gathers_70 rfl (lv_at hl 0 rfl) ?_
      refine Mg_X8_due C hA iX8_gathers_X8 (by decide +kernel) dX8_gathers_71 ?_
      refine lv_iload_n hx hb dX8_gathers_74 rfl (lv_at hl 3 rfl) ?_
      refine Mld_19 (v := (σ.2.1 19 (x3).toNatClampNeg)) C hA rfl g3 dX8_gathers_75 ?_
      refine lv_iload_n hx hb dX8_gathers_76 rfl (lv_at hl 2 rfl) ?_
      refine lv_icmp_gt (tgt := 110) hx hb dX8_gathers_77 (by decide) (fun c5 => ?_) (fun c5 => ?_)
      · replace h := (if_pos c5).symm.trans h
        exact w_X8_gathers_110 C hk53 h hA (lv_sub hl [0, 1, 2, 3] rfl)
      · replace h := (if_neg c5).symm.trans h
        exact w_X8_gathers_80 C hk53 h hA (lv_sub hl [0, 1, 2, 3] rfl)
set_option maxHeartbeats 4000000 in
theorem w_X8_gathers_L53 {σ : SS} {x : Int32 × Int32 × Int32} (C : Cx p l s m args meth c cX8_gathers 11 wsX8_gathers (some .long) RX8 g A) (h : f_X8_gathers_L53 fu σ x = some R) {H : Heap} {locs : List Loc} {ls : Array Slot} (hA : Aw g A s.heap (wM g σ) H locs) (hl : lv_has ls 11 [(0, .ref (g.2.1 0)), (1, .int x.1), (2, .int x.2.1), (3, .int x.2.2)]) : W p l e rmX8_gathers s m args below meth c H locs 0 0 (MQ below (Ql g A (wM g R.2) R.1) args s 0 0 A) (F0 m 53 ls []) := by
  refine loopW (P := fun σ x => ∀ (H : Heap) (locs : List Loc) (ls : Array Slot), Aw g A s.heap (wM g σ) H locs → lv_has ls 11 [(0, .ref (g.2.1 0)), (1, .int x.1), (2, .int x.2.1), (3, .int x.2.2)] → W p l e rmX8_gathers s m args below meth c H locs 0 0 (MQ below (Ql g A (wM g R.2) R.1) args s 0 0 A) (F0 m 53 ls [])) (fun k hk σ x h9 H locs ls hA9 hl9 => ?_) fu σ x h H locs ls hA hl
  exact w_X8_gathers_53 C hk h9 hA9 hl9
set_option maxHeartbeats 4000000 in
set_option maxRecDepth 100000 in
theorem w_X8_gathers_24 {σ : SS} {x1 : Int32} {x2 : Int32} {x3 : Int32} (C : Cx p l s m args meth c cX8_gathers 11 wsX8_gathers (some .long) RX8 g A) {k24 : SS → (Int32 × Int32 × Int32) → Option (Int64 × SS)} (hk24 : ∀ (σ : SS) (x : Int32 × Int32 × Int32), k24 σ x = some R → ∀ (H : Heap) (locs : List Loc) (ls : Array Slot), Aw g A s.heap (wM g σ) H locs → lv_has ls 11 [(0, .ref (g.2.1 0)), (1, .int x.1), (2, .int x.2.1), (3, .int x.2.2)] → W p l e rmX8_gathers s m args below meth c H locs 0 0 (MQ below (Ql g A (wM g R.2) R.1) args s 0 0 A) (F0 m 24 ls [])) (h : f_X8_gathers_24 fu k24 σ x1 x2 x3 = some R) {H : Heap} {locs : List Loc} {ls : Array Slot} (hA : Aw g A s.heap (wM g σ) H locs) (hl : lv_has ls 11 [(0, .ref (g.2.1 0)), (1, .int x1), (2, .int x2), (3, .int x3)]) : W p l e rmX8_gathers s m args below meth c H locs 0 0 (MQ below (Ql g A (wM g R.2) R.1) args s 0 0 A) (F0 m 24 ls []) := by
  have hx := C.1.1
  have hb := C.1.2.1
  unfold f_X8_gathers_24 at h
  refine lv_iload_n hx hb dX8_gathers_24 rfl (lv_at hl 3 rfl) ?_
  refine lv_aload_n hx hb dX8_gathers_25 rfl (lv_at hl 0 rfl) ?_
  refine Mg_X8_chiefs (v := (σ.1 4)) C hA rfl iX8_gathers_X8 (by decide +kernel) dX8_gathers_26 ?_
  refine lv_icmp_ge (tgt := 51) hx hb dX8_gathers_29 (by decide) (fun c1 => ?_) (fun c1 => ?_)
  · replace h := (if_pos c1).symm.trans h
    refine lv_iconst (v := 0) hx hb dX8_gathers_51 (by decide) ?_
    refine lv_istore_n (lv' := [(3, .int (0 : Int32)), (0, .ref (g.2.1 0)), (1, .int x1), (2, .int x2)]) hx hb dX8_gathers_52 rfl hl (by decide) rfl (fun ls hl => ?_)
    exact w_X8_gathers_L53 C h hA (lv_sub hl [1, 2, 3, 0] rfl)
  · replace h := (if_neg c1).symm.trans h
    refine lv_aload_n hx hb dX8_gathers_32 rfl (lv_at hl 0 rfl) ?_
    refine Mg_X8_has C hA iX8_gathers_X8 (by decide +kernel) dX8_gathers_33 ?_
    refine lv_iload_n hx hb dX8_gathers_36 rfl (lv_at hl 3 rfl) ?_
    refine lv_aload_n hx hb dX8_gathers_37 rfl (lv_at hl 0 rfl) ?_
    refine Mg_X8_blankets C hA iX8_gathers_X8 (by decide +kernel) dX8_gathers_38 ?_
    refine lv_iload_n hx hb dX8_gathers_41 rfl (lv_at hl 3 rfl) ?_
    obtain ⟨g2, h⟩ := gd h
    refine Mld_1 (v := (σ.2.1 1 (x3).toNatClampNeg)) C hA rfl g2 dX8_gathers_42 ?_
    refine lv_i2l hx hb dX8_gathers_43 rfl ?_
    refine Mst_26 C hA g2 dX8_gathers_44 (fun H locs hA => ?_)
    refine lv_iinc (v := (x3 + 1)) (lv' := [(3, .int (x3 + 1)), (0, .ref (g.2.1 0)), (1, .int x1), (2, .int x2)]) hx hb dX8_gathers_45 hl (k := 3) rfl rfl (by decide) rfl (fun ls hl => ?_)
    refine lv_goto (tgt := 24) hx hb dX8_gathers_48 (by decide) ?_
    exact hk24 _ _ h _ _ _ hA (lv_sub hl [1, 2, 3, 0] rfl)
set_option maxHeartbeats 4000000 in
theorem w_X8_gathers_L24 {σ : SS} {x : Int32 × Int32 × Int32} (C : Cx p l s m args meth c cX8_gathers 11 wsX8_gathers (some .long) RX8 g A) (h : f_X8_gathers_L24 fu σ x = some R) {H : Heap} {locs : List Loc} {ls : Array Slot} (hA : Aw g A s.heap (wM g σ) H locs) (hl : lv_has ls 11 [(0, .ref (g.2.1 0)), (1, .int x.1), (2, .int x.2.1), (3, .int x.2.2)]) : W p l e rmX8_gathers s m args below meth c H locs 0 0 (MQ below (Ql g A (wM g R.2) R.1) args s 0 0 A) (F0 m 24 ls []) := by
  refine loopW (P := fun σ x => ∀ (H : Heap) (locs : List Loc) (ls : Array Slot), Aw g A s.heap (wM g σ) H locs → lv_has ls 11 [(0, .ref (g.2.1 0)), (1, .int x.1), (2, .int x.2.1), (3, .int x.2.2)] → W p l e rmX8_gathers s m args below meth c H locs 0 0 (MQ below (Ql g A (wM g R.2) R.1) args s 0 0 A) (F0 m 24 ls [])) (fun k hk σ x h9 H locs ls hA9 hl9 => ?_) fu σ x h H locs ls hA hl
  exact w_X8_gathers_24 C hk h9 hA9 hl9
set_option maxHeartbeats 4000000 in
set_option maxRecDepth 100000 in
theorem w_X8_gathers_2 {σ : SS} {x1 : Int32} {x2 : Int32} {x3 : Int32} (C : Cx p l s m args meth c cX8_gathers 11 wsX8_gathers (some .long) RX8 g A) {k2 : SS → (Int32 × Int32 × Int32) → Option (Int64 × SS)} (hk2 : ∀ (σ : SS) (x : Int32 × Int32 × Int32), k2 σ x = some R → ∀ (H : Heap) (locs : List Loc) (ls : Array Slot), Aw g A s.heap (wM g σ) H locs → lv_has ls 11 [(0, .ref (g.2.1 0)), (1, .int x.1), (2, .int x.2.1), (3, .int x.2.2)] → W p l e rmX8_gathers s m args below meth c H locs 0 0 (MQ below (Ql g A (wM g R.2) R.1) args s 0 0 A) (F0 m 2 ls [])) (h : f_X8_gathers_2 fu k2 σ x1 x2 x3 = some R) {H : Heap} {locs : List Loc} {ls : Array Slot} (hA : Aw g A s.heap (wM g σ) H locs) (hl : lv_has ls 11 [(0, .ref (g.2.1 0)), (1, .int x1), (2, .int x2), (3, .int x3)]) : W p l e rmX8_gathers s m args below meth c H locs 0 0 (MQ below (Ql g A (wM g R.2) R.1) args s 0 0 A) (F0 m 2 ls []) := by
  have hx := C.1.1
  have hb := C.1.2.1
  unfold f_X8_gathers_2 at h
  refine lv_iload_n hx hb dX8_gathers_2 rfl (lv_at hl 3 rfl) ?_
  refine lv_sipush (v := 144) hx hb dX8_gathers_3 (by decide) ?_
  refine lv_icmp_ge (tgt := 22) hx hb dX8_gathers_6 (by decide) (fun c1 => ?_) (fun c1 => ?_)
  · replace h := (if_pos c1).symm.trans h
    refine lv_iconst (v := 0) hx hb dX8_gathers_22 (by decide) ?_
    refine lv_istore_n (lv' := [(3, .int (0 : Int32)), (0, .ref (g.2.1 0)), (1, .int x1), (2, .int x2)]) hx hb dX8_gathers_23 rfl hl (by decide) rfl (fun ls hl => ?_)
    exact w_X8_gathers_L24 C h hA (lv_sub hl [1, 2, 3, 0] rfl)
  · replace h := (if_neg c1).symm.trans h
    refine lv_aload_n hx hb dX8_gathers_9 rfl (lv_at hl 0 rfl) ?_
    refine Mg_X8_can C hA iX8_gathers_X8 (by decide +kernel) dX8_gathers_10 ?_
    refine lv_iload_n hx hb dX8_gathers_13 rfl (lv_at hl 3 rfl) ?_
    refine lv_lconst (v := 0) hx hb dX8_gathers_14 (by decide) ?_
    obtain ⟨g2, h⟩ := gd h
    refine Mst_25 C hA g2 dX8_gathers_15 (fun H locs hA => ?_)
    refine lv_iinc (v := (x3 + 1)) (lv' := [(3, .int (x3 + 1)), (0, .ref (g.2.1 0)), (1, .int x1), (2, .int x2)]) hx hb dX8_gathers_16 hl (k := 3) rfl rfl (by decide) rfl (fun ls hl => ?_)
    refine lv_goto (tgt := 2) hx hb dX8_gathers_19 (by decide) ?_
    exact hk2 _ _ h _ _ _ hA (lv_sub hl [1, 2, 3, 0] rfl)
set_option maxHeartbeats 4000000 in
theorem w_X8_gathers_L2 {σ : SS} {x : Int32 × Int32 × Int32} (C : Cx p l s m args meth c cX8_gathers 11 wsX8_gathers (some .long) RX8 g A) (h : f_X8_gathers_L2 fu σ x = some R) {H : Heap} {locs : List Loc} {ls : Array Slot} (hA : Aw g A s.heap (wM g σ) H locs) (hl : lv_has ls 11 [(0, .ref (g.2.1 0)), (1, .int x.1), (2, .int x.2.1), (3, .int x.2.2)]) : W p l e rmX8_gathers s m args below meth c H locs 0 0 (MQ below (Ql g A (wM g R.2) R.1) args s 0 0 A) (F0 m 2 ls []) := by
  refine loopW (P := fun σ x => ∀ (H : Heap) (locs : List Loc) (ls : Array Slot), Aw g A s.heap (wM g σ) H locs → lv_has ls 11 [(0, .ref (g.2.1 0)), (1, .int x.1), (2, .int x.2.1), (3, .int x.2.2)] → W p l e rmX8_gathers s m args below meth c H locs 0 0 (MQ below (Ql g A (wM g R.2) R.1) args s 0 0 A) (F0 m 2 ls [])) (fun k hk σ x h9 H locs ls hA9 hl9 => ?_) fu σ x h H locs ls hA hl
  exact w_X8_gathers_2 C hk h9 hA9 hl9
set_option maxHeartbeats 4000000 in
set_option maxRecDepth 100000 in
theorem w_X8_gathers_0 {σ : SS} {x1 : Int32} {x2 : Int32} (C : Cx p l s m args meth c cX8_gathers 11 wsX8_gathers (some .long) RX8 g A) (h : f_X8_gathers fu σ x1 x2 = some R) {H : Heap} {locs : List Loc} {ls : Array Slot} (hA : Aw g A s.heap (wM g σ) H locs) (hl : lv_has ls 11 [(0, .ref (g.2.1 0)), (1, .int x1), (2, .int x2)]) : W p l e rmX8_gathers s m args below meth c H locs 0 0 (MQ below (Ql g A (wM g R.2) R.1) args s 0 0 A) (F0 m 0 ls []) := by
  have hx := C.1.1
  have hb := C.1.2.1
  unfold f_X8_gathers at h
  refine lv_iconst (v := 0) hx hb dX8_gathers_0 (by decide) ?_
  refine lv_istore_n (lv' := [(3, .int (0 : Int32)), (0, .ref (g.2.1 0)), (1, .int x1), (2, .int x2)]) hx hb dX8_gathers_1 rfl hl (by decide) rfl (fun ls hl => ?_)
  exact w_X8_gathers_L2 C h hA (lv_sub hl [1, 2, 3, 0] rfl)
end
set_option maxRecDepth 100000 in
theorem k_X8_gathers {l : Launch} {g : Gm} {fu : Nat} {σ : SS} {x1 : Int32} {x2 : Int32} {R : Int64 × SS} (hlt : l.stackTraces = false) (h : f_X8_gathers fu σ x1 x2 = some R) (sz : Nat) : Met l yX8_gathers wsX8_gathers rmX8_gathers (Pw g (wM g σ) [.ref (g.2.1 0), .int x1, .int x2] sz) (Ql g (va_A (wM g σ) sz) (wM g R.2) R.1) 0 0 (va_A (wM g σ) sz) :=
  ofM (own := RX8) hlt (by decide) rfl rfl (Nat.le_of_ble_eq_true rfl) (fun p e s m below meth c hsz C hA ls hl => w_X8_gathers_0 C h hA hl)
abbrev rmX8_gather : Room := { frames := 2, cells := 0, slots := 0, locals := 53 }
theorem iX8_gather_X8 : ∀ x ∈ wsX80, x ∈ wsX8_gather := by decide +kernel
theorem nd_X8_gather : yX8_gather.cls = RX8 ∧ yX8_gather.cls ≠ "java/lang/invoke/MethodHandle" ∧ yX8_gather.cls ≠ "java/lang/invoke/VarHandle" ∧ (parseMethodDescriptor yX8_gather.desc).map (fun d => d.parameters.length) = some 2 := by decide +kernel
def f_X8_gather_19 (fu : Nat) (σ : SS) (x1 : Int32) (x2 : Int32) (y0 : Int32) : Option (Int64 × SS) :=
  bnd (f_X8_bad fu σ y0 (1 : Int32)) (fun r1 t3 => (if r1 = 0 then if inB x1 12 then (if (t3.2.1 3 (x1).toNatClampNeg) = 0 then bnd (f_X8_gathers fu t3 x1 x2) (fun r7 t9 => some (r7, t9)) else some ((-1 : Int64), t3)) else none else some ((0 : Int64), t3)))
def f_X8_gather (fu : Nat) (σ : SS) (x1 : Int32) (x2 : Int32) : Option (Int64 × SS) :=
  bnd1 (f_X8_isChief fu (sI σ 0 (0 : Int32)) x1) (fun r1 => (if r1 = 0 then f_X8_gather_19 fu (sI σ 0 (0 : Int32)) x1 x2 (1 : Int32) else f_X8_gather_19 fu (sI σ 0 (0 : Int32)) x1 x2 (0 : Int32)))
section
variable {p : Program} {l : Launch} {e : Env} {s : State} {m : MethodId} {args : Array Value} {below : List Frame} {meth : Method} {c : Code} {g : Gm} {A : Nat → Prop} {fu : Nat} {R : Int64 × SS}
set_option maxHeartbeats 4000000 in
set_option maxRecDepth 100000 in
theorem w_X8_gather_19 {σ : SS} {x1 : Int32} {x2 : Int32} {y0 : Int32} (C : Cx p l s m args meth c cX8_gather 3 wsX8_gather (some .long) RX8 g A) (h : f_X8_gather_19 fu σ x1 x2 y0 = some R) {H : Heap} {locs : List Loc} {ls : Array Slot} (hA : Aw g A s.heap (wM g σ) H locs) (hl : lv_has ls 3 [(0, .ref (g.2.1 0)), (1, .int x1), (2, .int x2)]) : W p l e rmX8_gather s m args below meth c H locs 0 0 (MQ below (Ql g A (wM g R.2) R.1) args s 0 0 A) (F0 m 19 ls [.int y0, .ref (g.2.1 0)]) := by
  have hx := C.1.1
  have hb := C.1.2.1
  unfold f_X8_gather_19 at h
  refine lv_iconst (v := 1) hx hb dX8_gather_19 (by decide) ?_
  obtain ⟨r1, t3, hc2, h⟩ := bd h
  refine r_callVi (r := r1) (w1 := wM g t3) (As := [.int y0, .int (1 : Int32)]) (rest := []) C hA hl.1 (k_X8_bad C.2.2.2.2.2.2 hc2) (cwV 2 C.1.2.2.2.2 gX8_gather_X8_bad rfl rfl rfl nd_X8_bad ⟨Nat.le_of_ble_eq_true rfl, Nat.le_of_ble_eq_true rfl⟩) 0 rfl rfl rfl rfl (Nat.le_of_ble_eq_true rfl) dX8_gather_20 ⟨Nat.le_of_ble_eq_true rfl, Nat.le_of_ble_eq_true rfl⟩ (fun H locs hA => ?_)
  refine lv_if_eq (tgt := 28) hx hb dX8_gather_23 (by decide) (fun c4 => ?_) (fun c4 => ?_)
  · replace h := (if_pos c4).symm.trans h
    refine lv_aload_n hx hb dX8_gather_28 rfl (lv_at hl 0 rfl) ?_
    refine Mg_X8_isDead C hA iX8_gather_X8 (by decide +kernel) dX8_gather_29 ?_
    refine lv_iload_n hx hb dX8_gather_32 rfl (lv_at hl 1 rfl) ?_
    obtain ⟨g5, h⟩ := gd h
    refine Mld_3 (v := (t3.2.1 3 (x1).toNatClampNeg)) C hA rfl g5 dX8_gather_33 ?_
    refine lv_if_eq (tgt := 43) hx hb dX8_gather_34 (by decide) (fun c6 => ?_) (fun c6 => ?_)
    · replace h := (if_pos c6).symm.trans h
      refine lv_aload_n hx hb dX8_gather_43 rfl (lv_at hl 0 rfl) ?_
      refine lv_iload_n hx hb dX8_gather_44 rfl (lv_at hl 1 rfl) ?_
      refine lv_iload_n hx hb dX8_gather_45 rfl (lv_at hl 2 rfl) ?_
      obtain ⟨r7, t9, hc8, h⟩ := bd h
      refine r_callVl (r := r7) (w1 := wM g t9) (As := [.int x1, .int x2]) (rest := []) C hA hl.1 (k_X8_gathers C.2.2.2.2.2.2 hc8) (cwV 2 C.1.2.2.2.2 gX8_gather_X8_gathers rfl rfl rfl nd_X8_gathers ⟨Nat.le_of_ble_eq_true rfl, Nat.le_of_ble_eq_true rfl⟩) 0 rfl rfl rfl rfl (Nat.le_of_ble_eq_true rfl) dX8_gather_46 ⟨Nat.le_of_ble_eq_true rfl, Nat.le_of_ble_eq_true rfl⟩ (fun H locs hA => ?_)
      obtain rfl := Option.some.inj h
      exact r_lret C hA dX8_gather_49
    · replace h := (if_neg c6).symm.trans h
      refine lv_ldc2 (v := (-1)) hx hb C.1.2.2.2.1 (C.1.2.2.2.2 (.constantLong RX8 212 (-1)) (by decide +kernel)) dX8_gather_37 ?_
      refine lv_goto (tgt := 49) hx hb dX8_gather_40 (by decide) ?_
      obtain rfl := Option.some.inj h
      exact r_lret C hA dX8_gather_49
  · replace h := (if_neg c4).symm.trans h
    refine lv_lconst (v := 0) hx hb dX8_gather_26 (by decide) ?_
    obtain rfl := Option.some.inj h
    exact r_lret C hA dX8_gather_27
set_option maxHeartbeats 4000000 in
set_option maxRecDepth 100000 in
theorem w_X8_gather_0 {σ : SS} {x1 : Int32} {x2 : Int32} (C : Cx p l s m args meth c cX8_gather 3 wsX8_gather (some .long) RX8 g A) (h : f_X8_gather fu σ x1 x2 = some R) {H : Heap} {locs : List Loc} {ls : Array Slot} (hA : Aw g A s.heap (wM g σ) H locs) (hl : lv_has ls 3 [(0, .ref (g.2.1 0)), (1, .int x1), (2, .int x2)]) : W p l e rmX8_gather s m args below meth c H locs 0 0 (MQ below (Ql g A (wM g R.2) R.1) args s 0 0 A) (F0 m 0 ls []) := by
  have hx := C.1.1
  have hb := C.1.2.1
  unfold f_X8_gather at h
  refine lv_aload_n hx hb dX8_gather_0 rfl (lv_at hl 0 rfl) ?_
  refine lv_iconst (v := 0) hx hb dX8_gather_1 (by decide) ?_
  refine Mp_X8_thrown C hA iX8_gather_X8 (by decide +kernel) dX8_gather_2 (fun H locs hA => ?_)
  refine lv_aload_n hx hb dX8_gather_5 rfl (lv_at hl 0 rfl) ?_
  refine lv_aload_n hx hb dX8_gather_6 rfl (lv_at hl 0 rfl) ?_
  refine lv_iload_n hx hb dX8_gather_7 rfl (lv_at hl 1 rfl) ?_
  obtain ⟨r1, hc2, h⟩ := bd1 h
  refine r_callVi (r := r1) (w1 := wM g (sI σ 0 (0 : Int32))) (As := [.int x1]) (rest := [.ref (g.2.1 0)]) C hA hl.1 (k_X8_isChief C.2.2.2.2.2.2 hc2) (cwV 1 C.1.2.2.2.2 gX8_gather_X8_isChief rfl rfl rfl nd_X8_isChief ⟨Nat.le_of_ble_eq_true rfl, Nat.le_of_ble_eq_true rfl⟩) 0 rfl rfl rfl rfl (Nat.le_of_ble_eq_true rfl) dX8_gather_8 ⟨Nat.le_of_ble_eq_true rfl, Nat.le_of_ble_eq_true rfl⟩ (fun H locs hA => ?_)
  refine lv_if_ne (tgt := 18) hx hb dX8_gather_11 (by decide) (fun c3 => ?_) (fun c3 => ?_)
  · replace h := (if_neg c3).symm.trans h
    refine lv_iconst (v := 0) hx hb dX8_gather_18 (by decide) ?_
    exact w_X8_gather_19 C h hA (lv_sub hl [0, 1, 2] rfl)
  · replace h := (if_pos c3).symm.trans h
    refine lv_iconst (v := 1) hx hb dX8_gather_14 (by decide) ?_
    refine lv_goto (tgt := 19) hx hb dX8_gather_15 (by decide) ?_
    exact w_X8_gather_19 C h hA (lv_sub hl [0, 1, 2] rfl)
end
set_option maxRecDepth 100000 in
theorem k_X8_gather {l : Launch} {g : Gm} {fu : Nat} {σ : SS} {x1 : Int32} {x2 : Int32} {R : Int64 × SS} (hlt : l.stackTraces = false) (h : f_X8_gather fu σ x1 x2 = some R) (sz : Nat) : Met l yX8_gather wsX8_gather rmX8_gather (Pw g (wM g σ) [.ref (g.2.1 0), .int x1, .int x2] sz) (Ql g (va_A (wM g σ) sz) (wM g R.2) R.1) 0 0 (va_A (wM g σ) sz) :=
  ofM (own := RX8) hlt (by decide) rfl rfl (Nat.le_of_ble_eq_true rfl) (fun p e s m below meth c hsz C hA ls hl => w_X8_gather_0 C h hA hl)
abbrev rmX8_hold : Room := { frames := 2, cells := 0, slots := 0, locals := 53 }
theorem iX8_hold_X8 : ∀ x ∈ wsX80, x ∈ wsX8_hold := by decide +kernel
theorem nd_X8_hold : yX8_hold.cls = RX8 ∧ yX8_hold.cls ≠ "java/lang/invoke/MethodHandle" ∧ yX8_hold.cls ≠ "java/lang/invoke/VarHandle" ∧ (parseMethodDescriptor yX8_hold.desc).map (fun d => d.parameters.length) = some 2 := by decide +kernel
def f_X8_hold_87 (fu : Nat) (k52 : SS → (Int64 × Int32 × Int32) → Option (Int32 × SS)) (σ : SS) (x3 : Int64) (x6 : Int32) (y0 : Int32) (y1 : Int32) : Option (Int32 × SS) :=
  k52 σ (x3, (y1 ||| y0), (x6 + 1))
def f_X8_hold_86 (fu : Nat) (k52 : SS → (Int64 × Int32 × Int32) → Option (Int32 × SS)) (σ : SS) (x3 : Int64) (x6 : Int32) (y0 : Int32) : Option (Int32 × SS) :=
  f_X8_hold_87 fu k52 σ x3 x6 (0 : Int32) y0
def f_X8_hold_52 (fu : Nat) (k52 : SS → (Int64 × Int32 × Int32) → Option (Int32 × SS)) (σ : SS) (x3 : Int64) (x5 : Int32) (x6 : Int32) : Option (Int32 × SS) :=
  (if (σ.1 4) ≤ x6 then some (x5, σ) else if inB x6 12 then (if (σ.2.1 28 (x6).toNatClampNeg) = 0 then f_X8_hold_86 fu k52 σ x3 x6 x5 else (if (lg_cmp x3 (0 : Int64)) < 0 then f_X8_hold_86 fu k52 σ x3 x6 x5 else f_X8_hold_87 fu k52 σ x3 x6 ((1 : Int32) <<< (x6 &&& 31)) x5)) else none)
def f_X8_hold_L52 (fu : Nat) : SS → (Int64 × Int32 × Int32) → Option (Int32 × SS) := loopN (fun k52 σ x => f_X8_hold_52 fu k52 σ x.1 x.2.1 x.2.2) fu
def f_X8_hold_19 (fu : Nat) (σ : SS) (x1 : Int32) (x2 : Int32) (y0 : Int32) : Option (Int32 × SS) :=
  bnd (f_X8_bad fu σ y0 (1 : Int32)) (fun r1 t3 => (if r1 = 0 then if inB x1 12 then (if (t3.2.1 3 (x1).toNatClampNeg) = 0 then bnd (f_X8_gathers fu t3 x1 x2) (fun r7 t9 => f_X8_hold_L52 fu t9 (r7, (0 : Int32), (0 : Int32))) else some ((-1), t3)) else none else some ((0 : Int32), t3)))
def f_X8_hold (fu : Nat) (σ : SS) (x1 : Int32) (x2 : Int32) : Option (Int32 × SS) :=
  bnd1 (f_X8_isChief fu (sI σ 0 (0 : Int32)) x1) (fun r1 => (if r1 = 0 then f_X8_hold_19 fu (sI σ 0 (0 : Int32)) x1 x2 (1 : Int32) else f_X8_hold_19 fu (sI σ 0 (0 : Int32)) x1 x2 (0 : Int32)))
section
variable {p : Program} {l : Launch} {e : Env} {s : State} {m : MethodId} {args : Array Value} {below : List Frame} {meth : Method} {c : Code} {g : Gm} {A : Nat → Prop} {fu : Nat} {R : Int32 × SS}
set_option maxHeartbeats 4000000 in
set_option maxRecDepth 100000 in
theorem w_X8_hold_87 {σ : SS} {x3 : Int64} {x6 : Int32} {y0 : Int32} {y1 : Int32} (C : Cx p l s m args meth c cX8_hold 7 wsX8_hold (some .int) RX8 g A) {k52 : SS → (Int64 × Int32 × Int32) → Option (Int32 × SS)} (hk52 : ∀ (σ : SS) (x : Int64 × Int32 × Int32), k52 σ x = some R → ∀ (H : Heap) (locs : List Loc) (ls : Array Slot), Aw g A s.heap (wM g σ) H locs → lv_has ls 7 [(0, .ref (g.2.1 0)), (3, .long x.1), (5, .int x.2.1), (6, .int x.2.2)] → W p l e rmX8_hold s m args below meth c H locs 0 0 (MQ below (Qi g A (wM g R.2) R.1) args s 0 0 A) (F0 m 52 ls [])) (h : f_X8_hold_87 fu k52 σ x3 x6 y0 y1 = some R) {H : Heap} {locs : List Loc} {ls : Array Slot} (hA : Aw g A s.heap (wM g σ) H locs) (hl : lv_has ls 7 [(0, .ref (g.2.1 0)), (3, .long x3), (6, .int x6)]) : W p l e rmX8_hold s m args below meth c H locs 0 0 (MQ below (Qi g A (wM g R.2) R.1) args s 0 0 A) (F0 m 87 ls [.int y0, .int y1]) := by
  have hx := C.1.1
  have hb := C.1.2.1
  unfold f_X8_hold_87 at h
  refine lv_ior hx hb dX8_hold_87 ?_
  refine lv_istore (lv' := [(5, .int (y1 ||| y0)), (0, .ref (g.2.1 0)), (3, .long x3), (6, .int x6)]) hx hb dX8_hold_88 hl (by decide) rfl (fun ls hl => ?_)
  refine lv_iinc (v := (x6 + 1)) (lv' := [(6, .int (x6 + 1)), (5, .int (y1 ||| y0)), (0, .ref (g.2.1 0)), (3, .long x3)]) hx hb dX8_hold_90 hl (k := 3) rfl rfl (by decide) rfl (fun ls hl => ?_)
  refine lv_goto (tgt := 52) hx hb dX8_hold_93 (by decide) ?_
  exact hk52 _ _ h _ _ _ hA (lv_sub hl [2, 3, 1, 0] rfl)
set_option maxHeartbeats 4000000 in
set_option maxRecDepth 100000 in
theorem w_X8_hold_86 {σ : SS} {x3 : Int64} {x6 : Int32} {y0 : Int32} (C : Cx p l s m args meth c cX8_hold 7 wsX8_hold (some .int) RX8 g A) {k52 : SS → (Int64 × Int32 × Int32) → Option (Int32 × SS)} (hk52 : ∀ (σ : SS) (x : Int64 × Int32 × Int32), k52 σ x = some R → ∀ (H : Heap) (locs : List Loc) (ls : Array Slot), Aw g A s.heap (wM g σ) H locs → lv_has ls 7 [(0, .ref (g.2.1 0)), (3, .long x.1), (5, .int x.2.1), (6, .int x.2.2)] → W p l e rmX8_hold s m args below meth c H locs 0 0 (MQ below (Qi g A (wM g R.2) R.1) args s 0 0 A) (F0 m 52 ls [])) (h : f_X8_hold_86 fu k52 σ x3 x6 y0 = some R) {H : Heap} {locs : List Loc} {ls : Array Slot} (hA : Aw g A s.heap (wM g σ) H locs) (hl : lv_has ls 7 [(0, .ref (g.2.1 0)), (3, .long x3), (6, .int x6)]) : W p l e rmX8_hold s m args below meth c H locs 0 0 (MQ below (Qi g A (wM g R.2) R.1) args s 0 0 A) (F0 m 86 ls [.int y0]) := by
  have hx := C.1.1
  have hb := C.1.2.1
  unfold f_X8_hold_86 at h
  refine lv_iconst (v := 0) hx hb dX8_hold_86 (by decide) ?_
  exact w_X8_hold_87 C hk52 h hA (lv_sub hl [0, 1, 2] rfl)
set_option maxHeartbeats 4000000 in
set_option maxRecDepth 100000 in
theorem w_X8_hold_52 {σ : SS} {x3 : Int64} {x5 : Int32} {x6 : Int32} (C : Cx p l s m args meth c cX8_hold 7 wsX8_hold (some .int) RX8 g A) {k52 : SS → (Int64 × Int32 × Int32) → Option (Int32 × SS)} (hk52 : ∀ (σ : SS) (x : Int64 × Int32 × Int32), k52 σ x = some R → ∀ (H : Heap) (locs : List Loc) (ls : Array Slot), Aw g A s.heap (wM g σ) H locs → lv_has ls 7 [(0, .ref (g.2.1 0)), (3, .long x.1), (5, .int x.2.1), (6, .int x.2.2)] → W p l e rmX8_hold s m args below meth c H locs 0 0 (MQ below (Qi g A (wM g R.2) R.1) args s 0 0 A) (F0 m 52 ls [])) (h : f_X8_hold_52 fu k52 σ x3 x5 x6 = some R) {H : Heap} {locs : List Loc} {ls : Array Slot} (hA : Aw g A s.heap (wM g σ) H locs) (hl : lv_has ls 7 [(0, .ref (g.2.1 0)), (3, .long x3), (5, .int x5), (6, .int x6)]) : W p l e rmX8_hold s m args below meth c H locs 0 0 (MQ below (Qi g A (wM g R.2) R.1) args s 0 0 A) (F0 m 52 ls []) := by
  have hx := C.1.1
  have hb := C.1.2.1
  unfold f_X8_hold_52 at h
  refine lv_iload hx hb dX8_hold_52 (lv_at hl 3 rfl) ?_
  refine lv_aload_n hx hb dX8_hold_54 rfl (lv_at hl 0 rfl) ?_
  refine Mg_X8_chiefs (v := (σ.1 4)) C hA rfl iX8_hold_X8 (by decide +kernel) dX8_hold_55 ?_
  refine lv_icmp_ge (tgt := 96) hx hb dX8_hold_58 (by decide) (fun c1 => ?_) (fun c1 => ?_)
  · replace h := (if_pos c1).symm.trans h
    refine lv_iload hx hb dX8_hold_96 (lv_at hl 2 rfl) ?_
    obtain rfl := Option.some.inj h
    exact r_iret C hA dX8_hold_98
  · replace h := (if_neg c1).symm.trans h
    refine lv_iload hx hb dX8_hold_61 (lv_at hl 2 rfl) ?_
    refine lv_aload_n hx hb dX8_hold_63 rfl (lv_at hl 0 rfl) ?_
    refine Mg_X8_isSeen C hA iX8_hold_X8 (by decide +kernel) dX8_hold_64 ?_
    refine lv_iload hx hb dX8_hold_67 (lv_at hl 3 rfl) ?_
    obtain ⟨g2, h⟩ := gd h
    refine Mld_28 (v := (σ.2.1 28 (x6).toNatClampNeg)) C hA rfl g2 dX8_hold_69 ?_
    refine lv_if_eq (tgt := 86) hx hb dX8_hold_70 (by decide) (fun c3 => ?_) (fun c3 => ?_)
    · replace h := (if_pos c3).symm.trans h
      exact w_X8_hold_86 C hk52 h hA (lv_sub hl [0, 1, 3] rfl)
    · replace h := (if_neg c3).symm.trans h
      refine lv_lload_n hx hb dX8_hold_73 rfl (lv_at hl 1 rfl) ?_
      refine lv_lconst (v := 0) hx hb dX8_hold_74 (by decide) ?_
      refine W.lcmp hx hb dX8_hold_75 ?_
      refine lv_if_lt (tgt := 86) hx hb dX8_hold_76 (by decide) (fun c4 => ?_) (fun c4 => ?_)
      · replace h := (if_pos c4).symm.trans h
        exact w_X8_hold_86 C hk52 h hA (lv_sub hl [0, 1, 3] rfl)
      · replace h := (if_neg c4).symm.trans h
        refine lv_iconst (v := 1) hx hb dX8_hold_79 (by decide) ?_
        refine lv_iload hx hb dX8_hold_80 (lv_at hl 3 rfl) ?_
        refine lv_ishl hx hb dX8_hold_82 ?_
        refine lv_goto (tgt := 87) hx hb dX8_hold_83 (by decide) ?_
        exact w_X8_hold_87 C hk52 h hA (lv_sub hl [0, 1, 3] rfl)
set_option maxHeartbeats 4000000 in
theorem w_X8_hold_L52 {σ : SS} {x : Int64 × Int32 × Int32} (C : Cx p l s m args meth c cX8_hold 7 wsX8_hold (some .int) RX8 g A) (h : f_X8_hold_L52 fu σ x = some R) {H : Heap} {locs : List Loc} {ls : Array Slot} (hA : Aw g A s.heap (wM g σ) H locs) (hl : lv_has ls 7 [(0, .ref (g.2.1 0)), (3, .long x.1), (5, .int x.2.1), (6, .int x.2.2)]) : W p l e rmX8_hold s m args below meth c H locs 0 0 (MQ below (Qi g A (wM g R.2) R.1) args s 0 0 A) (F0 m 52 ls []) := by
  refine loopW (P := fun σ x => ∀ (H : Heap) (locs : List Loc) (ls : Array Slot), Aw g A s.heap (wM g σ) H locs → lv_has ls 7 [(0, .ref (g.2.1 0)), (3, .long x.1), (5, .int x.2.1), (6, .int x.2.2)] → W p l e rmX8_hold s m args below meth c H locs 0 0 (MQ below (Qi g A (wM g R.2) R.1) args s 0 0 A) (F0 m 52 ls [])) (fun k hk σ x h9 H locs ls hA9 hl9 => ?_) fu σ x h H locs ls hA hl
  exact w_X8_hold_52 C hk h9 hA9 hl9
set_option maxHeartbeats 4000000 in
set_option maxRecDepth 100000 in
theorem w_X8_hold_19 {σ : SS} {x1 : Int32} {x2 : Int32} {y0 : Int32} (C : Cx p l s m args meth c cX8_hold 7 wsX8_hold (some .int) RX8 g A) (h : f_X8_hold_19 fu σ x1 x2 y0 = some R) {H : Heap} {locs : List Loc} {ls : Array Slot} (hA : Aw g A s.heap (wM g σ) H locs) (hl : lv_has ls 7 [(0, .ref (g.2.1 0)), (1, .int x1), (2, .int x2)]) : W p l e rmX8_hold s m args below meth c H locs 0 0 (MQ below (Qi g A (wM g R.2) R.1) args s 0 0 A) (F0 m 19 ls [.int y0, .ref (g.2.1 0)]) := by
  have hx := C.1.1
  have hb := C.1.2.1
  unfold f_X8_hold_19 at h
  refine lv_iconst (v := 1) hx hb dX8_hold_19 (by decide) ?_
  obtain ⟨r1, t3, hc2, h⟩ := bd h
  refine r_callVi (r := r1) (w1 := wM g t3) (As := [.int y0, .int (1 : Int32)]) (rest := []) C hA hl.1 (k_X8_bad C.2.2.2.2.2.2 hc2) (cwV 2 C.1.2.2.2.2 gX8_hold_X8_bad rfl rfl rfl nd_X8_bad ⟨Nat.le_of_ble_eq_true rfl, Nat.le_of_ble_eq_true rfl⟩) 0 rfl rfl rfl rfl (Nat.le_of_ble_eq_true rfl) dX8_hold_20 ⟨Nat.le_of_ble_eq_true rfl, Nat.le_of_ble_eq_true rfl⟩ (fun H locs hA => ?_)
  refine lv_if_eq (tgt := 28) hx hb dX8_hold_23 (by decide) (fun c4 => ?_) (fun c4 => ?_)
  · replace h := (if_pos c4).symm.trans h
    refine lv_aload_n hx hb dX8_hold_28 rfl (lv_at hl 0 rfl) ?_
    refine Mg_X8_isDead C hA iX8_hold_X8 (by decide +kernel) dX8_hold_29 ?_
    refine lv_iload_n hx hb dX8_hold_32 rfl (lv_at hl 1 rfl) ?_
    obtain ⟨g5, h⟩ := gd h
    refine Mld_3 (v := (t3.2.1 3 (x1).toNatClampNeg)) C hA rfl g5 dX8_hold_33 ?_
    refine lv_if_eq (tgt := 39) hx hb dX8_hold_34 (by decide) (fun c6 => ?_) (fun c6 => ?_)
    · replace h := (if_pos c6).symm.trans h
      refine lv_aload_n hx hb dX8_hold_39 rfl (lv_at hl 0 rfl) ?_
      refine lv_iload_n hx hb dX8_hold_40 rfl (lv_at hl 1 rfl) ?_
      refine lv_iload_n hx hb dX8_hold_41 rfl (lv_at hl 2 rfl) ?_
      obtain ⟨r7, t9, hc8, h⟩ := bd h
      refine r_callVl (r := r7) (w1 := wM g t9) (As := [.int x1, .int x2]) (rest := []) C hA hl.1 (k_X8_gathers C.2.2.2.2.2.2 hc8) (cwV 2 C.1.2.2.2.2 gX8_hold_X8_gathers rfl rfl rfl nd_X8_gathers ⟨Nat.le_of_ble_eq_true rfl, Nat.le_of_ble_eq_true rfl⟩) 0 rfl rfl rfl rfl (Nat.le_of_ble_eq_true rfl) dX8_hold_42 ⟨Nat.le_of_ble_eq_true rfl, Nat.le_of_ble_eq_true rfl⟩ (fun H locs hA => ?_)
      refine lv_lstore_n (lv' := [(3, .long r7), (0, .ref (g.2.1 0)), (1, .int x1), (2, .int x2)]) hx hb dX8_hold_45 rfl hl (by decide) rfl (fun ls hl => ?_)
      refine lv_iconst (v := 0) hx hb dX8_hold_46 (by decide) ?_
      refine lv_istore (lv' := [(5, .int (0 : Int32)), (3, .long r7), (0, .ref (g.2.1 0)), (1, .int x1), (2, .int x2)]) hx hb dX8_hold_47 hl (by decide) rfl (fun ls hl => ?_)
      refine lv_iconst (v := 0) hx hb dX8_hold_49 (by decide) ?_
      refine lv_istore (lv' := [(6, .int (0 : Int32)), (5, .int (0 : Int32)), (3, .long r7), (0, .ref (g.2.1 0)), (1, .int x1), (2, .int x2)]) hx hb dX8_hold_50 hl (by decide) rfl (fun ls hl => ?_)
      exact w_X8_hold_L52 C h hA (lv_sub hl [3, 2, 1, 0] rfl)
    · replace h := (if_neg c6).symm.trans h
      refine lv_iconst (v := (-1)) hx hb dX8_hold_37 (by decide) ?_
      obtain rfl := Option.some.inj h
      exact r_iret C hA dX8_hold_38
  · replace h := (if_neg c4).symm.trans h
    refine lv_iconst (v := 0) hx hb dX8_hold_26 (by decide) ?_
    obtain rfl := Option.some.inj h
    exact r_iret C hA dX8_hold_27
set_option maxHeartbeats 4000000 in
set_option maxRecDepth 100000 in
theorem w_X8_hold_0 {σ : SS} {x1 : Int32} {x2 : Int32} (C : Cx p l s m args meth c cX8_hold 7 wsX8_hold (some .int) RX8 g A) (h : f_X8_hold fu σ x1 x2 = some R) {H : Heap} {locs : List Loc} {ls : Array Slot} (hA : Aw g A s.heap (wM g σ) H locs) (hl : lv_has ls 7 [(0, .ref (g.2.1 0)), (1, .int x1), (2, .int x2)]) : W p l e rmX8_hold s m args below meth c H locs 0 0 (MQ below (Qi g A (wM g R.2) R.1) args s 0 0 A) (F0 m 0 ls []) := by
  have hx := C.1.1
  have hb := C.1.2.1
  unfold f_X8_hold at h
  refine lv_aload_n hx hb dX8_hold_0 rfl (lv_at hl 0 rfl) ?_
  refine lv_iconst (v := 0) hx hb dX8_hold_1 (by decide) ?_
  refine Mp_X8_thrown C hA iX8_hold_X8 (by decide +kernel) dX8_hold_2 (fun H locs hA => ?_)
  refine lv_aload_n hx hb dX8_hold_5 rfl (lv_at hl 0 rfl) ?_
  refine lv_aload_n hx hb dX8_hold_6 rfl (lv_at hl 0 rfl) ?_
  refine lv_iload_n hx hb dX8_hold_7 rfl (lv_at hl 1 rfl) ?_
  obtain ⟨r1, hc2, h⟩ := bd1 h
  refine r_callVi (r := r1) (w1 := wM g (sI σ 0 (0 : Int32))) (As := [.int x1]) (rest := [.ref (g.2.1 0)]) C hA hl.1 (k_X8_isChief C.2.2.2.2.2.2 hc2) (cwV 1 C.1.2.2.2.2 gX8_hold_X8_isChief rfl rfl rfl nd_X8_isChief ⟨Nat.le_of_ble_eq_true rfl, Nat.le_of_ble_eq_true rfl⟩) 0 rfl rfl rfl rfl (Nat.le_of_ble_eq_true rfl) dX8_hold_8 ⟨Nat.le_of_ble_eq_true rfl, Nat.le_of_ble_eq_true rfl⟩ (fun H locs hA => ?_)
  refine lv_if_ne (tgt := 18) hx hb dX8_hold_11 (by decide) (fun c3 => ?_) (fun c3 => ?_)
  · replace h := (if_neg c3).symm.trans h
    refine lv_iconst (v := 0) hx hb dX8_hold_18 (by decide) ?_
    exact w_X8_hold_19 C h hA (lv_sub hl [0, 1, 2] rfl)
  · replace h := (if_pos c3).symm.trans h
    refine lv_iconst (v := 1) hx hb dX8_hold_14 (by decide) ?_
    refine lv_goto (tgt := 19) hx hb dX8_hold_15 (by decide) ?_
    exact w_X8_hold_19 C h hA (lv_sub hl [0, 1, 2] rfl)
end
set_option maxRecDepth 100000 in
theorem k_X8_hold {l : Launch} {g : Gm} {fu : Nat} {σ : SS} {x1 : Int32} {x2 : Int32} {R : Int32 × SS} (hlt : l.stackTraces = false) (h : f_X8_hold fu σ x1 x2 = some R) (sz : Nat) : Met l yX8_hold wsX8_hold rmX8_hold (Pw g (wM g σ) [.ref (g.2.1 0), .int x1, .int x2] sz) (Qi g (va_A (wM g σ) sz) (wM g R.2) R.1) 0 0 (va_A (wM g σ) sz) :=
  ofM (own := RX8) hlt (by decide) rfl rfl (Nat.le_of_ble_eq_true rfl) (fun p e s m below meth c hsz C hA ls hl => w_X8_hold_0 C h hA hl)
abbrev rmX8_count : Room := { frames := 0, cells := 0, slots := 0, locals := 0 }
theorem iX8_count_X8 : ∀ x ∈ wsX80, x ∈ wsX8_count := by decide +kernel
theorem nd_X8_count : yX8_count.cls = RX8 ∧ yX8_count.cls ≠ "java/lang/invoke/MethodHandle" ∧ yX8_count.cls ≠ "java/lang/invoke/VarHandle" ∧ (parseMethodDescriptor yX8_count.desc).map (fun d => d.parameters.length) = some 1 := by decide +kernel
def f_X8_count_92 (fu : Nat) (k67 : SS → (Int32 × Int32) → Option (Int32 × SS)) (σ : SS) (x3 : Int32) (y0 : Int32) (y1 : Int32) : Option (Int32 × SS) :=
  k67 σ ((y1 + y0), (x3 + 1))
def f_X8_count_67 (fu : Nat) (k67 : SS → (Int32 × Int32) → Option (Int32 × SS)) (σ : SS) (x2 : Int32) (x3 : Int32) : Option (Int32 × SS) :=
  (if (σ.1 20) ≤ x3 then some (x2, σ) else if inB x3 400 then (if (lg_cmp (σ.2.2 17 (x3).toNatClampNeg) (0 : Int64)) ≤ 0 then f_X8_count_92 fu k67 σ x3 (0 : Int32) x2 else f_X8_count_92 fu k67 σ x3 (1 : Int32) x2) else none)
def f_X8_count_L67 (fu : Nat) : SS → (Int32 × Int32) → Option (Int32 × SS) := loopN (fun k67 σ x => f_X8_count_67 fu k67 σ x.1 x.2) fu
def f_X8_count (fu : Nat) (σ : SS) (x1 : Int32) : Option (Int32 × SS) :=
  (if x1 = 0 then some ((σ.1 4), (sI σ 0 (0 : Int32))) else (if x1 = 1 then some ((σ.1 14), (sI σ 0 (0 : Int32))) else (if x1 = 2 then some ((σ.1 20), (sI σ 0 (0 : Int32))) else (if x1 = 3 then f_X8_count_L67 fu (sI σ 0 (0 : Int32)) ((0 : Int32), (0 : Int32)) else (if x1 = 4 then some ((σ.1 24), (sI σ 0 (0 : Int32))) else (if x1 = 5 then some ((σ.1 5), (sI σ 0 (0 : Int32))) else (if x1 = 6 then some ((σ.1 7), (sI σ 0 (0 : Int32))) else some ((-1), (sI σ 0 (0 : Int32))))))))))
section
variable {p : Program} {l : Launch} {e : Env} {s : State} {m : MethodId} {args : Array Value} {below : List Frame} {meth : Method} {c : Code} {g : Gm} {A : Nat → Prop} {fu : Nat} {R : Int32 × SS}
set_option maxHeartbeats 4000000 in
set_option maxRecDepth 100000 in
theorem w_X8_count_92 {σ : SS} {x3 : Int32} {y0 : Int32} {y1 : Int32} (C : Cx p l s m args meth c cX8_count 4 wsX8_count (some .int) RX8 g A) {k67 : SS → (Int32 × Int32) → Option (Int32 × SS)} (hk67 : ∀ (σ : SS) (x : Int32 × Int32), k67 σ x = some R → ∀ (H : Heap) (locs : List Loc) (ls : Array Slot), Aw g A s.heap (wM g σ) H locs → lv_has ls 4 [(0, .ref (g.2.1 0)), (2, .int x.1), (3, .int x.2)] → W p l e rmX8_count s m args below meth c H locs 0 0 (MQ below (Qi g A (wM g R.2) R.1) args s 0 0 A) (F0 m 67 ls [])) (h : f_X8_count_92 fu k67 σ x3 y0 y1 = some R) {H : Heap} {locs : List Loc} {ls : Array Slot} (hA : Aw g A s.heap (wM g σ) H locs) (hl : lv_has ls 4 [(0, .ref (g.2.1 0)), (3, .int x3)]) : W p l e rmX8_count s m args below meth c H locs 0 0 (MQ below (Qi g A (wM g R.2) R.1) args s 0 0 A) (F0 m 92 ls [.int y0, .int y1]) := by
  have hx := C.1.1
  have hb := C.1.2.1
  unfold f_X8_count_92 at h
  refine lv_iadd hx hb dX8_count_92 ?_
  refine lv_istore_n (lv' := [(2, .int (y1 + y0)), (0, .ref (g.2.1 0)), (3, .int x3)]) hx hb dX8_count_93 rfl hl (by decide) rfl (fun ls hl => ?_)
  refine lv_iinc (v := (x3 + 1)) (lv' := [(3, .int (x3 + 1)), (2, .int (y1 + y0)), (0, .ref (g.2.1 0))]) hx hb dX8_count_94 hl (k := 2) rfl rfl (by decide) rfl (fun ls hl => ?_)
  refine lv_goto (tgt := 67) hx hb dX8_count_97 (by decide) ?_
  exact hk67 _ _ h _ _ _ hA (lv_sub hl [2, 1, 0] rfl)
set_option maxHeartbeats 4000000 in
set_option maxRecDepth 100000 in
theorem w_X8_count_67 {σ : SS} {x2 : Int32} {x3 : Int32} (C : Cx p l s m args meth c cX8_count 4 wsX8_count (some .int) RX8 g A) {k67 : SS → (Int32 × Int32) → Option (Int32 × SS)} (hk67 : ∀ (σ : SS) (x : Int32 × Int32), k67 σ x = some R → ∀ (H : Heap) (locs : List Loc) (ls : Array Slot), Aw g A s.heap (wM g σ) H locs → lv_has ls 4 [(0, .ref (g.2.1 0)), (2, .int x.1), (3, .int x.2)] → W p l e rmX8_count s m args below meth c H locs 0 0 (MQ below (Qi g A (wM g R.2) R.1) args s 0 0 A) (F0 m 67 ls [])) (h : f_X8_count_67 fu k67 σ x2 x3 = some R) {H : Heap} {locs : List Loc} {ls : Array Slot} (hA : Aw g A s.heap (wM g σ) H locs) (hl : lv_has ls 4 [(0, .ref (g.2.1 0)), (2, .int x2), (3, .int x3)]) : W p l e rmX8_count s m args below meth c H locs 0 0 (MQ below (Qi g A (wM g R.2) R.1) args s 0 0 A) (F0 m 67 ls []) := by
  have hx := C.1.1
  have hb := C.1.2.1
  unfold f_X8_count_67 at h
  refine lv_iload_n hx hb dX8_count_67 rfl (lv_at hl 2 rfl) ?_
  refine lv_aload_n hx hb dX8_count_68 rfl (lv_at hl 0 rfl) ?_
  refine Mg_X8_debts (v := (σ.1 20)) C hA rfl iX8_count_X8 (by decide +kernel) dX8_count_69 ?_
  refine lv_icmp_ge (tgt := 100) hx hb dX8_count_72 (by decide) (fun c1 => ?_) (fun c1 => ?_)
  · replace h := (if_pos c1).symm.trans h
    refine lv_iload_n hx hb dX8_count_100 rfl (lv_at hl 1 rfl) ?_
    obtain rfl := Option.some.inj h
    exact r_iret C hA dX8_count_101
  · replace h := (if_neg c1).symm.trans h
    refine lv_iload_n hx hb dX8_count_75 rfl (lv_at hl 1 rfl) ?_
    refine lv_aload_n hx hb dX8_count_76 rfl (lv_at hl 0 rfl) ?_
    refine Mg_X8_left C hA iX8_count_X8 (by decide +kernel) dX8_count_77 ?_
    refine lv_iload_n hx hb dX8_count_80 rfl (lv_at hl 2 rfl) ?_
    obtain ⟨g2, h⟩ := gd h
    refine Mld_17 (v := (σ.2.2 17 (x3).toNatClampNeg)) C hA rfl g2 dX8_count_81 ?_
    refine lv_lconst (v := 0) hx hb dX8_count_82 (by decide) ?_
    refine W.lcmp hx hb dX8_count_83 ?_
    refine lv_if_le (tgt := 91) hx hb dX8_count_84 (by decide) (fun c3 => ?_) (fun c3 => ?_)
    · replace h := (if_pos c3).symm.trans h
      refine lv_iconst (v := 0) hx hb dX8_count_91 (by decide) ?_
      exact w_X8_count_92 C hk67 h hA (lv_sub hl [0, 2] rfl)
    · replace h := (if_neg c3).symm.trans h
      refine lv_iconst (v := 1) hx hb dX8_count_87 (by decide) ?_
      refine lv_goto (tgt := 92) hx hb dX8_count_88 (by decide) ?_
      exact w_X8_count_92 C hk67 h hA (lv_sub hl [0, 2] rfl)
set_option maxHeartbeats 4000000 in
theorem w_X8_count_L67 {σ : SS} {x : Int32 × Int32} (C : Cx p l s m args meth c cX8_count 4 wsX8_count (some .int) RX8 g A) (h : f_X8_count_L67 fu σ x = some R) {H : Heap} {locs : List Loc} {ls : Array Slot} (hA : Aw g A s.heap (wM g σ) H locs) (hl : lv_has ls 4 [(0, .ref (g.2.1 0)), (2, .int x.1), (3, .int x.2)]) : W p l e rmX8_count s m args below meth c H locs 0 0 (MQ below (Qi g A (wM g R.2) R.1) args s 0 0 A) (F0 m 67 ls []) := by
  refine loopW (P := fun σ x => ∀ (H : Heap) (locs : List Loc) (ls : Array Slot), Aw g A s.heap (wM g σ) H locs → lv_has ls 4 [(0, .ref (g.2.1 0)), (2, .int x.1), (3, .int x.2)] → W p l e rmX8_count s m args below meth c H locs 0 0 (MQ below (Qi g A (wM g R.2) R.1) args s 0 0 A) (F0 m 67 ls [])) (fun k hk σ x h9 H locs ls hA9 hl9 => ?_) fu σ x h H locs ls hA hl
  exact w_X8_count_67 C hk h9 hA9 hl9
set_option maxHeartbeats 4000000 in
set_option maxRecDepth 100000 in
theorem w_X8_count_0 {σ : SS} {x1 : Int32} (C : Cx p l s m args meth c cX8_count 4 wsX8_count (some .int) RX8 g A) (h : f_X8_count fu σ x1 = some R) {H : Heap} {locs : List Loc} {ls : Array Slot} (hA : Aw g A s.heap (wM g σ) H locs) (hl : lv_has ls 4 [(0, .ref (g.2.1 0)), (1, .int x1)]) : W p l e rmX8_count s m args below meth c H locs 0 0 (MQ below (Qi g A (wM g R.2) R.1) args s 0 0 A) (F0 m 0 ls []) := by
  have hx := C.1.1
  have hb := C.1.2.1
  unfold f_X8_count at h
  refine lv_aload_n hx hb dX8_count_0 rfl (lv_at hl 0 rfl) ?_
  refine lv_iconst (v := 0) hx hb dX8_count_1 (by decide) ?_
  refine Mp_X8_thrown C hA iX8_count_X8 (by decide +kernel) dX8_count_2 (fun H locs hA => ?_)
  refine lv_iload_n hx hb dX8_count_5 rfl (lv_at hl 1 rfl) ?_
  by_cases sw0 : x1 = 0
  · replace h := (if_pos sw0).symm.trans h
    rw [sw0]
    refine lv_tableIn (tgt := 48) hx hb dX8_count_6 (by decide) (by decide) rfl (by decide) ?_
    refine lv_aload_n hx hb dX8_count_48 rfl (lv_at hl 0 rfl) ?_
    refine Mg_X8_chiefs (v := (σ.1 4)) C hA rfl iX8_count_X8 (by decide +kernel) dX8_count_49 ?_
    obtain rfl := Option.some.inj h
    exact r_iret C hA dX8_count_52
  · replace h := (if_neg sw0).symm.trans h
    by_cases sw1 : x1 = 1
    · replace h := (if_pos sw1).symm.trans h
      rw [sw1]
      refine lv_tableIn (tgt := 53) hx hb dX8_count_6 (by decide) (by decide) rfl (by decide) ?_
      refine lv_aload_n hx hb dX8_count_53 rfl (lv_at hl 0 rfl) ?_
      refine Mg_X8_customs (v := (σ.1 14)) C hA rfl iX8_count_X8 (by decide +kernel) dX8_count_54 ?_
      obtain rfl := Option.some.inj h
      exact r_iret C hA dX8_count_57
    · replace h := (if_neg sw1).symm.trans h
      by_cases sw2 : x1 = 2
      · replace h := (if_pos sw2).symm.trans h
        rw [sw2]
        refine lv_tableIn (tgt := 58) hx hb dX8_count_6 (by decide) (by decide) rfl (by decide) ?_
        refine lv_aload_n hx hb dX8_count_58 rfl (lv_at hl 0 rfl) ?_
        refine Mg_X8_debts (v := (σ.1 20)) C hA rfl iX8_count_X8 (by decide +kernel) dX8_count_59 ?_
        obtain rfl := Option.some.inj h
        exact r_iret C hA dX8_count_62
      · replace h := (if_neg sw2).symm.trans h
        by_cases sw3 : x1 = 3
        · replace h := (if_pos sw3).symm.trans h
          rw [sw3]
          refine lv_tableIn (tgt := 63) hx hb dX8_count_6 (by decide) (by decide) rfl (by decide) ?_
          refine lv_iconst (v := 0) hx hb dX8_count_63 (by decide) ?_
          refine lv_istore_n (lv' := [(2, .int (0 : Int32)), (0, .ref (g.2.1 0)), (1, .int x1)]) hx hb dX8_count_64 rfl hl (by decide) rfl (fun ls hl => ?_)
          refine lv_iconst (v := 0) hx hb dX8_count_65 (by decide) ?_
          refine lv_istore_n (lv' := [(3, .int (0 : Int32)), (2, .int (0 : Int32)), (0, .ref (g.2.1 0)), (1, .int x1)]) hx hb dX8_count_66 rfl hl (by decide) rfl (fun ls hl => ?_)
          exact w_X8_count_L67 C h hA (lv_sub hl [2, 1, 0] rfl)
        · replace h := (if_neg sw3).symm.trans h
          by_cases sw4 : x1 = 4
          · replace h := (if_pos sw4).symm.trans h
            rw [sw4]
            refine lv_tableIn (tgt := 102) hx hb dX8_count_6 (by decide) (by decide) rfl (by decide) ?_
            refine lv_aload_n hx hb dX8_count_102 rfl (lv_at hl 0 rfl) ?_
            refine Mg_X8_coppers (v := (σ.1 24)) C hA rfl iX8_count_X8 (by decide +kernel) dX8_count_103 ?_
            obtain rfl := Option.some.inj h
            exact r_iret C hA dX8_count_106
          · replace h := (if_neg sw4).symm.trans h
            by_cases sw5 : x1 = 5
            · replace h := (if_pos sw5).symm.trans h
              rw [sw5]
              refine lv_tableIn (tgt := 107) hx hb dX8_count_6 (by decide) (by decide) rfl (by decide) ?_
              refine lv_aload_n hx hb dX8_count_107 rfl (lv_at hl 0 rfl) ?_
              refine Mg_X8_now (v := (σ.1 5)) C hA rfl iX8_count_X8 (by decide +kernel) dX8_count_108 ?_
              obtain rfl := Option.some.inj h
              exact r_iret C hA dX8_count_111
            · replace h := (if_neg sw5).symm.trans h
              by_cases sw6 : x1 = 6
              · replace h := (if_pos sw6).symm.trans h
                rw [sw6]
                refine lv_tableIn (tgt := 112) hx hb dX8_count_6 (by decide) (by decide) rfl (by decide) ?_
                refine lv_aload_n hx hb dX8_count_112 rfl (lv_at hl 0 rfl) ?_
                refine Mg_X8_taped (v := (σ.1 7)) C hA rfl iX8_count_X8 (by decide +kernel) dX8_count_113 ?_
                obtain rfl := Option.some.inj h
                exact r_iret C hA dX8_count_116
              · replace h := (if_neg sw6).symm.trans h
                refine lv_tableOut (tgt := 117) hx hb dX8_count_6 (sw_out6 sw0 sw1 sw2 sw3 sw4 sw5 sw6) (by decide) ?_
                refine lv_iconst (v := (-1)) hx hb dX8_count_117 (by decide) ?_
                obtain rfl := Option.some.inj h
                exact r_iret C hA dX8_count_118
end
set_option maxRecDepth 100000 in
theorem k_X8_count {l : Launch} {g : Gm} {fu : Nat} {σ : SS} {x1 : Int32} {R : Int32 × SS} (hlt : l.stackTraces = false) (h : f_X8_count fu σ x1 = some R) (sz : Nat) : Met l yX8_count wsX8_count rmX8_count (Pw g (wM g σ) [.ref (g.2.1 0), .int x1] sz) (Qi g (va_A (wM g σ) sz) (wM g R.2) R.1) 0 0 (va_A (wM g σ) sz) :=
  ofM (own := RX8) hlt (by decide) rfl rfl (Nat.le_of_ble_eq_true rfl) (fun p e s m below meth c hsz C hA ls hl => w_X8_count_0 C h hA hl)
