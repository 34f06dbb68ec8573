theorem lgc (x : Int64) : lg_cmp x x = 0 := by
  unfold lg_cmp
  simp
theorem Aw_as {g : Gm} {A : Nat → Prop} {H0 H : Heap} {a b c : va_W} {locs : List Loc} (h : Aw g A H0 ((a ++ b) ++ c) H locs) : Aw g A H0 (a ++ (b ++ c)) H locs := by
  rw [← List.append_assoc]; exact h
theorem Aw_sa {g : Gm} {A : Nat → Prop} {H0 H : Heap} {a b c : va_W} {locs : List Loc} (h : Aw g A H0 (a ++ (b ++ c)) H locs) : Aw g A H0 ((a ++ b) ++ c) H locs := by
  rw [List.append_assoc]; exact h
/-- what stands behind a case: the loop's step -/
def Kont (p : Program) (l : Launch) (e : Env) (s : State) (m : MethodId) (args : Array Value) (below : List Frame) (meth : Method) (c : Code) (Q : State → Prop) (g : Gm) (A : Nat → Prop) (Rel : SS → SS → Prop) (b o : Nat) (u : Nat → Nat) (x4 : Int32) (cells slots : Nat) : Prop :=
  ∀ (σ τ : SS) (f : Nat → Int64) (H : Heap) (locs : List Loc) (ls : Array Slot), Rel σ τ → Aw g A s.heap ((wX g σ ++ oc g o f) ++ wM (gq g u) τ) H locs → lv_has ls 8 [(0, .ref b), (1, .ref (g.2.1 0)), (2, .ref (u 0)), (3, .ref o), (4, .int x4)] → W p l e room_1 s m args below meth c H locs cells slots Q (F0 m 1387 ls [])
section
variable {p : Program} {l : Launch} {e : Env} {s : State} {m : MethodId} {args : Array Value} {below : List Frame} {meth : Method} {c : Code} {Q : State → Prop} {g : Gm} {A : Nat → Prop} {fu : Nat} {Rel : SS → SS → Prop} {b o L : Nat} {xs : Nat → Int32} {u : Nat → Nat} {f : Nat → Int64} {x4 : Int32} {σ τ : SS} {H : Heap} {locs : List Loc} {ls : Array Slot} {cells slots : Nat}
set_option maxHeartbeats 4000000 in
set_option maxRecDepth 100000 in
theorem law_c0 (SIM : Sim_chief fu Rel) (C : Cx p l s m args meth c code 8 wsL_law ret RL g A) (hX : va_X b L xs s s.heap) (hbl : b < s.heap.size) (hbA : ¬ A b) (hRel0 : Rel σ τ) (hrc : cells + 1 ≤ 601024) (hrs : slots + 6 ≤ 7293034) (h1 : vp_in (x4 + 1) L) (h2 : vp_in (x4 + 2) L) (h3 : vp_in (x4 + 3) L) (h4 : vp_in (x4 + 4) L) (h5 : vp_in (x4 + 5) L) (hA : Aw g A s.heap ((wX g σ ++ oc g o f) ++ wM (gq g u) τ) H locs) (hl : lv_has ls 8 [(0, .ref b), (1, .ref (g.2.1 0)), (2, .ref (u 0)), (3, .ref o), (4, .int x4)]) (hk : Kont p l e s m args below meth c Q g A Rel b o u x4 (cells + 1) (slots + 6)) : W p l e room_1 s m args below meth c H locs cells slots Q (F0 m 140 ls []) := by
  have hx := C.1.1
  have hb := C.1.2.1
  rcases SIM σ τ hRel0 (xs (x4 + 1).toNatClampNeg) with ⟨v, σ', τ', hf1, hf2, ht, hRel⟩ | ⟨v, σ', τ', hf1, hf2, ht, hRel⟩ | ⟨v, σ', τ', hf1, hf2, ht, hRel⟩
  · refine lv_aload_n hx hb dL_law_140 rfl (lv_at hl 1 rfl) ?_
    refine lv_aload_n hx hb dL_law_141 rfl (lv_at hl 0 rfl) ?_
    refine lv_iload hx hb dL_law_142 (lv_at hl 4 rfl) ?_
    refine lv_iconst (v := 1) hx hb dL_law_144 (by decide) ?_
    refine lv_iadd hx hb dL_law_145 ?_
    refine va_sld hx hb hX hbl hbA hA.2.2 h1 dL_law_146 ?_
    refine lv_aload_n hx hb dL_law_147 rfl (lv_at hl 3 rfl) ?_
    refine r_fSW (r := 0) (w := (wX g σ ++ oc g o f)) (w1 := (wX g σ' ++ oc g o (vp_updL f (0 : Int32).toNatClampNeg v.toInt64))) (wr := wM (gq g u) τ) (As := [.ref (g.2.1 0), .int (xs (x4 + 1).toNatClampNeg), .ref o]) (rest := []) C hA hl.1 (k_L_chief C.2.2.2.2.2.2 hf1) (vx_cwSW 3 C.1.2.2.2.2 gL_law_L_chief rfl rfl rfl nd_L_chief ⟨Nat.le_of_ble_eq_true rfl, Nat.le_of_ble_eq_true rfl⟩) rfl rfl (Nat.le_of_ble_eq_true rfl) dL_law_148 ⟨by show cells + 1 ≤ 601024; omega, by show slots + 6 ≤ 7293034; omega⟩ (fun H locs hA => ?_)
    refine lv_istore (lv' := [(5, .int 0), (0, .ref b), (1, .ref (g.2.1 0)), (2, .ref (u 0)), (3, .ref o), (4, .int x4)]) hx hb dL_law_151 hl (by decide) rfl (fun ls hl => ?_)
    refine lv_aload_n hx hb dL_law_153 rfl (lv_at hl 3 rfl) ?_
    refine lv_aload_n hx hb dL_law_154 rfl (lv_at hl 1 rfl) ?_
    refine lv_iload hx hb dL_law_155 (lv_at hl 5 rfl) ?_
    refine lv_iconst (v := 1) hx hb dL_law_157 (by decide) ?_
    refine lv_iadd hx hb dL_law_158 ?_
    refine va_sld hx hb hX hbl hbA hA.2.2 h1 dL_law_159 ?_
    replace hA := Aw_swap hA
    refine r_fVi (r := v) (w := wM (gq g u) τ) (w1 := wM (gq g u) τ') (wr := wX g σ' ++ oc g o (vp_updL f (0 : Int32).toNatClampNeg v.toInt64)) (As := [.int (xs (x4 + 1).toNatClampNeg)]) (rest := []) C hA hl.1 (k_X8_chief (g := gq g u) C.2.2.2.2.2.2 hf2) (cwV 1 C.1.2.2.2.2 gL_law_X8_chief rfl rfl rfl nd_X8_chief ⟨Nat.le_of_ble_eq_true rfl, Nat.le_of_ble_eq_true rfl⟩) 0 rfl rfl rfl rfl (Nat.le_of_ble_eq_true rfl) dL_law_160 ⟨by show _ ≤ 601024; omega, by show _ ≤ 7293034; omega⟩ (fun H locs hA => ?_)
    replace hA := Aw_swap hA
    refine lv_istore (lv' := [(6, .int v), (5, .int 0), (0, .ref b), (1, .ref (g.2.1 0)), (2, .ref (u 0)), (3, .ref o), (4, .int x4)]) hx hb dL_law_163 hl (by decide) rfl (fun ls hl => ?_)
    refine lv_aload_n hx hb dL_law_165 rfl (lv_at hl 4 rfl) ?_
    replace hA := Aw_swap hA
    refine r_fVi (r := (τ'.1 0)) (w := wM (gq g u) τ') (w1 := wM (gq g u) τ') (wr := wX g σ' ++ oc g o (vp_updL f (0 : Int32).toNatClampNeg v.toInt64)) (As := []) (rest := []) C hA hl.1 (k_X8_thrown (g := gq g u) (fu := fu) C.2.2.2.2.2.2 rfl) (cwV 0 C.1.2.2.2.2 gL_law_X8_thrown rfl rfl rfl nd_X8_thrown ⟨Nat.le_of_ble_eq_true rfl, Nat.le_of_ble_eq_true rfl⟩) 0 rfl rfl rfl rfl (Nat.le_of_ble_eq_true rfl) dL_law_166 ⟨by show _ ≤ 601024; omega, by show _ ≤ 7293034; omega⟩ (fun H locs hA => ?_)
    replace hA := Aw_swap hA
    refine lv_iload hx hb dL_law_169 (lv_at hl 1 rfl) ?_
    refine lv_icmp_eq (tgt := 176) hx hb dL_law_171 (by decide) (fun c1 => ?_) (fun c1 => absurd ht c1)
    refine lv_iload hx hb dL_law_176 (lv_at hl 1 rfl) ?_
    refine lv_if_ne (tgt := 193) hx hb dL_law_178 (by decide) (fun c1 => absurd rfl c1) (fun c1 => ?_)
    refine lv_aload_n hx hb dL_law_181 rfl (lv_at hl 5 rfl) ?_
    refine lv_iconst (v := 0) hx hb dL_law_182 (by decide) ?_
    refine r_lald C hA 44 1 rfl rfl (by decide) dL_law_183 ?_
    rw [pk_uLs]
    refine lv_iload hx hb dL_law_184 (lv_at hl 0 rfl) ?_
    refine lv_i2l (v := v.toInt64) hx hb dL_law_186 rfl ?_
    refine W.lcmp hx hb dL_law_187 ?_
    refine lv_if_eq (tgt := 193) hx hb dL_law_188 (by decide) (fun c1 => ?_) (fun c1 => absurd (lgc _) c1)
    refine lv_goto (tgt := 1387) hx hb dL_law_193 (by decide) ?_
    refine W.widen (k := cells + 1) (n := slots + 6) (by show _ ≤ cells + 1; omega) (by show _ ≤ slots + 6; omega) ?_
    exact hk _ _ _ _ _ _ hRel hA (lv_sub hl [2, 3, 4, 5, 6] rfl)
  · refine lv_aload_n hx hb dL_law_140 rfl (lv_at hl 1 rfl) ?_
    refine lv_aload_n hx hb dL_law_141 rfl (lv_at hl 0 rfl) ?_
    refine lv_iload hx hb dL_law_142 (lv_at hl 4 rfl) ?_
    refine lv_iconst (v := 1) hx hb dL_law_144 (by decide) ?_
    refine lv_iadd hx hb dL_law_145 ?_
    refine va_sld hx hb hX hbl hbA hA.2.2 h1 dL_law_146 ?_
    refine lv_aload_n hx hb dL_law_147 rfl (lv_at hl 3 rfl) ?_
    refine r_fSW (r := 1) (w := (wX g σ ++ oc g o f)) (w1 := (wX g σ' ++ oc g o f)) (wr := wM (gq g u) τ) (As := [.ref (g.2.1 0), .int (xs (x4 + 1).toNatClampNeg), .ref o]) (rest := []) C hA hl.1 (k_L_chief_t0 C.2.2.2.2.2.2 hf1) (vx_cwSW 3 C.1.2.2.2.2 gL_law_L_chief rfl rfl rfl nd_L_chief ⟨Nat.le_of_ble_eq_true rfl, Nat.le_of_ble_eq_true rfl⟩) rfl rfl (Nat.le_of_ble_eq_true rfl) dL_law_148 ⟨by show cells + 1 ≤ 601024; omega, by show slots + 6 ≤ 7293034; omega⟩ (fun H locs hA => ?_)
    refine lv_istore (lv' := [(5, .int 1), (0, .ref b), (1, .ref (g.2.1 0)), (2, .ref (u 0)), (3, .ref o), (4, .int x4)]) hx hb dL_law_151 hl (by decide) rfl (fun ls hl => ?_)
    refine lv_aload_n hx hb dL_law_153 rfl (lv_at hl 3 rfl) ?_
    refine lv_aload_n hx hb dL_law_154 rfl (lv_at hl 1 rfl) ?_
    refine lv_iload hx hb dL_law_155 (lv_at hl 5 rfl) ?_
    refine lv_iconst (v := 1) hx hb dL_law_157 (by decide) ?_
    refine lv_iadd hx hb dL_law_158 ?_
    refine va_sld hx hb hX hbl hbA hA.2.2 h1 dL_law_159 ?_
    replace hA := Aw_swap hA
    refine r_fVi (r := v) (w := wM (gq g u) τ) (w1 := wM (gq g u) τ') (wr := wX g σ' ++ oc g o f) (As := [.int (xs (x4 + 1).toNatClampNeg)]) (rest := []) C hA hl.1 (k_X8_chief (g := gq g u) C.2.2.2.2.2.2 hf2) (cwV 1 C.1.2.2.2.2 gL_law_X8_chief rfl rfl rfl nd_X8_chief ⟨Nat.le_of_ble_eq_true rfl, Nat.le_of_ble_eq_true rfl⟩) 0 rfl rfl rfl rfl (Nat.le_of_ble_eq_true rfl) dL_law_160 ⟨by show _ ≤ 601024; omega, by show _ ≤ 7293034; omega⟩ (fun H locs hA => ?_)
    replace hA := Aw_swap hA
    refine lv_istore (lv' := [(6, .int v), (5, .int 1), (0, .ref b), (1, .ref (g.2.1 0)), (2, .ref (u 0)), (3, .ref o), (4, .int x4)]) hx hb dL_law_163 hl (by decide) rfl (fun ls hl => ?_)
    refine lv_aload_n hx hb dL_law_165 rfl (lv_at hl 4 rfl) ?_
    replace hA := Aw_swap hA
    refine r_fVi (r := (τ'.1 0)) (w := wM (gq g u) τ') (w1 := wM (gq g u) τ') (wr := wX g σ' ++ oc g o f) (As := []) (rest := []) C hA hl.1 (k_X8_thrown (g := gq g u) (fu := fu) C.2.2.2.2.2.2 rfl) (cwV 0 C.1.2.2.2.2 gL_law_X8_thrown rfl rfl rfl nd_X8_thrown ⟨Nat.le_of_ble_eq_true rfl, Nat.le_of_ble_eq_true rfl⟩) 0 rfl rfl rfl rfl (Nat.le_of_ble_eq_true rfl) dL_law_166 ⟨by show _ ≤ 601024; omega, by show _ ≤ 7293034; omega⟩ (fun H locs hA => ?_)
    replace hA := Aw_swap hA
    refine lv_iload hx hb dL_law_169 (lv_at hl 1 rfl) ?_
    refine lv_icmp_eq (tgt := 176) hx hb dL_law_171 (by decide) (fun c1 => ?_) (fun c1 => absurd ht c1)
    refine lv_iload hx hb dL_law_176 (lv_at hl 1 rfl) ?_
    refine lv_if_ne (tgt := 193) hx hb dL_law_178 (by decide) (fun c1 => ?_) (fun c1 => absurd c1 (by decide))
    refine lv_goto (tgt := 1387) hx hb dL_law_193 (by decide) ?_
    refine W.widen (k := cells + 1) (n := slots + 6) (by show _ ≤ cells + 1; omega) (by show _ ≤ slots + 6; omega) ?_
    exact hk _ _ _ _ _ _ hRel hA (lv_sub hl [2, 3, 4, 5, 6] rfl)
  · refine lv_aload_n hx hb dL_law_140 rfl (lv_at hl 1 rfl) ?_
    refine lv_aload_n hx hb dL_law_141 rfl (lv_at hl 0 rfl) ?_
    refine lv_iload hx hb dL_law_142 (lv_at hl 4 rfl) ?_
    refine lv_iconst (v := 1) hx hb dL_law_144 (by decide) ?_
    refine lv_iadd hx hb dL_law_145 ?_
    refine va_sld hx hb hX hbl hbA hA.2.2 h1 dL_law_146 ?_
    refine lv_aload_n hx hb dL_law_147 rfl (lv_at hl 3 rfl) ?_
    refine r_fSW (r := 2) (w := (wX g σ ++ oc g o f)) (w1 := (wX g σ' ++ oc g o f)) (wr := wM (gq g u) τ) (As := [.ref (g.2.1 0), .int (xs (x4 + 1).toNatClampNeg), .ref o]) (rest := []) C hA hl.1 (k_L_chief_t1 C.2.2.2.2.2.2 hf1) (vx_cwSW 3 C.1.2.2.2.2 gL_law_L_chief rfl rfl rfl nd_L_chief ⟨Nat.le_of_ble_eq_true rfl, Nat.le_of_ble_eq_true rfl⟩) rfl rfl (Nat.le_of_ble_eq_true rfl) dL_law_148 ⟨by show cells + 1 ≤ 601024; omega, by show slots + 6 ≤ 7293034; omega⟩ (fun H locs hA => ?_)
    refine lv_istore (lv' := [(5, .int 2), (0, .ref b), (1, .ref (g.2.1 0)), (2, .ref (u 0)), (3, .ref o), (4, .int x4)]) hx hb dL_law_151 hl (by decide) rfl (fun ls hl => ?_)
    refine lv_aload_n hx hb dL_law_153 rfl (lv_at hl 3 rfl) ?_
    refine lv_aload_n hx hb dL_law_154 rfl (lv_at hl 1 rfl) ?_
    refine lv_iload hx hb dL_law_155 (lv_at hl 5 rfl) ?_
    refine lv_iconst (v := 1) hx hb dL_law_157 (by decide) ?_
    refine lv_iadd hx hb dL_law_158 ?_
    refine va_sld hx hb hX hbl hbA hA.2.2 h1 dL_law_159 ?_
    replace hA := Aw_swap hA
    refine r_fVi (r := v) (w := wM (gq g u) τ) (w1 := wM (gq g u) τ') (wr := wX g σ' ++ oc g o f) (As := [.int (xs (x4 + 1).toNatClampNeg)]) (rest := []) C hA hl.1 (k_X8_chief (g := gq g u) C.2.2.2.2.2.2 hf2) (cwV 1 C.1.2.2.2.2 gL_law_X8_chief rfl rfl rfl nd_X8_chief ⟨Nat.le_of_ble_eq_true rfl, Nat.le_of_ble_eq_true rfl⟩) 0 rfl rfl rfl rfl (Nat.le_of_ble_eq_true rfl) dL_law_160 ⟨by show _ ≤ 601024; omega, by show _ ≤ 7293034; omega⟩ (fun H locs hA => ?_)
    replace hA := Aw_swap hA
    refine lv_istore (lv' := [(6, .int v), (5, .int 2), (0, .ref b), (1, .ref (g.2.1 0)), (2, .ref (u 0)), (3, .ref o), (4, .int x4)]) hx hb dL_law_163 hl (by decide) rfl (fun ls hl => ?_)
    refine lv_aload_n hx hb dL_law_165 rfl (lv_at hl 4 rfl) ?_
    replace hA := Aw_swap hA
    refine r_fVi (r := (τ'.1 0)) (w := wM (gq g u) τ') (w1 := wM (gq g u) τ') (wr := wX g σ' ++ oc g o f) (As := []) (rest := []) C hA hl.1 (k_X8_thrown (g := gq g u) (fu := fu) C.2.2.2.2.2.2 rfl) (cwV 0 C.1.2.2.2.2 gL_law_X8_thrown rfl rfl rfl nd_X8_thrown ⟨Nat.le_of_ble_eq_true rfl, Nat.le_of_ble_eq_true rfl⟩) 0 rfl rfl rfl rfl (Nat.le_of_ble_eq_true rfl) dL_law_166 ⟨by show _ ≤ 601024; omega, by show _ ≤ 7293034; omega⟩ (fun H locs hA => ?_)
    replace hA := Aw_swap hA
    refine lv_iload hx hb dL_law_169 (lv_at hl 1 rfl) ?_
    refine lv_icmp_eq (tgt := 176) hx hb dL_law_171 (by decide) (fun c1 => ?_) (fun c1 => absurd ht c1)
    refine lv_iload hx hb dL_law_176 (lv_at hl 1 rfl) ?_
    refine lv_if_ne (tgt := 193) hx hb dL_law_178 (by decide) (fun c1 => ?_) (fun c1 => absurd c1 (by decide))
    refine lv_goto (tgt := 1387) hx hb dL_law_193 (by decide) ?_
    refine W.widen (k := cells + 1) (n := slots + 6) (by show _ ≤ cells + 1; omega) (by show _ ≤ slots + 6; omega) ?_
    exact hk _ _ _ _ _ _ hRel hA (lv_sub hl [2, 3, 4, 5, 6] rfl)
set_option maxHeartbeats 4000000 in
set_option maxRecDepth 100000 in
theorem law_c1 (SIM : Sim_feed fu Rel) (C : Cx p l s m args meth c code 8 wsL_law ret RL g A) (hX : va_X b L xs s s.heap) (hbl : b < s.heap.size) (hbA : ¬ A b) (hRel0 : Rel σ τ) (hrc : cells + 1 ≤ 601024) (hrs : slots + 6 ≤ 7293034) (h1 : vp_in (x4 + 1) L) (h2 : vp_in (x4 + 2) L) (h3 : vp_in (x4 + 3) L) (h4 : vp_in (x4 + 4) L) (h5 : vp_in (x4 + 5) L) (hA : Aw g A s.heap ((wX g σ ++ oc g o f) ++ wM (gq g u) τ) H locs) (hl : lv_has ls 8 [(0, .ref b), (1, .ref (g.2.1 0)), (2, .ref (u 0)), (3, .ref o), (4, .int x4)]) (hk : Kont p l e s m args below meth c Q g A Rel b o u x4 (cells + 1) (slots + 6)) : W p l e room_1 s m args below meth c H locs cells slots Q (F0 m 196 ls []) := by
  have hx := C.1.1
  have hb := C.1.2.1
  obtain ⟨v, σ', τ', hf1, hf2, hRel⟩ := SIM σ τ hRel0 (xs (x4 + 1).toNatClampNeg) (xs (x4 + 2).toNatClampNeg) (xs (x4 + 3).toNatClampNeg) (xs (x4 + 4).toNatClampNeg) (xs (x4 + 5).toNatClampNeg)
  refine lv_aload_n hx hb dL_law_196 rfl (lv_at hl 1 rfl) ?_
  refine lv_aload_n hx hb dL_law_197 rfl (lv_at hl 0 rfl) ?_
  refine lv_iload hx hb dL_law_198 (lv_at hl 4 rfl) ?_
  refine lv_iconst (v := 1) hx hb dL_law_200 (by decide) ?_
  refine lv_iadd hx hb dL_law_201 ?_
  refine va_sld hx hb hX hbl hbA hA.2.2 h1 dL_law_202 ?_
  refine lv_aload_n hx hb dL_law_203 rfl (lv_at hl 0 rfl) ?_
  refine lv_iload hx hb dL_law_204 (lv_at hl 4 rfl) ?_
  refine lv_iconst (v := 2) hx hb dL_law_206 (by decide) ?_
  refine lv_iadd hx hb dL_law_207 ?_
  refine va_sld hx hb hX hbl hbA hA.2.2 h2 dL_law_208 ?_
  refine lv_aload_n hx hb dL_law_209 rfl (lv_at hl 0 rfl) ?_
  refine lv_iload hx hb dL_law_210 (lv_at hl 4 rfl) ?_
  refine lv_iconst (v := 3) hx hb dL_law_212 (by decide) ?_
  refine lv_iadd hx hb dL_law_213 ?_
  refine va_sld hx hb hX hbl hbA hA.2.2 h3 dL_law_214 ?_
  refine lv_aload_n hx hb dL_law_215 rfl (lv_at hl 0 rfl) ?_
  refine lv_iload hx hb dL_law_216 (lv_at hl 4 rfl) ?_
  refine lv_iconst (v := 4) hx hb dL_law_218 (by decide) ?_
  refine lv_iadd hx hb dL_law_219 ?_
  refine va_sld hx hb hX hbl hbA hA.2.2 h4 dL_law_220 ?_
  refine lv_aload_n hx hb dL_law_221 rfl (lv_at hl 0 rfl) ?_
  refine lv_iload hx hb dL_law_222 (lv_at hl 4 rfl) ?_
  refine lv_iconst (v := 5) hx hb dL_law_224 (by decide) ?_
  refine lv_iadd hx hb dL_law_225 ?_
  refine va_sld hx hb hX hbl hbA hA.2.2 h5 dL_law_226 ?_
  replace hA := Aw_as hA
  refine r_fVi (r := v) (w := wX g σ) (w1 := wX g σ') (wr := oc g o f ++ wM (gq g u) τ) (As := [.int (xs (x4 + 1).toNatClampNeg), .int (xs (x4 + 2).toNatClampNeg), .int (xs (x4 + 3).toNatClampNeg), .int (xs (x4 + 4).toNatClampNeg), .int (xs (x4 + 5).toNatClampNeg)]) (rest := []) C hA hl.1 (k_X7_feed C.2.2.2.2.2.2 hf1) (cwV 5 C.1.2.2.2.2 gL_law_X7_feed rfl rfl rfl nd_X7_feed ⟨Nat.le_of_ble_eq_true rfl, Nat.le_of_ble_eq_true rfl⟩) 0 rfl rfl rfl rfl (Nat.le_of_ble_eq_true rfl) dL_law_227 ⟨by show cells + 0 ≤ 601024; omega, by show slots + 0 ≤ 7293034; omega⟩ (fun H locs hA => ?_)
  replace hA := Aw_sa hA
  refine lv_aload_n hx hb dL_law_230 rfl (lv_at hl 2 rfl) ?_
  refine lv_aload_n hx hb dL_law_231 rfl (lv_at hl 0 rfl) ?_
  refine lv_iload hx hb dL_law_232 (lv_at hl 4 rfl) ?_
  refine lv_iconst (v := 1) hx hb dL_law_234 (by decide) ?_
  refine lv_iadd hx hb dL_law_235 ?_
  refine va_sld hx hb hX hbl hbA hA.2.2 h1 dL_law_236 ?_
  refine lv_aload_n hx hb dL_law_237 rfl (lv_at hl 0 rfl) ?_
  refine lv_iload hx hb dL_law_238 (lv_at hl 4 rfl) ?_
  refine lv_iconst (v := 2) hx hb dL_law_240 (by decide) ?_
  refine lv_iadd hx hb dL_law_241 ?_
  refine va_sld hx hb hX hbl hbA hA.2.2 h2 dL_law_242 ?_
  refine lv_aload_n hx hb dL_law_243 rfl (lv_at hl 0 rfl) ?_
  refine lv_iload hx hb dL_law_244 (lv_at hl 4 rfl) ?_
  refine lv_iconst (v := 3) hx hb dL_law_246 (by decide) ?_
  refine lv_iadd hx hb dL_law_247 ?_
  refine va_sld hx hb hX hbl hbA hA.2.2 h3 dL_law_248 ?_
  refine lv_aload_n hx hb dL_law_249 rfl (lv_at hl 0 rfl) ?_
  refine lv_iload hx hb dL_law_250 (lv_at hl 4 rfl) ?_
  refine lv_iconst (v := 4) hx hb dL_law_252 (by decide) ?_
  refine lv_iadd hx hb dL_law_253 ?_
  refine va_sld hx hb hX hbl hbA hA.2.2 h4 dL_law_254 ?_
  refine lv_aload_n hx hb dL_law_255 rfl (lv_at hl 0 rfl) ?_
  refine lv_iload hx hb dL_law_256 (lv_at hl 4 rfl) ?_
  refine lv_iconst (v := 5) hx hb dL_law_258 (by decide) ?_
  refine lv_iadd hx hb dL_law_259 ?_
  refine va_sld hx hb hX hbl hbA hA.2.2 h5 dL_law_260 ?_
  replace hA := Aw_swap hA
  refine r_fVi (r := v) (w := wM (gq g u) τ) (w1 := wM (gq g u) τ') (wr := wX g σ' ++ oc g o f) (As := [.int (xs (x4 + 1).toNatClampNeg), .int (xs (x4 + 2).toNatClampNeg), .int (xs (x4 + 3).toNatClampNeg), .int (xs (x4 + 4).toNatClampNeg), .int (xs (x4 + 5).toNatClampNeg)]) (rest := [.int v]) C hA hl.1 (k_X8_feed (g := gq g u) C.2.2.2.2.2.2 hf2) (cwV 5 C.1.2.2.2.2 gL_law_X8_feed rfl rfl rfl nd_X8_feed ⟨Nat.le_of_ble_eq_true rfl, Nat.le_of_ble_eq_true rfl⟩) 0 rfl rfl rfl rfl (Nat.le_of_ble_eq_true rfl) dL_law_261 ⟨by show _ ≤ 601024; omega, by show _ ≤ 7293034; omega⟩ (fun H locs hA => ?_)
  replace hA := Aw_swap hA
  refine lv_icmp_eq (tgt := 1387) hx hb dL_law_264 (by decide) (fun c1 => ?_) (fun c1 => absurd rfl c1)
  refine W.widen (k := cells + 1) (n := slots + 6) (by show _ ≤ cells + 1; omega) (by show _ ≤ slots + 6; omega) ?_
  exact hk _ _ _ _ _ _ hRel hA (lv_sub hl [0, 1, 2, 3, 4] rfl)
set_option maxHeartbeats 4000000 in
set_option maxRecDepth 100000 in
theorem law_c2 (SIM : Sim_custom fu Rel) (C : Cx p l s m args meth c code 8 wsL_law ret RL g A) (hX : va_X b L xs s s.heap) (hbl : b < s.heap.size) (hbA : ¬ A b) (hRel0 : Rel σ τ) (hrc : cells + 1 ≤ 601024) (hrs : slots + 6 ≤ 7293034) (h1 : vp_in (x4 + 1) L) (h2 : vp_in (x4 + 2) L) (h3 : vp_in (x4 + 3) L) (h4 : vp_in (x4 + 4) L) (h5 : vp_in (x4 + 5) L) (hA : Aw g A s.heap ((wX g σ ++ oc g o f) ++ wM (gq g u) τ) H locs) (hl : lv_has ls 8 [(0, .ref b), (1, .ref (g.2.1 0)), (2, .ref (u 0)), (3, .ref o), (4, .int x4)]) (hk : Kont p l e s m args below meth c Q g A Rel b o u x4 (cells + 1) (slots + 6)) : W p l e room_1 s m args below meth c H locs cells slots Q (F0 m 269 ls []) := by
  have hx := C.1.1
  have hb := C.1.2.1
  rcases SIM σ τ hRel0 (xs (x4 + 1).toNatClampNeg) (xs (x4 + 2).toNatClampNeg) with ⟨v, σ', τ', hf1, hf2, ht, hRel⟩ | ⟨v, σ', τ', hf1, hf2, ht, hRel⟩ | ⟨v, σ', τ', hf1, hf2, ht, hRel⟩
  · refine lv_aload_n hx hb dL_law_269 rfl (lv_at hl 1 rfl) ?_
    refine lv_aload_n hx hb dL_law_270 rfl (lv_at hl 0 rfl) ?_
    refine lv_iload hx hb dL_law_271 (lv_at hl 4 rfl) ?_
    refine lv_iconst (v := 1) hx hb dL_law_273 (by decide) ?_
    refine lv_iadd hx hb dL_law_274 ?_
    refine va_sld hx hb hX hbl hbA hA.2.2 h1 dL_law_275 ?_
    refine lv_aload_n hx hb dL_law_276 rfl (lv_at hl 0 rfl) ?_
    refine lv_iload hx hb dL_law_277 (lv_at hl 4 rfl) ?_
    refine lv_iconst (v := 2) hx hb dL_law_279 (by decide) ?_
    refine lv_iadd hx hb dL_law_280 ?_
    refine va_sld hx hb hX hbl hbA hA.2.2 h2 dL_law_281 ?_
    refine lv_aload_n hx hb dL_law_282 rfl (lv_at hl 3 rfl) ?_
    refine r_fSW (r := 0) (w := (wX g σ ++ oc g o f)) (w1 := (wX g σ' ++ oc g o (vp_updL f (0 : Int32).toNatClampNeg v.toInt64))) (wr := wM (gq g u) τ) (As := [.ref (g.2.1 0), .int (xs (x4 + 1).toNatClampNeg), .int (xs (x4 + 2).toNatClampNeg), .ref o]) (rest := []) C hA hl.1 (k_L_custom C.2.2.2.2.2.2 hf1) (vx_cwSW 4 C.1.2.2.2.2 gL_law_L_custom rfl rfl rfl nd_L_custom ⟨Nat.le_of_ble_eq_true rfl, Nat.le_of_ble_eq_true rfl⟩) rfl rfl (Nat.le_of_ble_eq_true rfl) dL_law_283 ⟨by show cells + 1 ≤ 601024; omega, by show slots + 6 ≤ 7293034; omega⟩ (fun H locs hA => ?_)
    refine lv_istore (lv' := [(5, .int 0), (0, .ref b), (1, .ref (g.2.1 0)), (2, .ref (u 0)), (3, .ref o), (4, .int x4)]) hx hb dL_law_286 hl (by decide) rfl (fun ls hl => ?_)
    refine lv_aload_n hx hb dL_law_288 rfl (lv_at hl 3 rfl) ?_
    refine lv_aload_n hx hb dL_law_289 rfl (lv_at hl 1 rfl) ?_
    refine lv_iload hx hb dL_law_290 (lv_at hl 5 rfl) ?_
    refine lv_iconst (v := 1) hx hb dL_law_292 (by decide) ?_
    refine lv_iadd hx hb dL_law_293 ?_
    refine va_sld hx hb hX hbl hbA hA.2.2 h1 dL_law_294 ?_
    refine lv_aload_n hx hb dL_law_295 rfl (lv_at hl 1 rfl) ?_
    refine lv_iload hx hb dL_law_296 (lv_at hl 5 rfl) ?_
    refine lv_iconst (v := 2) hx hb dL_law_298 (by decide) ?_
    refine lv_iadd hx hb dL_law_299 ?_
    refine va_sld hx hb hX hbl hbA hA.2.2 h2 dL_law_300 ?_
    replace hA := Aw_swap hA
    refine r_fVi (r := v) (w := wM (gq g u) τ) (w1 := wM (gq g u) τ') (wr := wX g σ' ++ oc g o (vp_updL f (0 : Int32).toNatClampNeg v.toInt64)) (As := [.int (xs (x4 + 1).toNatClampNeg), .int (xs (x4 + 2).toNatClampNeg)]) (rest := []) C hA hl.1 (k_X8_custom (g := gq g u) C.2.2.2.2.2.2 hf2) (cwV 2 C.1.2.2.2.2 gL_law_X8_custom rfl rfl rfl nd_X8_custom ⟨Nat.le_of_ble_eq_true rfl, Nat.le_of_ble_eq_true rfl⟩) 0 rfl rfl rfl rfl (Nat.le_of_ble_eq_true rfl) dL_law_301 ⟨by show _ ≤ 601024; omega, by show _ ≤ 7293034; omega⟩ (fun H locs hA => ?_)
    replace hA := Aw_swap hA
    refine lv_istore (lv' := [(6, .int v), (5, .int 0), (0, .ref b), (1, .ref (g.2.1 0)), (2, .ref (u 0)), (3, .ref o), (4, .int x4)]) hx hb dL_law_304 hl (by decide) rfl (fun ls hl => ?_)
    refine lv_aload_n hx hb dL_law_306 rfl (lv_at hl 4 rfl) ?_
    replace hA := Aw_swap hA
    refine r_fVi (r := (τ'.1 0)) (w := wM (gq g u) τ') (w1 := wM (gq g u) τ') (wr := wX g σ' ++ oc g o (vp_updL f (0 : Int32).toNatClampNeg v.toInt64)) (As := []) (rest := []) C hA hl.1 (k_X8_thrown (g := gq g u) (fu := fu) C.2.2.2.2.2.2 rfl) (cwV 0 C.1.2.2.2.2 gL_law_X8_thrown rfl rfl rfl nd_X8_thrown ⟨Nat.le_of_ble_eq_true rfl, Nat.le_of_ble_eq_true rfl⟩) 0 rfl rfl rfl rfl (Nat.le_of_ble_eq_true rfl) dL_law_307 ⟨by show _ ≤ 601024; omega, by show _ ≤ 7293034; omega⟩ (fun H locs hA => ?_)
    replace hA := Aw_swap hA
    refine lv_iload hx hb dL_law_310 (lv_at hl 1 rfl) ?_
    refine lv_icmp_eq (tgt := 317) hx hb dL_law_312 (by decide) (fun c1 => ?_) (fun c1 => absurd ht c1)
    refine lv_iload hx hb dL_law_317 (lv_at hl 1 rfl) ?_
    refine lv_if_ne (tgt := 334) hx hb dL_law_319 (by decide) (fun c1 => absurd rfl c1) (fun c1 => ?_)
    refine lv_aload_n hx hb dL_law_322 rfl (lv_at hl 5 rfl) ?_
    refine lv_iconst (v := 0) hx hb dL_law_323 (by decide) ?_
    refine r_lald C hA 44 1 rfl rfl (by decide) dL_law_324 ?_
    rw [pk_uLs]
    refine lv_iload hx hb dL_law_325 (lv_at hl 0 rfl) ?_
    refine lv_i2l (v := v.toInt64) hx hb dL_law_327 rfl ?_
    refine W.lcmp hx hb dL_law_328 ?_
    refine lv_if_eq (tgt := 334) hx hb dL_law_329 (by decide) (fun c1 => ?_) (fun c1 => absurd (lgc _) c1)
    refine lv_goto (tgt := 1387) hx hb dL_law_334 (by decide) ?_
    refine W.widen (k := cells + 1) (n := slots + 6) (by show _ ≤ cells + 1; omega) (by show _ ≤ slots + 6; omega) ?_
    exact hk _ _ _ _ _ _ hRel hA (lv_sub hl [2, 3, 4, 5, 6] rfl)
  · refine lv_aload_n hx hb dL_law_269 rfl (lv_at hl 1 rfl) ?_
    refine lv_aload_n hx hb dL_law_270 rfl (lv_at hl 0 rfl) ?_
    refine lv_iload hx hb dL_law_271 (lv_at hl 4 rfl) ?_
    refine lv_iconst (v := 1) hx hb dL_law_273 (by decide) ?_
    refine lv_iadd hx hb dL_law_274 ?_
    refine va_sld hx hb hX hbl hbA hA.2.2 h1 dL_law_275 ?_
    refine lv_aload_n hx hb dL_law_276 rfl (lv_at hl 0 rfl) ?_
    refine lv_iload hx hb dL_law_277 (lv_at hl 4 rfl) ?_
    refine lv_iconst (v := 2) hx hb dL_law_279 (by decide) ?_
    refine lv_iadd hx hb dL_law_280 ?_
    refine va_sld hx hb hX hbl hbA hA.2.2 h2 dL_law_281 ?_
    refine lv_aload_n hx hb dL_law_282 rfl (lv_at hl 3 rfl) ?_
    refine r_fSW (r := 1) (w := (wX g σ ++ oc g o f)) (w1 := (wX g σ' ++ oc g o f)) (wr := wM (gq g u) τ) (As := [.ref (g.2.1 0), .int (xs (x4 + 1).toNatClampNeg), .int (xs (x4 + 2).toNatClampNeg), .ref o]) (rest := []) C hA hl.1 (k_L_custom_t0 C.2.2.2.2.2.2 hf1) (vx_cwSW 4 C.1.2.2.2.2 gL_law_L_custom rfl rfl rfl nd_L_custom ⟨Nat.le_of_ble_eq_true rfl, Nat.le_of_ble_eq_true rfl⟩) rfl rfl (Nat.le_of_ble_eq_true rfl) dL_law_283 ⟨by show cells + 1 ≤ 601024; omega, by show slots + 6 ≤ 7293034; omega⟩ (fun H locs hA => ?_)
    refine lv_istore (lv' := [(5, .int 1), (0, .ref b), (1, .ref (g.2.1 0)), (2, .ref (u 0)), (3, .ref o), (4, .int x4)]) hx hb dL_law_286 hl (by decide) rfl (fun ls hl => ?_)
    refine lv_aload_n hx hb dL_law_288 rfl (lv_at hl 3 rfl) ?_
    refine lv_aload_n hx hb dL_law_289 rfl (lv_at hl 1 rfl) ?_
    refine lv_iload hx hb dL_law_290 (lv_at hl 5 rfl) ?_
    refine lv_iconst (v := 1) hx hb dL_law_292 (by decide) ?_
    refine lv_iadd hx hb dL_law_293 ?_
    refine va_sld hx hb hX hbl hbA hA.2.2 h1 dL_law_294 ?_
    refine lv_aload_n hx hb dL_law_295 rfl (lv_at hl 1 rfl) ?_
    refine lv_iload hx hb dL_law_296 (lv_at hl 5 rfl) ?_
    refine lv_iconst (v := 2) hx hb dL_law_298 (by decide) ?_
    refine lv_iadd hx hb dL_law_299 ?_
    refine va_sld hx hb hX hbl hbA hA.2.2 h2 dL_law_300 ?_
    replace hA := Aw_swap hA
    refine r_fVi (r := v) (w := wM (gq g u) τ) (w1 := wM (gq g u) τ') (wr := wX g σ' ++ oc g o f) (As := [.int (xs (x4 + 1).toNatClampNeg), .int (xs (x4 + 2).toNatClampNeg)]) (rest := []) C hA hl.1 (k_X8_custom (g := gq g u) C.2.2.2.2.2.2 hf2) (cwV 2 C.1.2.2.2.2 gL_law_X8_custom rfl rfl rfl nd_X8_custom ⟨Nat.le_of_ble_eq_true rfl, Nat.le_of_ble_eq_true rfl⟩) 0 rfl rfl rfl rfl (Nat.le_of_ble_eq_true rfl) dL_law_301 ⟨by show _ ≤ 601024; omega, by show _ ≤ 7293034; omega⟩ (fun H locs hA => ?_)
    replace hA := Aw_swap hA
    refine lv_istore (lv' := [(6, .int v), (5, .int 1), (0, .ref b), (1, .ref (g.2.1 0)), (2, .ref (u 0)), (3, .ref o), (4, .int x4)]) hx hb dL_law_304 hl (by decide) rfl (fun ls hl => ?_)
    refine lv_aload_n hx hb dL_law_306 rfl (lv_at hl 4 rfl) ?_
    replace hA := Aw_swap hA
    refine r_fVi (r := (τ'.1 0)) (w := wM (gq g u) τ') (w1 := wM (gq g u) τ') (wr := wX g σ' ++ oc g o f) (As := []) (rest := []) C hA hl.1 (k_X8_thrown (g := gq g u) (fu := fu) C.2.2.2.2.2.2 rfl) (cwV 0 C.1.2.2.2.2 gL_law_X8_thrown rfl rfl rfl nd_X8_thrown ⟨Nat.le_of_ble_eq_true rfl, Nat.le_of_ble_eq_true rfl⟩) 0 rfl rfl rfl rfl (Nat.le_of_ble_eq_true rfl) dL_law_307 ⟨by show _ ≤ 601024; omega, by show _ ≤ 7293034; omega⟩ (fun H locs hA => ?_)
    replace hA := Aw_swap hA
    refine lv_iload hx hb dL_law_310 (lv_at hl 1 rfl) ?_
    refine lv_icmp_eq (tgt := 317) hx hb dL_law_312 (by decide) (fun c1 => ?_) (fun c1 => absurd ht c1)
    refine lv_iload hx hb dL_law_317 (lv_at hl 1 rfl) ?_
    refine lv_if_ne (tgt := 334) hx hb dL_law_319 (by decide) (fun c1 => ?_) (fun c1 => absurd c1 (by decide))
    refine lv_goto (tgt := 1387) hx hb dL_law_334 (by decide) ?_
    refine W.widen (k := cells + 1) (n := slots + 6) (by show _ ≤ cells + 1; omega) (by show _ ≤ slots + 6; omega) ?_
    exact hk _ _ _ _ _ _ hRel hA (lv_sub hl [2, 3, 4, 5, 6] rfl)
  · refine lv_aload_n hx hb dL_law_269 rfl (lv_at hl 1 rfl) ?_
    refine lv_aload_n hx hb dL_law_270 rfl (lv_at hl 0 rfl) ?_
    refine lv_iload hx hb dL_law_271 (lv_at hl 4 rfl) ?_
    refine lv_iconst (v := 1) hx hb dL_law_273 (by decide) ?_
    refine lv_iadd hx hb dL_law_274 ?_
    refine va_sld hx hb hX hbl hbA hA.2.2 h1 dL_law_275 ?_
    refine lv_aload_n hx hb dL_law_276 rfl (lv_at hl 0 rfl) ?_
    refine lv_iload hx hb dL_law_277 (lv_at hl 4 rfl) ?_
    refine lv_iconst (v := 2) hx hb dL_law_279 (by decide) ?_
    refine lv_iadd hx hb dL_law_280 ?_
    refine va_sld hx hb hX hbl hbA hA.2.2 h2 dL_law_281 ?_
    refine lv_aload_n hx hb dL_law_282 rfl (lv_at hl 3 rfl) ?_
    refine r_fSW (r := 2) (w := (wX g σ ++ oc g o f)) (w1 := (wX g σ' ++ oc g o f)) (wr := wM (gq g u) τ) (As := [.ref (g.2.1 0), .int (xs (x4 + 1).toNatClampNeg), .int (xs (x4 + 2).toNatClampNeg), .ref o]) (rest := []) C hA hl.1 (k_L_custom_t1 C.2.2.2.2.2.2 hf1) (vx_cwSW 4 C.1.2.2.2.2 gL_law_L_custom rfl rfl rfl nd_L_custom ⟨Nat.le_of_ble_eq_true rfl, Nat.le_of_ble_eq_true rfl⟩) rfl rfl (Nat.le_of_ble_eq_true rfl) dL_law_283 ⟨by show cells + 1 ≤ 601024; omega, by show slots + 6 ≤ 7293034; omega⟩ (fun H locs hA => ?_)
    refine lv_istore (lv' := [(5, .int 2), (0, .ref b), (1, .ref (g.2.1 0)), (2, .ref (u 0)), (3, .ref o), (4, .int x4)]) hx hb dL_law_286 hl (by decide) rfl (fun ls hl => ?_)
    refine lv_aload_n hx hb dL_law_288 rfl (lv_at hl 3 rfl) ?_
    refine lv_aload_n hx hb dL_law_289 rfl (lv_at hl 1 rfl) ?_
    refine lv_iload hx hb dL_law_290 (lv_at hl 5 rfl) ?_
    refine lv_iconst (v := 1) hx hb dL_law_292 (by decide) ?_
    refine lv_iadd hx hb dL_law_293 ?_
    refine va_sld hx hb hX hbl hbA hA.2.2 h1 dL_law_294 ?_
    refine lv_aload_n hx hb dL_law_295 rfl (lv_at hl 1 rfl) ?_
    refine lv_iload hx hb dL_law_296 (lv_at hl 5 rfl) ?_
    refine lv_iconst (v := 2) hx hb dL_law_298 (by decide) ?_
    refine lv_iadd hx hb dL_law_299 ?_
    refine va_sld hx hb hX hbl hbA hA.2.2 h2 dL_law_300 ?_
    replace hA := Aw_swap hA
    refine r_fVi (r := v) (w := wM (gq g u) τ) (w1 := wM (gq g u) τ') (wr := wX g σ' ++ oc g o f) (As := [.int (xs (x4 + 1).toNatClampNeg), .int (xs (x4 + 2).toNatClampNeg)]) (rest := []) C hA hl.1 (k_X8_custom (g := gq g u) C.2.2.2.2.2.2 hf2) (cwV 2 C.1.2.2.2.2 gL_law_X8_custom rfl rfl rfl nd_X8_custom ⟨Nat.le_of_ble_eq_true rfl, Nat.le_of_ble_eq_true rfl⟩) 0 rfl rfl rfl rfl (Nat.le_of_ble_eq_true rfl) dL_law_301 ⟨by show _ ≤ 601024; omega, by show _ ≤ 7293034; omega⟩ (fun H locs hA => ?_)
    replace hA := Aw_swap hA
    refine lv_istore (lv' := [(6, .int v), (5, .int 2), (0, .ref b), (1, .ref (g.2.1 0)), (2, .ref (u 0)), (3, .ref o), (4, .int x4)]) hx hb dL_law_304 hl (by decide) rfl (fun ls hl => ?_)
    refine lv_aload_n hx hb dL_law_306 rfl (lv_at hl 4 rfl) ?_
    replace hA := Aw_swap hA
    refine r_fVi (r := (τ'.1 0)) (w := wM (gq g u) τ') (w1 := wM (gq g u) τ') (wr := wX g σ' ++ oc g o f) (As := []) (rest := []) C hA hl.1 (k_X8_thrown (g := gq g u) (fu := fu) C.2.2.2.2.2.2 rfl) (cwV 0 C.1.2.2.2.2 gL_law_X8_thrown rfl rfl rfl nd_X8_thrown ⟨Nat.le_of_ble_eq_true rfl, Nat.le_of_ble_eq_true rfl⟩) 0 rfl rfl rfl rfl (Nat.le_of_ble_eq_true rfl) dL_law_307 ⟨by show _ ≤ 601024; omega, by show _ ≤ 7293034; omega⟩ (fun H locs hA => ?_)
    replace hA := Aw_swap hA
    refine lv_iload hx hb dL_law_310 (lv_at hl 1 rfl) ?_
    refine lv_icmp_eq (tgt := 317) hx hb dL_law_312 (by decide) (fun c1 => ?_) (fun c1 => absurd ht c1)
    refine lv_iload hx hb dL_law_317 (lv_at hl 1 rfl) ?_
    refine lv_if_ne (tgt := 334) hx hb dL_law_319 (by decide) (fun c1 => ?_) (fun c1 => absurd c1 (by decide))
    refine lv_goto (tgt := 1387) hx hb dL_law_334 (by decide) ?_
    refine W.widen (k := cells + 1) (n := slots + 6) (by show _ ≤ cells + 1; omega) (by show _ ≤ slots + 6; omega) ?_
    exact hk _ _ _ _ _ _ hRel hA (lv_sub hl [2, 3, 4, 5, 6] rfl)
set_option maxHeartbeats 4000000 in
set_option maxRecDepth 100000 in
theorem law_c3 (SIM : Sim_fault fu Rel) (C : Cx p l s m args meth c code 8 wsL_law ret RL g A) (hX : va_X b L xs s s.heap) (hbl : b < s.heap.size) (hbA : ¬ A b) (hRel0 : Rel σ τ) (hrc : cells + 1 ≤ 601024) (hrs : slots + 6 ≤ 7293034) (h1 : vp_in (x4 + 1) L) (h2 : vp_in (x4 + 2) L) (h3 : vp_in (x4 + 3) L) (h4 : vp_in (x4 + 4) L) (h5 : vp_in (x4 + 5) L) (hA : Aw g A s.heap ((wX g σ ++ oc g o f) ++ wM (gq g u) τ) H locs) (hl : lv_has ls 8 [(0, .ref b), (1, .ref (g.2.1 0)), (2, .ref (u 0)), (3, .ref o), (4, .int x4)]) (hk : Kont p l e s m args below meth c Q g A Rel b o u x4 (cells + 1) (slots + 6)) : W p l e room_1 s m args below meth c H locs cells slots Q (F0 m 337 ls []) := by
  have hx := C.1.1
  have hb := C.1.2.1
  obtain ⟨v, τ', hf1, hf2, hRel⟩ := SIM σ τ hRel0 
  refine lv_aload_n hx hb dL_law_337 rfl (lv_at hl 1 rfl) ?_
  replace hA := Aw_as hA
  refine r_fVi (r := v) (w := wX g σ) (w1 := wX g σ) (wr := oc g o f ++ wM (gq g u) τ) (As := []) (rest := []) C hA hl.1 (k_X7_fault C.2.2.2.2.2.2 hf1) (cwV 0 C.1.2.2.2.2 gL_law_X7_fault rfl rfl rfl nd_X7_fault ⟨Nat.le_of_ble_eq_true rfl, Nat.le_of_ble_eq_true rfl⟩) 0 rfl rfl rfl rfl (Nat.le_of_ble_eq_true rfl) dL_law_338 ⟨by show cells + 0 ≤ 601024; omega, by show slots + 0 ≤ 7293034; omega⟩ (fun H locs hA => ?_)
  replace hA := Aw_sa hA
  refine lv_aload_n hx hb dL_law_341 rfl (lv_at hl 2 rfl) ?_
  replace hA := Aw_swap hA
  refine r_fVi (r := v) (w := wM (gq g u) τ) (w1 := wM (gq g u) τ') (wr := wX g σ ++ oc g o f) (As := []) (rest := [.int v]) C hA hl.1 (k_X8_fault (g := gq g u) C.2.2.2.2.2.2 hf2) (cwV 0 C.1.2.2.2.2 gL_law_X8_fault rfl rfl rfl nd_X8_fault ⟨Nat.le_of_ble_eq_true rfl, Nat.le_of_ble_eq_true rfl⟩) 0 rfl rfl rfl rfl (Nat.le_of_ble_eq_true rfl) dL_law_342 ⟨by show _ ≤ 601024; omega, by show _ ≤ 7293034; omega⟩ (fun H locs hA => ?_)
  replace hA := Aw_swap hA
  refine lv_icmp_eq (tgt := 1387) hx hb dL_law_345 (by decide) (fun c1 => ?_) (fun c1 => absurd rfl c1)
  refine W.widen (k := cells + 1) (n := slots + 6) (by show _ ≤ cells + 1; omega) (by show _ ≤ slots + 6; omega) ?_
  exact hk _ _ _ _ _ _ hRel hA (lv_sub hl [0, 1, 2, 3, 4] rfl)
set_option maxHeartbeats 4000000 in
set_option maxRecDepth 100000 in
theorem law_c4 (SIM : Sim_force fu Rel) (C : Cx p l s m args meth c code 8 wsL_law ret RL g A) (hX : va_X b L xs s s.heap) (hbl : b < s.heap.size) (hbA : ¬ A b) (hRel0 : Rel σ τ) (hrc : cells + 1 ≤ 601024) (hrs : slots + 6 ≤ 7293034) (h1 : vp_in (x4 + 1) L) (h2 : vp_in (x4 + 2) L) (h3 : vp_in (x4 + 3) L) (h4 : vp_in (x4 + 4) L) (h5 : vp_in (x4 + 5) L) (hA : Aw g A s.heap ((wX g σ ++ oc g o f) ++ wM (gq g u) τ) H locs) (hl : lv_has ls 8 [(0, .ref b), (1, .ref (g.2.1 0)), (2, .ref (u 0)), (3, .ref o), (4, .int x4)]) (hk : Kont p l e s m args below meth c Q g A Rel b o u x4 (cells + 1) (slots + 6)) : W p l e room_1 s m args below meth c H locs cells slots Q (F0 m 350 ls []) := by
  have hx := C.1.1
  have hb := C.1.2.1
  obtain ⟨v, τ', hf1, hf2, hRel⟩ := SIM σ τ hRel0 (xs (x4 + 1).toNatClampNeg)
  refine lv_aload_n hx hb dL_law_350 rfl (lv_at hl 1 rfl) ?_
  refine lv_aload_n hx hb dL_law_351 rfl (lv_at hl 0 rfl) ?_
  refine lv_iload hx hb dL_law_352 (lv_at hl 4 rfl) ?_
  refine lv_iconst (v := 1) hx hb dL_law_354 (by decide) ?_
  refine lv_iadd hx hb dL_law_355 ?_
  refine va_sld hx hb hX hbl hbA hA.2.2 h1 dL_law_356 ?_
  replace hA := Aw_as hA
  refine r_fVi (r := v) (w := wX g σ) (w1 := wX g σ) (wr := oc g o f ++ wM (gq g u) τ) (As := [.int (xs (x4 + 1).toNatClampNeg)]) (rest := []) C hA hl.1 (k_X7_force C.2.2.2.2.2.2 hf1) (cwV 1 C.1.2.2.2.2 gL_law_X7_force rfl rfl rfl nd_X7_force ⟨Nat.le_of_ble_eq_true rfl, Nat.le_of_ble_eq_true rfl⟩) 0 rfl rfl rfl rfl (Nat.le_of_ble_eq_true rfl) dL_law_357 ⟨by show cells + 0 ≤ 601024; omega, by show slots + 0 ≤ 7293034; omega⟩ (fun H locs hA => ?_)
  replace hA := Aw_sa hA
  refine lv_aload_n hx hb dL_law_360 rfl (lv_at hl 2 rfl) ?_
  refine lv_aload_n hx hb dL_law_361 rfl (lv_at hl 0 rfl) ?_
  refine lv_iload hx hb dL_law_362 (lv_at hl 4 rfl) ?_
  refine lv_iconst (v := 1) hx hb dL_law_364 (by decide) ?_
  refine lv_iadd hx hb dL_law_365 ?_
  refine va_sld hx hb hX hbl hbA hA.2.2 h1 dL_law_366 ?_
  replace hA := Aw_swap hA
  refine r_fVi (r := v) (w := wM (gq g u) τ) (w1 := wM (gq g u) τ') (wr := wX g σ ++ oc g o f) (As := [.int (xs (x4 + 1).toNatClampNeg)]) (rest := [.int v]) C hA hl.1 (k_X8_force (g := gq g u) C.2.2.2.2.2.2 hf2) (cwV 1 C.1.2.2.2.2 gL_law_X8_force rfl rfl rfl nd_X8_force ⟨Nat.le_of_ble_eq_true rfl, Nat.le_of_ble_eq_true rfl⟩) 0 rfl rfl rfl rfl (Nat.le_of_ble_eq_true rfl) dL_law_367 ⟨by show _ ≤ 601024; omega, by show _ ≤ 7293034; omega⟩ (fun H locs hA => ?_)
  replace hA := Aw_swap hA
  refine lv_icmp_eq (tgt := 1387) hx hb dL_law_370 (by decide) (fun c1 => ?_) (fun c1 => absurd rfl c1)
  refine W.widen (k := cells + 1) (n := slots + 6) (by show _ ≤ cells + 1; omega) (by show _ ≤ slots + 6; omega) ?_
  exact hk _ _ _ _ _ _ hRel hA (lv_sub hl [0, 1, 2, 3, 4] rfl)
set_option maxHeartbeats 4000000 in
set_option maxRecDepth 100000 in
theorem law_c5 (SIM : Sim_give fu Rel) (C : Cx p l s m args meth c code 8 wsL_law ret RL g A) (hX : va_X b L xs s s.heap) (hbl : b < s.heap.size) (hbA : ¬ A b) (hRel0 : Rel σ τ) (hrc : cells + 1 ≤ 601024) (hrs : slots + 6 ≤ 7293034) (h1 : vp_in (x4 + 1) L) (h2 : vp_in (x4 + 2) L) (h3 : vp_in (x4 + 3) L) (h4 : vp_in (x4 + 4) L) (h5 : vp_in (x4 + 5) L) (hA : Aw g A s.heap ((wX g σ ++ oc g o f) ++ wM (gq g u) τ) H locs) (hl : lv_has ls 8 [(0, .ref b), (1, .ref (g.2.1 0)), (2, .ref (u 0)), (3, .ref o), (4, .int x4)]) (hk : Kont p l e s m args below meth c Q g A Rel b o u x4 (cells + 1) (slots + 6)) : W p l e room_1 s m args below meth c H locs cells slots Q (F0 m 375 ls []) := by
  have hx := C.1.1
  have hb := C.1.2.1
  rcases SIM σ τ hRel0 (xs (x4 + 1).toNatClampNeg) (xs (x4 + 2).toNatClampNeg) (xs (x4 + 3).toNatClampNeg) with ⟨v, σ', τ', hf1, hf2, ht, hRel⟩ | ⟨v, σ', τ', hf1, hf2, ht, hRel⟩ | ⟨v, σ', τ', hf1, hf2, ht, hRel⟩ | ⟨v, σ', τ', hf1, hf2, ht, hRel⟩
  · refine lv_aload_n hx hb dL_law_375 rfl (lv_at hl 1 rfl) ?_
    refine lv_aload_n hx hb dL_law_376 rfl (lv_at hl 0 rfl) ?_
    refine lv_iload hx hb dL_law_377 (lv_at hl 4 rfl) ?_
    refine lv_iconst (v := 1) hx hb dL_law_379 (by decide) ?_
    refine lv_iadd hx hb dL_law_380 ?_
    refine va_sld hx hb hX hbl hbA hA.2.2 h1 dL_law_381 ?_
    refine lv_aload_n hx hb dL_law_382 rfl (lv_at hl 0 rfl) ?_
    refine lv_iload hx hb dL_law_383 (lv_at hl 4 rfl) ?_
    refine lv_iconst (v := 2) hx hb dL_law_385 (by decide) ?_
    refine lv_iadd hx hb dL_law_386 ?_
    refine va_sld hx hb hX hbl hbA hA.2.2 h2 dL_law_387 ?_
    refine lv_aload_n hx hb dL_law_388 rfl (lv_at hl 0 rfl) ?_
    refine lv_iload hx hb dL_law_389 (lv_at hl 4 rfl) ?_
    refine lv_iconst (v := 3) hx hb dL_law_391 (by decide) ?_
    refine lv_iadd hx hb dL_law_392 ?_
    refine va_sld hx hb hX hbl hbA hA.2.2 h3 dL_law_393 ?_
    refine lv_aload_n hx hb dL_law_394 rfl (lv_at hl 3 rfl) ?_
    refine r_fSW (r := 0) (w := (wX g σ ++ oc g o f)) (w1 := (wX g σ' ++ oc g o (vp_updL f (0 : Int32).toNatClampNeg v.toInt64))) (wr := wM (gq g u) τ) (As := [.ref (g.2.1 0), .int (xs (x4 + 1).toNatClampNeg), .int (xs (x4 + 2).toNatClampNeg), .int (xs (x4 + 3).toNatClampNeg), .ref o]) (rest := []) C hA hl.1 (k_L_give C.2.2.2.2.2.2 hf1) (vx_cwSW 5 C.1.2.2.2.2 gL_law_L_give rfl rfl rfl nd_L_give ⟨Nat.le_of_ble_eq_true rfl, Nat.le_of_ble_eq_true rfl⟩) rfl rfl (Nat.le_of_ble_eq_true rfl) dL_law_395 ⟨by show cells + 1 ≤ 601024; omega, by show slots + 6 ≤ 7293034; omega⟩ (fun H locs hA => ?_)
    refine lv_istore (lv' := [(5, .int 0), (0, .ref b), (1, .ref (g.2.1 0)), (2, .ref (u 0)), (3, .ref o), (4, .int x4)]) hx hb dL_law_398 hl (by decide) rfl (fun ls hl => ?_)
    refine lv_aload_n hx hb dL_law_400 rfl (lv_at hl 3 rfl) ?_
    refine lv_aload_n hx hb dL_law_401 rfl (lv_at hl 1 rfl) ?_
    refine lv_iload hx hb dL_law_402 (lv_at hl 5 rfl) ?_
    refine lv_iconst (v := 1) hx hb dL_law_404 (by decide) ?_
    refine lv_iadd hx hb dL_law_405 ?_
    refine va_sld hx hb hX hbl hbA hA.2.2 h1 dL_law_406 ?_
    refine lv_aload_n hx hb dL_law_407 rfl (lv_at hl 1 rfl) ?_
    refine lv_iload hx hb dL_law_408 (lv_at hl 5 rfl) ?_
    refine lv_iconst (v := 2) hx hb dL_law_410 (by decide) ?_
    refine lv_iadd hx hb dL_law_411 ?_
    refine va_sld hx hb hX hbl hbA hA.2.2 h2 dL_law_412 ?_
    refine lv_aload_n hx hb dL_law_413 rfl (lv_at hl 1 rfl) ?_
    refine lv_iload hx hb dL_law_414 (lv_at hl 5 rfl) ?_
    refine lv_iconst (v := 3) hx hb dL_law_416 (by decide) ?_
    refine lv_iadd hx hb dL_law_417 ?_
    refine va_sld hx hb hX hbl hbA hA.2.2 h3 dL_law_418 ?_
    replace hA := Aw_swap hA
    refine r_fVi (r := v) (w := wM (gq g u) τ) (w1 := wM (gq g u) τ') (wr := wX g σ' ++ oc g o (vp_updL f (0 : Int32).toNatClampNeg v.toInt64)) (As := [.int (xs (x4 + 1).toNatClampNeg), .int (xs (x4 + 2).toNatClampNeg), .int (xs (x4 + 3).toNatClampNeg)]) (rest := []) C hA hl.1 (k_X8_give (g := gq g u) C.2.2.2.2.2.2 hf2) (cwV 3 C.1.2.2.2.2 gL_law_X8_give rfl rfl rfl nd_X8_give ⟨Nat.le_of_ble_eq_true rfl, Nat.le_of_ble_eq_true rfl⟩) 0 rfl rfl rfl rfl (Nat.le_of_ble_eq_true rfl) dL_law_419 ⟨by show _ ≤ 601024; omega, by show _ ≤ 7293034; omega⟩ (fun H locs hA => ?_)
    replace hA := Aw_swap hA
    refine lv_istore (lv' := [(6, .int v), (5, .int 0), (0, .ref b), (1, .ref (g.2.1 0)), (2, .ref (u 0)), (3, .ref o), (4, .int x4)]) hx hb dL_law_422 hl (by decide) rfl (fun ls hl => ?_)
    refine lv_aload_n hx hb dL_law_424 rfl (lv_at hl 4 rfl) ?_
    replace hA := Aw_swap hA
    refine r_fVi (r := (τ'.1 0)) (w := wM (gq g u) τ') (w1 := wM (gq g u) τ') (wr := wX g σ' ++ oc g o (vp_updL f (0 : Int32).toNatClampNeg v.toInt64)) (As := []) (rest := []) C hA hl.1 (k_X8_thrown (g := gq g u) (fu := fu) C.2.2.2.2.2.2 rfl) (cwV 0 C.1.2.2.2.2 gL_law_X8_thrown rfl rfl rfl nd_X8_thrown ⟨Nat.le_of_ble_eq_true rfl, Nat.le_of_ble_eq_true rfl⟩) 0 rfl rfl rfl rfl (Nat.le_of_ble_eq_true rfl) dL_law_425 ⟨by show _ ≤ 601024; omega, by show _ ≤ 7293034; omega⟩ (fun H locs hA => ?_)
    replace hA := Aw_swap hA
    refine lv_iload hx hb dL_law_428 (lv_at hl 1 rfl) ?_
    refine lv_icmp_eq (tgt := 435) hx hb dL_law_430 (by decide) (fun c1 => ?_) (fun c1 => absurd ht c1)
    refine lv_iload hx hb dL_law_435 (lv_at hl 1 rfl) ?_
    refine lv_if_ne (tgt := 452) hx hb dL_law_437 (by decide) (fun c1 => absurd rfl c1) (fun c1 => ?_)
    refine lv_aload_n hx hb dL_law_440 rfl (lv_at hl 5 rfl) ?_
    refine lv_iconst (v := 0) hx hb dL_law_441 (by decide) ?_
    refine r_lald C hA 44 1 rfl rfl (by decide) dL_law_442 ?_
    rw [pk_uLs]
    refine lv_iload hx hb dL_law_443 (lv_at hl 0 rfl) ?_
    refine lv_i2l (v := v.toInt64) hx hb dL_law_445 rfl ?_
    refine W.lcmp hx hb dL_law_446 ?_
    refine lv_if_eq (tgt := 452) hx hb dL_law_447 (by decide) (fun c1 => ?_) (fun c1 => absurd (lgc _) c1)
    refine lv_goto (tgt := 1387) hx hb dL_law_452 (by decide) ?_
    refine W.widen (k := cells + 1) (n := slots + 6) (by show _ ≤ cells + 1; omega) (by show _ ≤ slots + 6; omega) ?_
    exact hk _ _ _ _ _ _ hRel hA (lv_sub hl [2, 3, 4, 5, 6] rfl)
  · refine lv_aload_n hx hb dL_law_375 rfl (lv_at hl 1 rfl) ?_
    refine lv_aload_n hx hb dL_law_376 rfl (lv_at hl 0 rfl) ?_
    refine lv_iload hx hb dL_law_377 (lv_at hl 4 rfl) ?_
    refine lv_iconst (v := 1) hx hb dL_law_379 (by decide) ?_
    refine lv_iadd hx hb dL_law_380 ?_
    refine va_sld hx hb hX hbl hbA hA.2.2 h1 dL_law_381 ?_
    refine lv_aload_n hx hb dL_law_382 rfl (lv_at hl 0 rfl) ?_
    refine lv_iload hx hb dL_law_383 (lv_at hl 4 rfl) ?_
    refine lv_iconst (v := 2) hx hb dL_law_385 (by decide) ?_
    refine lv_iadd hx hb dL_law_386 ?_
    refine va_sld hx hb hX hbl hbA hA.2.2 h2 dL_law_387 ?_
    refine lv_aload_n hx hb dL_law_388 rfl (lv_at hl 0 rfl) ?_
    refine lv_iload hx hb dL_law_389 (lv_at hl 4 rfl) ?_
    refine lv_iconst (v := 3) hx hb dL_law_391 (by decide) ?_
    refine lv_iadd hx hb dL_law_392 ?_
    refine va_sld hx hb hX hbl hbA hA.2.2 h3 dL_law_393 ?_
    refine lv_aload_n hx hb dL_law_394 rfl (lv_at hl 3 rfl) ?_
    refine r_fSW (r := 1) (w := (wX g σ ++ oc g o f)) (w1 := (wX g σ' ++ oc g o f)) (wr := wM (gq g u) τ) (As := [.ref (g.2.1 0), .int (xs (x4 + 1).toNatClampNeg), .int (xs (x4 + 2).toNatClampNeg), .int (xs (x4 + 3).toNatClampNeg), .ref o]) (rest := []) C hA hl.1 (k_L_give_t2 C.2.2.2.2.2.2 hf1) (vx_cwSW 5 C.1.2.2.2.2 gL_law_L_give rfl rfl rfl nd_L_give ⟨Nat.le_of_ble_eq_true rfl, Nat.le_of_ble_eq_true rfl⟩) rfl rfl (Nat.le_of_ble_eq_true rfl) dL_law_395 ⟨by show cells + 1 ≤ 601024; omega, by show slots + 6 ≤ 7293034; omega⟩ (fun H locs hA => ?_)
    refine lv_istore (lv' := [(5, .int 1), (0, .ref b), (1, .ref (g.2.1 0)), (2, .ref (u 0)), (3, .ref o), (4, .int x4)]) hx hb dL_law_398 hl (by decide) rfl (fun ls hl => ?_)
    refine lv_aload_n hx hb dL_law_400 rfl (lv_at hl 3 rfl) ?_
    refine lv_aload_n hx hb dL_law_401 rfl (lv_at hl 1 rfl) ?_
    refine lv_iload hx hb dL_law_402 (lv_at hl 5 rfl) ?_
    refine lv_iconst (v := 1) hx hb dL_law_404 (by decide) ?_
    refine lv_iadd hx hb dL_law_405 ?_
    refine va_sld hx hb hX hbl hbA hA.2.2 h1 dL_law_406 ?_
    refine lv_aload_n hx hb dL_law_407 rfl (lv_at hl 1 rfl) ?_
    refine lv_iload hx hb dL_law_408 (lv_at hl 5 rfl) ?_
    refine lv_iconst (v := 2) hx hb dL_law_410 (by decide) ?_
    refine lv_iadd hx hb dL_law_411 ?_
    refine va_sld hx hb hX hbl hbA hA.2.2 h2 dL_law_412 ?_
    refine lv_aload_n hx hb dL_law_413 rfl (lv_at hl 1 rfl) ?_
    refine lv_iload hx hb dL_law_414 (lv_at hl 5 rfl) ?_
    refine lv_iconst (v := 3) hx hb dL_law_416 (by decide) ?_
    refine lv_iadd hx hb dL_law_417 ?_
    refine va_sld hx hb hX hbl hbA hA.2.2 h3 dL_law_418 ?_
    replace hA := Aw_swap hA
    refine r_fVi (r := v) (w := wM (gq g u) τ) (w1 := wM (gq g u) τ') (wr := wX g σ' ++ oc g o f) (As := [.int (xs (x4 + 1).toNatClampNeg), .int (xs (x4 + 2).toNatClampNeg), .int (xs (x4 + 3).toNatClampNeg)]) (rest := []) C hA hl.1 (k_X8_give (g := gq g u) C.2.2.2.2.2.2 hf2) (cwV 3 C.1.2.2.2.2 gL_law_X8_give rfl rfl rfl nd_X8_give ⟨Nat.le_of_ble_eq_true rfl, Nat.le_of_ble_eq_true rfl⟩) 0 rfl rfl rfl rfl (Nat.le_of_ble_eq_true rfl) dL_law_419 ⟨by show _ ≤ 601024; omega, by show _ ≤ 7293034; omega⟩ (fun H locs hA => ?_)
    replace hA := Aw_swap hA
    refine lv_istore (lv' := [(6, .int v), (5, .int 1), (0, .ref b), (1, .ref (g.2.1 0)), (2, .ref (u 0)), (3, .ref o), (4, .int x4)]) hx hb dL_law_422 hl (by decide) rfl (fun ls hl => ?_)
    refine lv_aload_n hx hb dL_law_424 rfl (lv_at hl 4 rfl) ?_
    replace hA := Aw_swap hA
    refine r_fVi (r := (τ'.1 0)) (w := wM (gq g u) τ') (w1 := wM (gq g u) τ') (wr := wX g σ' ++ oc g o f) (As := []) (rest := []) C hA hl.1 (k_X8_thrown (g := gq g u) (fu := fu) C.2.2.2.2.2.2 rfl) (cwV 0 C.1.2.2.2.2 gL_law_X8_thrown rfl rfl rfl nd_X8_thrown ⟨Nat.le_of_ble_eq_true rfl, Nat.le_of_ble_eq_true rfl⟩) 0 rfl rfl rfl rfl (Nat.le_of_ble_eq_true rfl) dL_law_425 ⟨by show _ ≤ 601024; omega, by show _ ≤ 7293034; omega⟩ (fun H locs hA => ?_)
    replace hA := Aw_swap hA
    refine lv_iload hx hb dL_law_428 (lv_at hl 1 rfl) ?_
    refine lv_icmp_eq (tgt := 435) hx hb dL_law_430 (by decide) (fun c1 => ?_) (fun c1 => absurd ht c1)
    refine lv_iload hx hb dL_law_435 (lv_at hl 1 rfl) ?_
    refine lv_if_ne (tgt := 452) hx hb dL_law_437 (by decide) (fun c1 => ?_) (fun c1 => absurd c1 (by decide))
    refine lv_goto (tgt := 1387) hx hb dL_law_452 (by decide) ?_
    refine W.widen (k := cells + 1) (n := slots + 6) (by show _ ≤ cells + 1; omega) (by show _ ≤ slots + 6; omega) ?_
    exact hk _ _ _ _ _ _ hRel hA (lv_sub hl [2, 3, 4, 5, 6] rfl)
  · refine lv_aload_n hx hb dL_law_375 rfl (lv_at hl 1 rfl) ?_
    refine lv_aload_n hx hb dL_law_376 rfl (lv_at hl 0 rfl) ?_
    refine lv_iload hx hb dL_law_377 (lv_at hl 4 rfl) ?_
    refine lv_iconst (v := 1) hx hb dL_law_379 (by decide) ?_
    refine lv_iadd hx hb dL_law_380 ?_
    refine va_sld hx hb hX hbl hbA hA.2.2 h1 dL_law_381 ?_
    refine lv_aload_n hx hb dL_law_382 rfl (lv_at hl 0 rfl) ?_
    refine lv_iload hx hb dL_law_383 (lv_at hl 4 rfl) ?_
    refine lv_iconst (v := 2) hx hb dL_law_385 (by decide) ?_
    refine lv_iadd hx hb dL_law_386 ?_
    refine va_sld hx hb hX hbl hbA hA.2.2 h2 dL_law_387 ?_
    refine lv_aload_n hx hb dL_law_388 rfl (lv_at hl 0 rfl) ?_
    refine lv_iload hx hb dL_law_389 (lv_at hl 4 rfl) ?_
    refine lv_iconst (v := 3) hx hb dL_law_391 (by decide) ?_
    refine lv_iadd hx hb dL_law_392 ?_
    refine va_sld hx hb hX hbl hbA hA.2.2 h3 dL_law_393 ?_
    refine lv_aload_n hx hb dL_law_394 rfl (lv_at hl 3 rfl) ?_
    refine r_fSW (r := 2) (w := (wX g σ ++ oc g o f)) (w1 := (wX g σ' ++ oc g o f)) (wr := wM (gq g u) τ) (As := [.ref (g.2.1 0), .int (xs (x4 + 1).toNatClampNeg), .int (xs (x4 + 2).toNatClampNeg), .int (xs (x4 + 3).toNatClampNeg), .ref o]) (rest := []) C hA hl.1 (k_L_give_t0 C.2.2.2.2.2.2 hf1) (vx_cwSW 5 C.1.2.2.2.2 gL_law_L_give rfl rfl rfl nd_L_give ⟨Nat.le_of_ble_eq_true rfl, Nat.le_of_ble_eq_true rfl⟩) rfl rfl (Nat.le_of_ble_eq_true rfl) dL_law_395 ⟨by show cells + 1 ≤ 601024; omega, by show slots + 6 ≤ 7293034; omega⟩ (fun H locs hA => ?_)
    refine lv_istore (lv' := [(5, .int 2), (0, .ref b), (1, .ref (g.2.1 0)), (2, .ref (u 0)), (3, .ref o), (4, .int x4)]) hx hb dL_law_398 hl (by decide) rfl (fun ls hl => ?_)
    refine lv_aload_n hx hb dL_law_400 rfl (lv_at hl 3 rfl) ?_
    refine lv_aload_n hx hb dL_law_401 rfl (lv_at hl 1 rfl) ?_
    refine lv_iload hx hb dL_law_402 (lv_at hl 5 rfl) ?_
    refine lv_iconst (v := 1) hx hb dL_law_404 (by decide) ?_
    refine lv_iadd hx hb dL_law_405 ?_
    refine va_sld hx hb hX hbl hbA hA.2.2 h1 dL_law_406 ?_
    refine lv_aload_n hx hb dL_law_407 rfl (lv_at hl 1 rfl) ?_
    refine lv_iload hx hb dL_law_408 (lv_at hl 5 rfl) ?_
    refine lv_iconst (v := 2) hx hb dL_law_410 (by decide) ?_
    refine lv_iadd hx hb dL_law_411 ?_
    refine va_sld hx hb hX hbl hbA hA.2.2 h2 dL_law_412 ?_
    refine lv_aload_n hx hb dL_law_413 rfl (lv_at hl 1 rfl) ?_
    refine lv_iload hx hb dL_law_414 (lv_at hl 5 rfl) ?_
    refine lv_iconst (v := 3) hx hb dL_law_416 (by decide) ?_
    refine lv_iadd hx hb dL_law_417 ?_
    refine va_sld hx hb hX hbl hbA hA.2.2 h3 dL_law_418 ?_
    replace hA := Aw_swap hA
    refine r_fVi (r := v) (w := wM (gq g u) τ) (w1 := wM (gq g u) τ') (wr := wX g σ' ++ oc g o f) (As := [.int (xs (x4 + 1).toNatClampNeg), .int (xs (x4 + 2).toNatClampNeg), .int (xs (x4 + 3).toNatClampNeg)]) (rest := []) C hA hl.1 (k_X8_give (g := gq g u) C.2.2.2.2.2.2 hf2) (cwV 3 C.1.2.2.2.2 gL_law_X8_give rfl rfl rfl nd_X8_give ⟨Nat.le_of_ble_eq_true rfl, Nat.le_of_ble_eq_true rfl⟩) 0 rfl rfl rfl rfl (Nat.le_of_ble_eq_true rfl) dL_law_419 ⟨by show _ ≤ 601024; omega, by show _ ≤ 7293034; omega⟩ (fun H locs hA => ?_)
    replace hA := Aw_swap hA
    refine lv_istore (lv' := [(6, .int v), (5, .int 2), (0, .ref b), (1, .ref (g.2.1 0)), (2, .ref (u 0)), (3, .ref o), (4, .int x4)]) hx hb dL_law_422 hl (by decide) rfl (fun ls hl => ?_)
    refine lv_aload_n hx hb dL_law_424 rfl (lv_at hl 4 rfl) ?_
    replace hA := Aw_swap hA
    refine r_fVi (r := (τ'.1 0)) (w := wM (gq g u) τ') (w1 := wM (gq g u) τ') (wr := wX g σ' ++ oc g o f) (As := []) (rest := []) C hA hl.1 (k_X8_thrown (g := gq g u) (fu := fu) C.2.2.2.2.2.2 rfl) (cwV 0 C.1.2.2.2.2 gL_law_X8_thrown rfl rfl rfl nd_X8_thrown ⟨Nat.le_of_ble_eq_true rfl, Nat.le_of_ble_eq_true rfl⟩) 0 rfl rfl rfl rfl (Nat.le_of_ble_eq_true rfl) dL_law_425 ⟨by show _ ≤ 601024; omega, by show _ ≤ 7293034; omega⟩ (fun H locs hA => ?_)
    replace hA := Aw_swap hA
    refine lv_iload hx hb dL_law_428 (lv_at hl 1 rfl) ?_
    refine lv_icmp_eq (tgt := 435) hx hb dL_law_430 (by decide) (fun c1 => ?_) (fun c1 => absurd ht c1)
    refine lv_iload hx hb dL_law_435 (lv_at hl 1 rfl) ?_
    refine lv_if_ne (tgt := 452) hx hb dL_law_437 (by decide) (fun c1 => ?_) (fun c1 => absurd c1 (by decide))
    refine lv_goto (tgt := 1387) hx hb dL_law_452 (by decide) ?_
    refine W.widen (k := cells + 1) (n := slots + 6) (by show _ ≤ cells + 1; omega) (by show _ ≤ slots + 6; omega) ?_
    exact hk _ _ _ _ _ _ hRel hA (lv_sub hl [2, 3, 4, 5, 6] rfl)
  · refine lv_aload_n hx hb dL_law_375 rfl (lv_at hl 1 rfl) ?_
    refine lv_aload_n hx hb dL_law_376 rfl (lv_at hl 0 rfl) ?_
    refine lv_iload hx hb dL_law_377 (lv_at hl 4 rfl) ?_
    refine lv_iconst (v := 1) hx hb dL_law_379 (by decide) ?_
    refine lv_iadd hx hb dL_law_380 ?_
    refine va_sld hx hb hX hbl hbA hA.2.2 h1 dL_law_381 ?_
    refine lv_aload_n hx hb dL_law_382 rfl (lv_at hl 0 rfl) ?_
    refine lv_iload hx hb dL_law_383 (lv_at hl 4 rfl) ?_
    refine lv_iconst (v := 2) hx hb dL_law_385 (by decide) ?_
    refine lv_iadd hx hb dL_law_386 ?_
    refine va_sld hx hb hX hbl hbA hA.2.2 h2 dL_law_387 ?_
    refine lv_aload_n hx hb dL_law_388 rfl (lv_at hl 0 rfl) ?_
    refine lv_iload hx hb dL_law_389 (lv_at hl 4 rfl) ?_
    refine lv_iconst (v := 3) hx hb dL_law_391 (by decide) ?_
    refine lv_iadd hx hb dL_law_392 ?_
    refine va_sld hx hb hX hbl hbA hA.2.2 h3 dL_law_393 ?_
    refine lv_aload_n hx hb dL_law_394 rfl (lv_at hl 3 rfl) ?_
    refine r_fSW (r := 3) (w := (wX g σ ++ oc g o f)) (w1 := (wX g σ' ++ oc g o f)) (wr := wM (gq g u) τ) (As := [.ref (g.2.1 0), .int (xs (x4 + 1).toNatClampNeg), .int (xs (x4 + 2).toNatClampNeg), .int (xs (x4 + 3).toNatClampNeg), .ref o]) (rest := []) C hA hl.1 (k_L_give_t1 C.2.2.2.2.2.2 hf1) (vx_cwSW 5 C.1.2.2.2.2 gL_law_L_give rfl rfl rfl nd_L_give ⟨Nat.le_of_ble_eq_true rfl, Nat.le_of_ble_eq_true rfl⟩) rfl rfl (Nat.le_of_ble_eq_true rfl) dL_law_395 ⟨by show cells + 1 ≤ 601024; omega, by show slots + 6 ≤ 7293034; omega⟩ (fun H locs hA => ?_)
    refine lv_istore (lv' := [(5, .int 3), (0, .ref b), (1, .ref (g.2.1 0)), (2, .ref (u 0)), (3, .ref o), (4, .int x4)]) hx hb dL_law_398 hl (by decide) rfl (fun ls hl => ?_)
    refine lv_aload_n hx hb dL_law_400 rfl (lv_at hl 3 rfl) ?_
    refine lv_aload_n hx hb dL_law_401 rfl (lv_at hl 1 rfl) ?_
    refine lv_iload hx hb dL_law_402 (lv_at hl 5 rfl) ?_
    refine lv_iconst (v := 1) hx hb dL_law_404 (by decide) ?_
    refine lv_iadd hx hb dL_law_405 ?_
    refine va_sld hx hb hX hbl hbA hA.2.2 h1 dL_law_406 ?_
    refine lv_aload_n hx hb dL_law_407 rfl (lv_at hl 1 rfl) ?_
    refine lv_iload hx hb dL_law_408 (lv_at hl 5 rfl) ?_
    refine lv_iconst (v := 2) hx hb dL_law_410 (by decide) ?_
    refine lv_iadd hx hb dL_law_411 ?_
    refine va_sld hx hb hX hbl hbA hA.2.2 h2 dL_law_412 ?_
    refine lv_aload_n hx hb dL_law_413 rfl (lv_at hl 1 rfl) ?_
    refine lv_iload hx hb dL_law_414 (lv_at hl 5 rfl) ?_
    refine lv_iconst (v := 3) hx hb dL_law_416 (by decide) ?_
    refine lv_iadd hx hb dL_law_417 ?_
    refine va_sld hx hb hX hbl hbA hA.2.2 h3 dL_law_418 ?_
    replace hA := Aw_swap hA
    refine r_fVi (r := v) (w := wM (gq g u) τ) (w1 := wM (gq g u) τ') (wr := wX g σ' ++ oc g o f) (As := [.int (xs (x4 + 1).toNatClampNeg), .int (xs (x4 + 2).toNatClampNeg), .int (xs (x4 + 3).toNatClampNeg)]) (rest := []) C hA hl.1 (k_X8_give (g := gq g u) C.2.2.2.2.2.2 hf2) (cwV 3 C.1.2.2.2.2 gL_law_X8_give rfl rfl rfl nd_X8_give ⟨Nat.le_of_ble_eq_true rfl, Nat.le_of_ble_eq_true rfl⟩) 0 rfl rfl rfl rfl (Nat.le_of_ble_eq_true rfl) dL_law_419 ⟨by show _ ≤ 601024; omega, by show _ ≤ 7293034; omega⟩ (fun H locs hA => ?_)
    replace hA := Aw_swap hA
    refine lv_istore (lv' := [(6, .int v), (5, .int 3), (0, .ref b), (1, .ref (g.2.1 0)), (2, .ref (u 0)), (3, .ref o), (4, .int x4)]) hx hb dL_law_422 hl (by decide) rfl (fun ls hl => ?_)
    refine lv_aload_n hx hb dL_law_424 rfl (lv_at hl 4 rfl) ?_
    replace hA := Aw_swap hA
    refine r_fVi (r := (τ'.1 0)) (w := wM (gq g u) τ') (w1 := wM (gq g u) τ') (wr := wX g σ' ++ oc g o f) (As := []) (rest := []) C hA hl.1 (k_X8_thrown (g := gq g u) (fu := fu) C.2.2.2.2.2.2 rfl) (cwV 0 C.1.2.2.2.2 gL_law_X8_thrown rfl rfl rfl nd_X8_thrown ⟨Nat.le_of_ble_eq_true rfl, Nat.le_of_ble_eq_true rfl⟩) 0 rfl rfl rfl rfl (Nat.le_of_ble_eq_true rfl) dL_law_425 ⟨by show _ ≤ 601024; omega, by show _ ≤ 7293034; omega⟩ (fun H locs hA => ?_)
    replace hA := Aw_swap hA
    refine lv_iload hx hb dL_law_428 (lv_at hl 1 rfl) ?_
    refine lv_icmp_eq (tgt := 435) hx hb dL_law_430 (by decide) (fun c1 => ?_) (fun c1 => absurd ht c1)
    refine lv_iload hx hb dL_law_435 (lv_at hl 1 rfl) ?_
    refine lv_if_ne (tgt := 452) hx hb dL_law_437 (by decide) (fun c1 => ?_) (fun c1 => absurd c1 (by decide))
    refine lv_goto (tgt := 1387) hx hb dL_law_452 (by decide) ?_
    refine W.widen (k := cells + 1) (n := slots + 6) (by show _ ≤ cells + 1; omega) (by show _ ≤ slots + 6; omega) ?_
    exact hk _ _ _ _ _ _ hRel hA (lv_sub hl [2, 3, 4, 5, 6] rfl)
set_option maxHeartbeats 4000000 in
set_option maxRecDepth 100000 in
theorem law_c6 (SIM : Sim_lend fu Rel) (C : Cx p l s m args meth c code 8 wsL_law ret RL g A) (hX : va_X b L xs s s.heap) (hbl : b < s.heap.size) (hbA : ¬ A b) (hRel0 : Rel σ τ) (hrc : cells + 1 ≤ 601024) (hrs : slots + 6 ≤ 7293034) (h1 : vp_in (x4 + 1) L) (h2 : vp_in (x4 + 2) L) (h3 : vp_in (x4 + 3) L) (h4 : vp_in (x4 + 4) L) (h5 : vp_in (x4 + 5) L) (hA : Aw g A s.heap ((wX g σ ++ oc g o f) ++ wM (gq g u) τ) H locs) (hl : lv_has ls 8 [(0, .ref b), (1, .ref (g.2.1 0)), (2, .ref (u 0)), (3, .ref o), (4, .int x4)]) (hk : Kont p l e s m args below meth c Q g A Rel b o u x4 (cells + 1) (slots + 6)) : W p l e room_1 s m args below meth c H locs cells slots Q (F0 m 455 ls []) := by
  have hx := C.1.1
  have hb := C.1.2.1
  rcases SIM σ τ hRel0 (xs (x4 + 1).toNatClampNeg) (xs (x4 + 2).toNatClampNeg) (xs (x4 + 3).toNatClampNeg) with ⟨v, σ', τ', hf1, hf2, ht, hRel⟩ | ⟨v, σ', τ', hf1, hf2, ht, hRel⟩ | ⟨v, σ', τ', hf1, hf2, ht, hRel⟩ | ⟨v, σ', τ', hf1, hf2, ht, hRel⟩
  · refine lv_aload_n hx hb dL_law_455 rfl (lv_at hl 1 rfl) ?_
    refine lv_aload_n hx hb dL_law_456 rfl (lv_at hl 0 rfl) ?_
    refine lv_iload hx hb dL_law_457 (lv_at hl 4 rfl) ?_
    refine lv_iconst (v := 1) hx hb dL_law_459 (by decide) ?_
    refine lv_iadd hx hb dL_law_460 ?_
    refine va_sld hx hb hX hbl hbA hA.2.2 h1 dL_law_461 ?_
    refine lv_aload_n hx hb dL_law_462 rfl (lv_at hl 0 rfl) ?_
    refine lv_iload hx hb dL_law_463 (lv_at hl 4 rfl) ?_
    refine lv_iconst (v := 2) hx hb dL_law_465 (by decide) ?_
    refine lv_iadd hx hb dL_law_466 ?_
    refine va_sld hx hb hX hbl hbA hA.2.2 h2 dL_law_467 ?_
    refine lv_aload_n hx hb dL_law_468 rfl (lv_at hl 0 rfl) ?_
    refine lv_iload hx hb dL_law_469 (lv_at hl 4 rfl) ?_
    refine lv_iconst (v := 3) hx hb dL_law_471 (by decide) ?_
    refine lv_iadd hx hb dL_law_472 ?_
    refine va_sld hx hb hX hbl hbA hA.2.2 h3 dL_law_473 ?_
    refine lv_aload_n hx hb dL_law_474 rfl (lv_at hl 3 rfl) ?_
    refine r_fSW (r := 0) (w := (wX g σ ++ oc g o f)) (w1 := (wX g σ' ++ oc g o (vp_updL f (0 : Int32).toNatClampNeg v.toInt64))) (wr := wM (gq g u) τ) (As := [.ref (g.2.1 0), .int (xs (x4 + 1).toNatClampNeg), .int (xs (x4 + 2).toNatClampNeg), .int (xs (x4 + 3).toNatClampNeg), .ref o]) (rest := []) C hA hl.1 (k_L_lend C.2.2.2.2.2.2 hf1) (vx_cwSW 5 C.1.2.2.2.2 gL_law_L_lend rfl rfl rfl nd_L_lend ⟨Nat.le_of_ble_eq_true rfl, Nat.le_of_ble_eq_true rfl⟩) rfl rfl (Nat.le_of_ble_eq_true rfl) dL_law_475 ⟨by show cells + 1 ≤ 601024; omega, by show slots + 6 ≤ 7293034; omega⟩ (fun H locs hA => ?_)
    refine lv_istore (lv' := [(5, .int 0), (0, .ref b), (1, .ref (g.2.1 0)), (2, .ref (u 0)), (3, .ref o), (4, .int x4)]) hx hb dL_law_478 hl (by decide) rfl (fun ls hl => ?_)
    refine lv_aload_n hx hb dL_law_480 rfl (lv_at hl 3 rfl) ?_
    refine lv_aload_n hx hb dL_law_481 rfl (lv_at hl 1 rfl) ?_
    refine lv_iload hx hb dL_law_482 (lv_at hl 5 rfl) ?_
    refine lv_iconst (v := 1) hx hb dL_law_484 (by decide) ?_
    refine lv_iadd hx hb dL_law_485 ?_
    refine va_sld hx hb hX hbl hbA hA.2.2 h1 dL_law_486 ?_
    refine lv_aload_n hx hb dL_law_487 rfl (lv_at hl 1 rfl) ?_
    refine lv_iload hx hb dL_law_488 (lv_at hl 5 rfl) ?_
    refine lv_iconst (v := 2) hx hb dL_law_490 (by decide) ?_
    refine lv_iadd hx hb dL_law_491 ?_
    refine va_sld hx hb hX hbl hbA hA.2.2 h2 dL_law_492 ?_
    refine lv_aload_n hx hb dL_law_493 rfl (lv_at hl 1 rfl) ?_
    refine lv_iload hx hb dL_law_494 (lv_at hl 5 rfl) ?_
    refine lv_iconst (v := 3) hx hb dL_law_496 (by decide) ?_
    refine lv_iadd hx hb dL_law_497 ?_
    refine va_sld hx hb hX hbl hbA hA.2.2 h3 dL_law_498 ?_
    replace hA := Aw_swap hA
    refine r_fVi (r := v) (w := wM (gq g u) τ) (w1 := wM (gq g u) τ') (wr := wX g σ' ++ oc g o (vp_updL f (0 : Int32).toNatClampNeg v.toInt64)) (As := [.int (xs (x4 + 1).toNatClampNeg), .int (xs (x4 + 2).toNatClampNeg), .int (xs (x4 + 3).toNatClampNeg)]) (rest := []) C hA hl.1 (k_X8_lend (g := gq g u) C.2.2.2.2.2.2 hf2) (cwV 3 C.1.2.2.2.2 gL_law_X8_lend rfl rfl rfl nd_X8_lend ⟨Nat.le_of_ble_eq_true rfl, Nat.le_of_ble_eq_true rfl⟩) 0 rfl rfl rfl rfl (Nat.le_of_ble_eq_true rfl) dL_law_499 ⟨by show _ ≤ 601024; omega, by show _ ≤ 7293034; omega⟩ (fun H locs hA => ?_)
    replace hA := Aw_swap hA
    refine lv_istore (lv' := [(6, .int v), (5, .int 0), (0, .ref b), (1, .ref (g.2.1 0)), (2, .ref (u 0)), (3, .ref o), (4, .int x4)]) hx hb dL_law_502 hl (by decide) rfl (fun ls hl => ?_)
    refine lv_aload_n hx hb dL_law_504 rfl (lv_at hl 4 rfl) ?_
    replace hA := Aw_swap hA
    refine r_fVi (r := (τ'.1 0)) (w := wM (gq g u) τ') (w1 := wM (gq g u) τ') (wr := wX g σ' ++ oc g o (vp_updL f (0 : Int32).toNatClampNeg v.toInt64)) (As := []) (rest := []) C hA hl.1 (k_X8_thrown (g := gq g u) (fu := fu) C.2.2.2.2.2.2 rfl) (cwV 0 C.1.2.2.2.2 gL_law_X8_thrown rfl rfl rfl nd_X8_thrown ⟨Nat.le_of_ble_eq_true rfl, Nat.le_of_ble_eq_true rfl⟩) 0 rfl rfl rfl rfl (Nat.le_of_ble_eq_true rfl) dL_law_505 ⟨by show _ ≤ 601024; omega, by show _ ≤ 7293034; omega⟩ (fun H locs hA => ?_)
    replace hA := Aw_swap hA
    refine lv_iload hx hb dL_law_508 (lv_at hl 1 rfl) ?_
    refine lv_icmp_eq (tgt := 515) hx hb dL_law_510 (by decide) (fun c1 => ?_) (fun c1 => absurd ht c1)
    refine lv_iload hx hb dL_law_515 (lv_at hl 1 rfl) ?_
    refine lv_if_ne (tgt := 532) hx hb dL_law_517 (by decide) (fun c1 => absurd rfl c1) (fun c1 => ?_)
    refine lv_aload_n hx hb dL_law_520 rfl (lv_at hl 5 rfl) ?_
    refine lv_iconst (v := 0) hx hb dL_law_521 (by decide) ?_
    refine r_lald C hA 44 1 rfl rfl (by decide) dL_law_522 ?_
    rw [pk_uLs]
    refine lv_iload hx hb dL_law_523 (lv_at hl 0 rfl) ?_
    refine lv_i2l (v := v.toInt64) hx hb dL_law_525 rfl ?_
    refine W.lcmp hx hb dL_law_526 ?_
    refine lv_if_eq (tgt := 532) hx hb dL_law_527 (by decide) (fun c1 => ?_) (fun c1 => absurd (lgc _) c1)
    refine lv_goto (tgt := 1387) hx hb dL_law_532 (by decide) ?_
    refine W.widen (k := cells + 1) (n := slots + 6) (by show _ ≤ cells + 1; omega) (by show _ ≤ slots + 6; omega) ?_
    exact hk _ _ _ _ _ _ hRel hA (lv_sub hl [2, 3, 4, 5, 6] rfl)
  · refine lv_aload_n hx hb dL_law_455 rfl (lv_at hl 1 rfl) ?_
    refine lv_aload_n hx hb dL_law_456 rfl (lv_at hl 0 rfl) ?_
    refine lv_iload hx hb dL_law_457 (lv_at hl 4 rfl) ?_
    refine lv_iconst (v := 1) hx hb dL_law_459 (by decide) ?_
    refine lv_iadd hx hb dL_law_460 ?_
    refine va_sld hx hb hX hbl hbA hA.2.2 h1 dL_law_461 ?_
    refine lv_aload_n hx hb dL_law_462 rfl (lv_at hl 0 rfl) ?_
    refine lv_iload hx hb dL_law_463 (lv_at hl 4 rfl) ?_
    refine lv_iconst (v := 2) hx hb dL_law_465 (by decide) ?_
    refine lv_iadd hx hb dL_law_466 ?_
    refine va_sld hx hb hX hbl hbA hA.2.2 h2 dL_law_467 ?_
    refine lv_aload_n hx hb dL_law_468 rfl (lv_at hl 0 rfl) ?_
    refine lv_iload hx hb dL_law_469 (lv_at hl 4 rfl) ?_
    refine lv_iconst (v := 3) hx hb dL_law_471 (by decide) ?_
    refine lv_iadd hx hb dL_law_472 ?_
    refine va_sld hx hb hX hbl hbA hA.2.2 h3 dL_law_473 ?_
    refine lv_aload_n hx hb dL_law_474 rfl (lv_at hl 3 rfl) ?_
    refine r_fSW (r := 1) (w := (wX g σ ++ oc g o f)) (w1 := (wX g σ' ++ oc g o f)) (wr := wM (gq g u) τ) (As := [.ref (g.2.1 0), .int (xs (x4 + 1).toNatClampNeg), .int (xs (x4 + 2).toNatClampNeg), .int (xs (x4 + 3).toNatClampNeg), .ref o]) (rest := []) C hA hl.1 (k_L_lend_t2 C.2.2.2.2.2.2 hf1) (vx_cwSW 5 C.1.2.2.2.2 gL_law_L_lend rfl rfl rfl nd_L_lend ⟨Nat.le_of_ble_eq_true rfl, Nat.le_of_ble_eq_true rfl⟩) rfl rfl (Nat.le_of_ble_eq_true rfl) dL_law_475 ⟨by show cells + 1 ≤ 601024; omega, by show slots + 6 ≤ 7293034; omega⟩ (fun H locs hA => ?_)
    refine lv_istore (lv' := [(5, .int 1), (0, .ref b), (1, .ref (g.2.1 0)), (2, .ref (u 0)), (3, .ref o), (4, .int x4)]) hx hb dL_law_478 hl (by decide) rfl (fun ls hl => ?_)
    refine lv_aload_n hx hb dL_law_480 rfl (lv_at hl 3 rfl) ?_
    refine lv_aload_n hx hb dL_law_481 rfl (lv_at hl 1 rfl) ?_
    refine lv_iload hx hb dL_law_482 (lv_at hl 5 rfl) ?_
    refine lv_iconst (v := 1) hx hb dL_law_484 (by decide) ?_
    refine lv_iadd hx hb dL_law_485 ?_
    refine va_sld hx hb hX hbl hbA hA.2.2 h1 dL_law_486 ?_
    refine lv_aload_n hx hb dL_law_487 rfl (lv_at hl 1 rfl) ?_
    refine lv_iload hx hb dL_law_488 (lv_at hl 5 rfl) ?_
    refine lv_iconst (v := 2) hx hb dL_law_490 (by decide) ?_
    refine lv_iadd hx hb dL_law_491 ?_
    refine va_sld hx hb hX hbl hbA hA.2.2 h2 dL_law_492 ?_
    refine lv_aload_n hx hb dL_law_493 rfl (lv_at hl 1 rfl) ?_
    refine lv_iload hx hb dL_law_494 (lv_at hl 5 rfl) ?_
    refine lv_iconst (v := 3) hx hb dL_law_496 (by decide) ?_
    refine lv_iadd hx hb dL_law_497 ?_
    refine va_sld hx hb hX hbl hbA hA.2.2 h3 dL_law_498 ?_
    replace hA := Aw_swap hA
    refine r_fVi (r := v) (w := wM (gq g u) τ) (w1 := wM (gq g u) τ') (wr := wX g σ' ++ oc g o f) (As := [.int (xs (x4 + 1).toNatClampNeg), .int (xs (x4 + 2).toNatClampNeg), .int (xs (x4 + 3).toNatClampNeg)]) (rest := []) C hA hl.1 (k_X8_lend (g := gq g u) C.2.2.2.2.2.2 hf2) (cwV 3 C.1.2.2.2.2 gL_law_X8_lend rfl rfl rfl nd_X8_lend ⟨Nat.le_of_ble_eq_true rfl, Nat.le_of_ble_eq_true rfl⟩) 0 rfl rfl rfl rfl (Nat.le_of_ble_eq_true rfl) dL_law_499 ⟨by show _ ≤ 601024; omega, by show _ ≤ 7293034; omega⟩ (fun H locs hA => ?_)
    replace hA := Aw_swap hA
    refine lv_istore (lv' := [(6, .int v), (5, .int 1), (0, .ref b), (1, .ref (g.2.1 0)), (2, .ref (u 0)), (3, .ref o), (4, .int x4)]) hx hb dL_law_502 hl (by decide) rfl (fun ls hl => ?_)
    refine lv_aload_n hx hb dL_law_504 rfl (lv_at hl 4 rfl) ?_
    replace hA := Aw_swap hA
    refine r_fVi (r := (τ'.1 0)) (w := wM (gq g u) τ') (w1 := wM (gq g u) τ') (wr := wX g σ' ++ oc g o f) (As := []) (rest := []) C hA hl.1 (k_X8_thrown (g := gq g u) (fu := fu) C.2.2.2.2.2.2 rfl) (cwV 0 C.1.2.2.2.2 gL_law_X8_thrown rfl rfl rfl nd_X8_thrown ⟨Nat.le_of_ble_eq_true rfl, Nat.le_of_ble_eq_true rfl⟩) 0 rfl rfl rfl rfl (Nat.le_of_ble_eq_true rfl) dL_law_505 ⟨by show _ ≤ 601024; omega, by show _ ≤ 7293034; omega⟩ (fun H locs hA => ?_)
    replace hA := Aw_swap hA
    refine lv_iload hx hb dL_law_508 (lv_at hl 1 rfl) ?_
    refine lv_icmp_eq (tgt := 515) hx hb dL_law_510 (by decide) (fun c1 => ?_) (fun c1 => absurd ht c1)
    refine lv_iload hx hb dL_law_515 (lv_at hl 1 rfl) ?_
    refine lv_if_ne (tgt := 532) hx hb dL_law_517 (by decide) (fun c1 => ?_) (fun c1 => absurd c1 (by decide))
    refine lv_goto (tgt := 1387) hx hb dL_law_532 (by decide) ?_
    refine W.widen (k := cells + 1) (n := slots + 6) (by show _ ≤ cells + 1; omega) (by show _ ≤ slots + 6; omega) ?_
    exact hk _ _ _ _ _ _ hRel hA (lv_sub hl [2, 3, 4, 5, 6] rfl)
  · refine lv_aload_n hx hb dL_law_455 rfl (lv_at hl 1 rfl) ?_
    refine lv_aload_n hx hb dL_law_456 rfl (lv_at hl 0 rfl) ?_
    refine lv_iload hx hb dL_law_457 (lv_at hl 4 rfl) ?_
    refine lv_iconst (v := 1) hx hb dL_law_459 (by decide) ?_
    refine lv_iadd hx hb dL_law_460 ?_
    refine va_sld hx hb hX hbl hbA hA.2.2 h1 dL_law_461 ?_
    refine lv_aload_n hx hb dL_law_462 rfl (lv_at hl 0 rfl) ?_
    refine lv_iload hx hb dL_law_463 (lv_at hl 4 rfl) ?_
    refine lv_iconst (v := 2) hx hb dL_law_465 (by decide) ?_
    refine lv_iadd hx hb dL_law_466 ?_
    refine va_sld hx hb hX hbl hbA hA.2.2 h2 dL_law_467 ?_
    refine lv_aload_n hx hb dL_law_468 rfl (lv_at hl 0 rfl) ?_
    refine lv_iload hx hb dL_law_469 (lv_at hl 4 rfl) ?_
    refine lv_iconst (v := 3) hx hb dL_law_471 (by decide) ?_
    refine lv_iadd hx hb dL_law_472 ?_
    refine va_sld hx hb hX hbl hbA hA.2.2 h3 dL_law_473 ?_
    refine lv_aload_n hx hb dL_law_474 rfl (lv_at hl 3 rfl) ?_
    refine r_fSW (r := 2) (w := (wX g σ ++ oc g o f)) (w1 := (wX g σ' ++ oc g o f)) (wr := wM (gq g u) τ) (As := [.ref (g.2.1 0), .int (xs (x4 + 1).toNatClampNeg), .int (xs (x4 + 2).toNatClampNeg), .int (xs (x4 + 3).toNatClampNeg), .ref o]) (rest := []) C hA hl.1 (k_L_lend_t0 C.2.2.2.2.2.2 hf1) (vx_cwSW 5 C.1.2.2.2.2 gL_law_L_lend rfl rfl rfl nd_L_lend ⟨Nat.le_of_ble_eq_true rfl, Nat.le_of_ble_eq_true rfl⟩) rfl rfl (Nat.le_of_ble_eq_true rfl) dL_law_475 ⟨by show cells + 1 ≤ 601024; omega, by show slots + 6 ≤ 7293034; omega⟩ (fun H locs hA => ?_)
    refine lv_istore (lv' := [(5, .int 2), (0, .ref b), (1, .ref (g.2.1 0)), (2, .ref (u 0)), (3, .ref o), (4, .int x4)]) hx hb dL_law_478 hl (by decide) rfl (fun ls hl => ?_)
    refine lv_aload_n hx hb dL_law_480 rfl (lv_at hl 3 rfl) ?_
    refine lv_aload_n hx hb dL_law_481 rfl (lv_at hl 1 rfl) ?_
    refine lv_iload hx hb dL_law_482 (lv_at hl 5 rfl) ?_
    refine lv_iconst (v := 1) hx hb dL_law_484 (by decide) ?_
    refine lv_iadd hx hb dL_law_485 ?_
    refine va_sld hx hb hX hbl hbA hA.2.2 h1 dL_law_486 ?_
    refine lv_aload_n hx hb dL_law_487 rfl (lv_at hl 1 rfl) ?_
    refine lv_iload hx hb dL_law_488 (lv_at hl 5 rfl) ?_
    refine lv_iconst (v := 2) hx hb dL_law_490 (by decide) ?_
    refine lv_iadd hx hb dL_law_491 ?_
    refine va_sld hx hb hX hbl hbA hA.2.2 h2 dL_law_492 ?_
    refine lv_aload_n hx hb dL_law_493 rfl (lv_at hl 1 rfl) ?_
    refine lv_iload hx hb dL_law_494 (lv_at hl 5 rfl) ?_
    refine lv_iconst (v := 3) hx hb dL_law_496 (by decide) ?_
    refine lv_iadd hx hb dL_law_497 ?_
    refine va_sld hx hb hX hbl hbA hA.2.2 h3 dL_law_498 ?_
    replace hA := Aw_swap hA
    refine r_fVi (r := v) (w := wM (gq g u) τ) (w1 := wM (gq g u) τ') (wr := wX g σ' ++ oc g o f) (As := [.int (xs (x4 + 1).toNatClampNeg), .int (xs (x4 + 2).toNatClampNeg), .int (xs (x4 + 3).toNatClampNeg)]) (rest := []) C hA hl.1 (k_X8_lend (g := gq g u) C.2.2.2.2.2.2 hf2) (cwV 3 C.1.2.2.2.2 gL_law_X8_lend rfl rfl rfl nd_X8_lend ⟨Nat.le_of_ble_eq_true rfl, Nat.le_of_ble_eq_true rfl⟩) 0 rfl rfl rfl rfl (Nat.le_of_ble_eq_true rfl) dL_law_499 ⟨by show _ ≤ 601024; omega, by show _ ≤ 7293034; omega⟩ (fun H locs hA => ?_)
    replace hA := Aw_swap hA
    refine lv_istore (lv' := [(6, .int v), (5, .int 2), (0, .ref b), (1, .ref (g.2.1 0)), (2, .ref (u 0)), (3, .ref o), (4, .int x4)]) hx hb dL_law_502 hl (by decide) rfl (fun ls hl => ?_)
    refine lv_aload_n hx hb dL_law_504 rfl (lv_at hl 4 rfl) ?_
    replace hA := Aw_swap hA
    refine r_fVi (r := (τ'.1 0)) (w := wM (gq g u) τ') (w1 := wM (gq g u) τ') (wr := wX g σ' ++ oc g o f) (As := []) (rest := []) C hA hl.1 (k_X8_thrown (g := gq g u) (fu := fu) C.2.2.2.2.2.2 rfl) (cwV 0 C.1.2.2.2.2 gL_law_X8_thrown rfl rfl rfl nd_X8_thrown ⟨Nat.le_of_ble_eq_true rfl, Nat.le_of_ble_eq_true rfl⟩) 0 rfl rfl rfl rfl (Nat.le_of_ble_eq_true rfl) dL_law_505 ⟨by show _ ≤ 601024; omega, by show _ ≤ 7293034; omega⟩ (fun H locs hA => ?_)
    replace hA := Aw_swap hA
    refine lv_iload hx hb dL_law_508 (lv_at hl 1 rfl) ?_
    refine lv_icmp_eq (tgt := 515) hx hb dL_law_510 (by decide) (fun c1 => ?_) (fun c1 => absurd ht c1)
    refine lv_iload hx hb dL_law_515 (lv_at hl 1 rfl) ?_
    refine lv_if_ne (tgt := 532) hx hb dL_law_517 (by decide) (fun c1 => ?_) (fun c1 => absurd c1 (by decide))
    refine lv_goto (tgt := 1387) hx hb dL_law_532 (by decide) ?_
    refine W.widen (k := cells + 1) (n := slots + 6) (by show _ ≤ cells + 1; omega) (by show _ ≤ slots + 6; omega) ?_
    exact hk _ _ _ _ _ _ hRel hA (lv_sub hl [2, 3, 4, 5, 6] rfl)
  · refine lv_aload_n hx hb dL_law_455 rfl (lv_at hl 1 rfl) ?_
    refine lv_aload_n hx hb dL_law_456 rfl (lv_at hl 0 rfl) ?_
    refine lv_iload hx hb dL_law_457 (lv_at hl 4 rfl) ?_
    refine lv_iconst (v := 1) hx hb dL_law_459 (by decide) ?_
    refine lv_iadd hx hb dL_law_460 ?_
    refine va_sld hx hb hX hbl hbA hA.2.2 h1 dL_law_461 ?_
    refine lv_aload_n hx hb dL_law_462 rfl (lv_at hl 0 rfl) ?_
    refine lv_iload hx hb dL_law_463 (lv_at hl 4 rfl) ?_
    refine lv_iconst (v := 2) hx hb dL_law_465 (by decide) ?_
    refine lv_iadd hx hb dL_law_466 ?_
    refine va_sld hx hb hX hbl hbA hA.2.2 h2 dL_law_467 ?_
    refine lv_aload_n hx hb dL_law_468 rfl (lv_at hl 0 rfl) ?_
    refine lv_iload hx hb dL_law_469 (lv_at hl 4 rfl) ?_
    refine lv_iconst (v := 3) hx hb dL_law_471 (by decide) ?_
    refine lv_iadd hx hb dL_law_472 ?_
    refine va_sld hx hb hX hbl hbA hA.2.2 h3 dL_law_473 ?_
    refine lv_aload_n hx hb dL_law_474 rfl (lv_at hl 3 rfl) ?_
    refine r_fSW (r := 3) (w := (wX g σ ++ oc g o f)) (w1 := (wX g σ' ++ oc g o f)) (wr := wM (gq g u) τ) (As := [.ref (g.2.1 0), .int (xs (x4 + 1).toNatClampNeg), .int (xs (x4 + 2).toNatClampNeg), .int (xs (x4 + 3).toNatClampNeg), .ref o]) (rest := []) C hA hl.1 (k_L_lend_t1 C.2.2.2.2.2.2 hf1) (vx_cwSW 5 C.1.2.2.2.2 gL_law_L_lend rfl rfl rfl nd_L_lend ⟨Nat.le_of_ble_eq_true rfl, Nat.le_of_ble_eq_true rfl⟩) rfl rfl (Nat.le_of_ble_eq_true rfl) dL_law_475 ⟨by show cells + 1 ≤ 601024; omega, by show slots + 6 ≤ 7293034; omega⟩ (fun H locs hA => ?_)
    refine lv_istore (lv' := [(5, .int 3), (0, .ref b), (1, .ref (g.2.1 0)), (2, .ref (u 0)), (3, .ref o), (4, .int x4)]) hx hb dL_law_478 hl (by decide) rfl (fun ls hl => ?_)
    refine lv_aload_n hx hb dL_law_480 rfl (lv_at hl 3 rfl) ?_
    refine lv_aload_n hx hb dL_law_481 rfl (lv_at hl 1 rfl) ?_
    refine lv_iload hx hb dL_law_482 (lv_at hl 5 rfl) ?_
    refine lv_iconst (v := 1) hx hb dL_law_484 (by decide) ?_
    refine lv_iadd hx hb dL_law_485 ?_
    refine va_sld hx hb hX hbl hbA hA.2.2 h1 dL_law_486 ?_
    refine lv_aload_n hx hb dL_law_487 rfl (lv_at hl 1 rfl) ?_
    refine lv_iload hx hb dL_law_488 (lv_at hl 5 rfl) ?_
    refine lv_iconst (v := 2) hx hb dL_law_490 (by decide) ?_
    refine lv_iadd hx hb dL_law_491 ?_
    refine va_sld hx hb hX hbl hbA hA.2.2 h2 dL_law_492 ?_
    refine lv_aload_n hx hb dL_law_493 rfl (lv_at hl 1 rfl) ?_
    refine lv_iload hx hb dL_law_494 (lv_at hl 5 rfl) ?_
    refine lv_iconst (v := 3) hx hb dL_law_496 (by decide) ?_
    refine lv_iadd hx hb dL_law_497 ?_
    refine va_sld hx hb hX hbl hbA hA.2.2 h3 dL_law_498 ?_
    replace hA := Aw_swap hA
    refine r_fVi (r := v) (w := wM (gq g u) τ) (w1 := wM (gq g u) τ') (wr := wX g σ' ++ oc g o f) (As := [.int (xs (x4 + 1).toNatClampNeg), .int (xs (x4 + 2).toNatClampNeg), .int (xs (x4 + 3).toNatClampNeg)]) (rest := []) C hA hl.1 (k_X8_lend (g := gq g u) C.2.2.2.2.2.2 hf2) (cwV 3 C.1.2.2.2.2 gL_law_X8_lend rfl rfl rfl nd_X8_lend ⟨Nat.le_of_ble_eq_true rfl, Nat.le_of_ble_eq_true rfl⟩) 0 rfl rfl rfl rfl (Nat.le_of_ble_eq_true rfl) dL_law_499 ⟨by show _ ≤ 601024; omega, by show _ ≤ 7293034; omega⟩ (fun H locs hA => ?_)
    replace hA := Aw_swap hA
    refine lv_istore (lv' := [(6, .int v), (5, .int 3), (0, .ref b), (1, .ref (g.2.1 0)), (2, .ref (u 0)), (3, .ref o), (4, .int x4)]) hx hb dL_law_502 hl (by decide) rfl (fun ls hl => ?_)
    refine lv_aload_n hx hb dL_law_504 rfl (lv_at hl 4 rfl) ?_
    replace hA := Aw_swap hA
    refine r_fVi (r := (τ'.1 0)) (w := wM (gq g u) τ') (w1 := wM (gq g u) τ') (wr := wX g σ' ++ oc g o f) (As := []) (rest := []) C hA hl.1 (k_X8_thrown (g := gq g u) (fu := fu) C.2.2.2.2.2.2 rfl) (cwV 0 C.1.2.2.2.2 gL_law_X8_thrown rfl rfl rfl nd_X8_thrown ⟨Nat.le_of_ble_eq_true rfl, Nat.le_of_ble_eq_true rfl⟩) 0 rfl rfl rfl rfl (Nat.le_of_ble_eq_true rfl) dL_law_505 ⟨by show _ ≤ 601024; omega, by show _ ≤ 7293034; omega⟩ (fun H locs hA => ?_)
    replace hA := Aw_swap hA
    refine lv_iload hx hb dL_law_508 (lv_at hl 1 rfl) ?_
    refine lv_icmp_eq (tgt := 515) hx hb dL_law_510 (by decide) (fun c1 => ?_) (fun c1 => absurd ht c1)
    refine lv_iload hx hb dL_law_515 (lv_at hl 1 rfl) ?_
    refine lv_if_ne (tgt := 532) hx hb dL_law_517 (by decide) (fun c1 => ?_) (fun c1 => absurd c1 (by decide))
    refine lv_goto (tgt := 1387) hx hb dL_law_532 (by decide) ?_
    refine W.widen (k := cells + 1) (n := slots + 6) (by show _ ≤ cells + 1; omega) (by show _ ≤ slots + 6; omega) ?_
    exact hk _ _ _ _ _ _ hRel hA (lv_sub hl [2, 3, 4, 5, 6] rfl)
set_option maxHeartbeats 4000000 in
set_option maxRecDepth 100000 in
theorem law_c7 (SIM : Sim_copper fu Rel) (C : Cx p l s m args meth c code 8 wsL_law ret RL g A) (hX : va_X b L xs s s.heap) (hbl : b < s.heap.size) (hbA : ¬ A b) (hRel0 : Rel σ τ) (hrc : cells + 1 ≤ 601024) (hrs : slots + 6 ≤ 7293034) (h1 : vp_in (x4 + 1) L) (h2 : vp_in (x4 + 2) L) (h3 : vp_in (x4 + 3) L) (h4 : vp_in (x4 + 4) L) (h5 : vp_in (x4 + 5) L) (hA : Aw g A s.heap ((wX g σ ++ oc g o f) ++ wM (gq g u) τ) H locs) (hl : lv_has ls 8 [(0, .ref b), (1, .ref (g.2.1 0)), (2, .ref (u 0)), (3, .ref o), (4, .int x4)]) (hk : Kont p l e s m args below meth c Q g A Rel b o u x4 (cells + 1) (slots + 6)) : W p l e room_1 s m args below meth c H locs cells slots Q (F0 m 535 ls []) := by
  have hx := C.1.1
  have hb := C.1.2.1
  rcases SIM σ τ hRel0 (xs (x4 + 1).toNatClampNeg) (xs (x4 + 2).toNatClampNeg) with ⟨v, σ', τ', hf1, hf2, ht, hRel⟩ | ⟨v, σ', τ', hf1, hf2, ht, hRel⟩ | ⟨v, σ', τ', hf1, hf2, ht, hRel⟩ | ⟨v, σ', τ', hf1, hf2, ht, hRel⟩
  · refine lv_aload_n hx hb dL_law_535 rfl (lv_at hl 1 rfl) ?_
    refine lv_aload_n hx hb dL_law_536 rfl (lv_at hl 0 rfl) ?_
    refine lv_iload hx hb dL_law_537 (lv_at hl 4 rfl) ?_
    refine lv_iconst (v := 1) hx hb dL_law_539 (by decide) ?_
    refine lv_iadd hx hb dL_law_540 ?_
    refine va_sld hx hb hX hbl hbA hA.2.2 h1 dL_law_541 ?_
    refine lv_aload_n hx hb dL_law_542 rfl (lv_at hl 0 rfl) ?_
    refine lv_iload hx hb dL_law_543 (lv_at hl 4 rfl) ?_
    refine lv_iconst (v := 2) hx hb dL_law_545 (by decide) ?_
    refine lv_iadd hx hb dL_law_546 ?_
    refine va_sld hx hb hX hbl hbA hA.2.2 h2 dL_law_547 ?_
    refine lv_aload_n hx hb dL_law_548 rfl (lv_at hl 3 rfl) ?_
    refine r_fSW (r := 0) (w := (wX g σ ++ oc g o f)) (w1 := (wX g σ' ++ oc g o (vp_updL f (0 : Int32).toNatClampNeg v.toInt64))) (wr := wM (gq g u) τ) (As := [.ref (g.2.1 0), .int (xs (x4 + 1).toNatClampNeg), .int (xs (x4 + 2).toNatClampNeg), .ref o]) (rest := []) C hA hl.1 (k_L_copper C.2.2.2.2.2.2 hf1) (vx_cwSW 4 C.1.2.2.2.2 gL_law_L_copper rfl rfl rfl nd_L_copper ⟨Nat.le_of_ble_eq_true rfl, Nat.le_of_ble_eq_true rfl⟩) rfl rfl (Nat.le_of_ble_eq_true rfl) dL_law_549 ⟨by show cells + 1 ≤ 601024; omega, by show slots + 6 ≤ 7293034; omega⟩ (fun H locs hA => ?_)
    refine lv_istore (lv' := [(5, .int 0), (0, .ref b), (1, .ref (g.2.1 0)), (2, .ref (u 0)), (3, .ref o), (4, .int x4)]) hx hb dL_law_552 hl (by decide) rfl (fun ls hl => ?_)
    refine lv_aload_n hx hb dL_law_554 rfl (lv_at hl 3 rfl) ?_
    refine lv_aload_n hx hb dL_law_555 rfl (lv_at hl 1 rfl) ?_
    refine lv_iload hx hb dL_law_556 (lv_at hl 5 rfl) ?_
    refine lv_iconst (v := 1) hx hb dL_law_558 (by decide) ?_
    refine lv_iadd hx hb dL_law_559 ?_
    refine va_sld hx hb hX hbl hbA hA.2.2 h1 dL_law_560 ?_
    refine lv_aload_n hx hb dL_law_561 rfl (lv_at hl 1 rfl) ?_
    refine lv_iload hx hb dL_law_562 (lv_at hl 5 rfl) ?_
    refine lv_iconst (v := 2) hx hb dL_law_564 (by decide) ?_
    refine lv_iadd hx hb dL_law_565 ?_
    refine va_sld hx hb hX hbl hbA hA.2.2 h2 dL_law_566 ?_
    replace hA := Aw_swap hA
    refine r_fVi (r := v) (w := wM (gq g u) τ) (w1 := wM (gq g u) τ') (wr := wX g σ' ++ oc g o (vp_updL f (0 : Int32).toNatClampNeg v.toInt64)) (As := [.int (xs (x4 + 1).toNatClampNeg), .int (xs (x4 + 2).toNatClampNeg)]) (rest := []) C hA hl.1 (k_X8_copper (g := gq g u) C.2.2.2.2.2.2 hf2) (cwV 2 C.1.2.2.2.2 gL_law_X8_copper rfl rfl rfl nd_X8_copper ⟨Nat.le_of_ble_eq_true rfl, Nat.le_of_ble_eq_true rfl⟩) 0 rfl rfl rfl rfl (Nat.le_of_ble_eq_true rfl) dL_law_567 ⟨by show _ ≤ 601024; omega, by show _ ≤ 7293034; omega⟩ (fun H locs hA => ?_)
    replace hA := Aw_swap hA
    refine lv_istore (lv' := [(6, .int v), (5, .int 0), (0, .ref b), (1, .ref (g.2.1 0)), (2, .ref (u 0)), (3, .ref o), (4, .int x4)]) hx hb dL_law_570 hl (by decide) rfl (fun ls hl => ?_)
    refine lv_aload_n hx hb dL_law_572 rfl (lv_at hl 4 rfl) ?_
    replace hA := Aw_swap hA
    refine r_fVi (r := (τ'.1 0)) (w := wM (gq g u) τ') (w1 := wM (gq g u) τ') (wr := wX g σ' ++ oc g o (vp_updL f (0 : Int32).toNatClampNeg v.toInt64)) (As := []) (rest := []) C hA hl.1 (k_X8_thrown (g := gq g u) (fu := fu) C.2.2.2.2.2.2 rfl) (cwV 0 C.1.2.2.2.2 gL_law_X8_thrown rfl rfl rfl nd_X8_thrown ⟨Nat.le_of_ble_eq_true rfl, Nat.le_of_ble_eq_true rfl⟩) 0 rfl rfl rfl rfl (Nat.le_of_ble_eq_true rfl) dL_law_573 ⟨by show _ ≤ 601024; omega, by show _ ≤ 7293034; omega⟩ (fun H locs hA => ?_)
    replace hA := Aw_swap hA
    refine lv_iload hx hb dL_law_576 (lv_at hl 1 rfl) ?_
    refine lv_icmp_eq (tgt := 583) hx hb dL_law_578 (by decide) (fun c1 => ?_) (fun c1 => absurd ht c1)
    refine lv_iload hx hb dL_law_583 (lv_at hl 1 rfl) ?_
    refine lv_if_ne (tgt := 600) hx hb dL_law_585 (by decide) (fun c1 => absurd rfl c1) (fun c1 => ?_)
    refine lv_aload_n hx hb dL_law_588 rfl (lv_at hl 5 rfl) ?_
    refine lv_iconst (v := 0) hx hb dL_law_589 (by decide) ?_
    refine r_lald C hA 44 1 rfl rfl (by decide) dL_law_590 ?_
    rw [pk_uLs]
    refine lv_iload hx hb dL_law_591 (lv_at hl 0 rfl) ?_
    refine lv_i2l (v := v.toInt64) hx hb dL_law_593 rfl ?_
    refine W.lcmp hx hb dL_law_594 ?_
    refine lv_if_eq (tgt := 600) hx hb dL_law_595 (by decide) (fun c1 => ?_) (fun c1 => absurd (lgc _) c1)
    refine lv_goto (tgt := 1387) hx hb dL_law_600 (by decide) ?_
    refine W.widen (k := cells + 1) (n := slots + 6) (by show _ ≤ cells + 1; omega) (by show _ ≤ slots + 6; omega) ?_
    exact hk _ _ _ _ _ _ hRel hA (lv_sub hl [2, 3, 4, 5, 6] rfl)
  · refine lv_aload_n hx hb dL_law_535 rfl (lv_at hl 1 rfl) ?_
    refine lv_aload_n hx hb dL_law_536 rfl (lv_at hl 0 rfl) ?_
    refine lv_iload hx hb dL_law_537 (lv_at hl 4 rfl) ?_
    refine lv_iconst (v := 1) hx hb dL_law_539 (by decide) ?_
    refine lv_iadd hx hb dL_law_540 ?_
    refine va_sld hx hb hX hbl hbA hA.2.2 h1 dL_law_541 ?_
    refine lv_aload_n hx hb dL_law_542 rfl (lv_at hl 0 rfl) ?_
    refine lv_iload hx hb dL_law_543 (lv_at hl 4 rfl) ?_
    refine lv_iconst (v := 2) hx hb dL_law_545 (by decide) ?_
    refine lv_iadd hx hb dL_law_546 ?_
    refine va_sld hx hb hX hbl hbA hA.2.2 h2 dL_law_547 ?_
    refine lv_aload_n hx hb dL_law_548 rfl (lv_at hl 3 rfl) ?_
    refine r_fSW (r := 1) (w := (wX g σ ++ oc g o f)) (w1 := (wX g σ' ++ oc g o f)) (wr := wM (gq g u) τ) (As := [.ref (g.2.1 0), .int (xs (x4 + 1).toNatClampNeg), .int (xs (x4 + 2).toNatClampNeg), .ref o]) (rest := []) C hA hl.1 (k_L_copper_t2 C.2.2.2.2.2.2 hf1) (vx_cwSW 4 C.1.2.2.2.2 gL_law_L_copper rfl rfl rfl nd_L_copper ⟨Nat.le_of_ble_eq_true rfl, Nat.le_of_ble_eq_true rfl⟩) rfl rfl (Nat.le_of_ble_eq_true rfl) dL_law_549 ⟨by show cells + 1 ≤ 601024; omega, by show slots + 6 ≤ 7293034; omega⟩ (fun H locs hA => ?_)
    refine lv_istore (lv' := [(5, .int 1), (0, .ref b), (1, .ref (g.2.1 0)), (2, .ref (u 0)), (3, .ref o), (4, .int x4)]) hx hb dL_law_552 hl (by decide) rfl (fun ls hl => ?_)
    refine lv_aload_n hx hb dL_law_554 rfl (lv_at hl 3 rfl) ?_
    refine lv_aload_n hx hb dL_law_555 rfl (lv_at hl 1 rfl) ?_
    refine lv_iload hx hb dL_law_556 (lv_at hl 5 rfl) ?_
    refine lv_iconst (v := 1) hx hb dL_law_558 (by decide) ?_
    refine lv_iadd hx hb dL_law_559 ?_
    refine va_sld hx hb hX hbl hbA hA.2.2 h1 dL_law_560 ?_
    refine lv_aload_n hx hb dL_law_561 rfl (lv_at hl 1 rfl) ?_
    refine lv_iload hx hb dL_law_562 (lv_at hl 5 rfl) ?_
    refine lv_iconst (v := 2) hx hb dL_law_564 (by decide) ?_
    refine lv_iadd hx hb dL_law_565 ?_
    refine va_sld hx hb hX hbl hbA hA.2.2 h2 dL_law_566 ?_
    replace hA := Aw_swap hA
    refine r_fVi (r := v) (w := wM (gq g u) τ) (w1 := wM (gq g u) τ') (wr := wX g σ' ++ oc g o f) (As := [.int (xs (x4 + 1).toNatClampNeg), .int (xs (x4 + 2).toNatClampNeg)]) (rest := []) C hA hl.1 (k_X8_copper (g := gq g u) C.2.2.2.2.2.2 hf2) (cwV 2 C.1.2.2.2.2 gL_law_X8_copper rfl rfl rfl nd_X8_copper ⟨Nat.le_of_ble_eq_true rfl, Nat.le_of_ble_eq_true rfl⟩) 0 rfl rfl rfl rfl (Nat.le_of_ble_eq_true rfl) dL_law_567 ⟨by show _ ≤ 601024; omega, by show _ ≤ 7293034; omega⟩ (fun H locs hA => ?_)
    replace hA := Aw_swap hA
    refine lv_istore (lv' := [(6, .int v), (5, .int 1), (0, .ref b), (1, .ref (g.2.1 0)), (2, .ref (u 0)), (3, .ref o), (4, .int x4)]) hx hb dL_law_570 hl (by decide) rfl (fun ls hl => ?_)
    refine lv_aload_n hx hb dL_law_572 rfl (lv_at hl 4 rfl) ?_
    replace hA := Aw_swap hA
    refine r_fVi (r := (τ'.1 0)) (w := wM (gq g u) τ') (w1 := wM (gq g u) τ') (wr := wX g σ' ++ oc g o f) (As := []) (rest := []) C hA hl.1 (k_X8_thrown (g := gq g u) (fu := fu) C.2.2.2.2.2.2 rfl) (cwV 0 C.1.2.2.2.2 gL_law_X8_thrown rfl rfl rfl nd_X8_thrown ⟨Nat.le_of_ble_eq_true rfl, Nat.le_of_ble_eq_true rfl⟩) 0 rfl rfl rfl rfl (Nat.le_of_ble_eq_true rfl) dL_law_573 ⟨by show _ ≤ 601024; omega, by show _ ≤ 7293034; omega⟩ (fun H locs hA => ?_)
    replace hA := Aw_swap hA
    refine lv_iload hx hb dL_law_576 (lv_at hl 1 rfl) ?_
    refine lv_icmp_eq (tgt := 583) hx hb dL_law_578 (by decide) (fun c1 => ?_) (fun c1 => absurd ht c1)
    refine lv_iload hx hb dL_law_583 (lv_at hl 1 rfl) ?_
    refine lv_if_ne (tgt := 600) hx hb dL_law_585 (by decide) (fun c1 => ?_) (fun c1 => absurd c1 (by decide))
    refine lv_goto (tgt := 1387) hx hb dL_law_600 (by decide) ?_
    refine W.widen (k := cells + 1) (n := slots + 6) (by show _ ≤ cells + 1; omega) (by show _ ≤ slots + 6; omega) ?_
    exact hk _ _ _ _ _ _ hRel hA (lv_sub hl [2, 3, 4, 5, 6] rfl)
  · refine lv_aload_n hx hb dL_law_535 rfl (lv_at hl 1 rfl) ?_
    refine lv_aload_n hx hb dL_law_536 rfl (lv_at hl 0 rfl) ?_
    refine lv_iload hx hb dL_law_537 (lv_at hl 4 rfl) ?_
    refine lv_iconst (v := 1) hx hb dL_law_539 (by decide) ?_
    refine lv_iadd hx hb dL_law_540 ?_
    refine va_sld hx hb hX hbl hbA hA.2.2 h1 dL_law_541 ?_
    refine lv_aload_n hx hb dL_law_542 rfl (lv_at hl 0 rfl) ?_
    refine lv_iload hx hb dL_law_543 (lv_at hl 4 rfl) ?_
    refine lv_iconst (v := 2) hx hb dL_law_545 (by decide) ?_
    refine lv_iadd hx hb dL_law_546 ?_
    refine va_sld hx hb hX hbl hbA hA.2.2 h2 dL_law_547 ?_
    refine lv_aload_n hx hb dL_law_548 rfl (lv_at hl 3 rfl) ?_
    refine r_fSW (r := 2) (w := (wX g σ ++ oc g o f)) (w1 := (wX g σ' ++ oc g o f)) (wr := wM (gq g u) τ) (As := [.ref (g.2.1 0), .int (xs (x4 + 1).toNatClampNeg), .int (xs (x4 + 2).toNatClampNeg), .ref o]) (rest := []) C hA hl.1 (k_L_copper_t0 C.2.2.2.2.2.2 hf1) (vx_cwSW 4 C.1.2.2.2.2 gL_law_L_copper rfl rfl rfl nd_L_copper ⟨Nat.le_of_ble_eq_true rfl, Nat.le_of_ble_eq_true rfl⟩) rfl rfl (Nat.le_of_ble_eq_true rfl) dL_law_549 ⟨by show cells + 1 ≤ 601024; omega, by show slots + 6 ≤ 7293034; omega⟩ (fun H locs hA => ?_)
    refine lv_istore (lv' := [(5, .int 2), (0, .ref b), (1, .ref (g.2.1 0)), (2, .ref (u 0)), (3, .ref o), (4, .int x4)]) hx hb dL_law_552 hl (by decide) rfl (fun ls hl => ?_)
    refine lv_aload_n hx hb dL_law_554 rfl (lv_at hl 3 rfl) ?_
    refine lv_aload_n hx hb dL_law_555 rfl (lv_at hl 1 rfl) ?_
    refine lv_iload hx hb dL_law_556 (lv_at hl 5 rfl) ?_
    refine lv_iconst (v := 1) hx hb dL_law_558 (by decide) ?_
    refine lv_iadd hx hb dL_law_559 ?_
    refine va_sld hx hb hX hbl hbA hA.2.2 h1 dL_law_560 ?_
    refine lv_aload_n hx hb dL_law_561 rfl (lv_at hl 1 rfl) ?_
    refine lv_iload hx hb dL_law_562 (lv_at hl 5 rfl) ?_
    refine lv_iconst (v := 2) hx hb dL_law_564 (by decide) ?_
    refine lv_iadd hx hb dL_law_565 ?_
    refine va_sld hx hb hX hbl hbA hA.2.2 h2 dL_law_566 ?_
    replace hA := Aw_swap hA
    refine r_fVi (r := v) (w := wM (gq g u) τ) (w1 := wM (gq g u) τ') (wr := wX g σ' ++ oc g o f) (As := [.int (xs (x4 + 1).toNatClampNeg), .int (xs (x4 + 2).toNatClampNeg)]) (rest := []) C hA hl.1 (k_X8_copper (g := gq g u) C.2.2.2.2.2.2 hf2) (cwV 2 C.1.2.2.2.2 gL_law_X8_copper rfl rfl rfl nd_X8_copper ⟨Nat.le_of_ble_eq_true rfl, Nat.le_of_ble_eq_true rfl⟩) 0 rfl rfl rfl rfl (Nat.le_of_ble_eq_true rfl) dL_law_567 ⟨by show _ ≤ 601024; omega, by show _ ≤ 7293034; omega⟩ (fun H locs hA => ?_)
    replace hA := Aw_swap hA
    refine lv_istore (lv' := [(6, .int v), (5, .int 2), (0, .ref b), (1, .ref (g.2.1 0)), (2, .ref (u 0)), (3, .ref o), (4, .int x4)]) hx hb dL_law_570 hl (by decide) rfl (fun ls hl => ?_)
    refine lv_aload_n hx hb dL_law_572 rfl (lv_at hl 4 rfl) ?_
    replace hA := Aw_swap hA
    refine r_fVi (r := (τ'.1 0)) (w := wM (gq g u) τ') (w1 := wM (gq g u) τ') (wr := wX g σ' ++ oc g o f) (As := []) (rest := []) C hA hl.1 (k_X8_thrown (g := gq g u) (fu := fu) C.2.2.2.2.2.2 rfl) (cwV 0 C.1.2.2.2.2 gL_law_X8_thrown rfl rfl rfl nd_X8_thrown ⟨Nat.le_of_ble_eq_true rfl, Nat.le_of_ble_eq_true rfl⟩) 0 rfl rfl rfl rfl (Nat.le_of_ble_eq_true rfl) dL_law_573 ⟨by show _ ≤ 601024; omega, by show _ ≤ 7293034; omega⟩ (fun H locs hA => ?_)
    replace hA := Aw_swap hA
    refine lv_iload hx hb dL_law_576 (lv_at hl 1 rfl) ?_
    refine lv_icmp_eq (tgt := 583) hx hb dL_law_578 (by decide) (fun c1 => ?_) (fun c1 => absurd ht c1)
    refine lv_iload hx hb dL_law_583 (lv_at hl 1 rfl) ?_
    refine lv_if_ne (tgt := 600) hx hb dL_law_585 (by decide) (fun c1 => ?_) (fun c1 => absurd c1 (by decide))
    refine lv_goto (tgt := 1387) hx hb dL_law_600 (by decide) ?_
    refine W.widen (k := cells + 1) (n := slots + 6) (by show _ ≤ cells + 1; omega) (by show _ ≤ slots + 6; omega) ?_
    exact hk _ _ _ _ _ _ hRel hA (lv_sub hl [2, 3, 4, 5, 6] rfl)
  · refine lv_aload_n hx hb dL_law_535 rfl (lv_at hl 1 rfl) ?_
    refine lv_aload_n hx hb dL_law_536 rfl (lv_at hl 0 rfl) ?_
    refine lv_iload hx hb dL_law_537 (lv_at hl 4 rfl) ?_
    refine lv_iconst (v := 1) hx hb dL_law_539 (by decide) ?_
    refine lv_iadd hx hb dL_law_540 ?_
    refine va_sld hx hb hX hbl hbA hA.2.2 h1 dL_law_541 ?_
    refine lv_aload_n hx hb dL_law_542 rfl (lv_at hl 0 rfl) ?_
    refine lv_iload hx hb dL_law_543 (lv_at hl 4 rfl) ?_
    refine lv_iconst (v := 2) hx hb dL_law_545 (by decide) ?_
    refine lv_iadd hx hb dL_law_546 ?_
    refine va_sld hx hb hX hbl hbA hA.2.2 h2 dL_law_547 ?_
    refine lv_aload_n hx hb dL_law_548 rfl (lv_at hl 3 rfl) ?_
    refine r_fSW (r := 3) (w := (wX g σ ++ oc g o f)) (w1 := (wX g σ' ++ oc g o f)) (wr := wM (gq g u) τ) (As := [.ref (g.2.1 0), .int (xs (x4 + 1).toNatClampNeg), .int (xs (x4 + 2).toNatClampNeg), .ref o]) (rest := []) C hA hl.1 (k_L_copper_t1 C.2.2.2.2.2.2 hf1) (vx_cwSW 4 C.1.2.2.2.2 gL_law_L_copper rfl rfl rfl nd_L_copper ⟨Nat.le_of_ble_eq_true rfl, Nat.le_of_ble_eq_true rfl⟩) rfl rfl (Nat.le_of_ble_eq_true rfl) dL_law_549 ⟨by show cells + 1 ≤ 601024; omega, by show slots + 6 ≤ 7293034; omega⟩ (fun H locs hA => ?_)
    refine lv_istore (lv' := [(5, .int 3), (0, .ref b), (1, .ref (g.2.1 0)), (2, .ref (u 0)), (3, .ref o), (4, .int x4)]) hx hb dL_law_552 hl (by decide) rfl (fun ls hl => ?_)
    refine lv_aload_n hx hb dL_law_554 rfl (lv_at hl 3 rfl) ?_
    refine lv_aload_n hx hb dL_law_555 rfl (lv_at hl 1 rfl) ?_
    refine lv_iload hx hb dL_law_556 (lv_at hl 5 rfl) ?_
    refine lv_iconst (v := 1) hx hb dL_law_558 (by decide) ?_
    refine lv_iadd hx hb dL_law_559 ?_
    refine va_sld hx hb hX hbl hbA hA.2.2 h1 dL_law_560 ?_
    refine lv_aload_n hx hb dL_law_561 rfl (lv_at hl 1 rfl) ?_
    refine lv_iload hx hb dL_law_562 (lv_at hl 5 rfl) ?_
    refine lv_iconst (v := 2) hx hb dL_law_564 (by decide) ?_
    refine lv_iadd hx hb dL_law_565 ?_
    refine va_sld hx hb hX hbl hbA hA.2.2 h2 dL_law_566 ?_
    replace hA := Aw_swap hA
    refine r_fVi (r := v) (w := wM (gq g u) τ) (w1 := wM (gq g u) τ') (wr := wX g σ' ++ oc g o f) (As := [.int (xs (x4 + 1).toNatClampNeg), .int (xs (x4 + 2).toNatClampNeg)]) (rest := []) C hA hl.1 (k_X8_copper (g := gq g u) C.2.2.2.2.2.2 hf2) (cwV 2 C.1.2.2.2.2 gL_law_X8_copper rfl rfl rfl nd_X8_copper ⟨Nat.le_of_ble_eq_true rfl, Nat.le_of_ble_eq_true rfl⟩) 0 rfl rfl rfl rfl (Nat.le_of_ble_eq_true rfl) dL_law_567 ⟨by show _ ≤ 601024; omega, by show _ ≤ 7293034; omega⟩ (fun H locs hA => ?_)
    replace hA := Aw_swap hA
    refine lv_istore (lv' := [(6, .int v), (5, .int 3), (0, .ref b), (1, .ref (g.2.1 0)), (2, .ref (u 0)), (3, .ref o), (4, .int x4)]) hx hb dL_law_570 hl (by decide) rfl (fun ls hl => ?_)
    refine lv_aload_n hx hb dL_law_572 rfl (lv_at hl 4 rfl) ?_
    replace hA := Aw_swap hA
    refine r_fVi (r := (τ'.1 0)) (w := wM (gq g u) τ') (w1 := wM (gq g u) τ') (wr := wX g σ' ++ oc g o f) (As := []) (rest := []) C hA hl.1 (k_X8_thrown (g := gq g u) (fu := fu) C.2.2.2.2.2.2 rfl) (cwV 0 C.1.2.2.2.2 gL_law_X8_thrown rfl rfl rfl nd_X8_thrown ⟨Nat.le_of_ble_eq_true rfl, Nat.le_of_ble_eq_true rfl⟩) 0 rfl rfl rfl rfl (Nat.le_of_ble_eq_true rfl) dL_law_573 ⟨by show _ ≤ 601024; omega, by show _ ≤ 7293034; omega⟩ (fun H locs hA => ?_)
    replace hA := Aw_swap hA
    refine lv_iload hx hb dL_law_576 (lv_at hl 1 rfl) ?_
    refine lv_icmp_eq (tgt := 583) hx hb dL_law_578 (by decide) (fun c1 => ?_) (fun c1 => absurd ht c1)
    refine lv_iload hx hb dL_law_583 (lv_at hl 1 rfl) ?_
    refine lv_if_ne (tgt := 600) hx hb dL_law_585 (by decide) (fun c1 => ?_) (fun c1 => absurd c1 (by decide))
    refine lv_goto (tgt := 1387) hx hb dL_law_600 (by decide) ?_
    refine W.widen (k := cells + 1) (n := slots + 6) (by show _ ≤ cells + 1; omega) (by show _ ≤ slots + 6; omega) ?_
    exact hk _ _ _ _ _ _ hRel hA (lv_sub hl [2, 3, 4, 5, 6] rfl)
set_option maxHeartbeats 4000000 in
set_option maxRecDepth 100000 in
theorem law_c8 (SIM : Sim_pass fu Rel) (C : Cx p l s m args meth c code 8 wsL_law ret RL g A) (hX : va_X b L xs s s.heap) (hbl : b < s.heap.size) (hbA : ¬ A b) (hRel0 : Rel σ τ) (hrc : cells + 1 ≤ 601024) (hrs : slots + 6 ≤ 7293034) (h1 : vp_in (x4 + 1) L) (h2 : vp_in (x4 + 2) L) (h3 : vp_in (x4 + 3) L) (h4 : vp_in (x4 + 4) L) (h5 : vp_in (x4 + 5) L) (hA : Aw g A s.heap ((wX g σ ++ oc g o f) ++ wM (gq g u) τ) H locs) (hl : lv_has ls 8 [(0, .ref b), (1, .ref (g.2.1 0)), (2, .ref (u 0)), (3, .ref o), (4, .int x4)]) (hk : Kont p l e s m args below meth c Q g A Rel b o u x4 (cells + 1) (slots + 6)) : W p l e room_1 s m args below meth c H locs cells slots Q (F0 m 603 ls []) := by
  have hx := C.1.1
  have hb := C.1.2.1
  rcases SIM σ τ hRel0 (xs (x4 + 1).toNatClampNeg) (xs (x4 + 2).toNatClampNeg) with ⟨v, σ', τ', hf1, hf2, ht, hRel⟩ | ⟨v, σ', τ', hf1, hf2, ht, hRel⟩ | ⟨v, σ', τ', hf1, hf2, ht, hRel⟩ | ⟨v, σ', τ', hf1, hf2, ht, hRel⟩
  · refine lv_aload_n hx hb dL_law_603 rfl (lv_at hl 1 rfl) ?_
    refine lv_aload_n hx hb dL_law_604 rfl (lv_at hl 0 rfl) ?_
    refine lv_iload hx hb dL_law_605 (lv_at hl 4 rfl) ?_
    refine lv_iconst (v := 1) hx hb dL_law_607 (by decide) ?_
    refine lv_iadd hx hb dL_law_608 ?_
    refine va_sld hx hb hX hbl hbA hA.2.2 h1 dL_law_609 ?_
    refine lv_aload_n hx hb dL_law_610 rfl (lv_at hl 0 rfl) ?_
    refine lv_iload hx hb dL_law_611 (lv_at hl 4 rfl) ?_
    refine lv_iconst (v := 2) hx hb dL_law_613 (by decide) ?_
    refine lv_iadd hx hb dL_law_614 ?_
    refine va_sld hx hb hX hbl hbA hA.2.2 h2 dL_law_615 ?_
    refine lv_aload_n hx hb dL_law_616 rfl (lv_at hl 3 rfl) ?_
    refine r_fSW (r := 0) (w := (wX g σ ++ oc g o f)) (w1 := (wX g σ' ++ oc g o (vp_updL f (0 : Int32).toNatClampNeg v.toInt64))) (wr := wM (gq g u) τ) (As := [.ref (g.2.1 0), .int (xs (x4 + 1).toNatClampNeg), .int (xs (x4 + 2).toNatClampNeg), .ref o]) (rest := []) C hA hl.1 (k_L_pass C.2.2.2.2.2.2 hf1) (vx_cwSW 4 C.1.2.2.2.2 gL_law_L_pass rfl rfl rfl nd_L_pass ⟨Nat.le_of_ble_eq_true rfl, Nat.le_of_ble_eq_true rfl⟩) rfl rfl (Nat.le_of_ble_eq_true rfl) dL_law_617 ⟨by show cells + 1 ≤ 601024; omega, by show slots + 6 ≤ 7293034; omega⟩ (fun H locs hA => ?_)
    refine lv_istore (lv' := [(5, .int 0), (0, .ref b), (1, .ref (g.2.1 0)), (2, .ref (u 0)), (3, .ref o), (4, .int x4)]) hx hb dL_law_620 hl (by decide) rfl (fun ls hl => ?_)
    refine lv_aload_n hx hb dL_law_622 rfl (lv_at hl 3 rfl) ?_
    refine lv_aload_n hx hb dL_law_623 rfl (lv_at hl 1 rfl) ?_
    refine lv_iload hx hb dL_law_624 (lv_at hl 5 rfl) ?_
    refine lv_iconst (v := 1) hx hb dL_law_626 (by decide) ?_
    refine lv_iadd hx hb dL_law_627 ?_
    refine va_sld hx hb hX hbl hbA hA.2.2 h1 dL_law_628 ?_
    refine lv_aload_n hx hb dL_law_629 rfl (lv_at hl 1 rfl) ?_
    refine lv_iload hx hb dL_law_630 (lv_at hl 5 rfl) ?_
    refine lv_iconst (v := 2) hx hb dL_law_632 (by decide) ?_
    refine lv_iadd hx hb dL_law_633 ?_
    refine va_sld hx hb hX hbl hbA hA.2.2 h2 dL_law_634 ?_
    replace hA := Aw_swap hA
    refine r_fVi (r := v) (w := wM (gq g u) τ) (w1 := wM (gq g u) τ') (wr := wX g σ' ++ oc g o (vp_updL f (0 : Int32).toNatClampNeg v.toInt64)) (As := [.int (xs (x4 + 1).toNatClampNeg), .int (xs (x4 + 2).toNatClampNeg)]) (rest := []) C hA hl.1 (k_X8_pass (g := gq g u) C.2.2.2.2.2.2 hf2) (cwV 2 C.1.2.2.2.2 gL_law_X8_pass rfl rfl rfl nd_X8_pass ⟨Nat.le_of_ble_eq_true rfl, Nat.le_of_ble_eq_true rfl⟩) 0 rfl rfl rfl rfl (Nat.le_of_ble_eq_true rfl) dL_law_635 ⟨by show _ ≤ 601024; omega, by show _ ≤ 7293034; omega⟩ (fun H locs hA => ?_)
    replace hA := Aw_swap hA
    refine lv_istore (lv' := [(6, .int v), (5, .int 0), (0, .ref b), (1, .ref (g.2.1 0)), (2, .ref (u 0)), (3, .ref o), (4, .int x4)]) hx hb dL_law_638 hl (by decide) rfl (fun ls hl => ?_)
    refine lv_aload_n hx hb dL_law_640 rfl (lv_at hl 4 rfl) ?_
    replace hA := Aw_swap hA
    refine r_fVi (r := (τ'.1 0)) (w := wM (gq g u) τ') (w1 := wM (gq g u) τ') (wr := wX g σ' ++ oc g o (vp_updL f (0 : Int32).toNatClampNeg v.toInt64)) (As := []) (rest := []) C hA hl.1 (k_X8_thrown (g := gq g u) (fu := fu) C.2.2.2.2.2.2 rfl) (cwV 0 C.1.2.2.2.2 gL_law_X8_thrown rfl rfl rfl nd_X8_thrown ⟨Nat.le_of_ble_eq_true rfl, Nat.le_of_ble_eq_true rfl⟩) 0 rfl rfl rfl rfl (Nat.le_of_ble_eq_true rfl) dL_law_641 ⟨by show _ ≤ 601024; omega, by show _ ≤ 7293034; omega⟩ (fun H locs hA => ?_)
    replace hA := Aw_swap hA
    refine lv_iload hx hb dL_law_644 (lv_at hl 1 rfl) ?_
    refine lv_icmp_eq (tgt := 651) hx hb dL_law_646 (by decide) (fun c1 => ?_) (fun c1 => absurd ht c1)
    refine lv_iload hx hb dL_law_651 (lv_at hl 1 rfl) ?_
    refine lv_if_ne (tgt := 668) hx hb dL_law_653 (by decide) (fun c1 => absurd rfl c1) (fun c1 => ?_)
    refine lv_aload_n hx hb dL_law_656 rfl (lv_at hl 5 rfl) ?_
    refine lv_iconst (v := 0) hx hb dL_law_657 (by decide) ?_
    refine r_lald C hA 44 1 rfl rfl (by decide) dL_law_658 ?_
    rw [pk_uLs]
    refine lv_iload hx hb dL_law_659 (lv_at hl 0 rfl) ?_
    refine lv_i2l (v := v.toInt64) hx hb dL_law_661 rfl ?_
    refine W.lcmp hx hb dL_law_662 ?_
    refine lv_if_eq (tgt := 668) hx hb dL_law_663 (by decide) (fun c1 => ?_) (fun c1 => absurd (lgc _) c1)
    refine lv_goto (tgt := 1387) hx hb dL_law_668 (by decide) ?_
    refine W.widen (k := cells + 1) (n := slots + 6) (by show _ ≤ cells + 1; omega) (by show _ ≤ slots + 6; omega) ?_
    exact hk _ _ _ _ _ _ hRel hA (lv_sub hl [2, 3, 4, 5, 6] rfl)
  · refine lv_aload_n hx hb dL_law_603 rfl (lv_at hl 1 rfl) ?_
    refine lv_aload_n hx hb dL_law_604 rfl (lv_at hl 0 rfl) ?_
    refine lv_iload hx hb dL_law_605 (lv_at hl 4 rfl) ?_
    refine lv_iconst (v := 1) hx hb dL_law_607 (by decide) ?_
    refine lv_iadd hx hb dL_law_608 ?_
    refine va_sld hx hb hX hbl hbA hA.2.2 h1 dL_law_609 ?_
    refine lv_aload_n hx hb dL_law_610 rfl (lv_at hl 0 rfl) ?_
    refine lv_iload hx hb dL_law_611 (lv_at hl 4 rfl) ?_
    refine lv_iconst (v := 2) hx hb dL_law_613 (by decide) ?_
    refine lv_iadd hx hb dL_law_614 ?_
    refine va_sld hx hb hX hbl hbA hA.2.2 h2 dL_law_615 ?_
    refine lv_aload_n hx hb dL_law_616 rfl (lv_at hl 3 rfl) ?_
    refine r_fSW (r := 1) (w := (wX g σ ++ oc g o f)) (w1 := (wX g σ' ++ oc g o f)) (wr := wM (gq g u) τ) (As := [.ref (g.2.1 0), .int (xs (x4 + 1).toNatClampNeg), .int (xs (x4 + 2).toNatClampNeg), .ref o]) (rest := []) C hA hl.1 (k_L_pass_t2 C.2.2.2.2.2.2 hf1) (vx_cwSW 4 C.1.2.2.2.2 gL_law_L_pass rfl rfl rfl nd_L_pass ⟨Nat.le_of_ble_eq_true rfl, Nat.le_of_ble_eq_true rfl⟩) rfl rfl (Nat.le_of_ble_eq_true rfl) dL_law_617 ⟨by show cells + 1 ≤ 601024; omega, by show slots + 6 ≤ 7293034; omega⟩ (fun H locs hA => ?_)
    refine lv_istore (lv' := [(5, .int 1), (0, .ref b), (1, .ref (g.2.1 0)), (2, .ref (u 0)), (3, .ref o), (4, .int x4)]) hx hb dL_law_620 hl (by decide) rfl (fun ls hl => ?_)
    refine lv_aload_n hx hb dL_law_622 rfl (lv_at hl 3 rfl) ?_
    refine lv_aload_n hx hb dL_law_623 rfl (lv_at hl 1 rfl) ?_
    refine lv_iload hx hb dL_law_624 (lv_at hl 5 rfl) ?_
    refine lv_iconst (v := 1) hx hb dL_law_626 (by decide) ?_
    refine lv_iadd hx hb dL_law_627 ?_
    refine va_sld hx hb hX hbl hbA hA.2.2 h1 dL_law_628 ?_
    refine lv_aload_n hx hb dL_law_629 rfl (lv_at hl 1 rfl) ?_
    refine lv_iload hx hb dL_law_630 (lv_at hl 5 rfl) ?_
    refine lv_iconst (v := 2) hx hb dL_law_632 (by decide) ?_
    refine lv_iadd hx hb dL_law_633 ?_
    refine va_sld hx hb hX hbl hbA hA.2.2 h2 dL_law_634 ?_
    replace hA := Aw_swap hA
    refine r_fVi (r := v) (w := wM (gq g u) τ) (w1 := wM (gq g u) τ') (wr := wX g σ' ++ oc g o f) (As := [.int (xs (x4 + 1).toNatClampNeg), .int (xs (x4 + 2).toNatClampNeg)]) (rest := []) C hA hl.1 (k_X8_pass (g := gq g u) C.2.2.2.2.2.2 hf2) (cwV 2 C.1.2.2.2.2 gL_law_X8_pass rfl rfl rfl nd_X8_pass ⟨Nat.le_of_ble_eq_true rfl, Nat.le_of_ble_eq_true rfl⟩) 0 rfl rfl rfl rfl (Nat.le_of_ble_eq_true rfl) dL_law_635 ⟨by show _ ≤ 601024; omega, by show _ ≤ 7293034; omega⟩ (fun H locs hA => ?_)
    replace hA := Aw_swap hA
    refine lv_istore (lv' := [(6, .int v), (5, .int 1), (0, .ref b), (1, .ref (g.2.1 0)), (2, .ref (u 0)), (3, .ref o), (4, .int x4)]) hx hb dL_law_638 hl (by decide) rfl (fun ls hl => ?_)
    refine lv_aload_n hx hb dL_law_640 rfl (lv_at hl 4 rfl) ?_
    replace hA := Aw_swap hA
    refine r_fVi (r := (τ'.1 0)) (w := wM (gq g u) τ') (w1 := wM (gq g u) τ') (wr := wX g σ' ++ oc g o f) (As := []) (rest := []) C hA hl.1 (k_X8_thrown (g := gq g u) (fu := fu) C.2.2.2.2.2.2 rfl) (cwV 0 C.1.2.2.2.2 gL_law_X8_thrown rfl rfl rfl nd_X8_thrown ⟨Nat.le_of_ble_eq_true rfl, Nat.le_of_ble_eq_true rfl⟩) 0 rfl rfl rfl rfl (Nat.le_of_ble_eq_true rfl) dL_law_641 ⟨by show _ ≤ 601024; omega, by show _ ≤ 7293034; omega⟩ (fun H locs hA => ?_)
    replace hA := Aw_swap hA
    refine lv_iload hx hb dL_law_644 (lv_at hl 1 rfl) ?_
    refine lv_icmp_eq (tgt := 651) hx hb dL_law_646 (by decide) (fun c1 => ?_) (fun c1 => absurd ht c1)
    refine lv_iload hx hb dL_law_651 (lv_at hl 1 rfl) ?_
    refine lv_if_ne (tgt := 668) hx hb dL_law_653 (by decide) (fun c1 => ?_) (fun c1 => absurd c1 (by decide))
    refine lv_goto (tgt := 1387) hx hb dL_law_668 (by decide) ?_
    refine W.widen (k := cells + 1) (n := slots + 6) (by show _ ≤ cells + 1; omega) (by show _ ≤ slots + 6; omega) ?_
    exact hk _ _ _ _ _ _ hRel hA (lv_sub hl [2, 3, 4, 5, 6] rfl)
  · refine lv_aload_n hx hb dL_law_603 rfl (lv_at hl 1 rfl) ?_
    refine lv_aload_n hx hb dL_law_604 rfl (lv_at hl 0 rfl) ?_
    refine lv_iload hx hb dL_law_605 (lv_at hl 4 rfl) ?_
    refine lv_iconst (v := 1) hx hb dL_law_607 (by decide) ?_
    refine lv_iadd hx hb dL_law_608 ?_
    refine va_sld hx hb hX hbl hbA hA.2.2 h1 dL_law_609 ?_
    refine lv_aload_n hx hb dL_law_610 rfl (lv_at hl 0 rfl) ?_
    refine lv_iload hx hb dL_law_611 (lv_at hl 4 rfl) ?_
    refine lv_iconst (v := 2) hx hb dL_law_613 (by decide) ?_
    refine lv_iadd hx hb dL_law_614 ?_
    refine va_sld hx hb hX hbl hbA hA.2.2 h2 dL_law_615 ?_
    refine lv_aload_n hx hb dL_law_616 rfl (lv_at hl 3 rfl) ?_
    refine r_fSW (r := 2) (w := (wX g σ ++ oc g o f)) (w1 := (wX g σ' ++ oc g o f)) (wr := wM (gq g u) τ) (As := [.ref (g.2.1 0), .int (xs (x4 + 1).toNatClampNeg), .int (xs (x4 + 2).toNatClampNeg), .ref o]) (rest := []) C hA hl.1 (k_L_pass_t0 C.2.2.2.2.2.2 hf1) (vx_cwSW 4 C.1.2.2.2.2 gL_law_L_pass rfl rfl rfl nd_L_pass ⟨Nat.le_of_ble_eq_true rfl, Nat.le_of_ble_eq_true rfl⟩) rfl rfl (Nat.le_of_ble_eq_true rfl) dL_law_617 ⟨by show cells + 1 ≤ 601024; omega, by show slots + 6 ≤ 7293034; omega⟩ (fun H locs hA => ?_)
    refine lv_istore (lv' := [(5, .int 2), (0, .ref b), (1, .ref (g.2.1 0)), (2, .ref (u 0)), (3, .ref o), (4, .int x4)]) hx hb dL_law_620 hl (by decide) rfl (fun ls hl => ?_)
    refine lv_aload_n hx hb dL_law_622 rfl (lv_at hl 3 rfl) ?_
    refine lv_aload_n hx hb dL_law_623 rfl (lv_at hl 1 rfl) ?_
    refine lv_iload hx hb dL_law_624 (lv_at hl 5 rfl) ?_
    refine lv_iconst (v := 1) hx hb dL_law_626 (by decide) ?_
    refine lv_iadd hx hb dL_law_627 ?_
    refine va_sld hx hb hX hbl hbA hA.2.2 h1 dL_law_628 ?_
    refine lv_aload_n hx hb dL_law_629 rfl (lv_at hl 1 rfl) ?_
    refine lv_iload hx hb dL_law_630 (lv_at hl 5 rfl) ?_
    refine lv_iconst (v := 2) hx hb dL_law_632 (by decide) ?_
    refine lv_iadd hx hb dL_law_633 ?_
    refine va_sld hx hb hX hbl hbA hA.2.2 h2 dL_law_634 ?_
    replace hA := Aw_swap hA
    refine r_fVi (r := v) (w := wM (gq g u) τ) (w1 := wM (gq g u) τ') (wr := wX g σ' ++ oc g o f) (As := [.int (xs (x4 + 1).toNatClampNeg), .int (xs (x4 + 2).toNatClampNeg)]) (rest := []) C hA hl.1 (k_X8_pass (g := gq g u) C.2.2.2.2.2.2 hf2) (cwV 2 C.1.2.2.2.2 gL_law_X8_pass rfl rfl rfl nd_X8_pass ⟨Nat.le_of_ble_eq_true rfl, Nat.le_of_ble_eq_true rfl⟩) 0 rfl rfl rfl rfl (Nat.le_of_ble_eq_true rfl) dL_law_635 ⟨by show _ ≤ 601024; omega, by show _ ≤ 7293034; omega⟩ (fun H locs hA => ?_)
    replace hA := Aw_swap hA
    refine lv_istore (lv' := [(6, .int v), (5, .int 2), (0, .ref b), (1, .ref (g.2.1 0)), (2, .ref (u 0)), (3, .ref o), (4, .int x4)]) hx hb dL_law_638 hl (by decide) rfl (fun ls hl => ?_)
    refine lv_aload_n hx hb dL_law_640 rfl (lv_at hl 4 rfl) ?_
    replace hA := Aw_swap hA
    refine r_fVi (r := (τ'.1 0)) (w := wM (gq g u) τ') (w1 := wM (gq g u) τ') (wr := wX g σ' ++ oc g o f) (As := []) (rest := []) C hA hl.1 (k_X8_thrown (g := gq g u) (fu := fu) C.2.2.2.2.2.2 rfl) (cwV 0 C.1.2.2.2.2 gL_law_X8_thrown rfl rfl rfl nd_X8_thrown ⟨Nat.le_of_ble_eq_true rfl, Nat.le_of_ble_eq_true rfl⟩) 0 rfl rfl rfl rfl (Nat.le_of_ble_eq_true rfl) dL_law_641 ⟨by show _ ≤ 601024; omega, by show _ ≤ 7293034; omega⟩ (fun H locs hA => ?_)
    replace hA := Aw_swap hA
    refine lv_iload hx hb dL_law_644 (lv_at hl 1 rfl) ?_
    refine lv_icmp_eq (tgt := 651) hx hb dL_law_646 (by decide) (fun c1 => ?_) (fun c1 => absurd ht c1)
    refine lv_iload hx hb dL_law_651 (lv_at hl 1 rfl) ?_
    refine lv_if_ne (tgt := 668) hx hb dL_law_653 (by decide) (fun c1 => ?_) (fun c1 => absurd c1 (by decide))
    refine lv_goto (tgt := 1387) hx hb dL_law_668 (by decide) ?_
    refine W.widen (k := cells + 1) (n := slots + 6) (by show _ ≤ cells + 1; omega) (by show _ ≤ slots + 6; omega) ?_
    exact hk _ _ _ _ _ _ hRel hA (lv_sub hl [2, 3, 4, 5, 6] rfl)
  · refine lv_aload_n hx hb dL_law_603 rfl (lv_at hl 1 rfl) ?_
    refine lv_aload_n hx hb dL_law_604 rfl (lv_at hl 0 rfl) ?_
    refine lv_iload hx hb dL_law_605 (lv_at hl 4 rfl) ?_
    refine lv_iconst (v := 1) hx hb dL_law_607 (by decide) ?_
    refine lv_iadd hx hb dL_law_608 ?_
    refine va_sld hx hb hX hbl hbA hA.2.2 h1 dL_law_609 ?_
    refine lv_aload_n hx hb dL_law_610 rfl (lv_at hl 0 rfl) ?_
    refine lv_iload hx hb dL_law_611 (lv_at hl 4 rfl) ?_
    refine lv_iconst (v := 2) hx hb dL_law_613 (by decide) ?_
    refine lv_iadd hx hb dL_law_614 ?_
    refine va_sld hx hb hX hbl hbA hA.2.2 h2 dL_law_615 ?_
    refine lv_aload_n hx hb dL_law_616 rfl (lv_at hl 3 rfl) ?_
    refine r_fSW (r := 3) (w := (wX g σ ++ oc g o f)) (w1 := (wX g σ' ++ oc g o f)) (wr := wM (gq g u) τ) (As := [.ref (g.2.1 0), .int (xs (x4 + 1).toNatClampNeg), .int (xs (x4 + 2).toNatClampNeg), .ref o]) (rest := []) C hA hl.1 (k_L_pass_t1 C.2.2.2.2.2.2 hf1) (vx_cwSW 4 C.1.2.2.2.2 gL_law_L_pass rfl rfl rfl nd_L_pass ⟨Nat.le_of_ble_eq_true rfl, Nat.le_of_ble_eq_true rfl⟩) rfl rfl (Nat.le_of_ble_eq_true rfl) dL_law_617 ⟨by show cells + 1 ≤ 601024; omega, by show slots + 6 ≤ 7293034; omega⟩ (fun H locs hA => ?_)
    refine lv_istore (lv' := [(5, .int 3), (0, .ref b), (1, .ref (g.2.1 0)), (2, .ref (u 0)), (3, .ref o), (4, .int x4)]) hx hb dL_law_620 hl (by decide) rfl (fun ls hl => ?_)
    refine lv_aload_n hx hb dL_law_622 rfl (lv_at hl 3 rfl) ?_
    refine lv_aload_n hx hb dL_law_623 rfl (lv_at hl 1 rfl) ?_
    refine lv_iload hx hb dL_law_624 (lv_at hl 5 rfl) ?_
    refine lv_iconst (v := 1) hx hb dL_law_626 (by decide) ?_
    refine lv_iadd hx hb dL_law_627 ?_
    refine va_sld hx hb hX hbl hbA hA.2.2 h1 dL_law_628 ?_
    refine lv_aload_n hx hb dL_law_629 rfl (lv_at hl 1 rfl) ?_
    refine lv_iload hx hb dL_law_630 (lv_at hl 5 rfl) ?_
    refine lv_iconst (v := 2) hx hb dL_law_632 (by decide) ?_
    refine lv_iadd hx hb dL_law_633 ?_
    refine va_sld hx hb hX hbl hbA hA.2.2 h2 dL_law_634 ?_
    replace hA := Aw_swap hA
    refine r_fVi (r := v) (w := wM (gq g u) τ) (w1 := wM (gq g u) τ') (wr := wX g σ' ++ oc g o f) (As := [.int (xs (x4 + 1).toNatClampNeg), .int (xs (x4 + 2).toNatClampNeg)]) (rest := []) C hA hl.1 (k_X8_pass (g := gq g u) C.2.2.2.2.2.2 hf2) (cwV 2 C.1.2.2.2.2 gL_law_X8_pass rfl rfl rfl nd_X8_pass ⟨Nat.le_of_ble_eq_true rfl, Nat.le_of_ble_eq_true rfl⟩) 0 rfl rfl rfl rfl (Nat.le_of_ble_eq_true rfl) dL_law_635 ⟨by show _ ≤ 601024; omega, by show _ ≤ 7293034; omega⟩ (fun H locs hA => ?_)
    replace hA := Aw_swap hA
    refine lv_istore (lv' := [(6, .int v), (5, .int 3), (0, .ref b), (1, .ref (g.2.1 0)), (2, .ref (u 0)), (3, .ref o), (4, .int x4)]) hx hb dL_law_638 hl (by decide) rfl (fun ls hl => ?_)
    refine lv_aload_n hx hb dL_law_640 rfl (lv_at hl 4 rfl) ?_
    replace hA := Aw_swap hA
    refine r_fVi (r := (τ'.1 0)) (w := wM (gq g u) τ') (w1 := wM (gq g u) τ') (wr := wX g σ' ++ oc g o f) (As := []) (rest := []) C hA hl.1 (k_X8_thrown (g := gq g u) (fu := fu) C.2.2.2.2.2.2 rfl) (cwV 0 C.1.2.2.2.2 gL_law_X8_thrown rfl rfl rfl nd_X8_thrown ⟨Nat.le_of_ble_eq_true rfl, Nat.le_of_ble_eq_true rfl⟩) 0 rfl rfl rfl rfl (Nat.le_of_ble_eq_true rfl) dL_law_641 ⟨by show _ ≤ 601024; omega, by show _ ≤ 7293034; omega⟩ (fun H locs hA => ?_)
    replace hA := Aw_swap hA
    refine lv_iload hx hb dL_law_644 (lv_at hl 1 rfl) ?_
    refine lv_icmp_eq (tgt := 651) hx hb dL_law_646 (by decide) (fun c1 => ?_) (fun c1 => absurd ht c1)
    refine lv_iload hx hb dL_law_651 (lv_at hl 1 rfl) ?_
    refine lv_if_ne (tgt := 668) hx hb dL_law_653 (by decide) (fun c1 => ?_) (fun c1 => absurd c1 (by decide))
    refine lv_goto (tgt := 1387) hx hb dL_law_668 (by decide) ?_
    refine W.widen (k := cells + 1) (n := slots + 6) (by show _ ≤ cells + 1; omega) (by show _ ≤ slots + 6; omega) ?_
    exact hk _ _ _ _ _ _ hRel hA (lv_sub hl [2, 3, 4, 5, 6] rfl)
set_option maxHeartbeats 4000000 in
set_option maxRecDepth 100000 in
theorem law_c9 (SIM : Sim_breaks fu Rel) (C : Cx p l s m args meth c code 8 wsL_law ret RL g A) (hX : va_X b L xs s s.heap) (hbl : b < s.heap.size) (hbA : ¬ A b) (hRel0 : Rel σ τ) (hrc : cells + 1 ≤ 601024) (hrs : slots + 6 ≤ 7293034) (h1 : vp_in (x4 + 1) L) (h2 : vp_in (x4 + 2) L) (h3 : vp_in (x4 + 3) L) (h4 : vp_in (x4 + 4) L) (h5 : vp_in (x4 + 5) L) (hA : Aw g A s.heap ((wX g σ ++ oc g o f) ++ wM (gq g u) τ) H locs) (hl : lv_has ls 8 [(0, .ref b), (1, .ref (g.2.1 0)), (2, .ref (u 0)), (3, .ref o), (4, .int x4)]) (hk : Kont p l e s m args below meth c Q g A Rel b o u x4 (cells + 1) (slots + 6)) : W p l e room_1 s m args below meth c H locs cells slots Q (F0 m 671 ls []) := by
  have hx := C.1.1
  have hb := C.1.2.1
  rcases SIM σ τ hRel0 (xs (x4 + 1).toNatClampNeg) with ⟨v, σ', τ', hf1, hf2, ht, hRel⟩ | ⟨v, σ', τ', hf1, hf2, ht, hRel⟩
  · refine lv_aload_n hx hb dL_law_671 rfl (lv_at hl 1 rfl) ?_
    refine lv_aload_n hx hb dL_law_672 rfl (lv_at hl 0 rfl) ?_
    refine lv_iload hx hb dL_law_673 (lv_at hl 4 rfl) ?_
    refine lv_iconst (v := 1) hx hb dL_law_675 (by decide) ?_
    refine lv_iadd hx hb dL_law_676 ?_
    refine va_sld hx hb hX hbl hbA hA.2.2 h1 dL_law_677 ?_
    refine lv_aload_n hx hb dL_law_678 rfl (lv_at hl 3 rfl) ?_
    refine r_fSW (r := 0) (w := (wX g σ ++ oc g o f)) (w1 := (wX g σ' ++ oc g o (vp_updL f (0 : Int32).toNatClampNeg v.toInt64))) (wr := wM (gq g u) τ) (As := [.ref (g.2.1 0), .int (xs (x4 + 1).toNatClampNeg), .ref o]) (rest := []) C hA hl.1 (k_L_breaks C.2.2.2.2.2.2 hf1) (vx_cwSW 3 C.1.2.2.2.2 gL_law_L_breaks rfl rfl rfl nd_L_breaks ⟨Nat.le_of_ble_eq_true rfl, Nat.le_of_ble_eq_true rfl⟩) rfl rfl (Nat.le_of_ble_eq_true rfl) dL_law_679 ⟨by show cells + 1 ≤ 601024; omega, by show slots + 6 ≤ 7293034; omega⟩ (fun H locs hA => ?_)
    refine lv_istore (lv' := [(5, .int 0), (0, .ref b), (1, .ref (g.2.1 0)), (2, .ref (u 0)), (3, .ref o), (4, .int x4)]) hx hb dL_law_682 hl (by decide) rfl (fun ls hl => ?_)
    refine lv_aload_n hx hb dL_law_684 rfl (lv_at hl 3 rfl) ?_
    refine lv_aload_n hx hb dL_law_685 rfl (lv_at hl 1 rfl) ?_
    refine lv_iload hx hb dL_law_686 (lv_at hl 5 rfl) ?_
    refine lv_iconst (v := 1) hx hb dL_law_688 (by decide) ?_
    refine lv_iadd hx hb dL_law_689 ?_
    refine va_sld hx hb hX hbl hbA hA.2.2 h1 dL_law_690 ?_
    replace hA := Aw_swap hA
    refine r_fVi (r := v) (w := wM (gq g u) τ) (w1 := wM (gq g u) τ') (wr := wX g σ' ++ oc g o (vp_updL f (0 : Int32).toNatClampNeg v.toInt64)) (As := [.int (xs (x4 + 1).toNatClampNeg)]) (rest := []) C hA hl.1 (k_X8_breaks (g := gq g u) C.2.2.2.2.2.2 hf2) (cwV 1 C.1.2.2.2.2 gL_law_X8_breaks rfl rfl rfl nd_X8_breaks ⟨Nat.le_of_ble_eq_true rfl, Nat.le_of_ble_eq_true rfl⟩) 0 rfl rfl rfl rfl (Nat.le_of_ble_eq_true rfl) dL_law_691 ⟨by show _ ≤ 601024; omega, by show _ ≤ 7293034; omega⟩ (fun H locs hA => ?_)
    replace hA := Aw_swap hA
    refine lv_istore (lv' := [(6, .int v), (5, .int 0), (0, .ref b), (1, .ref (g.2.1 0)), (2, .ref (u 0)), (3, .ref o), (4, .int x4)]) hx hb dL_law_694 hl (by decide) rfl (fun ls hl => ?_)
    refine lv_aload_n hx hb dL_law_696 rfl (lv_at hl 4 rfl) ?_
    replace hA := Aw_swap hA
    refine r_fVi (r := (τ'.1 0)) (w := wM (gq g u) τ') (w1 := wM (gq g u) τ') (wr := wX g σ' ++ oc g o (vp_updL f (0 : Int32).toNatClampNeg v.toInt64)) (As := []) (rest := []) C hA hl.1 (k_X8_thrown (g := gq g u) (fu := fu) C.2.2.2.2.2.2 rfl) (cwV 0 C.1.2.2.2.2 gL_law_X8_thrown rfl rfl rfl nd_X8_thrown ⟨Nat.le_of_ble_eq_true rfl, Nat.le_of_ble_eq_true rfl⟩) 0 rfl rfl rfl rfl (Nat.le_of_ble_eq_true rfl) dL_law_697 ⟨by show _ ≤ 601024; omega, by show _ ≤ 7293034; omega⟩ (fun H locs hA => ?_)
    replace hA := Aw_swap hA
    refine lv_iload hx hb dL_law_700 (lv_at hl 1 rfl) ?_
    refine lv_icmp_eq (tgt := 707) hx hb dL_law_702 (by decide) (fun c1 => ?_) (fun c1 => absurd ht c1)
    refine lv_iload hx hb dL_law_707 (lv_at hl 1 rfl) ?_
    refine lv_if_ne (tgt := 724) hx hb dL_law_709 (by decide) (fun c1 => absurd rfl c1) (fun c1 => ?_)
    refine lv_aload_n hx hb dL_law_712 rfl (lv_at hl 5 rfl) ?_
    refine lv_iconst (v := 0) hx hb dL_law_713 (by decide) ?_
    refine r_lald C hA 44 1 rfl rfl (by decide) dL_law_714 ?_
    rw [pk_uLs]
    refine lv_iload hx hb dL_law_715 (lv_at hl 0 rfl) ?_
    refine lv_i2l (v := v.toInt64) hx hb dL_law_717 rfl ?_
    refine W.lcmp hx hb dL_law_718 ?_
    refine lv_if_eq (tgt := 724) hx hb dL_law_719 (by decide) (fun c1 => ?_) (fun c1 => absurd (lgc _) c1)
    refine lv_goto (tgt := 1387) hx hb dL_law_724 (by decide) ?_
    refine W.widen (k := cells + 1) (n := slots + 6) (by show _ ≤ cells + 1; omega) (by show _ ≤ slots + 6; omega) ?_
    exact hk _ _ _ _ _ _ hRel hA (lv_sub hl [2, 3, 4, 5, 6] rfl)
  · refine lv_aload_n hx hb dL_law_671 rfl (lv_at hl 1 rfl) ?_
    refine lv_aload_n hx hb dL_law_672 rfl (lv_at hl 0 rfl) ?_
    refine lv_iload hx hb dL_law_673 (lv_at hl 4 rfl) ?_
    refine lv_iconst (v := 1) hx hb dL_law_675 (by decide) ?_
    refine lv_iadd hx hb dL_law_676 ?_
    refine va_sld hx hb hX hbl hbA hA.2.2 h1 dL_law_677 ?_
    refine lv_aload_n hx hb dL_law_678 rfl (lv_at hl 3 rfl) ?_
    refine r_fSW (r := 1) (w := (wX g σ ++ oc g o f)) (w1 := (wX g σ' ++ oc g o f)) (wr := wM (gq g u) τ) (As := [.ref (g.2.1 0), .int (xs (x4 + 1).toNatClampNeg), .ref o]) (rest := []) C hA hl.1 (k_L_breaks_t2 C.2.2.2.2.2.2 hf1) (vx_cwSW 3 C.1.2.2.2.2 gL_law_L_breaks rfl rfl rfl nd_L_breaks ⟨Nat.le_of_ble_eq_true rfl, Nat.le_of_ble_eq_true rfl⟩) rfl rfl (Nat.le_of_ble_eq_true rfl) dL_law_679 ⟨by show cells + 1 ≤ 601024; omega, by show slots + 6 ≤ 7293034; omega⟩ (fun H locs hA => ?_)
    refine lv_istore (lv' := [(5, .int 1), (0, .ref b), (1, .ref (g.2.1 0)), (2, .ref (u 0)), (3, .ref o), (4, .int x4)]) hx hb dL_law_682 hl (by decide) rfl (fun ls hl => ?_)
    refine lv_aload_n hx hb dL_law_684 rfl (lv_at hl 3 rfl) ?_
    refine lv_aload_n hx hb dL_law_685 rfl (lv_at hl 1 rfl) ?_
    refine lv_iload hx hb dL_law_686 (lv_at hl 5 rfl) ?_
    refine lv_iconst (v := 1) hx hb dL_law_688 (by decide) ?_
    refine lv_iadd hx hb dL_law_689 ?_
    refine va_sld hx hb hX hbl hbA hA.2.2 h1 dL_law_690 ?_
    replace hA := Aw_swap hA
    refine r_fVi (r := v) (w := wM (gq g u) τ) (w1 := wM (gq g u) τ') (wr := wX g σ' ++ oc g o f) (As := [.int (xs (x4 + 1).toNatClampNeg)]) (rest := []) C hA hl.1 (k_X8_breaks (g := gq g u) C.2.2.2.2.2.2 hf2) (cwV 1 C.1.2.2.2.2 gL_law_X8_breaks rfl rfl rfl nd_X8_breaks ⟨Nat.le_of_ble_eq_true rfl, Nat.le_of_ble_eq_true rfl⟩) 0 rfl rfl rfl rfl (Nat.le_of_ble_eq_true rfl) dL_law_691 ⟨by show _ ≤ 601024; omega, by show _ ≤ 7293034; omega⟩ (fun H locs hA => ?_)
    replace hA := Aw_swap hA
    refine lv_istore (lv' := [(6, .int v), (5, .int 1), (0, .ref b), (1, .ref (g.2.1 0)), (2, .ref (u 0)), (3, .ref o), (4, .int x4)]) hx hb dL_law_694 hl (by decide) rfl (fun ls hl => ?_)
    refine lv_aload_n hx hb dL_law_696 rfl (lv_at hl 4 rfl) ?_
    replace hA := Aw_swap hA
    refine r_fVi (r := (τ'.1 0)) (w := wM (gq g u) τ') (w1 := wM (gq g u) τ') (wr := wX g σ' ++ oc g o f) (As := []) (rest := []) C hA hl.1 (k_X8_thrown (g := gq g u) (fu := fu) C.2.2.2.2.2.2 rfl) (cwV 0 C.1.2.2.2.2 gL_law_X8_thrown rfl rfl rfl nd_X8_thrown ⟨Nat.le_of_ble_eq_true rfl, Nat.le_of_ble_eq_true rfl⟩) 0 rfl rfl rfl rfl (Nat.le_of_ble_eq_true rfl) dL_law_697 ⟨by show _ ≤ 601024; omega, by show _ ≤ 7293034; omega⟩ (fun H locs hA => ?_)
    replace hA := Aw_swap hA
    refine lv_iload hx hb dL_law_700 (lv_at hl 1 rfl) ?_
    refine lv_icmp_eq (tgt := 707) hx hb dL_law_702 (by decide) (fun c1 => ?_) (fun c1 => absurd ht c1)
    refine lv_iload hx hb dL_law_707 (lv_at hl 1 rfl) ?_
    refine lv_if_ne (tgt := 724) hx hb dL_law_709 (by decide) (fun c1 => ?_) (fun c1 => absurd c1 (by decide))
    refine lv_goto (tgt := 1387) hx hb dL_law_724 (by decide) ?_
    refine W.widen (k := cells + 1) (n := slots + 6) (by show _ ≤ cells + 1; omega) (by show _ ≤ slots + 6; omega) ?_
    exact hk _ _ _ _ _ _ hRel hA (lv_sub hl [2, 3, 4, 5, 6] rfl)
set_option maxHeartbeats 4000000 in
set_option maxRecDepth 100000 in
theorem law_c10 (SIM : Sim_copperTold fu Rel) (C : Cx p l s m args meth c code 8 wsL_law ret RL g A) (hX : va_X b L xs s s.heap) (hbl : b < s.heap.size) (hbA : ¬ A b) (hRel0 : Rel σ τ) (hrc : cells + 1 ≤ 601024) (hrs : slots + 6 ≤ 7293034) (h1 : vp_in (x4 + 1) L) (h2 : vp_in (x4 + 2) L) (h3 : vp_in (x4 + 3) L) (h4 : vp_in (x4 + 4) L) (h5 : vp_in (x4 + 5) L) (hA : Aw g A s.heap ((wX g σ ++ oc g o f) ++ wM (gq g u) τ) H locs) (hl : lv_has ls 8 [(0, .ref b), (1, .ref (g.2.1 0)), (2, .ref (u 0)), (3, .ref o), (4, .int x4)]) (hk : Kont p l e s m args below meth c Q g A Rel b o u x4 (cells + 1) (slots + 6)) : W p l e room_1 s m args below meth c H locs cells slots Q (F0 m 727 ls []) := by
  have hx := C.1.1
  have hb := C.1.2.1
  rcases SIM σ τ hRel0 (xs (x4 + 1).toNatClampNeg) (xs (x4 + 2).toNatClampNeg) with ⟨v, τ', hf1, hf2, ht, hRel⟩ | ⟨v, τ', hf1, hf2, ht, hRel⟩ | ⟨v, τ', hf1, hf2, ht, hRel⟩
  · refine lv_aload_n hx hb dL_law_727 rfl (lv_at hl 1 rfl) ?_
    refine lv_aload_n hx hb dL_law_728 rfl (lv_at hl 0 rfl) ?_
    refine lv_iload hx hb dL_law_729 (lv_at hl 4 rfl) ?_
    refine lv_iconst (v := 1) hx hb dL_law_731 (by decide) ?_
    refine lv_iadd hx hb dL_law_732 ?_
    refine va_sld hx hb hX hbl hbA hA.2.2 h1 dL_law_733 ?_
    refine lv_aload_n hx hb dL_law_734 rfl (lv_at hl 0 rfl) ?_
    refine lv_iload hx hb dL_law_735 (lv_at hl 4 rfl) ?_
    refine lv_iconst (v := 2) hx hb dL_law_737 (by decide) ?_
    refine lv_iadd hx hb dL_law_738 ?_
    refine va_sld hx hb hX hbl hbA hA.2.2 h2 dL_law_739 ?_
    refine lv_aload_n hx hb dL_law_740 rfl (lv_at hl 3 rfl) ?_
    refine r_fSW (r := 0) (w := (wX g σ ++ oc g o f)) (w1 := (wX g σ ++ oc g o (vp_updL f (0 : Int32).toNatClampNeg v.toInt64))) (wr := wM (gq g u) τ) (As := [.ref (g.2.1 0), .int (xs (x4 + 1).toNatClampNeg), .int (xs (x4 + 2).toNatClampNeg), .ref o]) (rest := []) C hA hl.1 (k_L_copperTold C.2.2.2.2.2.2 hf1) (vx_cwSW 4 C.1.2.2.2.2 gL_law_L_copperTold rfl rfl rfl nd_L_copperTold ⟨Nat.le_of_ble_eq_true rfl, Nat.le_of_ble_eq_true rfl⟩) rfl rfl (Nat.le_of_ble_eq_true rfl) dL_law_741 ⟨by show cells + 1 ≤ 601024; omega, by show slots + 6 ≤ 7293034; omega⟩ (fun H locs hA => ?_)
    refine lv_istore (lv' := [(5, .int 0), (0, .ref b), (1, .ref (g.2.1 0)), (2, .ref (u 0)), (3, .ref o), (4, .int x4)]) hx hb dL_law_744 hl (by decide) rfl (fun ls hl => ?_)
    refine lv_aload_n hx hb dL_law_746 rfl (lv_at hl 3 rfl) ?_
    refine lv_aload_n hx hb dL_law_747 rfl (lv_at hl 1 rfl) ?_
    refine lv_iload hx hb dL_law_748 (lv_at hl 5 rfl) ?_
    refine lv_iconst (v := 1) hx hb dL_law_750 (by decide) ?_
    refine lv_iadd hx hb dL_law_751 ?_
    refine va_sld hx hb hX hbl hbA hA.2.2 h1 dL_law_752 ?_
    refine lv_aload_n hx hb dL_law_753 rfl (lv_at hl 1 rfl) ?_
    refine lv_iload hx hb dL_law_754 (lv_at hl 5 rfl) ?_
    refine lv_iconst (v := 2) hx hb dL_law_756 (by decide) ?_
    refine lv_iadd hx hb dL_law_757 ?_
    refine va_sld hx hb hX hbl hbA hA.2.2 h2 dL_law_758 ?_
    replace hA := Aw_swap hA
    refine r_fVi (r := v) (w := wM (gq g u) τ) (w1 := wM (gq g u) τ') (wr := wX g σ ++ oc g o (vp_updL f (0 : Int32).toNatClampNeg v.toInt64)) (As := [.int (xs (x4 + 1).toNatClampNeg), .int (xs (x4 + 2).toNatClampNeg)]) (rest := []) C hA hl.1 (k_X8_copperTold (g := gq g u) C.2.2.2.2.2.2 hf2) (cwV 2 C.1.2.2.2.2 gL_law_X8_copperTold rfl rfl rfl nd_X8_copperTold ⟨Nat.le_of_ble_eq_true rfl, Nat.le_of_ble_eq_true rfl⟩) 0 rfl rfl rfl rfl (Nat.le_of_ble_eq_true rfl) dL_law_759 ⟨by show _ ≤ 601024; omega, by show _ ≤ 7293034; omega⟩ (fun H locs hA => ?_)
    replace hA := Aw_swap hA
    refine lv_istore (lv' := [(6, .int v), (5, .int 0), (0, .ref b), (1, .ref (g.2.1 0)), (2, .ref (u 0)), (3, .ref o), (4, .int x4)]) hx hb dL_law_762 hl (by decide) rfl (fun ls hl => ?_)
    refine lv_aload_n hx hb dL_law_764 rfl (lv_at hl 4 rfl) ?_
    replace hA := Aw_swap hA
    refine r_fVi (r := (τ'.1 0)) (w := wM (gq g u) τ') (w1 := wM (gq g u) τ') (wr := wX g σ ++ oc g o (vp_updL f (0 : Int32).toNatClampNeg v.toInt64)) (As := []) (rest := []) C hA hl.1 (k_X8_thrown (g := gq g u) (fu := fu) C.2.2.2.2.2.2 rfl) (cwV 0 C.1.2.2.2.2 gL_law_X8_thrown rfl rfl rfl nd_X8_thrown ⟨Nat.le_of_ble_eq_true rfl, Nat.le_of_ble_eq_true rfl⟩) 0 rfl rfl rfl rfl (Nat.le_of_ble_eq_true rfl) dL_law_765 ⟨by show _ ≤ 601024; omega, by show _ ≤ 7293034; omega⟩ (fun H locs hA => ?_)
    replace hA := Aw_swap hA
    refine lv_iload hx hb dL_law_768 (lv_at hl 1 rfl) ?_
    refine lv_icmp_eq (tgt := 775) hx hb dL_law_770 (by decide) (fun c1 => ?_) (fun c1 => absurd ht c1)
    refine lv_iload hx hb dL_law_775 (lv_at hl 1 rfl) ?_
    refine lv_if_ne (tgt := 792) hx hb dL_law_777 (by decide) (fun c1 => absurd rfl c1) (fun c1 => ?_)
    refine lv_aload_n hx hb dL_law_780 rfl (lv_at hl 5 rfl) ?_
    refine lv_iconst (v := 0) hx hb dL_law_781 (by decide) ?_
    refine r_lald C hA 44 1 rfl rfl (by decide) dL_law_782 ?_
    rw [pk_uLs]
    refine lv_iload hx hb dL_law_783 (lv_at hl 0 rfl) ?_
    refine lv_i2l (v := v.toInt64) hx hb dL_law_785 rfl ?_
    refine W.lcmp hx hb dL_law_786 ?_
    refine lv_if_eq (tgt := 792) hx hb dL_law_787 (by decide) (fun c1 => ?_) (fun c1 => absurd (lgc _) c1)
    refine lv_goto (tgt := 1387) hx hb dL_law_792 (by decide) ?_
    refine W.widen (k := cells + 1) (n := slots + 6) (by show _ ≤ cells + 1; omega) (by show _ ≤ slots + 6; omega) ?_
    exact hk _ _ _ _ _ _ hRel hA (lv_sub hl [2, 3, 4, 5, 6] rfl)
  · refine lv_aload_n hx hb dL_law_727 rfl (lv_at hl 1 rfl) ?_
    refine lv_aload_n hx hb dL_law_728 rfl (lv_at hl 0 rfl) ?_
    refine lv_iload hx hb dL_law_729 (lv_at hl 4 rfl) ?_
    refine lv_iconst (v := 1) hx hb dL_law_731 (by decide) ?_
    refine lv_iadd hx hb dL_law_732 ?_
    refine va_sld hx hb hX hbl hbA hA.2.2 h1 dL_law_733 ?_
    refine lv_aload_n hx hb dL_law_734 rfl (lv_at hl 0 rfl) ?_
    refine lv_iload hx hb dL_law_735 (lv_at hl 4 rfl) ?_
    refine lv_iconst (v := 2) hx hb dL_law_737 (by decide) ?_
    refine lv_iadd hx hb dL_law_738 ?_
    refine va_sld hx hb hX hbl hbA hA.2.2 h2 dL_law_739 ?_
    refine lv_aload_n hx hb dL_law_740 rfl (lv_at hl 3 rfl) ?_
    refine r_fSW (r := 1) (w := (wX g σ ++ oc g o f)) (w1 := (wX g σ ++ oc g o f)) (wr := wM (gq g u) τ) (As := [.ref (g.2.1 0), .int (xs (x4 + 1).toNatClampNeg), .int (xs (x4 + 2).toNatClampNeg), .ref o]) (rest := []) C hA hl.1 (k_L_copperTold_t2 C.2.2.2.2.2.2 hf1) (vx_cwSW 4 C.1.2.2.2.2 gL_law_L_copperTold rfl rfl rfl nd_L_copperTold ⟨Nat.le_of_ble_eq_true rfl, Nat.le_of_ble_eq_true rfl⟩) rfl rfl (Nat.le_of_ble_eq_true rfl) dL_law_741 ⟨by show cells + 1 ≤ 601024; omega, by show slots + 6 ≤ 7293034; omega⟩ (fun H locs hA => ?_)
    refine lv_istore (lv' := [(5, .int 1), (0, .ref b), (1, .ref (g.2.1 0)), (2, .ref (u 0)), (3, .ref o), (4, .int x4)]) hx hb dL_law_744 hl (by decide) rfl (fun ls hl => ?_)
    refine lv_aload_n hx hb dL_law_746 rfl (lv_at hl 3 rfl) ?_
    refine lv_aload_n hx hb dL_law_747 rfl (lv_at hl 1 rfl) ?_
    refine lv_iload hx hb dL_law_748 (lv_at hl 5 rfl) ?_
    refine lv_iconst (v := 1) hx hb dL_law_750 (by decide) ?_
    refine lv_iadd hx hb dL_law_751 ?_
    refine va_sld hx hb hX hbl hbA hA.2.2 h1 dL_law_752 ?_
    refine lv_aload_n hx hb dL_law_753 rfl (lv_at hl 1 rfl) ?_
    refine lv_iload hx hb dL_law_754 (lv_at hl 5 rfl) ?_
    refine lv_iconst (v := 2) hx hb dL_law_756 (by decide) ?_
    refine lv_iadd hx hb dL_law_757 ?_
    refine va_sld hx hb hX hbl hbA hA.2.2 h2 dL_law_758 ?_
    replace hA := Aw_swap hA
    refine r_fVi (r := v) (w := wM (gq g u) τ) (w1 := wM (gq g u) τ') (wr := wX g σ ++ oc g o f) (As := [.int (xs (x4 + 1).toNatClampNeg), .int (xs (x4 + 2).toNatClampNeg)]) (rest := []) C hA hl.1 (k_X8_copperTold (g := gq g u) C.2.2.2.2.2.2 hf2) (cwV 2 C.1.2.2.2.2 gL_law_X8_copperTold rfl rfl rfl nd_X8_copperTold ⟨Nat.le_of_ble_eq_true rfl, Nat.le_of_ble_eq_true rfl⟩) 0 rfl rfl rfl rfl (Nat.le_of_ble_eq_true rfl) dL_law_759 ⟨by show _ ≤ 601024; omega, by show _ ≤ 7293034; omega⟩ (fun H locs hA => ?_)
    replace hA := Aw_swap hA
    refine lv_istore (lv' := [(6, .int v), (5, .int 1), (0, .ref b), (1, .ref (g.2.1 0)), (2, .ref (u 0)), (3, .ref o), (4, .int x4)]) hx hb dL_law_762 hl (by decide) rfl (fun ls hl => ?_)
    refine lv_aload_n hx hb dL_law_764 rfl (lv_at hl 4 rfl) ?_
    replace hA := Aw_swap hA
    refine r_fVi (r := (τ'.1 0)) (w := wM (gq g u) τ') (w1 := wM (gq g u) τ') (wr := wX g σ ++ oc g o f) (As := []) (rest := []) C hA hl.1 (k_X8_thrown (g := gq g u) (fu := fu) C.2.2.2.2.2.2 rfl) (cwV 0 C.1.2.2.2.2 gL_law_X8_thrown rfl rfl rfl nd_X8_thrown ⟨Nat.le_of_ble_eq_true rfl, Nat.le_of_ble_eq_true rfl⟩) 0 rfl rfl rfl rfl (Nat.le_of_ble_eq_true rfl) dL_law_765 ⟨by show _ ≤ 601024; omega, by show _ ≤ 7293034; omega⟩ (fun H locs hA => ?_)
    replace hA := Aw_swap hA
    refine lv_iload hx hb dL_law_768 (lv_at hl 1 rfl) ?_
    refine lv_icmp_eq (tgt := 775) hx hb dL_law_770 (by decide) (fun c1 => ?_) (fun c1 => absurd ht c1)
    refine lv_iload hx hb dL_law_775 (lv_at hl 1 rfl) ?_
    refine lv_if_ne (tgt := 792) hx hb dL_law_777 (by decide) (fun c1 => ?_) (fun c1 => absurd c1 (by decide))
    refine lv_goto (tgt := 1387) hx hb dL_law_792 (by decide) ?_
    refine W.widen (k := cells + 1) (n := slots + 6) (by show _ ≤ cells + 1; omega) (by show _ ≤ slots + 6; omega) ?_
    exact hk _ _ _ _ _ _ hRel hA (lv_sub hl [2, 3, 4, 5, 6] rfl)
  · refine lv_aload_n hx hb dL_law_727 rfl (lv_at hl 1 rfl) ?_
    refine lv_aload_n hx hb dL_law_728 rfl (lv_at hl 0 rfl) ?_
    refine lv_iload hx hb dL_law_729 (lv_at hl 4 rfl) ?_
    refine lv_iconst (v := 1) hx hb dL_law_731 (by decide) ?_
    refine lv_iadd hx hb dL_law_732 ?_
    refine va_sld hx hb hX hbl hbA hA.2.2 h1 dL_law_733 ?_
    refine lv_aload_n hx hb dL_law_734 rfl (lv_at hl 0 rfl) ?_
    refine lv_iload hx hb dL_law_735 (lv_at hl 4 rfl) ?_
    refine lv_iconst (v := 2) hx hb dL_law_737 (by decide) ?_
    refine lv_iadd hx hb dL_law_738 ?_
    refine va_sld hx hb hX hbl hbA hA.2.2 h2 dL_law_739 ?_
    refine lv_aload_n hx hb dL_law_740 rfl (lv_at hl 3 rfl) ?_
    refine r_fSW (r := 2) (w := (wX g σ ++ oc g o f)) (w1 := (wX g σ ++ oc g o f)) (wr := wM (gq g u) τ) (As := [.ref (g.2.1 0), .int (xs (x4 + 1).toNatClampNeg), .int (xs (x4 + 2).toNatClampNeg), .ref o]) (rest := []) C hA hl.1 (k_L_copperTold_t0 C.2.2.2.2.2.2 hf1) (vx_cwSW 4 C.1.2.2.2.2 gL_law_L_copperTold rfl rfl rfl nd_L_copperTold ⟨Nat.le_of_ble_eq_true rfl, Nat.le_of_ble_eq_true rfl⟩) rfl rfl (Nat.le_of_ble_eq_true rfl) dL_law_741 ⟨by show cells + 1 ≤ 601024; omega, by show slots + 6 ≤ 7293034; omega⟩ (fun H locs hA => ?_)
    refine lv_istore (lv' := [(5, .int 2), (0, .ref b), (1, .ref (g.2.1 0)), (2, .ref (u 0)), (3, .ref o), (4, .int x4)]) hx hb dL_law_744 hl (by decide) rfl (fun ls hl => ?_)
    refine lv_aload_n hx hb dL_law_746 rfl (lv_at hl 3 rfl) ?_
    refine lv_aload_n hx hb dL_law_747 rfl (lv_at hl 1 rfl) ?_
    refine lv_iload hx hb dL_law_748 (lv_at hl 5 rfl) ?_
    refine lv_iconst (v := 1) hx hb dL_law_750 (by decide) ?_
    refine lv_iadd hx hb dL_law_751 ?_
    refine va_sld hx hb hX hbl hbA hA.2.2 h1 dL_law_752 ?_
    refine lv_aload_n hx hb dL_law_753 rfl (lv_at hl 1 rfl) ?_
    refine lv_iload hx hb dL_law_754 (lv_at hl 5 rfl) ?_
    refine lv_iconst (v := 2) hx hb dL_law_756 (by decide) ?_
    refine lv_iadd hx hb dL_law_757 ?_
    refine va_sld hx hb hX hbl hbA hA.2.2 h2 dL_law_758 ?_
    replace hA := Aw_swap hA
    refine r_fVi (r := v) (w := wM (gq g u) τ) (w1 := wM (gq g u) τ') (wr := wX g σ ++ oc g o f) (As := [.int (xs (x4 + 1).toNatClampNeg), .int (xs (x4 + 2).toNatClampNeg)]) (rest := []) C hA hl.1 (k_X8_copperTold (g := gq g u) C.2.2.2.2.2.2 hf2) (cwV 2 C.1.2.2.2.2 gL_law_X8_copperTold rfl rfl rfl nd_X8_copperTold ⟨Nat.le_of_ble_eq_true rfl, Nat.le_of_ble_eq_true rfl⟩) 0 rfl rfl rfl rfl (Nat.le_of_ble_eq_true rfl) dL_law_759 ⟨by show _ ≤ 601024; omega, by show _ ≤ 7293034; omega⟩ (fun H locs hA => ?_)
    replace hA := Aw_swap hA
    refine lv_istore (lv' := [(6, .int v), (5, .int 2), (0, .ref b), (1, .ref (g.2.1 0)), (2, .ref (u 0)), (3, .ref o), (4, .int x4)]) hx hb dL_law_762 hl (by decide) rfl (fun ls hl => ?_)
    refine lv_aload_n hx hb dL_law_764 rfl (lv_at hl 4 rfl) ?_
    replace hA := Aw_swap hA
    refine r_fVi (r := (τ'.1 0)) (w := wM (gq g u) τ') (w1 := wM (gq g u) τ') (wr := wX g σ ++ oc g o f) (As := []) (rest := []) C hA hl.1 (k_X8_thrown (g := gq g u) (fu := fu) C.2.2.2.2.2.2 rfl) (cwV 0 C.1.2.2.2.2 gL_law_X8_thrown rfl rfl rfl nd_X8_thrown ⟨Nat.le_of_ble_eq_true rfl, Nat.le_of_ble_eq_true rfl⟩) 0 rfl rfl rfl rfl (Nat.le_of_ble_eq_true rfl) dL_law_765 ⟨by show _ ≤ 601024; omega, by show _ ≤ 7293034; omega⟩ (fun H locs hA => ?_)
    replace hA := Aw_swap hA
    refine lv_iload hx hb dL_law_768 (lv_at hl 1 rfl) ?_
    refine lv_icmp_eq (tgt := 775) hx hb dL_law_770 (by decide) (fun c1 => ?_) (fun c1 => absurd ht c1)
    refine lv_iload hx hb dL_law_775 (lv_at hl 1 rfl) ?_
    refine lv_if_ne (tgt := 792) hx hb dL_law_777 (by decide) (fun c1 => ?_) (fun c1 => absurd c1 (by decide))
    refine lv_goto (tgt := 1387) hx hb dL_law_792 (by decide) ?_
    refine W.widen (k := cells + 1) (n := slots + 6) (by show _ ≤ cells + 1; omega) (by show _ ≤ slots + 6; omega) ?_
    exact hk _ _ _ _ _ _ hRel hA (lv_sub hl [2, 3, 4, 5, 6] rfl)
set_option maxHeartbeats 4000000 in
set_option maxRecDepth 100000 in
theorem law_c11 (SIM : Sim_feast fu Rel) (C : Cx p l s m args meth c code 8 wsL_law ret RL g A) (hX : va_X b L xs s s.heap) (hbl : b < s.heap.size) (hbA : ¬ A b) (hRel0 : Rel σ τ) (hrc : cells + 1 ≤ 601024) (hrs : slots + 6 ≤ 7293034) (h1 : vp_in (x4 + 1) L) (h2 : vp_in (x4 + 2) L) (h3 : vp_in (x4 + 3) L) (h4 : vp_in (x4 + 4) L) (h5 : vp_in (x4 + 5) L) (hA : Aw g A s.heap ((wX g σ ++ oc g o f) ++ wM (gq g u) τ) H locs) (hl : lv_has ls 8 [(0, .ref b), (1, .ref (g.2.1 0)), (2, .ref (u 0)), (3, .ref o), (4, .int x4)]) (hk : Kont p l e s m args below meth c Q g A Rel b o u x4 (cells + 1) (slots + 6)) : W p l e room_1 s m args below meth c H locs cells slots Q (F0 m 795 ls []) := by
  have hx := C.1.1
  have hb := C.1.2.1
  rcases SIM σ τ hRel0 (xs (x4 + 1).toNatClampNeg) (xs (x4 + 2).toNatClampNeg) (xs (x4 + 3).toNatClampNeg) (xs (x4 + 4).toNatClampNeg) with ⟨v, σ', τ', hf1, hf2, ht, hRel⟩ | ⟨v, σ', τ', hf1, hf2, ht, hRel⟩ | ⟨v, σ', τ', hf1, hf2, ht, hRel⟩ | ⟨v, σ', τ', hf1, hf2, ht, hRel⟩
  · refine lv_aload_n hx hb dL_law_795 rfl (lv_at hl 1 rfl) ?_
    refine lv_aload_n hx hb dL_law_796 rfl (lv_at hl 0 rfl) ?_
    refine lv_iload hx hb dL_law_797 (lv_at hl 4 rfl) ?_
    refine lv_iconst (v := 1) hx hb dL_law_799 (by decide) ?_
    refine lv_iadd hx hb dL_law_800 ?_
    refine va_sld hx hb hX hbl hbA hA.2.2 h1 dL_law_801 ?_
    refine lv_aload_n hx hb dL_law_802 rfl (lv_at hl 0 rfl) ?_
    refine lv_iload hx hb dL_law_803 (lv_at hl 4 rfl) ?_
    refine lv_iconst (v := 2) hx hb dL_law_805 (by decide) ?_
    refine lv_iadd hx hb dL_law_806 ?_
    refine va_sld hx hb hX hbl hbA hA.2.2 h2 dL_law_807 ?_
    refine lv_aload_n hx hb dL_law_808 rfl (lv_at hl 0 rfl) ?_
    refine lv_iload hx hb dL_law_809 (lv_at hl 4 rfl) ?_
    refine lv_iconst (v := 3) hx hb dL_law_811 (by decide) ?_
    refine lv_iadd hx hb dL_law_812 ?_
    refine va_sld hx hb hX hbl hbA hA.2.2 h3 dL_law_813 ?_
    refine lv_aload_n hx hb dL_law_814 rfl (lv_at hl 0 rfl) ?_
    refine lv_iload hx hb dL_law_815 (lv_at hl 4 rfl) ?_
    refine lv_iconst (v := 4) hx hb dL_law_817 (by decide) ?_
    refine lv_iadd hx hb dL_law_818 ?_
    refine va_sld hx hb hX hbl hbA hA.2.2 h4 dL_law_819 ?_
    refine lv_aload_n hx hb dL_law_820 rfl (lv_at hl 3 rfl) ?_
    refine r_fSW (r := 0) (w := (wX g σ ++ oc g o f)) (w1 := (wX g σ' ++ oc g o (vp_updL f (0 : Int32).toNatClampNeg v.toInt64))) (wr := wM (gq g u) τ) (As := [.ref (g.2.1 0), .int (xs (x4 + 1).toNatClampNeg), .int (xs (x4 + 2).toNatClampNeg), .int (xs (x4 + 3).toNatClampNeg), .int (xs (x4 + 4).toNatClampNeg), .ref o]) (rest := []) C hA hl.1 (k_L_feast C.2.2.2.2.2.2 hf1) (vx_cwSW 6 C.1.2.2.2.2 gL_law_L_feast rfl rfl rfl nd_L_feast ⟨Nat.le_of_ble_eq_true rfl, Nat.le_of_ble_eq_true rfl⟩) rfl rfl (Nat.le_of_ble_eq_true rfl) dL_law_821 ⟨by show cells + 1 ≤ 601024; omega, by show slots + 6 ≤ 7293034; omega⟩ (fun H locs hA => ?_)
    refine lv_istore (lv' := [(5, .int 0), (0, .ref b), (1, .ref (g.2.1 0)), (2, .ref (u 0)), (3, .ref o), (4, .int x4)]) hx hb dL_law_824 hl (by decide) rfl (fun ls hl => ?_)
    refine lv_aload_n hx hb dL_law_826 rfl (lv_at hl 3 rfl) ?_
    refine lv_aload_n hx hb dL_law_827 rfl (lv_at hl 1 rfl) ?_
    refine lv_iload hx hb dL_law_828 (lv_at hl 5 rfl) ?_
    refine lv_iconst (v := 1) hx hb dL_law_830 (by decide) ?_
    refine lv_iadd hx hb dL_law_831 ?_
    refine va_sld hx hb hX hbl hbA hA.2.2 h1 dL_law_832 ?_
    refine lv_aload_n hx hb dL_law_833 rfl (lv_at hl 1 rfl) ?_
    refine lv_iload hx hb dL_law_834 (lv_at hl 5 rfl) ?_
    refine lv_iconst (v := 2) hx hb dL_law_836 (by decide) ?_
    refine lv_iadd hx hb dL_law_837 ?_
    refine va_sld hx hb hX hbl hbA hA.2.2 h2 dL_law_838 ?_
    refine lv_aload_n hx hb dL_law_839 rfl (lv_at hl 1 rfl) ?_
    refine lv_iload hx hb dL_law_840 (lv_at hl 5 rfl) ?_
    refine lv_iconst (v := 3) hx hb dL_law_842 (by decide) ?_
    refine lv_iadd hx hb dL_law_843 ?_
    refine va_sld hx hb hX hbl hbA hA.2.2 h3 dL_law_844 ?_
    refine lv_aload_n hx hb dL_law_845 rfl (lv_at hl 1 rfl) ?_
    refine lv_iload hx hb dL_law_846 (lv_at hl 5 rfl) ?_
    refine lv_iconst (v := 4) hx hb dL_law_848 (by decide) ?_
    refine lv_iadd hx hb dL_law_849 ?_
    refine va_sld hx hb hX hbl hbA hA.2.2 h4 dL_law_850 ?_
    replace hA := Aw_swap hA
    refine r_fVi (r := v) (w := wM (gq g u) τ) (w1 := wM (gq g u) τ') (wr := wX g σ' ++ oc g o (vp_updL f (0 : Int32).toNatClampNeg v.toInt64)) (As := [.int (xs (x4 + 1).toNatClampNeg), .int (xs (x4 + 2).toNatClampNeg), .int (xs (x4 + 3).toNatClampNeg), .int (xs (x4 + 4).toNatClampNeg)]) (rest := []) C hA hl.1 (k_X8_feast (g := gq g u) C.2.2.2.2.2.2 hf2) (cwV 4 C.1.2.2.2.2 gL_law_X8_feast rfl rfl rfl nd_X8_feast ⟨Nat.le_of_ble_eq_true rfl, Nat.le_of_ble_eq_true rfl⟩) 0 rfl rfl rfl rfl (Nat.le_of_ble_eq_true rfl) dL_law_851 ⟨by show _ ≤ 601024; omega, by show _ ≤ 7293034; omega⟩ (fun H locs hA => ?_)
    replace hA := Aw_swap hA
    refine lv_istore (lv' := [(6, .int v), (5, .int 0), (0, .ref b), (1, .ref (g.2.1 0)), (2, .ref (u 0)), (3, .ref o), (4, .int x4)]) hx hb dL_law_854 hl (by decide) rfl (fun ls hl => ?_)
    refine lv_aload_n hx hb dL_law_856 rfl (lv_at hl 4 rfl) ?_
    replace hA := Aw_swap hA
    refine r_fVi (r := (τ'.1 0)) (w := wM (gq g u) τ') (w1 := wM (gq g u) τ') (wr := wX g σ' ++ oc g o (vp_updL f (0 : Int32).toNatClampNeg v.toInt64)) (As := []) (rest := []) C hA hl.1 (k_X8_thrown (g := gq g u) (fu := fu) C.2.2.2.2.2.2 rfl) (cwV 0 C.1.2.2.2.2 gL_law_X8_thrown rfl rfl rfl nd_X8_thrown ⟨Nat.le_of_ble_eq_true rfl, Nat.le_of_ble_eq_true rfl⟩) 0 rfl rfl rfl rfl (Nat.le_of_ble_eq_true rfl) dL_law_857 ⟨by show _ ≤ 601024; omega, by show _ ≤ 7293034; omega⟩ (fun H locs hA => ?_)
    replace hA := Aw_swap hA
    refine lv_iload hx hb dL_law_860 (lv_at hl 1 rfl) ?_
    refine lv_icmp_eq (tgt := 867) hx hb dL_law_862 (by decide) (fun c1 => ?_) (fun c1 => absurd ht c1)
    refine lv_iload hx hb dL_law_867 (lv_at hl 1 rfl) ?_
    refine lv_if_ne (tgt := 884) hx hb dL_law_869 (by decide) (fun c1 => absurd rfl c1) (fun c1 => ?_)
    refine lv_aload_n hx hb dL_law_872 rfl (lv_at hl 5 rfl) ?_
    refine lv_iconst (v := 0) hx hb dL_law_873 (by decide) ?_
    refine r_lald C hA 44 1 rfl rfl (by decide) dL_law_874 ?_
    rw [pk_uLs]
    refine lv_iload hx hb dL_law_875 (lv_at hl 0 rfl) ?_
    refine lv_i2l (v := v.toInt64) hx hb dL_law_877 rfl ?_
    refine W.lcmp hx hb dL_law_878 ?_
    refine lv_if_eq (tgt := 884) hx hb dL_law_879 (by decide) (fun c1 => ?_) (fun c1 => absurd (lgc _) c1)
    refine lv_goto (tgt := 1387) hx hb dL_law_884 (by decide) ?_
    refine W.widen (k := cells + 1) (n := slots + 6) (by show _ ≤ cells + 1; omega) (by show _ ≤ slots + 6; omega) ?_
    exact hk _ _ _ _ _ _ hRel hA (lv_sub hl [2, 3, 4, 5, 6] rfl)
  · refine lv_aload_n hx hb dL_law_795 rfl (lv_at hl 1 rfl) ?_
    refine lv_aload_n hx hb dL_law_796 rfl (lv_at hl 0 rfl) ?_
    refine lv_iload hx hb dL_law_797 (lv_at hl 4 rfl) ?_
    refine lv_iconst (v := 1) hx hb dL_law_799 (by decide) ?_
    refine lv_iadd hx hb dL_law_800 ?_
    refine va_sld hx hb hX hbl hbA hA.2.2 h1 dL_law_801 ?_
    refine lv_aload_n hx hb dL_law_802 rfl (lv_at hl 0 rfl) ?_
    refine lv_iload hx hb dL_law_803 (lv_at hl 4 rfl) ?_
    refine lv_iconst (v := 2) hx hb dL_law_805 (by decide) ?_
    refine lv_iadd hx hb dL_law_806 ?_
    refine va_sld hx hb hX hbl hbA hA.2.2 h2 dL_law_807 ?_
    refine lv_aload_n hx hb dL_law_808 rfl (lv_at hl 0 rfl) ?_
    refine lv_iload hx hb dL_law_809 (lv_at hl 4 rfl) ?_
    refine lv_iconst (v := 3) hx hb dL_law_811 (by decide) ?_
    refine lv_iadd hx hb dL_law_812 ?_
    refine va_sld hx hb hX hbl hbA hA.2.2 h3 dL_law_813 ?_
    refine lv_aload_n hx hb dL_law_814 rfl (lv_at hl 0 rfl) ?_
    refine lv_iload hx hb dL_law_815 (lv_at hl 4 rfl) ?_
    refine lv_iconst (v := 4) hx hb dL_law_817 (by decide) ?_
    refine lv_iadd hx hb dL_law_818 ?_
    refine va_sld hx hb hX hbl hbA hA.2.2 h4 dL_law_819 ?_
    refine lv_aload_n hx hb dL_law_820 rfl (lv_at hl 3 rfl) ?_
    refine r_fSW (r := 1) (w := (wX g σ ++ oc g o f)) (w1 := (wX g σ' ++ oc g o f)) (wr := wM (gq g u) τ) (As := [.ref (g.2.1 0), .int (xs (x4 + 1).toNatClampNeg), .int (xs (x4 + 2).toNatClampNeg), .int (xs (x4 + 3).toNatClampNeg), .int (xs (x4 + 4).toNatClampNeg), .ref o]) (rest := []) C hA hl.1 (k_L_feast_t2 C.2.2.2.2.2.2 hf1) (vx_cwSW 6 C.1.2.2.2.2 gL_law_L_feast rfl rfl rfl nd_L_feast ⟨Nat.le_of_ble_eq_true rfl, Nat.le_of_ble_eq_true rfl⟩) rfl rfl (Nat.le_of_ble_eq_true rfl) dL_law_821 ⟨by show cells + 1 ≤ 601024; omega, by show slots + 6 ≤ 7293034; omega⟩ (fun H locs hA => ?_)
    refine lv_istore (lv' := [(5, .int 1), (0, .ref b), (1, .ref (g.2.1 0)), (2, .ref (u 0)), (3, .ref o), (4, .int x4)]) hx hb dL_law_824 hl (by decide) rfl (fun ls hl => ?_)
    refine lv_aload_n hx hb dL_law_826 rfl (lv_at hl 3 rfl) ?_
    refine lv_aload_n hx hb dL_law_827 rfl (lv_at hl 1 rfl) ?_
    refine lv_iload hx hb dL_law_828 (lv_at hl 5 rfl) ?_
    refine lv_iconst (v := 1) hx hb dL_law_830 (by decide) ?_
    refine lv_iadd hx hb dL_law_831 ?_
    refine va_sld hx hb hX hbl hbA hA.2.2 h1 dL_law_832 ?_
    refine lv_aload_n hx hb dL_law_833 rfl (lv_at hl 1 rfl) ?_
    refine lv_iload hx hb dL_law_834 (lv_at hl 5 rfl) ?_
    refine lv_iconst (v := 2) hx hb dL_law_836 (by decide) ?_
    refine lv_iadd hx hb dL_law_837 ?_
    refine va_sld hx hb hX hbl hbA hA.2.2 h2 dL_law_838 ?_
    refine lv_aload_n hx hb dL_law_839 rfl (lv_at hl 1 rfl) ?_
    refine lv_iload hx hb dL_law_840 (lv_at hl 5 rfl) ?_
    refine lv_iconst (v := 3) hx hb dL_law_842 (by decide) ?_
    refine lv_iadd hx hb dL_law_843 ?_
    refine va_sld hx hb hX hbl hbA hA.2.2 h3 dL_law_844 ?_
    refine lv_aload_n hx hb dL_law_845 rfl (lv_at hl 1 rfl) ?_
    refine lv_iload hx hb dL_law_846 (lv_at hl 5 rfl) ?_
    refine lv_iconst (v := 4) hx hb dL_law_848 (by decide) ?_
    refine lv_iadd hx hb dL_law_849 ?_
    refine va_sld hx hb hX hbl hbA hA.2.2 h4 dL_law_850 ?_
    replace hA := Aw_swap hA
    refine r_fVi (r := v) (w := wM (gq g u) τ) (w1 := wM (gq g u) τ') (wr := wX g σ' ++ oc g o f) (As := [.int (xs (x4 + 1).toNatClampNeg), .int (xs (x4 + 2).toNatClampNeg), .int (xs (x4 + 3).toNatClampNeg), .int (xs (x4 + 4).toNatClampNeg)]) (rest := []) C hA hl.1 (k_X8_feast (g := gq g u) C.2.2.2.2.2.2 hf2) (cwV 4 C.1.2.2.2.2 gL_law_X8_feast rfl rfl rfl nd_X8_feast ⟨Nat.le_of_ble_eq_true rfl, Nat.le_of_ble_eq_true rfl⟩) 0 rfl rfl rfl rfl (Nat.le_of_ble_eq_true rfl) dL_law_851 ⟨by show _ ≤ 601024; omega, by show _ ≤ 7293034; omega⟩ (fun H locs hA => ?_)
    replace hA := Aw_swap hA
    refine lv_istore (lv' := [(6, .int v), (5, .int 1), (0, .ref b), (1, .ref (g.2.1 0)), (2, .ref (u 0)), (3, .ref o), (4, .int x4)]) hx hb dL_law_854 hl (by decide) rfl (fun ls hl => ?_)
    refine lv_aload_n hx hb dL_law_856 rfl (lv_at hl 4 rfl) ?_
    replace hA := Aw_swap hA
    refine r_fVi (r := (τ'.1 0)) (w := wM (gq g u) τ') (w1 := wM (gq g u) τ') (wr := wX g σ' ++ oc g o f) (As := []) (rest := []) C hA hl.1 (k_X8_thrown (g := gq g u) (fu := fu) C.2.2.2.2.2.2 rfl) (cwV 0 C.1.2.2.2.2 gL_law_X8_thrown rfl rfl rfl nd_X8_thrown ⟨Nat.le_of_ble_eq_true rfl, Nat.le_of_ble_eq_true rfl⟩) 0 rfl rfl rfl rfl (Nat.le_of_ble_eq_true rfl) dL_law_857 ⟨by show _ ≤ 601024; omega, by show _ ≤ 7293034; omega⟩ (fun H locs hA => ?_)
    replace hA := Aw_swap hA
    refine lv_iload hx hb dL_law_860 (lv_at hl 1 rfl) ?_
    refine lv_icmp_eq (tgt := 867) hx hb dL_law_862 (by decide) (fun c1 => ?_) (fun c1 => absurd ht c1)
    refine lv_iload hx hb dL_law_867 (lv_at hl 1 rfl) ?_
    refine lv_if_ne (tgt := 884) hx hb dL_law_869 (by decide) (fun c1 => ?_) (fun c1 => absurd c1 (by decide))
    refine lv_goto (tgt := 1387) hx hb dL_law_884 (by decide) ?_
    refine W.widen (k := cells + 1) (n := slots + 6) (by show _ ≤ cells + 1; omega) (by show _ ≤ slots + 6; omega) ?_
    exact hk _ _ _ _ _ _ hRel hA (lv_sub hl [2, 3, 4, 5, 6] rfl)
  · refine lv_aload_n hx hb dL_law_795 rfl (lv_at hl 1 rfl) ?_
    refine lv_aload_n hx hb dL_law_796 rfl (lv_at hl 0 rfl) ?_
    refine lv_iload hx hb dL_law_797 (lv_at hl 4 rfl) ?_
    refine lv_iconst (v := 1) hx hb dL_law_799 (by decide) ?_
    refine lv_iadd hx hb dL_law_800 ?_
    refine va_sld hx hb hX hbl hbA hA.2.2 h1 dL_law_801 ?_
    refine lv_aload_n hx hb dL_law_802 rfl (lv_at hl 0 rfl) ?_
    refine lv_iload hx hb dL_law_803 (lv_at hl 4 rfl) ?_
    refine lv_iconst (v := 2) hx hb dL_law_805 (by decide) ?_
    refine lv_iadd hx hb dL_law_806 ?_
    refine va_sld hx hb hX hbl hbA hA.2.2 h2 dL_law_807 ?_
    refine lv_aload_n hx hb dL_law_808 rfl (lv_at hl 0 rfl) ?_
    refine lv_iload hx hb dL_law_809 (lv_at hl 4 rfl) ?_
    refine lv_iconst (v := 3) hx hb dL_law_811 (by decide) ?_
    refine lv_iadd hx hb dL_law_812 ?_
    refine va_sld hx hb hX hbl hbA hA.2.2 h3 dL_law_813 ?_
    refine lv_aload_n hx hb dL_law_814 rfl (lv_at hl 0 rfl) ?_
    refine lv_iload hx hb dL_law_815 (lv_at hl 4 rfl) ?_
    refine lv_iconst (v := 4) hx hb dL_law_817 (by decide) ?_
    refine lv_iadd hx hb dL_law_818 ?_
    refine va_sld hx hb hX hbl hbA hA.2.2 h4 dL_law_819 ?_
    refine lv_aload_n hx hb dL_law_820 rfl (lv_at hl 3 rfl) ?_
    refine r_fSW (r := 2) (w := (wX g σ ++ oc g o f)) (w1 := (wX g σ' ++ oc g o f)) (wr := wM (gq g u) τ) (As := [.ref (g.2.1 0), .int (xs (x4 + 1).toNatClampNeg), .int (xs (x4 + 2).toNatClampNeg), .int (xs (x4 + 3).toNatClampNeg), .int (xs (x4 + 4).toNatClampNeg), .ref o]) (rest := []) C hA hl.1 (k_L_feast_t0 C.2.2.2.2.2.2 hf1) (vx_cwSW 6 C.1.2.2.2.2 gL_law_L_feast rfl rfl rfl nd_L_feast ⟨Nat.le_of_ble_eq_true rfl, Nat.le_of_ble_eq_true rfl⟩) rfl rfl (Nat.le_of_ble_eq_true rfl) dL_law_821 ⟨by show cells + 1 ≤ 601024; omega, by show slots + 6 ≤ 7293034; omega⟩ (fun H locs hA => ?_)
    refine lv_istore (lv' := [(5, .int 2), (0, .ref b), (1, .ref (g.2.1 0)), (2, .ref (u 0)), (3, .ref o), (4, .int x4)]) hx hb dL_law_824 hl (by decide) rfl (fun ls hl => ?_)
    refine lv_aload_n hx hb dL_law_826 rfl (lv_at hl 3 rfl) ?_
    refine lv_aload_n hx hb dL_law_827 rfl (lv_at hl 1 rfl) ?_
    refine lv_iload hx hb dL_law_828 (lv_at hl 5 rfl) ?_
    refine lv_iconst (v := 1) hx hb dL_law_830 (by decide) ?_
    refine lv_iadd hx hb dL_law_831 ?_
    refine va_sld hx hb hX hbl hbA hA.2.2 h1 dL_law_832 ?_
    refine lv_aload_n hx hb dL_law_833 rfl (lv_at hl 1 rfl) ?_
    refine lv_iload hx hb dL_law_834 (lv_at hl 5 rfl) ?_
    refine lv_iconst (v := 2) hx hb dL_law_836 (by decide) ?_
    refine lv_iadd hx hb dL_law_837 ?_
    refine va_sld hx hb hX hbl hbA hA.2.2 h2 dL_law_838 ?_
    refine lv_aload_n hx hb dL_law_839 rfl (lv_at hl 1 rfl) ?_
    refine lv_iload hx hb dL_law_840 (lv_at hl 5 rfl) ?_
    refine lv_iconst (v := 3) hx hb dL_law_842 (by decide) ?_
    refine lv_iadd hx hb dL_law_843 ?_
    refine va_sld hx hb hX hbl hbA hA.2.2 h3 dL_law_844 ?_
    refine lv_aload_n hx hb dL_law_845 rfl (lv_at hl 1 rfl) ?_
    refine lv_iload hx hb dL_law_846 (lv_at hl 5 rfl) ?_
    refine lv_iconst (v := 4) hx hb dL_law_848 (by decide) ?_
    refine lv_iadd hx hb dL_law_849 ?_
    refine va_sld hx hb hX hbl hbA hA.2.2 h4 dL_law_850 ?_
    replace hA := Aw_swap hA
    refine r_fVi (r := v) (w := wM (gq g u) τ) (w1 := wM (gq g u) τ') (wr := wX g σ' ++ oc g o f) (As := [.int (xs (x4 + 1).toNatClampNeg), .int (xs (x4 + 2).toNatClampNeg), .int (xs (x4 + 3).toNatClampNeg), .int (xs (x4 + 4).toNatClampNeg)]) (rest := []) C hA hl.1 (k_X8_feast (g := gq g u) C.2.2.2.2.2.2 hf2) (cwV 4 C.1.2.2.2.2 gL_law_X8_feast rfl rfl rfl nd_X8_feast ⟨Nat.le_of_ble_eq_true rfl, Nat.le_of_ble_eq_true rfl⟩) 0 rfl rfl rfl rfl (Nat.le_of_ble_eq_true rfl) dL_law_851 ⟨by show _ ≤ 601024; omega, by show _ ≤ 7293034; omega⟩ (fun H locs hA => ?_)
    replace hA := Aw_swap hA
    refine lv_istore (lv' := [(6, .int v), (5, .int 2), (0, .ref b), (1, .ref (g.2.1 0)), (2, .ref (u 0)), (3, .ref o), (4, .int x4)]) hx hb dL_law_854 hl (by decide) rfl (fun ls hl => ?_)
    refine lv_aload_n hx hb dL_law_856 rfl (lv_at hl 4 rfl) ?_
    replace hA := Aw_swap hA
    refine r_fVi (r := (τ'.1 0)) (w := wM (gq g u) τ') (w1 := wM (gq g u) τ') (wr := wX g σ' ++ oc g o f) (As := []) (rest := []) C hA hl.1 (k_X8_thrown (g := gq g u) (fu := fu) C.2.2.2.2.2.2 rfl) (cwV 0 C.1.2.2.2.2 gL_law_X8_thrown rfl rfl rfl nd_X8_thrown ⟨Nat.le_of_ble_eq_true rfl, Nat.le_of_ble_eq_true rfl⟩) 0 rfl rfl rfl rfl (Nat.le_of_ble_eq_true rfl) dL_law_857 ⟨by show _ ≤ 601024; omega, by show _ ≤ 7293034; omega⟩ (fun H locs hA => ?_)
    replace hA := Aw_swap hA
    refine lv_iload hx hb dL_law_860 (lv_at hl 1 rfl) ?_
    refine lv_icmp_eq (tgt := 867) hx hb dL_law_862 (by decide) (fun c1 => ?_) (fun c1 => absurd ht c1)
    refine lv_iload hx hb dL_law_867 (lv_at hl 1 rfl) ?_
    refine lv_if_ne (tgt := 884) hx hb dL_law_869 (by decide) (fun c1 => ?_) (fun c1 => absurd c1 (by decide))
    refine lv_goto (tgt := 1387) hx hb dL_law_884 (by decide) ?_
    refine W.widen (k := cells + 1) (n := slots + 6) (by show _ ≤ cells + 1; omega) (by show _ ≤ slots + 6; omega) ?_
    exact hk _ _ _ _ _ _ hRel hA (lv_sub hl [2, 3, 4, 5, 6] rfl)
  · refine lv_aload_n hx hb dL_law_795 rfl (lv_at hl 1 rfl) ?_
    refine lv_aload_n hx hb dL_law_796 rfl (lv_at hl 0 rfl) ?_
    refine lv_iload hx hb dL_law_797 (lv_at hl 4 rfl) ?_
    refine lv_iconst (v := 1) hx hb dL_law_799 (by decide) ?_
    refine lv_iadd hx hb dL_law_800 ?_
    refine va_sld hx hb hX hbl hbA hA.2.2 h1 dL_law_801 ?_
    refine lv_aload_n hx hb dL_law_802 rfl (lv_at hl 0 rfl) ?_
    refine lv_iload hx hb dL_law_803 (lv_at hl 4 rfl) ?_
    refine lv_iconst (v := 2) hx hb dL_law_805 (by decide) ?_
    refine lv_iadd hx hb dL_law_806 ?_
    refine va_sld hx hb hX hbl hbA hA.2.2 h2 dL_law_807 ?_
    refine lv_aload_n hx hb dL_law_808 rfl (lv_at hl 0 rfl) ?_
    refine lv_iload hx hb dL_law_809 (lv_at hl 4 rfl) ?_
    refine lv_iconst (v := 3) hx hb dL_law_811 (by decide) ?_
    refine lv_iadd hx hb dL_law_812 ?_
    refine va_sld hx hb hX hbl hbA hA.2.2 h3 dL_law_813 ?_
    refine lv_aload_n hx hb dL_law_814 rfl (lv_at hl 0 rfl) ?_
    refine lv_iload hx hb dL_law_815 (lv_at hl 4 rfl) ?_
    refine lv_iconst (v := 4) hx hb dL_law_817 (by decide) ?_
    refine lv_iadd hx hb dL_law_818 ?_
    refine va_sld hx hb hX hbl hbA hA.2.2 h4 dL_law_819 ?_
    refine lv_aload_n hx hb dL_law_820 rfl (lv_at hl 3 rfl) ?_
    refine r_fSW (r := 3) (w := (wX g σ ++ oc g o f)) (w1 := (wX g σ' ++ oc g o f)) (wr := wM (gq g u) τ) (As := [.ref (g.2.1 0), .int (xs (x4 + 1).toNatClampNeg), .int (xs (x4 + 2).toNatClampNeg), .int (xs (x4 + 3).toNatClampNeg), .int (xs (x4 + 4).toNatClampNeg), .ref o]) (rest := []) C hA hl.1 (k_L_feast_t1 C.2.2.2.2.2.2 hf1) (vx_cwSW 6 C.1.2.2.2.2 gL_law_L_feast rfl rfl rfl nd_L_feast ⟨Nat.le_of_ble_eq_true rfl, Nat.le_of_ble_eq_true rfl⟩) rfl rfl (Nat.le_of_ble_eq_true rfl) dL_law_821 ⟨by show cells + 1 ≤ 601024; omega, by show slots + 6 ≤ 7293034; omega⟩ (fun H locs hA => ?_)
    refine lv_istore (lv' := [(5, .int 3), (0, .ref b), (1, .ref (g.2.1 0)), (2, .ref (u 0)), (3, .ref o), (4, .int x4)]) hx hb dL_law_824 hl (by decide) rfl (fun ls hl => ?_)
    refine lv_aload_n hx hb dL_law_826 rfl (lv_at hl 3 rfl) ?_
    refine lv_aload_n hx hb dL_law_827 rfl (lv_at hl 1 rfl) ?_
    refine lv_iload hx hb dL_law_828 (lv_at hl 5 rfl) ?_
    refine lv_iconst (v := 1) hx hb dL_law_830 (by decide) ?_
    refine lv_iadd hx hb dL_law_831 ?_
    refine va_sld hx hb hX hbl hbA hA.2.2 h1 dL_law_832 ?_
    refine lv_aload_n hx hb dL_law_833 rfl (lv_at hl 1 rfl) ?_
    refine lv_iload hx hb dL_law_834 (lv_at hl 5 rfl) ?_
    refine lv_iconst (v := 2) hx hb dL_law_836 (by decide) ?_
    refine lv_iadd hx hb dL_law_837 ?_
    refine va_sld hx hb hX hbl hbA hA.2.2 h2 dL_law_838 ?_
    refine lv_aload_n hx hb dL_law_839 rfl (lv_at hl 1 rfl) ?_
    refine lv_iload hx hb dL_law_840 (lv_at hl 5 rfl) ?_
    refine lv_iconst (v := 3) hx hb dL_law_842 (by decide) ?_
    refine lv_iadd hx hb dL_law_843 ?_
    refine va_sld hx hb hX hbl hbA hA.2.2 h3 dL_law_844 ?_
    refine lv_aload_n hx hb dL_law_845 rfl (lv_at hl 1 rfl) ?_
    refine lv_iload hx hb dL_law_846 (lv_at hl 5 rfl) ?_
    refine lv_iconst (v := 4) hx hb dL_law_848 (by decide) ?_
    refine lv_iadd hx hb dL_law_849 ?_
    refine va_sld hx hb hX hbl hbA hA.2.2 h4 dL_law_850 ?_
    replace hA := Aw_swap hA
    refine r_fVi (r := v) (w := wM (gq g u) τ) (w1 := wM (gq g u) τ') (wr := wX g σ' ++ oc g o f) (As := [.int (xs (x4 + 1).toNatClampNeg), .int (xs (x4 + 2).toNatClampNeg), .int (xs (x4 + 3).toNatClampNeg), .int (xs (x4 + 4).toNatClampNeg)]) (rest := []) C hA hl.1 (k_X8_feast (g := gq g u) C.2.2.2.2.2.2 hf2) (cwV 4 C.1.2.2.2.2 gL_law_X8_feast rfl rfl rfl nd_X8_feast ⟨Nat.le_of_ble_eq_true rfl, Nat.le_of_ble_eq_true rfl⟩) 0 rfl rfl rfl rfl (Nat.le_of_ble_eq_true rfl) dL_law_851 ⟨by show _ ≤ 601024; omega, by show _ ≤ 7293034; omega⟩ (fun H locs hA => ?_)
    replace hA := Aw_swap hA
    refine lv_istore (lv' := [(6, .int v), (5, .int 3), (0, .ref b), (1, .ref (g.2.1 0)), (2, .ref (u 0)), (3, .ref o), (4, .int x4)]) hx hb dL_law_854 hl (by decide) rfl (fun ls hl => ?_)
    refine lv_aload_n hx hb dL_law_856 rfl (lv_at hl 4 rfl) ?_
    replace hA := Aw_swap hA
    refine r_fVi (r := (τ'.1 0)) (w := wM (gq g u) τ') (w1 := wM (gq g u) τ') (wr := wX g σ' ++ oc g o f) (As := []) (rest := []) C hA hl.1 (k_X8_thrown (g := gq g u) (fu := fu) C.2.2.2.2.2.2 rfl) (cwV 0 C.1.2.2.2.2 gL_law_X8_thrown rfl rfl rfl nd_X8_thrown ⟨Nat.le_of_ble_eq_true rfl, Nat.le_of_ble_eq_true rfl⟩) 0 rfl rfl rfl rfl (Nat.le_of_ble_eq_true rfl) dL_law_857 ⟨by show _ ≤ 601024; omega, by show _ ≤ 7293034; omega⟩ (fun H locs hA => ?_)
    replace hA := Aw_swap hA
    refine lv_iload hx hb dL_law_860 (lv_at hl 1 rfl) ?_
    refine lv_icmp_eq (tgt := 867) hx hb dL_law_862 (by decide) (fun c1 => ?_) (fun c1 => absurd ht c1)
    refine lv_iload hx hb dL_law_867 (lv_at hl 1 rfl) ?_
    refine lv_if_ne (tgt := 884) hx hb dL_law_869 (by decide) (fun c1 => ?_) (fun c1 => absurd c1 (by decide))
    refine lv_goto (tgt := 1387) hx hb dL_law_884 (by decide) ?_
    refine W.widen (k := cells + 1) (n := slots + 6) (by show _ ≤ cells + 1; omega) (by show _ ≤ slots + 6; omega) ?_
    exact hk _ _ _ _ _ _ hRel hA (lv_sub hl [2, 3, 4, 5, 6] rfl)
set_option maxHeartbeats 4000000 in
set_option maxRecDepth 100000 in
theorem law_c12 (SIM : Sim_died fu Rel) (C : Cx p l s m args meth c code 8 wsL_law ret RL g A) (hX : va_X b L xs s s.heap) (hbl : b < s.heap.size) (hbA : ¬ A b) (hRel0 : Rel σ τ) (hrc : cells + 1 ≤ 601024) (hrs : slots + 6 ≤ 7293034) (h1 : vp_in (x4 + 1) L) (h2 : vp_in (x4 + 2) L) (h3 : vp_in (x4 + 3) L) (h4 : vp_in (x4 + 4) L) (h5 : vp_in (x4 + 5) L) (hA : Aw g A s.heap ((wX g σ ++ oc g o f) ++ wM (gq g u) τ) H locs) (hl : lv_has ls 8 [(0, .ref b), (1, .ref (g.2.1 0)), (2, .ref (u 0)), (3, .ref o), (4, .int x4)]) (hk : Kont p l e s m args below meth c Q g A Rel b o u x4 (cells + 1) (slots + 6)) : W p l e room_1 s m args below meth c H locs cells slots Q (F0 m 887 ls []) := by
  have hx := C.1.1
  have hb := C.1.2.1
  rcases SIM σ τ hRel0 (xs (x4 + 1).toNatClampNeg) (xs (x4 + 2).toNatClampNeg) with ⟨v, σ', τ', hf1, hf2, ht, hRel⟩ | ⟨v, σ', τ', hf1, hf2, ht, hRel⟩ | ⟨v, σ', τ', hf1, hf2, ht, hRel⟩ | ⟨v, σ', τ', hf1, hf2, ht, hRel⟩
  · refine lv_aload_n hx hb dL_law_887 rfl (lv_at hl 1 rfl) ?_
    refine lv_aload_n hx hb dL_law_888 rfl (lv_at hl 0 rfl) ?_
    refine lv_iload hx hb dL_law_889 (lv_at hl 4 rfl) ?_
    refine lv_iconst (v := 1) hx hb dL_law_891 (by decide) ?_
    refine lv_iadd hx hb dL_law_892 ?_
    refine va_sld hx hb hX hbl hbA hA.2.2 h1 dL_law_893 ?_
    refine lv_aload_n hx hb dL_law_894 rfl (lv_at hl 0 rfl) ?_
    refine lv_iload hx hb dL_law_895 (lv_at hl 4 rfl) ?_
    refine lv_iconst (v := 2) hx hb dL_law_897 (by decide) ?_
    refine lv_iadd hx hb dL_law_898 ?_
    refine va_sld hx hb hX hbl hbA hA.2.2 h2 dL_law_899 ?_
    refine lv_aload_n hx hb dL_law_900 rfl (lv_at hl 3 rfl) ?_
    refine r_fSW (r := 0) (w := (wX g σ ++ oc g o f)) (w1 := (wX g σ' ++ oc g o (vp_updL f (0 : Int32).toNatClampNeg v.toInt64))) (wr := wM (gq g u) τ) (As := [.ref (g.2.1 0), .int (xs (x4 + 1).toNatClampNeg), .int (xs (x4 + 2).toNatClampNeg), .ref o]) (rest := []) C hA hl.1 (k_L_died C.2.2.2.2.2.2 hf1) (vx_cwSW 4 C.1.2.2.2.2 gL_law_L_died rfl rfl rfl nd_L_died ⟨Nat.le_of_ble_eq_true rfl, Nat.le_of_ble_eq_true rfl⟩) rfl rfl (Nat.le_of_ble_eq_true rfl) dL_law_901 ⟨by show cells + 1 ≤ 601024; omega, by show slots + 6 ≤ 7293034; omega⟩ (fun H locs hA => ?_)
    refine lv_istore (lv' := [(5, .int 0), (0, .ref b), (1, .ref (g.2.1 0)), (2, .ref (u 0)), (3, .ref o), (4, .int x4)]) hx hb dL_law_904 hl (by decide) rfl (fun ls hl => ?_)
    refine lv_aload_n hx hb dL_law_906 rfl (lv_at hl 3 rfl) ?_
    refine lv_aload_n hx hb dL_law_907 rfl (lv_at hl 1 rfl) ?_
    refine lv_iload hx hb dL_law_908 (lv_at hl 5 rfl) ?_
    refine lv_iconst (v := 1) hx hb dL_law_910 (by decide) ?_
    refine lv_iadd hx hb dL_law_911 ?_
    refine va_sld hx hb hX hbl hbA hA.2.2 h1 dL_law_912 ?_
    refine lv_aload_n hx hb dL_law_913 rfl (lv_at hl 1 rfl) ?_
    refine lv_iload hx hb dL_law_914 (lv_at hl 5 rfl) ?_
    refine lv_iconst (v := 2) hx hb dL_law_916 (by decide) ?_
    refine lv_iadd hx hb dL_law_917 ?_
    refine va_sld hx hb hX hbl hbA hA.2.2 h2 dL_law_918 ?_
    replace hA := Aw_swap hA
    refine r_fVi (r := v) (w := wM (gq g u) τ) (w1 := wM (gq g u) τ') (wr := wX g σ' ++ oc g o (vp_updL f (0 : Int32).toNatClampNeg v.toInt64)) (As := [.int (xs (x4 + 1).toNatClampNeg), .int (xs (x4 + 2).toNatClampNeg)]) (rest := []) C hA hl.1 (k_X8_died (g := gq g u) C.2.2.2.2.2.2 hf2) (cwV 2 C.1.2.2.2.2 gL_law_X8_died rfl rfl rfl nd_X8_died ⟨Nat.le_of_ble_eq_true rfl, Nat.le_of_ble_eq_true rfl⟩) 0 rfl rfl rfl rfl (Nat.le_of_ble_eq_true rfl) dL_law_919 ⟨by show _ ≤ 601024; omega, by show _ ≤ 7293034; omega⟩ (fun H locs hA => ?_)
    replace hA := Aw_swap hA
    refine lv_istore (lv' := [(6, .int v), (5, .int 0), (0, .ref b), (1, .ref (g.2.1 0)), (2, .ref (u 0)), (3, .ref o), (4, .int x4)]) hx hb dL_law_922 hl (by decide) rfl (fun ls hl => ?_)
    refine lv_aload_n hx hb dL_law_924 rfl (lv_at hl 4 rfl) ?_
    replace hA := Aw_swap hA
    refine r_fVi (r := (τ'.1 0)) (w := wM (gq g u) τ') (w1 := wM (gq g u) τ') (wr := wX g σ' ++ oc g o (vp_updL f (0 : Int32).toNatClampNeg v.toInt64)) (As := []) (rest := []) C hA hl.1 (k_X8_thrown (g := gq g u) (fu := fu) C.2.2.2.2.2.2 rfl) (cwV 0 C.1.2.2.2.2 gL_law_X8_thrown rfl rfl rfl nd_X8_thrown ⟨Nat.le_of_ble_eq_true rfl, Nat.le_of_ble_eq_true rfl⟩) 0 rfl rfl rfl rfl (Nat.le_of_ble_eq_true rfl) dL_law_925 ⟨by show _ ≤ 601024; omega, by show _ ≤ 7293034; omega⟩ (fun H locs hA => ?_)
    replace hA := Aw_swap hA
    refine lv_iload hx hb dL_law_928 (lv_at hl 1 rfl) ?_
    refine lv_icmp_eq (tgt := 935) hx hb dL_law_930 (by decide) (fun c1 => ?_) (fun c1 => absurd ht c1)
    refine lv_iload hx hb dL_law_935 (lv_at hl 1 rfl) ?_
    refine lv_if_ne (tgt := 952) hx hb dL_law_937 (by decide) (fun c1 => absurd rfl c1) (fun c1 => ?_)
    refine lv_aload_n hx hb dL_law_940 rfl (lv_at hl 5 rfl) ?_
    refine lv_iconst (v := 0) hx hb dL_law_941 (by decide) ?_
    refine r_lald C hA 44 1 rfl rfl (by decide) dL_law_942 ?_
    rw [pk_uLs]
    refine lv_iload hx hb dL_law_943 (lv_at hl 0 rfl) ?_
    refine lv_i2l (v := v.toInt64) hx hb dL_law_945 rfl ?_
    refine W.lcmp hx hb dL_law_946 ?_
    refine lv_if_eq (tgt := 952) hx hb dL_law_947 (by decide) (fun c1 => ?_) (fun c1 => absurd (lgc _) c1)
    refine lv_goto (tgt := 1387) hx hb dL_law_952 (by decide) ?_
    refine W.widen (k := cells + 1) (n := slots + 6) (by show _ ≤ cells + 1; omega) (by show _ ≤ slots + 6; omega) ?_
    exact hk _ _ _ _ _ _ hRel hA (lv_sub hl [2, 3, 4, 5, 6] rfl)
  · refine lv_aload_n hx hb dL_law_887 rfl (lv_at hl 1 rfl) ?_
    refine lv_aload_n hx hb dL_law_888 rfl (lv_at hl 0 rfl) ?_
    refine lv_iload hx hb dL_law_889 (lv_at hl 4 rfl) ?_
    refine lv_iconst (v := 1) hx hb dL_law_891 (by decide) ?_
    refine lv_iadd hx hb dL_law_892 ?_
    refine va_sld hx hb hX hbl hbA hA.2.2 h1 dL_law_893 ?_
    refine lv_aload_n hx hb dL_law_894 rfl (lv_at hl 0 rfl) ?_
    refine lv_iload hx hb dL_law_895 (lv_at hl 4 rfl) ?_
    refine lv_iconst (v := 2) hx hb dL_law_897 (by decide) ?_
    refine lv_iadd hx hb dL_law_898 ?_
    refine va_sld hx hb hX hbl hbA hA.2.2 h2 dL_law_899 ?_
    refine lv_aload_n hx hb dL_law_900 rfl (lv_at hl 3 rfl) ?_
    refine r_fSW (r := 1) (w := (wX g σ ++ oc g o f)) (w1 := (wX g σ' ++ oc g o f)) (wr := wM (gq g u) τ) (As := [.ref (g.2.1 0), .int (xs (x4 + 1).toNatClampNeg), .int (xs (x4 + 2).toNatClampNeg), .ref o]) (rest := []) C hA hl.1 (k_L_died_t2 C.2.2.2.2.2.2 hf1) (vx_cwSW 4 C.1.2.2.2.2 gL_law_L_died rfl rfl rfl nd_L_died ⟨Nat.le_of_ble_eq_true rfl, Nat.le_of_ble_eq_true rfl⟩) rfl rfl (Nat.le_of_ble_eq_true rfl) dL_law_901 ⟨by show cells + 1 ≤ 601024; omega, by show slots + 6 ≤ 7293034; omega⟩ (fun H locs hA => ?_)
    refine lv_istore (lv' := [(5, .int 1), (0, .ref b), (1, .ref (g.2.1 0)), (2, .ref (u 0)), (3, .ref o), (4, .int x4)]) hx hb dL_law_904 hl (by decide) rfl (fun ls hl => ?_)
    refine lv_aload_n hx hb dL_law_906 rfl (lv_at hl 3 rfl) ?_
    refine lv_aload_n hx hb dL_law_907 rfl (lv_at hl 1 rfl) ?_
    refine lv_iload hx hb dL_law_908 (lv_at hl 5 rfl) ?_
    refine lv_iconst (v := 1) hx hb dL_law_910 (by decide) ?_
    refine lv_iadd hx hb dL_law_911 ?_
    refine va_sld hx hb hX hbl hbA hA.2.2 h1 dL_law_912 ?_
    refine lv_aload_n hx hb dL_law_913 rfl (lv_at hl 1 rfl) ?_
    refine lv_iload hx hb dL_law_914 (lv_at hl 5 rfl) ?_
    refine lv_iconst (v := 2) hx hb dL_law_916 (by decide) ?_
    refine lv_iadd hx hb dL_law_917 ?_
    refine va_sld hx hb hX hbl hbA hA.2.2 h2 dL_law_918 ?_
    replace hA := Aw_swap hA
    refine r_fVi (r := v) (w := wM (gq g u) τ) (w1 := wM (gq g u) τ') (wr := wX g σ' ++ oc g o f) (As := [.int (xs (x4 + 1).toNatClampNeg), .int (xs (x4 + 2).toNatClampNeg)]) (rest := []) C hA hl.1 (k_X8_died (g := gq g u) C.2.2.2.2.2.2 hf2) (cwV 2 C.1.2.2.2.2 gL_law_X8_died rfl rfl rfl nd_X8_died ⟨Nat.le_of_ble_eq_true rfl, Nat.le_of_ble_eq_true rfl⟩) 0 rfl rfl rfl rfl (Nat.le_of_ble_eq_true rfl) dL_law_919 ⟨by show _ ≤ 601024; omega, by show _ ≤ 7293034; omega⟩ (fun H locs hA => ?_)
    replace hA := Aw_swap hA
    refine lv_istore (lv' := [(6, .int v), (5, .int 1), (0, .ref b), (1, .ref (g.2.1 0)), (2, .ref (u 0)), (3, .ref o), (4, .int x4)]) hx hb dL_law_922 hl (by decide) rfl (fun ls hl => ?_)
    refine lv_aload_n hx hb dL_law_924 rfl (lv_at hl 4 rfl) ?_
    replace hA := Aw_swap hA
    refine r_fVi (r := (τ'.1 0)) (w := wM (gq g u) τ') (w1 := wM (gq g u) τ') (wr := wX g σ' ++ oc g o f) (As := []) (rest := []) C hA hl.1 (k_X8_thrown (g := gq g u) (fu := fu) C.2.2.2.2.2.2 rfl) (cwV 0 C.1.2.2.2.2 gL_law_X8_thrown rfl rfl rfl nd_X8_thrown ⟨Nat.le_of_ble_eq_true rfl, Nat.le_of_ble_eq_true rfl⟩) 0 rfl rfl rfl rfl (Nat.le_of_ble_eq_true rfl) dL_law_925 ⟨by show _ ≤ 601024; omega, by show _ ≤ 7293034; omega⟩ (fun H locs hA => ?_)
    replace hA := Aw_swap hA
    refine lv_iload hx hb dL_law_928 (lv_at hl 1 rfl) ?_
    refine lv_icmp_eq (tgt := 935) hx hb dL_law_930 (by decide) (fun c1 => ?_) (fun c1 => absurd ht c1)
    refine lv_iload hx hb dL_law_935 (lv_at hl 1 rfl) ?_
    refine lv_if_ne (tgt := 952) hx hb dL_law_937 (by decide) (fun c1 => ?_) (fun c1 => absurd c1 (by decide))
    refine lv_goto (tgt := 1387) hx hb dL_law_952 (by decide) ?_
    refine W.widen (k := cells + 1) (n := slots + 6) (by show _ ≤ cells + 1; omega) (by show _ ≤ slots + 6; omega) ?_
    exact hk _ _ _ _ _ _ hRel hA (lv_sub hl [2, 3, 4, 5, 6] rfl)
  · refine lv_aload_n hx hb dL_law_887 rfl (lv_at hl 1 rfl) ?_
    refine lv_aload_n hx hb dL_law_888 rfl (lv_at hl 0 rfl) ?_
    refine lv_iload hx hb dL_law_889 (lv_at hl 4 rfl) ?_
    refine lv_iconst (v := 1) hx hb dL_law_891 (by decide) ?_
    refine lv_iadd hx hb dL_law_892 ?_
    refine va_sld hx hb hX hbl hbA hA.2.2 h1 dL_law_893 ?_
    refine lv_aload_n hx hb dL_law_894 rfl (lv_at hl 0 rfl) ?_
    refine lv_iload hx hb dL_law_895 (lv_at hl 4 rfl) ?_
    refine lv_iconst (v := 2) hx hb dL_law_897 (by decide) ?_
    refine lv_iadd hx hb dL_law_898 ?_
    refine va_sld hx hb hX hbl hbA hA.2.2 h2 dL_law_899 ?_
    refine lv_aload_n hx hb dL_law_900 rfl (lv_at hl 3 rfl) ?_
    refine r_fSW (r := 2) (w := (wX g σ ++ oc g o f)) (w1 := (wX g σ' ++ oc g o f)) (wr := wM (gq g u) τ) (As := [.ref (g.2.1 0), .int (xs (x4 + 1).toNatClampNeg), .int (xs (x4 + 2).toNatClampNeg), .ref o]) (rest := []) C hA hl.1 (k_L_died_t0 C.2.2.2.2.2.2 hf1) (vx_cwSW 4 C.1.2.2.2.2 gL_law_L_died rfl rfl rfl nd_L_died ⟨Nat.le_of_ble_eq_true rfl, Nat.le_of_ble_eq_true rfl⟩) rfl rfl (Nat.le_of_ble_eq_true rfl) dL_law_901 ⟨by show cells + 1 ≤ 601024; omega, by show slots + 6 ≤ 7293034; omega⟩ (fun H locs hA => ?_)
    refine lv_istore (lv' := [(5, .int 2), (0, .ref b), (1, .ref (g.2.1 0)), (2, .ref (u 0)), (3, .ref o), (4, .int x4)]) hx hb dL_law_904 hl (by decide) rfl (fun ls hl => ?_)
    refine lv_aload_n hx hb dL_law_906 rfl (lv_at hl 3 rfl) ?_
    refine lv_aload_n hx hb dL_law_907 rfl (lv_at hl 1 rfl) ?_
    refine lv_iload hx hb dL_law_908 (lv_at hl 5 rfl) ?_
    refine lv_iconst (v := 1) hx hb dL_law_910 (by decide) ?_
    refine lv_iadd hx hb dL_law_911 ?_
    refine va_sld hx hb hX hbl hbA hA.2.2 h1 dL_law_912 ?_
    refine lv_aload_n hx hb dL_law_913 rfl (lv_at hl 1 rfl) ?_
    refine lv_iload hx hb dL_law_914 (lv_at hl 5 rfl) ?_
    refine lv_iconst (v := 2) hx hb dL_law_916 (by decide) ?_
    refine lv_iadd hx hb dL_law_917 ?_
    refine va_sld hx hb hX hbl hbA hA.2.2 h2 dL_law_918 ?_
    replace hA := Aw_swap hA
    refine r_fVi (r := v) (w := wM (gq g u) τ) (w1 := wM (gq g u) τ') (wr := wX g σ' ++ oc g o f) (As := [.int (xs (x4 + 1).toNatClampNeg), .int (xs (x4 + 2).toNatClampNeg)]) (rest := []) C hA hl.1 (k_X8_died (g := gq g u) C.2.2.2.2.2.2 hf2) (cwV 2 C.1.2.2.2.2 gL_law_X8_died rfl rfl rfl nd_X8_died ⟨Nat.le_of_ble_eq_true rfl, Nat.le_of_ble_eq_true rfl⟩) 0 rfl rfl rfl rfl (Nat.le_of_ble_eq_true rfl) dL_law_919 ⟨by show _ ≤ 601024; omega, by show _ ≤ 7293034; omega⟩ (fun H locs hA => ?_)
    replace hA := Aw_swap hA
    refine lv_istore (lv' := [(6, .int v), (5, .int 2), (0, .ref b), (1, .ref (g.2.1 0)), (2, .ref (u 0)), (3, .ref o), (4, .int x4)]) hx hb dL_law_922 hl (by decide) rfl (fun ls hl => ?_)
    refine lv_aload_n hx hb dL_law_924 rfl (lv_at hl 4 rfl) ?_
    replace hA := Aw_swap hA
    refine r_fVi (r := (τ'.1 0)) (w := wM (gq g u) τ') (w1 := wM (gq g u) τ') (wr := wX g σ' ++ oc g o f) (As := []) (rest := []) C hA hl.1 (k_X8_thrown (g := gq g u) (fu := fu) C.2.2.2.2.2.2 rfl) (cwV 0 C.1.2.2.2.2 gL_law_X8_thrown rfl rfl rfl nd_X8_thrown ⟨Nat.le_of_ble_eq_true rfl, Nat.le_of_ble_eq_true rfl⟩) 0 rfl rfl rfl rfl (Nat.le_of_ble_eq_true rfl) dL_law_925 ⟨by show _ ≤ 601024; omega, by show _ ≤ 7293034; omega⟩ (fun H locs hA => ?_)
    replace hA := Aw_swap hA
    refine lv_iload hx hb dL_law_928 (lv_at hl 1 rfl) ?_
    refine lv_icmp_eq (tgt := 935) hx hb dL_law_930 (by decide) (fun c1 => ?_) (fun c1 => absurd ht c1)
    refine lv_iload hx hb dL_law_935 (lv_at hl 1 rfl) ?_
    refine lv_if_ne (tgt := 952) hx hb dL_law_937 (by decide) (fun c1 => ?_) (fun c1 => absurd c1 (by decide))
    refine lv_goto (tgt := 1387) hx hb dL_law_952 (by decide) ?_
    refine W.widen (k := cells + 1) (n := slots + 6) (by show _ ≤ cells + 1; omega) (by show _ ≤ slots + 6; omega) ?_
    exact hk _ _ _ _ _ _ hRel hA (lv_sub hl [2, 3, 4, 5, 6] rfl)
  · refine lv_aload_n hx hb dL_law_887 rfl (lv_at hl 1 rfl) ?_
    refine lv_aload_n hx hb dL_law_888 rfl (lv_at hl 0 rfl) ?_
    refine lv_iload hx hb dL_law_889 (lv_at hl 4 rfl) ?_
    refine lv_iconst (v := 1) hx hb dL_law_891 (by decide) ?_
    refine lv_iadd hx hb dL_law_892 ?_
    refine va_sld hx hb hX hbl hbA hA.2.2 h1 dL_law_893 ?_
    refine lv_aload_n hx hb dL_law_894 rfl (lv_at hl 0 rfl) ?_
    refine lv_iload hx hb dL_law_895 (lv_at hl 4 rfl) ?_
    refine lv_iconst (v := 2) hx hb dL_law_897 (by decide) ?_
    refine lv_iadd hx hb dL_law_898 ?_
    refine va_sld hx hb hX hbl hbA hA.2.2 h2 dL_law_899 ?_
    refine lv_aload_n hx hb dL_law_900 rfl (lv_at hl 3 rfl) ?_
    refine r_fSW (r := 3) (w := (wX g σ ++ oc g o f)) (w1 := (wX g σ' ++ oc g o f)) (wr := wM (gq g u) τ) (As := [.ref (g.2.1 0), .int (xs (x4 + 1).toNatClampNeg), .int (xs (x4 + 2).toNatClampNeg), .ref o]) (rest := []) C hA hl.1 (k_L_died_t1 C.2.2.2.2.2.2 hf1) (vx_cwSW 4 C.1.2.2.2.2 gL_law_L_died rfl rfl rfl nd_L_died ⟨Nat.le_of_ble_eq_true rfl, Nat.le_of_ble_eq_true rfl⟩) rfl rfl (Nat.le_of_ble_eq_true rfl) dL_law_901 ⟨by show cells + 1 ≤ 601024; omega, by show slots + 6 ≤ 7293034; omega⟩ (fun H locs hA => ?_)
    refine lv_istore (lv' := [(5, .int 3), (0, .ref b), (1, .ref (g.2.1 0)), (2, .ref (u 0)), (3, .ref o), (4, .int x4)]) hx hb dL_law_904 hl (by decide) rfl (fun ls hl => ?_)
    refine lv_aload_n hx hb dL_law_906 rfl (lv_at hl 3 rfl) ?_
    refine lv_aload_n hx hb dL_law_907 rfl (lv_at hl 1 rfl) ?_
    refine lv_iload hx hb dL_law_908 (lv_at hl 5 rfl) ?_
    refine lv_iconst (v := 1) hx hb dL_law_910 (by decide) ?_
    refine lv_iadd hx hb dL_law_911 ?_
    refine va_sld hx hb hX hbl hbA hA.2.2 h1 dL_law_912 ?_
    refine lv_aload_n hx hb dL_law_913 rfl (lv_at hl 1 rfl) ?_
    refine lv_iload hx hb dL_law_914 (lv_at hl 5 rfl) ?_
    refine lv_iconst (v := 2) hx hb dL_law_916 (by decide) ?_
    refine lv_iadd hx hb dL_law_917 ?_
    refine va_sld hx hb hX hbl hbA hA.2.2 h2 dL_law_918 ?_
    replace hA := Aw_swap hA
    refine r_fVi (r := v) (w := wM (gq g u) τ) (w1 := wM (gq g u) τ') (wr := wX g σ' ++ oc g o f) (As := [.int (xs (x4 + 1).toNatClampNeg), .int (xs (x4 + 2).toNatClampNeg)]) (rest := []) C hA hl.1 (k_X8_died (g := gq g u) C.2.2.2.2.2.2 hf2) (cwV 2 C.1.2.2.2.2 gL_law_X8_died rfl rfl rfl nd_X8_died ⟨Nat.le_of_ble_eq_true rfl, Nat.le_of_ble_eq_true rfl⟩) 0 rfl rfl rfl rfl (Nat.le_of_ble_eq_true rfl) dL_law_919 ⟨by show _ ≤ 601024; omega, by show _ ≤ 7293034; omega⟩ (fun H locs hA => ?_)
    replace hA := Aw_swap hA
    refine lv_istore (lv' := [(6, .int v), (5, .int 3), (0, .ref b), (1, .ref (g.2.1 0)), (2, .ref (u 0)), (3, .ref o), (4, .int x4)]) hx hb dL_law_922 hl (by decide) rfl (fun ls hl => ?_)
    refine lv_aload_n hx hb dL_law_924 rfl (lv_at hl 4 rfl) ?_
    replace hA := Aw_swap hA
    refine r_fVi (r := (τ'.1 0)) (w := wM (gq g u) τ') (w1 := wM (gq g u) τ') (wr := wX g σ' ++ oc g o f) (As := []) (rest := []) C hA hl.1 (k_X8_thrown (g := gq g u) (fu := fu) C.2.2.2.2.2.2 rfl) (cwV 0 C.1.2.2.2.2 gL_law_X8_thrown rfl rfl rfl nd_X8_thrown ⟨Nat.le_of_ble_eq_true rfl, Nat.le_of_ble_eq_true rfl⟩) 0 rfl rfl rfl rfl (Nat.le_of_ble_eq_true rfl) dL_law_925 ⟨by show _ ≤ 601024; omega, by show _ ≤ 7293034; omega⟩ (fun H locs hA => ?_)
    replace hA := Aw_swap hA
    refine lv_iload hx hb dL_law_928 (lv_at hl 1 rfl) ?_
    refine lv_icmp_eq (tgt := 935) hx hb dL_law_930 (by decide) (fun c1 => ?_) (fun c1 => absurd ht c1)
    refine lv_iload hx hb dL_law_935 (lv_at hl 1 rfl) ?_
    refine lv_if_ne (tgt := 952) hx hb dL_law_937 (by decide) (fun c1 => ?_) (fun c1 => absurd c1 (by decide))
    refine lv_goto (tgt := 1387) hx hb dL_law_952 (by decide) ?_
    refine W.widen (k := cells + 1) (n := slots + 6) (by show _ ≤ cells + 1; omega) (by show _ ≤ slots + 6; omega) ?_
    exact hk _ _ _ _ _ _ hRel hA (lv_sub hl [2, 3, 4, 5, 6] rfl)
set_option maxHeartbeats 4000000 in
set_option maxRecDepth 100000 in
theorem law_c13 (SIM : Sim_wait fu Rel) (C : Cx p l s m args meth c code 8 wsL_law ret RL g A) (hX : va_X b L xs s s.heap) (hbl : b < s.heap.size) (hbA : ¬ A b) (hRel0 : Rel σ τ) (hrc : cells + 1 ≤ 601024) (hrs : slots + 6 ≤ 7293034) (h1 : vp_in (x4 + 1) L) (h2 : vp_in (x4 + 2) L) (h3 : vp_in (x4 + 3) L) (h4 : vp_in (x4 + 4) L) (h5 : vp_in (x4 + 5) L) (hA : Aw g A s.heap ((wX g σ ++ oc g o f) ++ wM (gq g u) τ) H locs) (hl : lv_has ls 8 [(0, .ref b), (1, .ref (g.2.1 0)), (2, .ref (u 0)), (3, .ref o), (4, .int x4)]) (hk : Kont p l e s m args below meth c Q g A Rel b o u x4 (cells + 1) (slots + 6)) : W p l e room_1 s m args below meth c H locs cells slots Q (F0 m 955 ls []) := by
  have hx := C.1.1
  have hb := C.1.2.1
  rcases SIM σ τ hRel0 (xs (x4 + 1).toNatClampNeg) with ⟨v, σ', τ', hf1, hf2, ht, hRel⟩ | ⟨v, σ', τ', hf1, hf2, ht, hRel⟩
  · refine lv_aload_n hx hb dL_law_955 rfl (lv_at hl 1 rfl) ?_
    refine lv_aload_n hx hb dL_law_956 rfl (lv_at hl 0 rfl) ?_
    refine lv_iload hx hb dL_law_957 (lv_at hl 4 rfl) ?_
    refine lv_iconst (v := 1) hx hb dL_law_959 (by decide) ?_
    refine lv_iadd hx hb dL_law_960 ?_
    refine va_sld hx hb hX hbl hbA hA.2.2 h1 dL_law_961 ?_
    refine lv_aload_n hx hb dL_law_962 rfl (lv_at hl 3 rfl) ?_
    refine r_fSW (r := 0) (w := (wX g σ ++ oc g o f)) (w1 := (wX g σ' ++ oc g o (vp_updL f (0 : Int32).toNatClampNeg v.toInt64))) (wr := wM (gq g u) τ) (As := [.ref (g.2.1 0), .int (xs (x4 + 1).toNatClampNeg), .ref o]) (rest := []) C hA hl.1 (k_L_wait C.2.2.2.2.2.2 hf1) (vx_cwSW 3 C.1.2.2.2.2 gL_law_L_wait rfl rfl rfl nd_L_wait ⟨Nat.le_of_ble_eq_true rfl, Nat.le_of_ble_eq_true rfl⟩) rfl rfl (Nat.le_of_ble_eq_true rfl) dL_law_963 ⟨by show cells + 1 ≤ 601024; omega, by show slots + 6 ≤ 7293034; omega⟩ (fun H locs hA => ?_)
    refine lv_istore (lv' := [(5, .int 0), (0, .ref b), (1, .ref (g.2.1 0)), (2, .ref (u 0)), (3, .ref o), (4, .int x4)]) hx hb dL_law_966 hl (by decide) rfl (fun ls hl => ?_)
    refine lv_aload_n hx hb dL_law_968 rfl (lv_at hl 3 rfl) ?_
    refine lv_aload_n hx hb dL_law_969 rfl (lv_at hl 1 rfl) ?_
    refine lv_iload hx hb dL_law_970 (lv_at hl 5 rfl) ?_
    refine lv_iconst (v := 1) hx hb dL_law_972 (by decide) ?_
    refine lv_iadd hx hb dL_law_973 ?_
    refine va_sld hx hb hX hbl hbA hA.2.2 h1 dL_law_974 ?_
    replace hA := Aw_swap hA
    refine r_fVi (r := v) (w := wM (gq g u) τ) (w1 := wM (gq g u) τ') (wr := wX g σ' ++ oc g o (vp_updL f (0 : Int32).toNatClampNeg v.toInt64)) (As := [.int (xs (x4 + 1).toNatClampNeg)]) (rest := []) C hA hl.1 (k_X8_wait (g := gq g u) C.2.2.2.2.2.2 hf2) (cwV 1 C.1.2.2.2.2 gL_law_X8_wait rfl rfl rfl nd_X8_wait ⟨Nat.le_of_ble_eq_true rfl, Nat.le_of_ble_eq_true rfl⟩) 0 rfl rfl rfl rfl (Nat.le_of_ble_eq_true rfl) dL_law_975 ⟨by show _ ≤ 601024; omega, by show _ ≤ 7293034; omega⟩ (fun H locs hA => ?_)
    replace hA := Aw_swap hA
    refine lv_istore (lv' := [(6, .int v), (5, .int 0), (0, .ref b), (1, .ref (g.2.1 0)), (2, .ref (u 0)), (3, .ref o), (4, .int x4)]) hx hb dL_law_978 hl (by decide) rfl (fun ls hl => ?_)
    refine lv_aload_n hx hb dL_law_980 rfl (lv_at hl 4 rfl) ?_
    replace hA := Aw_swap hA
    refine r_fVi (r := (τ'.1 0)) (w := wM (gq g u) τ') (w1 := wM (gq g u) τ') (wr := wX g σ' ++ oc g o (vp_updL f (0 : Int32).toNatClampNeg v.toInt64)) (As := []) (rest := []) C hA hl.1 (k_X8_thrown (g := gq g u) (fu := fu) C.2.2.2.2.2.2 rfl) (cwV 0 C.1.2.2.2.2 gL_law_X8_thrown rfl rfl rfl nd_X8_thrown ⟨Nat.le_of_ble_eq_true rfl, Nat.le_of_ble_eq_true rfl⟩) 0 rfl rfl rfl rfl (Nat.le_of_ble_eq_true rfl) dL_law_981 ⟨by show _ ≤ 601024; omega, by show _ ≤ 7293034; omega⟩ (fun H locs hA => ?_)
    replace hA := Aw_swap hA
    refine lv_iload hx hb dL_law_984 (lv_at hl 1 rfl) ?_
    refine lv_icmp_eq (tgt := 991) hx hb dL_law_986 (by decide) (fun c1 => ?_) (fun c1 => absurd ht c1)
    refine lv_iload hx hb dL_law_991 (lv_at hl 1 rfl) ?_
    refine lv_if_ne (tgt := 1008) hx hb dL_law_993 (by decide) (fun c1 => absurd rfl c1) (fun c1 => ?_)
    refine lv_aload_n hx hb dL_law_996 rfl (lv_at hl 5 rfl) ?_
    refine lv_iconst (v := 0) hx hb dL_law_997 (by decide) ?_
    refine r_lald C hA 44 1 rfl rfl (by decide) dL_law_998 ?_
    rw [pk_uLs]
    refine lv_iload hx hb dL_law_999 (lv_at hl 0 rfl) ?_
    refine lv_i2l (v := v.toInt64) hx hb dL_law_1001 rfl ?_
    refine W.lcmp hx hb dL_law_1002 ?_
    refine lv_if_eq (tgt := 1008) hx hb dL_law_1003 (by decide) (fun c1 => ?_) (fun c1 => absurd (lgc _) c1)
    refine lv_goto (tgt := 1387) hx hb dL_law_1008 (by decide) ?_
    refine W.widen (k := cells + 1) (n := slots + 6) (by show _ ≤ cells + 1; omega) (by show _ ≤ slots + 6; omega) ?_
    exact hk _ _ _ _ _ _ hRel hA (lv_sub hl [2, 3, 4, 5, 6] rfl)
  · refine lv_aload_n hx hb dL_law_955 rfl (lv_at hl 1 rfl) ?_
    refine lv_aload_n hx hb dL_law_956 rfl (lv_at hl 0 rfl) ?_
    refine lv_iload hx hb dL_law_957 (lv_at hl 4 rfl) ?_
    refine lv_iconst (v := 1) hx hb dL_law_959 (by decide) ?_
    refine lv_iadd hx hb dL_law_960 ?_
    refine va_sld hx hb hX hbl hbA hA.2.2 h1 dL_law_961 ?_
    refine lv_aload_n hx hb dL_law_962 rfl (lv_at hl 3 rfl) ?_
    refine r_fSW (r := 1) (w := (wX g σ ++ oc g o f)) (w1 := (wX g σ' ++ oc g o f)) (wr := wM (gq g u) τ) (As := [.ref (g.2.1 0), .int (xs (x4 + 1).toNatClampNeg), .ref o]) (rest := []) C hA hl.1 (k_L_wait_t0 C.2.2.2.2.2.2 hf1) (vx_cwSW 3 C.1.2.2.2.2 gL_law_L_wait rfl rfl rfl nd_L_wait ⟨Nat.le_of_ble_eq_true rfl, Nat.le_of_ble_eq_true rfl⟩) rfl rfl (Nat.le_of_ble_eq_true rfl) dL_law_963 ⟨by show cells + 1 ≤ 601024; omega, by show slots + 6 ≤ 7293034; omega⟩ (fun H locs hA => ?_)
    refine lv_istore (lv' := [(5, .int 1), (0, .ref b), (1, .ref (g.2.1 0)), (2, .ref (u 0)), (3, .ref o), (4, .int x4)]) hx hb dL_law_966 hl (by decide) rfl (fun ls hl => ?_)
    refine lv_aload_n hx hb dL_law_968 rfl (lv_at hl 3 rfl) ?_
    refine lv_aload_n hx hb dL_law_969 rfl (lv_at hl 1 rfl) ?_
    refine lv_iload hx hb dL_law_970 (lv_at hl 5 rfl) ?_
    refine lv_iconst (v := 1) hx hb dL_law_972 (by decide) ?_
    refine lv_iadd hx hb dL_law_973 ?_
    refine va_sld hx hb hX hbl hbA hA.2.2 h1 dL_law_974 ?_
    replace hA := Aw_swap hA
    refine r_fVi (r := v) (w := wM (gq g u) τ) (w1 := wM (gq g u) τ') (wr := wX g σ' ++ oc g o f) (As := [.int (xs (x4 + 1).toNatClampNeg)]) (rest := []) C hA hl.1 (k_X8_wait (g := gq g u) C.2.2.2.2.2.2 hf2) (cwV 1 C.1.2.2.2.2 gL_law_X8_wait rfl rfl rfl nd_X8_wait ⟨Nat.le_of_ble_eq_true rfl, Nat.le_of_ble_eq_true rfl⟩) 0 rfl rfl rfl rfl (Nat.le_of_ble_eq_true rfl) dL_law_975 ⟨by show _ ≤ 601024; omega, by show _ ≤ 7293034; omega⟩ (fun H locs hA => ?_)
    replace hA := Aw_swap hA
    refine lv_istore (lv' := [(6, .int v), (5, .int 1), (0, .ref b), (1, .ref (g.2.1 0)), (2, .ref (u 0)), (3, .ref o), (4, .int x4)]) hx hb dL_law_978 hl (by decide) rfl (fun ls hl => ?_)
    refine lv_aload_n hx hb dL_law_980 rfl (lv_at hl 4 rfl) ?_
    replace hA := Aw_swap hA
    refine r_fVi (r := (τ'.1 0)) (w := wM (gq g u) τ') (w1 := wM (gq g u) τ') (wr := wX g σ' ++ oc g o f) (As := []) (rest := []) C hA hl.1 (k_X8_thrown (g := gq g u) (fu := fu) C.2.2.2.2.2.2 rfl) (cwV 0 C.1.2.2.2.2 gL_law_X8_thrown rfl rfl rfl nd_X8_thrown ⟨Nat.le_of_ble_eq_true rfl, Nat.le_of_ble_eq_true rfl⟩) 0 rfl rfl rfl rfl (Nat.le_of_ble_eq_true rfl) dL_law_981 ⟨by show _ ≤ 601024; omega, by show _ ≤ 7293034; omega⟩ (fun H locs hA => ?_)
    replace hA := Aw_swap hA
    refine lv_iload hx hb dL_law_984 (lv_at hl 1 rfl) ?_
    refine lv_icmp_eq (tgt := 991) hx hb dL_law_986 (by decide) (fun c1 => ?_) (fun c1 => absurd ht c1)
    refine lv_iload hx hb dL_law_991 (lv_at hl 1 rfl) ?_
    refine lv_if_ne (tgt := 1008) hx hb dL_law_993 (by decide) (fun c1 => ?_) (fun c1 => absurd c1 (by decide))
    refine lv_goto (tgt := 1387) hx hb dL_law_1008 (by decide) ?_
    refine W.widen (k := cells + 1) (n := slots + 6) (by show _ ≤ cells + 1; omega) (by show _ ≤ slots + 6; omega) ?_
    exact hk _ _ _ _ _ _ hRel hA (lv_sub hl [2, 3, 4, 5, 6] rfl)
set_option maxHeartbeats 4000000 in
set_option maxRecDepth 100000 in
theorem law_c14 (SIM : Sim_debt fu Rel) (C : Cx p l s m args meth c code 8 wsL_law ret RL g A) (hX : va_X b L xs s s.heap) (hbl : b < s.heap.size) (hbA : ¬ A b) (hRel0 : Rel σ τ) (hrc : cells + 1 ≤ 601024) (hrs : slots + 6 ≤ 7293034) (h1 : vp_in (x4 + 1) L) (h2 : vp_in (x4 + 2) L) (h3 : vp_in (x4 + 3) L) (h4 : vp_in (x4 + 4) L) (h5 : vp_in (x4 + 5) L) (hA : Aw g A s.heap ((wX g σ ++ oc g o f) ++ wM (gq g u) τ) H locs) (hl : lv_has ls 8 [(0, .ref b), (1, .ref (g.2.1 0)), (2, .ref (u 0)), (3, .ref o), (4, .int x4)]) (hk : Kont p l e s m args below meth c Q g A Rel b o u x4 (cells + 1) (slots + 6)) : W p l e room_1 s m args below meth c H locs cells slots Q (F0 m 1011 ls []) := by
  have hx := C.1.1
  have hb := C.1.2.1
  rcases SIM σ τ hRel0 (xs (x4 + 1).toNatClampNeg) (xs (x4 + 2).toNatClampNeg) with ⟨v, τ', hf1, hf2, ht, hRel⟩ | ⟨v, τ', hf1, hf2, ht, hRel⟩ | ⟨v, τ', hf1, hf2, ht, hRel⟩
  · refine lv_aload_n hx hb dL_law_1011 rfl (lv_at hl 1 rfl) ?_
    refine lv_aload_n hx hb dL_law_1012 rfl (lv_at hl 0 rfl) ?_
    refine lv_iload hx hb dL_law_1013 (lv_at hl 4 rfl) ?_
    refine lv_iconst (v := 1) hx hb dL_law_1015 (by decide) ?_
    refine lv_iadd hx hb dL_law_1016 ?_
    refine va_sld hx hb hX hbl hbA hA.2.2 h1 dL_law_1017 ?_
    refine lv_aload_n hx hb dL_law_1018 rfl (lv_at hl 0 rfl) ?_
    refine lv_iload hx hb dL_law_1019 (lv_at hl 4 rfl) ?_
    refine lv_iconst (v := 2) hx hb dL_law_1021 (by decide) ?_
    refine lv_iadd hx hb dL_law_1022 ?_
    refine va_sld hx hb hX hbl hbA hA.2.2 h2 dL_law_1023 ?_
    refine lv_aload_n hx hb dL_law_1024 rfl (lv_at hl 3 rfl) ?_
    refine r_fSW (r := 0) (w := (wX g σ ++ oc g o f)) (w1 := (wX g σ ++ oc g o (vp_updL f (0 : Int32).toNatClampNeg v.toInt64))) (wr := wM (gq g u) τ) (As := [.ref (g.2.1 0), .int (xs (x4 + 1).toNatClampNeg), .int (xs (x4 + 2).toNatClampNeg), .ref o]) (rest := []) C hA hl.1 (k_L_debt C.2.2.2.2.2.2 hf1) (vx_cwSW 4 C.1.2.2.2.2 gL_law_L_debt rfl rfl rfl nd_L_debt ⟨Nat.le_of_ble_eq_true rfl, Nat.le_of_ble_eq_true rfl⟩) rfl rfl (Nat.le_of_ble_eq_true rfl) dL_law_1025 ⟨by show cells + 1 ≤ 601024; omega, by show slots + 6 ≤ 7293034; omega⟩ (fun H locs hA => ?_)
    refine lv_istore (lv' := [(5, .int 0), (0, .ref b), (1, .ref (g.2.1 0)), (2, .ref (u 0)), (3, .ref o), (4, .int x4)]) hx hb dL_law_1028 hl (by decide) rfl (fun ls hl => ?_)
    refine lv_aload_n hx hb dL_law_1030 rfl (lv_at hl 3 rfl) ?_
    refine lv_aload_n hx hb dL_law_1031 rfl (lv_at hl 1 rfl) ?_
    refine lv_iload hx hb dL_law_1032 (lv_at hl 5 rfl) ?_
    refine lv_iconst (v := 1) hx hb dL_law_1034 (by decide) ?_
    refine lv_iadd hx hb dL_law_1035 ?_
    refine va_sld hx hb hX hbl hbA hA.2.2 h1 dL_law_1036 ?_
    refine lv_aload_n hx hb dL_law_1037 rfl (lv_at hl 1 rfl) ?_
    refine lv_iload hx hb dL_law_1038 (lv_at hl 5 rfl) ?_
    refine lv_iconst (v := 2) hx hb dL_law_1040 (by decide) ?_
    refine lv_iadd hx hb dL_law_1041 ?_
    refine va_sld hx hb hX hbl hbA hA.2.2 h2 dL_law_1042 ?_
    replace hA := Aw_swap hA
    refine r_fVi (r := v) (w := wM (gq g u) τ) (w1 := wM (gq g u) τ') (wr := wX g σ ++ oc g o (vp_updL f (0 : Int32).toNatClampNeg v.toInt64)) (As := [.int (xs (x4 + 1).toNatClampNeg), .int (xs (x4 + 2).toNatClampNeg)]) (rest := []) C hA hl.1 (k_X8_debt (g := gq g u) C.2.2.2.2.2.2 hf2) (cwV 2 C.1.2.2.2.2 gL_law_X8_debt rfl rfl rfl nd_X8_debt ⟨Nat.le_of_ble_eq_true rfl, Nat.le_of_ble_eq_true rfl⟩) 0 rfl rfl rfl rfl (Nat.le_of_ble_eq_true rfl) dL_law_1043 ⟨by show _ ≤ 601024; omega, by show _ ≤ 7293034; omega⟩ (fun H locs hA => ?_)
    replace hA := Aw_swap hA
    refine lv_istore (lv' := [(6, .int v), (5, .int 0), (0, .ref b), (1, .ref (g.2.1 0)), (2, .ref (u 0)), (3, .ref o), (4, .int x4)]) hx hb dL_law_1046 hl (by decide) rfl (fun ls hl => ?_)
    refine lv_aload_n hx hb dL_law_1048 rfl (lv_at hl 4 rfl) ?_
    replace hA := Aw_swap hA
    refine r_fVi (r := (τ'.1 0)) (w := wM (gq g u) τ') (w1 := wM (gq g u) τ') (wr := wX g σ ++ oc g o (vp_updL f (0 : Int32).toNatClampNeg v.toInt64)) (As := []) (rest := []) C hA hl.1 (k_X8_thrown (g := gq g u) (fu := fu) C.2.2.2.2.2.2 rfl) (cwV 0 C.1.2.2.2.2 gL_law_X8_thrown rfl rfl rfl nd_X8_thrown ⟨Nat.le_of_ble_eq_true rfl, Nat.le_of_ble_eq_true rfl⟩) 0 rfl rfl rfl rfl (Nat.le_of_ble_eq_true rfl) dL_law_1049 ⟨by show _ ≤ 601024; omega, by show _ ≤ 7293034; omega⟩ (fun H locs hA => ?_)
    replace hA := Aw_swap hA
    refine lv_iload hx hb dL_law_1052 (lv_at hl 1 rfl) ?_
    refine lv_icmp_eq (tgt := 1059) hx hb dL_law_1054 (by decide) (fun c1 => ?_) (fun c1 => absurd ht c1)
    refine lv_iload hx hb dL_law_1059 (lv_at hl 1 rfl) ?_
    refine lv_if_ne (tgt := 1076) hx hb dL_law_1061 (by decide) (fun c1 => absurd rfl c1) (fun c1 => ?_)
    refine lv_aload_n hx hb dL_law_1064 rfl (lv_at hl 5 rfl) ?_
    refine lv_iconst (v := 0) hx hb dL_law_1065 (by decide) ?_
    refine r_lald C hA 44 1 rfl rfl (by decide) dL_law_1066 ?_
    rw [pk_uLs]
    refine lv_iload hx hb dL_law_1067 (lv_at hl 0 rfl) ?_
    refine lv_i2l (v := v.toInt64) hx hb dL_law_1069 rfl ?_
    refine W.lcmp hx hb dL_law_1070 ?_
    refine lv_if_eq (tgt := 1076) hx hb dL_law_1071 (by decide) (fun c1 => ?_) (fun c1 => absurd (lgc _) c1)
    refine lv_goto (tgt := 1387) hx hb dL_law_1076 (by decide) ?_
    refine W.widen (k := cells + 1) (n := slots + 6) (by show _ ≤ cells + 1; omega) (by show _ ≤ slots + 6; omega) ?_
    exact hk _ _ _ _ _ _ hRel hA (lv_sub hl [2, 3, 4, 5, 6] rfl)
  · refine lv_aload_n hx hb dL_law_1011 rfl (lv_at hl 1 rfl) ?_
    refine lv_aload_n hx hb dL_law_1012 rfl (lv_at hl 0 rfl) ?_
    refine lv_iload hx hb dL_law_1013 (lv_at hl 4 rfl) ?_
    refine lv_iconst (v := 1) hx hb dL_law_1015 (by decide) ?_
    refine lv_iadd hx hb dL_law_1016 ?_
    refine va_sld hx hb hX hbl hbA hA.2.2 h1 dL_law_1017 ?_
    refine lv_aload_n hx hb dL_law_1018 rfl (lv_at hl 0 rfl) ?_
    refine lv_iload hx hb dL_law_1019 (lv_at hl 4 rfl) ?_
    refine lv_iconst (v := 2) hx hb dL_law_1021 (by decide) ?_
    refine lv_iadd hx hb dL_law_1022 ?_
    refine va_sld hx hb hX hbl hbA hA.2.2 h2 dL_law_1023 ?_
    refine lv_aload_n hx hb dL_law_1024 rfl (lv_at hl 3 rfl) ?_
    refine r_fSW (r := 1) (w := (wX g σ ++ oc g o f)) (w1 := (wX g σ ++ oc g o f)) (wr := wM (gq g u) τ) (As := [.ref (g.2.1 0), .int (xs (x4 + 1).toNatClampNeg), .int (xs (x4 + 2).toNatClampNeg), .ref o]) (rest := []) C hA hl.1 (k_L_debt_t2 C.2.2.2.2.2.2 hf1) (vx_cwSW 4 C.1.2.2.2.2 gL_law_L_debt rfl rfl rfl nd_L_debt ⟨Nat.le_of_ble_eq_true rfl, Nat.le_of_ble_eq_true rfl⟩) rfl rfl (Nat.le_of_ble_eq_true rfl) dL_law_1025 ⟨by show cells + 1 ≤ 601024; omega, by show slots + 6 ≤ 7293034; omega⟩ (fun H locs hA => ?_)
    refine lv_istore (lv' := [(5, .int 1), (0, .ref b), (1, .ref (g.2.1 0)), (2, .ref (u 0)), (3, .ref o), (4, .int x4)]) hx hb dL_law_1028 hl (by decide) rfl (fun ls hl => ?_)
    refine lv_aload_n hx hb dL_law_1030 rfl (lv_at hl 3 rfl) ?_
    refine lv_aload_n hx hb dL_law_1031 rfl (lv_at hl 1 rfl) ?_
    refine lv_iload hx hb dL_law_1032 (lv_at hl 5 rfl) ?_
    refine lv_iconst (v := 1) hx hb dL_law_1034 (by decide) ?_
    refine lv_iadd hx hb dL_law_1035 ?_
    refine va_sld hx hb hX hbl hbA hA.2.2 h1 dL_law_1036 ?_
    refine lv_aload_n hx hb dL_law_1037 rfl (lv_at hl 1 rfl) ?_
    refine lv_iload hx hb dL_law_1038 (lv_at hl 5 rfl) ?_
    refine lv_iconst (v := 2) hx hb dL_law_1040 (by decide) ?_
    refine lv_iadd hx hb dL_law_1041 ?_
    refine va_sld hx hb hX hbl hbA hA.2.2 h2 dL_law_1042 ?_
    replace hA := Aw_swap hA
    refine r_fVi (r := v) (w := wM (gq g u) τ) (w1 := wM (gq g u) τ') (wr := wX g σ ++ oc g o f) (As := [.int (xs (x4 + 1).toNatClampNeg), .int (xs (x4 + 2).toNatClampNeg)]) (rest := []) C hA hl.1 (k_X8_debt (g := gq g u) C.2.2.2.2.2.2 hf2) (cwV 2 C.1.2.2.2.2 gL_law_X8_debt rfl rfl rfl nd_X8_debt ⟨Nat.le_of_ble_eq_true rfl, Nat.le_of_ble_eq_true rfl⟩) 0 rfl rfl rfl rfl (Nat.le_of_ble_eq_true rfl) dL_law_1043 ⟨by show _ ≤ 601024; omega, by show _ ≤ 7293034; omega⟩ (fun H locs hA => ?_)
    replace hA := Aw_swap hA
    refine lv_istore (lv' := [(6, .int v), (5, .int 1), (0, .ref b), (1, .ref (g.2.1 0)), (2, .ref (u 0)), (3, .ref o), (4, .int x4)]) hx hb dL_law_1046 hl (by decide) rfl (fun ls hl => ?_)
    refine lv_aload_n hx hb dL_law_1048 rfl (lv_at hl 4 rfl) ?_
    replace hA := Aw_swap hA
    refine r_fVi (r := (τ'.1 0)) (w := wM (gq g u) τ') (w1 := wM (gq g u) τ') (wr := wX g σ ++ oc g o f) (As := []) (rest := []) C hA hl.1 (k_X8_thrown (g := gq g u) (fu := fu) C.2.2.2.2.2.2 rfl) (cwV 0 C.1.2.2.2.2 gL_law_X8_thrown rfl rfl rfl nd_X8_thrown ⟨Nat.le_of_ble_eq_true rfl, Nat.le_of_ble_eq_true rfl⟩) 0 rfl rfl rfl rfl (Nat.le_of_ble_eq_true rfl) dL_law_1049 ⟨by show _ ≤ 601024; omega, by show _ ≤ 7293034; omega⟩ (fun H locs hA => ?_)
    replace hA := Aw_swap hA
    refine lv_iload hx hb dL_law_1052 (lv_at hl 1 rfl) ?_
    refine lv_icmp_eq (tgt := 1059) hx hb dL_law_1054 (by decide) (fun c1 => ?_) (fun c1 => absurd ht c1)
    refine lv_iload hx hb dL_law_1059 (lv_at hl 1 rfl) ?_
    refine lv_if_ne (tgt := 1076) hx hb dL_law_1061 (by decide) (fun c1 => ?_) (fun c1 => absurd c1 (by decide))
    refine lv_goto (tgt := 1387) hx hb dL_law_1076 (by decide) ?_
    refine W.widen (k := cells + 1) (n := slots + 6) (by show _ ≤ cells + 1; omega) (by show _ ≤ slots + 6; omega) ?_
    exact hk _ _ _ _ _ _ hRel hA (lv_sub hl [2, 3, 4, 5, 6] rfl)
  · refine lv_aload_n hx hb dL_law_1011 rfl (lv_at hl 1 rfl) ?_
    refine lv_aload_n hx hb dL_law_1012 rfl (lv_at hl 0 rfl) ?_
    refine lv_iload hx hb dL_law_1013 (lv_at hl 4 rfl) ?_
    refine lv_iconst (v := 1) hx hb dL_law_1015 (by decide) ?_
    refine lv_iadd hx hb dL_law_1016 ?_
    refine va_sld hx hb hX hbl hbA hA.2.2 h1 dL_law_1017 ?_
    refine lv_aload_n hx hb dL_law_1018 rfl (lv_at hl 0 rfl) ?_
    refine lv_iload hx hb dL_law_1019 (lv_at hl 4 rfl) ?_
    refine lv_iconst (v := 2) hx hb dL_law_1021 (by decide) ?_
    refine lv_iadd hx hb dL_law_1022 ?_
    refine va_sld hx hb hX hbl hbA hA.2.2 h2 dL_law_1023 ?_
    refine lv_aload_n hx hb dL_law_1024 rfl (lv_at hl 3 rfl) ?_
    refine r_fSW (r := 2) (w := (wX g σ ++ oc g o f)) (w1 := (wX g σ ++ oc g o f)) (wr := wM (gq g u) τ) (As := [.ref (g.2.1 0), .int (xs (x4 + 1).toNatClampNeg), .int (xs (x4 + 2).toNatClampNeg), .ref o]) (rest := []) C hA hl.1 (k_L_debt_t0 C.2.2.2.2.2.2 hf1) (vx_cwSW 4 C.1.2.2.2.2 gL_law_L_debt rfl rfl rfl nd_L_debt ⟨Nat.le_of_ble_eq_true rfl, Nat.le_of_ble_eq_true rfl⟩) rfl rfl (Nat.le_of_ble_eq_true rfl) dL_law_1025 ⟨by show cells + 1 ≤ 601024; omega, by show slots + 6 ≤ 7293034; omega⟩ (fun H locs hA => ?_)
    refine lv_istore (lv' := [(5, .int 2), (0, .ref b), (1, .ref (g.2.1 0)), (2, .ref (u 0)), (3, .ref o), (4, .int x4)]) hx hb dL_law_1028 hl (by decide) rfl (fun ls hl => ?_)
    refine lv_aload_n hx hb dL_law_1030 rfl (lv_at hl 3 rfl) ?_
    refine lv_aload_n hx hb dL_law_1031 rfl (lv_at hl 1 rfl) ?_
    refine lv_iload hx hb dL_law_1032 (lv_at hl 5 rfl) ?_
    refine lv_iconst (v := 1) hx hb dL_law_1034 (by decide) ?_
    refine lv_iadd hx hb dL_law_1035 ?_
    refine va_sld hx hb hX hbl hbA hA.2.2 h1 dL_law_1036 ?_
    refine lv_aload_n hx hb dL_law_1037 rfl (lv_at hl 1 rfl) ?_
    refine lv_iload hx hb dL_law_1038 (lv_at hl 5 rfl) ?_
    refine lv_iconst (v := 2) hx hb dL_law_1040 (by decide) ?_
    refine lv_iadd hx hb dL_law_1041 ?_
    refine va_sld hx hb hX hbl hbA hA.2.2 h2 dL_law_1042 ?_
    replace hA := Aw_swap hA
    refine r_fVi (r := v) (w := wM (gq g u) τ) (w1 := wM (gq g u) τ') (wr := wX g σ ++ oc g o f) (As := [.int (xs (x4 + 1).toNatClampNeg), .int (xs (x4 + 2).toNatClampNeg)]) (rest := []) C hA hl.1 (k_X8_debt (g := gq g u) C.2.2.2.2.2.2 hf2) (cwV 2 C.1.2.2.2.2 gL_law_X8_debt rfl rfl rfl nd_X8_debt ⟨Nat.le_of_ble_eq_true rfl, Nat.le_of_ble_eq_true rfl⟩) 0 rfl rfl rfl rfl (Nat.le_of_ble_eq_true rfl) dL_law_1043 ⟨by show _ ≤ 601024; omega, by show _ ≤ 7293034; omega⟩ (fun H locs hA => ?_)
    replace hA := Aw_swap hA
    refine lv_istore (lv' := [(6, .int v), (5, .int 2), (0, .ref b), (1, .ref (g.2.1 0)), (2, .ref (u 0)), (3, .ref o), (4, .int x4)]) hx hb dL_law_1046 hl (by decide) rfl (fun ls hl => ?_)
    refine lv_aload_n hx hb dL_law_1048 rfl (lv_at hl 4 rfl) ?_
    replace hA := Aw_swap hA
    refine r_fVi (r := (τ'.1 0)) (w := wM (gq g u) τ') (w1 := wM (gq g u) τ') (wr := wX g σ ++ oc g o f) (As := []) (rest := []) C hA hl.1 (k_X8_thrown (g := gq g u) (fu := fu) C.2.2.2.2.2.2 rfl) (cwV 0 C.1.2.2.2.2 gL_law_X8_thrown rfl rfl rfl nd_X8_thrown ⟨Nat.le_of_ble_eq_true rfl, Nat.le_of_ble_eq_true rfl⟩) 0 rfl rfl rfl rfl (Nat.le_of_ble_eq_true rfl) dL_law_1049 ⟨by show _ ≤ 601024; omega, by show _ ≤ 7293034; omega⟩ (fun H locs hA => ?_)
    replace hA := Aw_swap hA
    refine lv_iload hx hb dL_law_1052 (lv_at hl 1 rfl) ?_
    refine lv_icmp_eq (tgt := 1059) hx hb dL_law_1054 (by decide) (fun c1 => ?_) (fun c1 => absurd ht c1)
    refine lv_iload hx hb dL_law_1059 (lv_at hl 1 rfl) ?_
    refine lv_if_ne (tgt := 1076) hx hb dL_law_1061 (by decide) (fun c1 => ?_) (fun c1 => absurd c1 (by decide))
    refine lv_goto (tgt := 1387) hx hb dL_law_1076 (by decide) ?_
    refine W.widen (k := cells + 1) (n := slots + 6) (by show _ ≤ cells + 1; omega) (by show _ ≤ slots + 6; omega) ?_
    exact hk _ _ _ _ _ _ hRel hA (lv_sub hl [2, 3, 4, 5, 6] rfl)
set_option maxHeartbeats 4000000 in
set_option maxRecDepth 100000 in
theorem law_c15 (SIM : Sim_late fu Rel) (C : Cx p l s m args meth c code 8 wsL_law ret RL g A) (hX : va_X b L xs s s.heap) (hbl : b < s.heap.size) (hbA : ¬ A b) (hRel0 : Rel σ τ) (hrc : cells + 1 ≤ 601024) (hrs : slots + 6 ≤ 7293034) (h1 : vp_in (x4 + 1) L) (h2 : vp_in (x4 + 2) L) (h3 : vp_in (x4 + 3) L) (h4 : vp_in (x4 + 4) L) (h5 : vp_in (x4 + 5) L) (hA : Aw g A s.heap ((wX g σ ++ oc g o f) ++ wM (gq g u) τ) H locs) (hl : lv_has ls 8 [(0, .ref b), (1, .ref (g.2.1 0)), (2, .ref (u 0)), (3, .ref o), (4, .int x4)]) (hk : Kont p l e s m args below meth c Q g A Rel b o u x4 (cells + 1) (slots + 6)) : W p l e room_1 s m args below meth c H locs cells slots Q (F0 m 1079 ls []) := by
  have hx := C.1.1
  have hb := C.1.2.1
  obtain ⟨v, τ', hf1, hf2, hRel⟩ := SIM σ τ hRel0 (xs (x4 + 1).toNatClampNeg)
  refine lv_aload_n hx hb dL_law_1079 rfl (lv_at hl 1 rfl) ?_
  refine lv_aload_n hx hb dL_law_1080 rfl (lv_at hl 0 rfl) ?_
  refine lv_iload hx hb dL_law_1081 (lv_at hl 4 rfl) ?_
  refine lv_iconst (v := 1) hx hb dL_law_1083 (by decide) ?_
  refine lv_iadd hx hb dL_law_1084 ?_
  refine va_sld hx hb hX hbl hbA hA.2.2 h1 dL_law_1085 ?_
  replace hA := Aw_as hA
  refine r_fVi (r := v) (w := wX g σ) (w1 := wX g σ) (wr := oc g o f ++ wM (gq g u) τ) (As := [.int (xs (x4 + 1).toNatClampNeg)]) (rest := []) C hA hl.1 (k_X7_late C.2.2.2.2.2.2 hf1) (cwV 1 C.1.2.2.2.2 gL_law_X7_late rfl rfl rfl nd_X7_late ⟨Nat.le_of_ble_eq_true rfl, Nat.le_of_ble_eq_true rfl⟩) 0 rfl rfl rfl rfl (Nat.le_of_ble_eq_true rfl) dL_law_1086 ⟨by show cells + 0 ≤ 601024; omega, by show slots + 0 ≤ 7293034; omega⟩ (fun H locs hA => ?_)
  replace hA := Aw_sa hA
  refine lv_aload_n hx hb dL_law_1089 rfl (lv_at hl 2 rfl) ?_
  refine lv_aload_n hx hb dL_law_1090 rfl (lv_at hl 0 rfl) ?_
  refine lv_iload hx hb dL_law_1091 (lv_at hl 4 rfl) ?_
  refine lv_iconst (v := 1) hx hb dL_law_1093 (by decide) ?_
  refine lv_iadd hx hb dL_law_1094 ?_
  refine va_sld hx hb hX hbl hbA hA.2.2 h1 dL_law_1095 ?_
  replace hA := Aw_swap hA
  refine r_fVi (r := v) (w := wM (gq g u) τ) (w1 := wM (gq g u) τ') (wr := wX g σ ++ oc g o f) (As := [.int (xs (x4 + 1).toNatClampNeg)]) (rest := [.int v]) C hA hl.1 (k_X8_late (g := gq g u) C.2.2.2.2.2.2 hf2) (cwV 1 C.1.2.2.2.2 gL_law_X8_late rfl rfl rfl nd_X8_late ⟨Nat.le_of_ble_eq_true rfl, Nat.le_of_ble_eq_true rfl⟩) 0 rfl rfl rfl rfl (Nat.le_of_ble_eq_true rfl) dL_law_1096 ⟨by show _ ≤ 601024; omega, by show _ ≤ 7293034; omega⟩ (fun H locs hA => ?_)
  replace hA := Aw_swap hA
  refine lv_icmp_eq (tgt := 1387) hx hb dL_law_1099 (by decide) (fun c1 => ?_) (fun c1 => absurd rfl c1)
  refine W.widen (k := cells + 1) (n := slots + 6) (by show _ ≤ cells + 1; omega) (by show _ ≤ slots + 6; omega) ?_
  exact hk _ _ _ _ _ _ hRel hA (lv_sub hl [0, 1, 2, 3, 4] rfl)
set_option maxHeartbeats 4000000 in
set_option maxRecDepth 100000 in
theorem law_c16 (SIM : Sim_about fu Rel) (C : Cx p l s m args meth c code 8 wsL_law ret RL g A) (hX : va_X b L xs s s.heap) (hbl : b < s.heap.size) (hbA : ¬ A b) (hRel0 : Rel σ τ) (hrc : cells + 1 ≤ 601024) (hrs : slots + 6 ≤ 7293034) (h1 : vp_in (x4 + 1) L) (h2 : vp_in (x4 + 2) L) (h3 : vp_in (x4 + 3) L) (h4 : vp_in (x4 + 4) L) (h5 : vp_in (x4 + 5) L) (hA : Aw g A s.heap ((wX g σ ++ oc g o f) ++ wM (gq g u) τ) H locs) (hl : lv_has ls 8 [(0, .ref b), (1, .ref (g.2.1 0)), (2, .ref (u 0)), (3, .ref o), (4, .int x4)]) (hk : Kont p l e s m args below meth c Q g A Rel b o u x4 (cells + 1) (slots + 6)) : W p l e room_1 s m args below meth c H locs cells slots Q (F0 m 1104 ls []) := by
  have hx := C.1.1
  have hb := C.1.2.1
  rcases SIM σ τ hRel0 (xs (x4 + 1).toNatClampNeg) (xs (x4 + 2).toNatClampNeg) with ⟨v, τ', hf1, hf2, ht, hRel⟩ | ⟨v, τ', hf1, hf2, ht, hRel⟩ | ⟨v, τ', hf1, hf2, ht, hRel⟩
  · refine lv_aload_n hx hb dL_law_1104 rfl (lv_at hl 1 rfl) ?_
    refine lv_aload_n hx hb dL_law_1105 rfl (lv_at hl 0 rfl) ?_
    refine lv_iload hx hb dL_law_1106 (lv_at hl 4 rfl) ?_
    refine lv_iconst (v := 1) hx hb dL_law_1108 (by decide) ?_
    refine lv_iadd hx hb dL_law_1109 ?_
    refine va_sld hx hb hX hbl hbA hA.2.2 h1 dL_law_1110 ?_
    refine lv_aload_n hx hb dL_law_1111 rfl (lv_at hl 0 rfl) ?_
    refine lv_iload hx hb dL_law_1112 (lv_at hl 4 rfl) ?_
    refine lv_iconst (v := 2) hx hb dL_law_1114 (by decide) ?_
    refine lv_iadd hx hb dL_law_1115 ?_
    refine va_sld hx hb hX hbl hbA hA.2.2 h2 dL_law_1116 ?_
    refine lv_aload_n hx hb dL_law_1117 rfl (lv_at hl 3 rfl) ?_
    refine r_fSW (r := 0) (w := (wX g σ ++ oc g o f)) (w1 := (wX g σ ++ oc g o (vp_updL f (0 : Int32).toNatClampNeg v.toInt64))) (wr := wM (gq g u) τ) (As := [.ref (g.2.1 0), .int (xs (x4 + 1).toNatClampNeg), .int (xs (x4 + 2).toNatClampNeg), .ref o]) (rest := []) C hA hl.1 (k_L_about C.2.2.2.2.2.2 hf1) (vx_cwSW 4 C.1.2.2.2.2 gL_law_L_about rfl rfl rfl nd_L_about ⟨Nat.le_of_ble_eq_true rfl, Nat.le_of_ble_eq_true rfl⟩) rfl rfl (Nat.le_of_ble_eq_true rfl) dL_law_1118 ⟨by show cells + 1 ≤ 601024; omega, by show slots + 6 ≤ 7293034; omega⟩ (fun H locs hA => ?_)
    refine lv_istore (lv' := [(5, .int 0), (0, .ref b), (1, .ref (g.2.1 0)), (2, .ref (u 0)), (3, .ref o), (4, .int x4)]) hx hb dL_law_1121 hl (by decide) rfl (fun ls hl => ?_)
    refine lv_aload_n hx hb dL_law_1123 rfl (lv_at hl 3 rfl) ?_
    refine lv_aload_n hx hb dL_law_1124 rfl (lv_at hl 1 rfl) ?_
    refine lv_iload hx hb dL_law_1125 (lv_at hl 5 rfl) ?_
    refine lv_iconst (v := 1) hx hb dL_law_1127 (by decide) ?_
    refine lv_iadd hx hb dL_law_1128 ?_
    refine va_sld hx hb hX hbl hbA hA.2.2 h1 dL_law_1129 ?_
    refine lv_aload_n hx hb dL_law_1130 rfl (lv_at hl 1 rfl) ?_
    refine lv_iload hx hb dL_law_1131 (lv_at hl 5 rfl) ?_
    refine lv_iconst (v := 2) hx hb dL_law_1133 (by decide) ?_
    refine lv_iadd hx hb dL_law_1134 ?_
    refine va_sld hx hb hX hbl hbA hA.2.2 h2 dL_law_1135 ?_
    replace hA := Aw_swap hA
    refine r_fVi (r := v) (w := wM (gq g u) τ) (w1 := wM (gq g u) τ') (wr := wX g σ ++ oc g o (vp_updL f (0 : Int32).toNatClampNeg v.toInt64)) (As := [.int (xs (x4 + 1).toNatClampNeg), .int (xs (x4 + 2).toNatClampNeg)]) (rest := []) C hA hl.1 (k_X8_about (g := gq g u) C.2.2.2.2.2.2 hf2) (cwV 2 C.1.2.2.2.2 gL_law_X8_about rfl rfl rfl nd_X8_about ⟨Nat.le_of_ble_eq_true rfl, Nat.le_of_ble_eq_true rfl⟩) 0 rfl rfl rfl rfl (Nat.le_of_ble_eq_true rfl) dL_law_1136 ⟨by show _ ≤ 601024; omega, by show _ ≤ 7293034; omega⟩ (fun H locs hA => ?_)
    replace hA := Aw_swap hA
    refine lv_istore (lv' := [(6, .int v), (5, .int 0), (0, .ref b), (1, .ref (g.2.1 0)), (2, .ref (u 0)), (3, .ref o), (4, .int x4)]) hx hb dL_law_1139 hl (by decide) rfl (fun ls hl => ?_)
    refine lv_aload_n hx hb dL_law_1141 rfl (lv_at hl 4 rfl) ?_
    replace hA := Aw_swap hA
    refine r_fVi (r := (τ'.1 0)) (w := wM (gq g u) τ') (w1 := wM (gq g u) τ') (wr := wX g σ ++ oc g o (vp_updL f (0 : Int32).toNatClampNeg v.toInt64)) (As := []) (rest := []) C hA hl.1 (k_X8_thrown (g := gq g u) (fu := fu) C.2.2.2.2.2.2 rfl) (cwV 0 C.1.2.2.2.2 gL_law_X8_thrown rfl rfl rfl nd_X8_thrown ⟨Nat.le_of_ble_eq_true rfl, Nat.le_of_ble_eq_true rfl⟩) 0 rfl rfl rfl rfl (Nat.le_of_ble_eq_true rfl) dL_law_1142 ⟨by show _ ≤ 601024; omega, by show _ ≤ 7293034; omega⟩ (fun H locs hA => ?_)
    replace hA := Aw_swap hA
    refine lv_iload hx hb dL_law_1145 (lv_at hl 1 rfl) ?_
    refine lv_icmp_eq (tgt := 1152) hx hb dL_law_1147 (by decide) (fun c1 => ?_) (fun c1 => absurd ht c1)
    refine lv_iload hx hb dL_law_1152 (lv_at hl 1 rfl) ?_
    refine lv_if_ne (tgt := 1169) hx hb dL_law_1154 (by decide) (fun c1 => absurd rfl c1) (fun c1 => ?_)
    refine lv_aload_n hx hb dL_law_1157 rfl (lv_at hl 5 rfl) ?_
    refine lv_iconst (v := 0) hx hb dL_law_1158 (by decide) ?_
    refine r_lald C hA 44 1 rfl rfl (by decide) dL_law_1159 ?_
    rw [pk_uLs]
    refine lv_iload hx hb dL_law_1160 (lv_at hl 0 rfl) ?_
    refine lv_i2l (v := v.toInt64) hx hb dL_law_1162 rfl ?_
    refine W.lcmp hx hb dL_law_1163 ?_
    refine lv_if_eq (tgt := 1169) hx hb dL_law_1164 (by decide) (fun c1 => ?_) (fun c1 => absurd (lgc _) c1)
    refine lv_goto (tgt := 1387) hx hb dL_law_1169 (by decide) ?_
    refine W.widen (k := cells + 1) (n := slots + 6) (by show _ ≤ cells + 1; omega) (by show _ ≤ slots + 6; omega) ?_
    exact hk _ _ _ _ _ _ hRel hA (lv_sub hl [2, 3, 4, 5, 6] rfl)
  · refine lv_aload_n hx hb dL_law_1104 rfl (lv_at hl 1 rfl) ?_
    refine lv_aload_n hx hb dL_law_1105 rfl (lv_at hl 0 rfl) ?_
    refine lv_iload hx hb dL_law_1106 (lv_at hl 4 rfl) ?_
    refine lv_iconst (v := 1) hx hb dL_law_1108 (by decide) ?_
    refine lv_iadd hx hb dL_law_1109 ?_
    refine va_sld hx hb hX hbl hbA hA.2.2 h1 dL_law_1110 ?_
    refine lv_aload_n hx hb dL_law_1111 rfl (lv_at hl 0 rfl) ?_
    refine lv_iload hx hb dL_law_1112 (lv_at hl 4 rfl) ?_
    refine lv_iconst (v := 2) hx hb dL_law_1114 (by decide) ?_
    refine lv_iadd hx hb dL_law_1115 ?_
    refine va_sld hx hb hX hbl hbA hA.2.2 h2 dL_law_1116 ?_
    refine lv_aload_n hx hb dL_law_1117 rfl (lv_at hl 3 rfl) ?_
    refine r_fSW (r := 1) (w := (wX g σ ++ oc g o f)) (w1 := (wX g σ ++ oc g o f)) (wr := wM (gq g u) τ) (As := [.ref (g.2.1 0), .int (xs (x4 + 1).toNatClampNeg), .int (xs (x4 + 2).toNatClampNeg), .ref o]) (rest := []) C hA hl.1 (k_L_about_t2 C.2.2.2.2.2.2 hf1) (vx_cwSW 4 C.1.2.2.2.2 gL_law_L_about rfl rfl rfl nd_L_about ⟨Nat.le_of_ble_eq_true rfl, Nat.le_of_ble_eq_true rfl⟩) rfl rfl (Nat.le_of_ble_eq_true rfl) dL_law_1118 ⟨by show cells + 1 ≤ 601024; omega, by show slots + 6 ≤ 7293034; omega⟩ (fun H locs hA => ?_)
    refine lv_istore (lv' := [(5, .int 1), (0, .ref b), (1, .ref (g.2.1 0)), (2, .ref (u 0)), (3, .ref o), (4, .int x4)]) hx hb dL_law_1121 hl (by decide) rfl (fun ls hl => ?_)
    refine lv_aload_n hx hb dL_law_1123 rfl (lv_at hl 3 rfl) ?_
    refine lv_aload_n hx hb dL_law_1124 rfl (lv_at hl 1 rfl) ?_
    refine lv_iload hx hb dL_law_1125 (lv_at hl 5 rfl) ?_
    refine lv_iconst (v := 1) hx hb dL_law_1127 (by decide) ?_
    refine lv_iadd hx hb dL_law_1128 ?_
    refine va_sld hx hb hX hbl hbA hA.2.2 h1 dL_law_1129 ?_
    refine lv_aload_n hx hb dL_law_1130 rfl (lv_at hl 1 rfl) ?_
    refine lv_iload hx hb dL_law_1131 (lv_at hl 5 rfl) ?_
    refine lv_iconst (v := 2) hx hb dL_law_1133 (by decide) ?_
    refine lv_iadd hx hb dL_law_1134 ?_
    refine va_sld hx hb hX hbl hbA hA.2.2 h2 dL_law_1135 ?_
    replace hA := Aw_swap hA
    refine r_fVi (r := v) (w := wM (gq g u) τ) (w1 := wM (gq g u) τ') (wr := wX g σ ++ oc g o f) (As := [.int (xs (x4 + 1).toNatClampNeg), .int (xs (x4 + 2).toNatClampNeg)]) (rest := []) C hA hl.1 (k_X8_about (g := gq g u) C.2.2.2.2.2.2 hf2) (cwV 2 C.1.2.2.2.2 gL_law_X8_about rfl rfl rfl nd_X8_about ⟨Nat.le_of_ble_eq_true rfl, Nat.le_of_ble_eq_true rfl⟩) 0 rfl rfl rfl rfl (Nat.le_of_ble_eq_true rfl) dL_law_1136 ⟨by show _ ≤ 601024; omega, by show _ ≤ 7293034; omega⟩ (fun H locs hA => ?_)
    replace hA := Aw_swap hA
    refine lv_istore (lv' := [(6, .int v), (5, .int 1), (0, .ref b), (1, .ref (g.2.1 0)), (2, .ref (u 0)), (3, .ref o), (4, .int x4)]) hx hb dL_law_1139 hl (by decide) rfl (fun ls hl => ?_)
    refine lv_aload_n hx hb dL_law_1141 rfl (lv_at hl 4 rfl) ?_
    replace hA := Aw_swap hA
    refine r_fVi (r := (τ'.1 0)) (w := wM (gq g u) τ') (w1 := wM (gq g u) τ') (wr := wX g σ ++ oc g o f) (As := []) (rest := []) C hA hl.1 (k_X8_thrown (g := gq g u) (fu := fu) C.2.2.2.2.2.2 rfl) (cwV 0 C.1.2.2.2.2 gL_law_X8_thrown rfl rfl rfl nd_X8_thrown ⟨Nat.le_of_ble_eq_true rfl, Nat.le_of_ble_eq_true rfl⟩) 0 rfl rfl rfl rfl (Nat.le_of_ble_eq_true rfl) dL_law_1142 ⟨by show _ ≤ 601024; omega, by show _ ≤ 7293034; omega⟩ (fun H locs hA => ?_)
    replace hA := Aw_swap hA
    refine lv_iload hx hb dL_law_1145 (lv_at hl 1 rfl) ?_
    refine lv_icmp_eq (tgt := 1152) hx hb dL_law_1147 (by decide) (fun c1 => ?_) (fun c1 => absurd ht c1)
    refine lv_iload hx hb dL_law_1152 (lv_at hl 1 rfl) ?_
    refine lv_if_ne (tgt := 1169) hx hb dL_law_1154 (by decide) (fun c1 => ?_) (fun c1 => absurd c1 (by decide))
    refine lv_goto (tgt := 1387) hx hb dL_law_1169 (by decide) ?_
    refine W.widen (k := cells + 1) (n := slots + 6) (by show _ ≤ cells + 1; omega) (by show _ ≤ slots + 6; omega) ?_
    exact hk _ _ _ _ _ _ hRel hA (lv_sub hl [2, 3, 4, 5, 6] rfl)
  · refine lv_aload_n hx hb dL_law_1104 rfl (lv_at hl 1 rfl) ?_
    refine lv_aload_n hx hb dL_law_1105 rfl (lv_at hl 0 rfl) ?_
    refine lv_iload hx hb dL_law_1106 (lv_at hl 4 rfl) ?_
    refine lv_iconst (v := 1) hx hb dL_law_1108 (by decide) ?_
    refine lv_iadd hx hb dL_law_1109 ?_
    refine va_sld hx hb hX hbl hbA hA.2.2 h1 dL_law_1110 ?_
    refine lv_aload_n hx hb dL_law_1111 rfl (lv_at hl 0 rfl) ?_
    refine lv_iload hx hb dL_law_1112 (lv_at hl 4 rfl) ?_
    refine lv_iconst (v := 2) hx hb dL_law_1114 (by decide) ?_
    refine lv_iadd hx hb dL_law_1115 ?_
    refine va_sld hx hb hX hbl hbA hA.2.2 h2 dL_law_1116 ?_
    refine lv_aload_n hx hb dL_law_1117 rfl (lv_at hl 3 rfl) ?_
    refine r_fSW (r := 2) (w := (wX g σ ++ oc g o f)) (w1 := (wX g σ ++ oc g o f)) (wr := wM (gq g u) τ) (As := [.ref (g.2.1 0), .int (xs (x4 + 1).toNatClampNeg), .int (xs (x4 + 2).toNatClampNeg), .ref o]) (rest := []) C hA hl.1 (k_L_about_t0 C.2.2.2.2.2.2 hf1) (vx_cwSW 4 C.1.2.2.2.2 gL_law_L_about rfl rfl rfl nd_L_about ⟨Nat.le_of_ble_eq_true rfl, Nat.le_of_ble_eq_true rfl⟩) rfl rfl (Nat.le_of_ble_eq_true rfl) dL_law_1118 ⟨by show cells + 1 ≤ 601024; omega, by show slots + 6 ≤ 7293034; omega⟩ (fun H locs hA => ?_)
    refine lv_istore (lv' := [(5, .int 2), (0, .ref b), (1, .ref (g.2.1 0)), (2, .ref (u 0)), (3, .ref o), (4, .int x4)]) hx hb dL_law_1121 hl (by decide) rfl (fun ls hl => ?_)
    refine lv_aload_n hx hb dL_law_1123 rfl (lv_at hl 3 rfl) ?_
    refine lv_aload_n hx hb dL_law_1124 rfl (lv_at hl 1 rfl) ?_
    refine lv_iload hx hb dL_law_1125 (lv_at hl 5 rfl) ?_
    refine lv_iconst (v := 1) hx hb dL_law_1127 (by decide) ?_
    refine lv_iadd hx hb dL_law_1128 ?_
    refine va_sld hx hb hX hbl hbA hA.2.2 h1 dL_law_1129 ?_
    refine lv_aload_n hx hb dL_law_1130 rfl (lv_at hl 1 rfl) ?_
    refine lv_iload hx hb dL_law_1131 (lv_at hl 5 rfl) ?_
    refine lv_iconst (v := 2) hx hb dL_law_1133 (by decide) ?_
    refine lv_iadd hx hb dL_law_1134 ?_
    refine va_sld hx hb hX hbl hbA hA.2.2 h2 dL_law_1135 ?_
    replace hA := Aw_swap hA
    refine r_fVi (r := v) (w := wM (gq g u) τ) (w1 := wM (gq g u) τ') (wr := wX g σ ++ oc g o f) (As := [.int (xs (x4 + 1).toNatClampNeg), .int (xs (x4 + 2).toNatClampNeg)]) (rest := []) C hA hl.1 (k_X8_about (g := gq g u) C.2.2.2.2.2.2 hf2) (cwV 2 C.1.2.2.2.2 gL_law_X8_about rfl rfl rfl nd_X8_about ⟨Nat.le_of_ble_eq_true rfl, Nat.le_of_ble_eq_true rfl⟩) 0 rfl rfl rfl rfl (Nat.le_of_ble_eq_true rfl) dL_law_1136 ⟨by show _ ≤ 601024; omega, by show _ ≤ 7293034; omega⟩ (fun H locs hA => ?_)
    replace hA := Aw_swap hA
    refine lv_istore (lv' := [(6, .int v), (5, .int 2), (0, .ref b), (1, .ref (g.2.1 0)), (2, .ref (u 0)), (3, .ref o), (4, .int x4)]) hx hb dL_law_1139 hl (by decide) rfl (fun ls hl => ?_)
    refine lv_aload_n hx hb dL_law_1141 rfl (lv_at hl 4 rfl) ?_
    replace hA := Aw_swap hA
    refine r_fVi (r := (τ'.1 0)) (w := wM (gq g u) τ') (w1 := wM (gq g u) τ') (wr := wX g σ ++ oc g o f) (As := []) (rest := []) C hA hl.1 (k_X8_thrown (g := gq g u) (fu := fu) C.2.2.2.2.2.2 rfl) (cwV 0 C.1.2.2.2.2 gL_law_X8_thrown rfl rfl rfl nd_X8_thrown ⟨Nat.le_of_ble_eq_true rfl, Nat.le_of_ble_eq_true rfl⟩) 0 rfl rfl rfl rfl (Nat.le_of_ble_eq_true rfl) dL_law_1142 ⟨by show _ ≤ 601024; omega, by show _ ≤ 7293034; omega⟩ (fun H locs hA => ?_)
    replace hA := Aw_swap hA
    refine lv_iload hx hb dL_law_1145 (lv_at hl 1 rfl) ?_
    refine lv_icmp_eq (tgt := 1152) hx hb dL_law_1147 (by decide) (fun c1 => ?_) (fun c1 => absurd ht c1)
    refine lv_iload hx hb dL_law_1152 (lv_at hl 1 rfl) ?_
    refine lv_if_ne (tgt := 1169) hx hb dL_law_1154 (by decide) (fun c1 => ?_) (fun c1 => absurd c1 (by decide))
    refine lv_goto (tgt := 1387) hx hb dL_law_1169 (by decide) ?_
    refine W.widen (k := cells + 1) (n := slots + 6) (by show _ ≤ cells + 1; omega) (by show _ ≤ slots + 6; omega) ?_
    exact hk _ _ _ _ _ _ hRel hA (lv_sub hl [2, 3, 4, 5, 6] rfl)
set_option maxHeartbeats 4000000 in
set_option maxRecDepth 100000 in
theorem law_c17 (SIM : Sim_fame fu Rel) (C : Cx p l s m args meth c code 8 wsL_law ret RL g A) (hX : va_X b L xs s s.heap) (hbl : b < s.heap.size) (hbA : ¬ A b) (hRel0 : Rel σ τ) (hrc : cells + 1 ≤ 601024) (hrs : slots + 6 ≤ 7293034) (h1 : vp_in (x4 + 1) L) (h2 : vp_in (x4 + 2) L) (h3 : vp_in (x4 + 3) L) (h4 : vp_in (x4 + 4) L) (h5 : vp_in (x4 + 5) L) (hA : Aw g A s.heap ((wX g σ ++ oc g o f) ++ wM (gq g u) τ) H locs) (hl : lv_has ls 8 [(0, .ref b), (1, .ref (g.2.1 0)), (2, .ref (u 0)), (3, .ref o), (4, .int x4)]) (hk : Kont p l e s m args below meth c Q g A Rel b o u x4 (cells + 1) (slots + 6)) : W p l e room_1 s m args below meth c H locs cells slots Q (F0 m 1172 ls []) := by
  have hx := C.1.1
  have hb := C.1.2.1
  rcases SIM σ τ hRel0 (xs (x4 + 1).toNatClampNeg) with ⟨v, τ', hf1, hf2, ht, hRel⟩ | ⟨v, τ', hf1, hf2, ht, hRel⟩
  · refine lv_aload_n hx hb dL_law_1172 rfl (lv_at hl 1 rfl) ?_
    refine lv_aload_n hx hb dL_law_1173 rfl (lv_at hl 0 rfl) ?_
    refine lv_iload hx hb dL_law_1174 (lv_at hl 4 rfl) ?_
    refine lv_iconst (v := 1) hx hb dL_law_1176 (by decide) ?_
    refine lv_iadd hx hb dL_law_1177 ?_
    refine va_sld hx hb hX hbl hbA hA.2.2 h1 dL_law_1178 ?_
    refine lv_aload_n hx hb dL_law_1179 rfl (lv_at hl 3 rfl) ?_
    refine r_fSW (r := 0) (w := (wX g σ ++ oc g o f)) (w1 := (wX g σ ++ oc g o (vp_updL f (0 : Int32).toNatClampNeg v))) (wr := wM (gq g u) τ) (As := [.ref (g.2.1 0), .int (xs (x4 + 1).toNatClampNeg), .ref o]) (rest := []) C hA hl.1 (k_L_fame C.2.2.2.2.2.2 hf1) (vx_cwSW 3 C.1.2.2.2.2 gL_law_L_fame rfl rfl rfl nd_L_fame ⟨Nat.le_of_ble_eq_true rfl, Nat.le_of_ble_eq_true rfl⟩) rfl rfl (Nat.le_of_ble_eq_true rfl) dL_law_1180 ⟨by show cells + 1 ≤ 601024; omega, by show slots + 6 ≤ 7293034; omega⟩ (fun H locs hA => ?_)
    refine lv_istore (lv' := [(5, .int 0), (0, .ref b), (1, .ref (g.2.1 0)), (2, .ref (u 0)), (3, .ref o), (4, .int x4)]) hx hb dL_law_1183 hl (by decide) rfl (fun ls hl => ?_)
    refine lv_aload_n hx hb dL_law_1185 rfl (lv_at hl 3 rfl) ?_
    refine lv_aload_n hx hb dL_law_1186 rfl (lv_at hl 1 rfl) ?_
    refine lv_iload hx hb dL_law_1187 (lv_at hl 5 rfl) ?_
    refine lv_iconst (v := 1) hx hb dL_law_1189 (by decide) ?_
    refine lv_iadd hx hb dL_law_1190 ?_
    refine va_sld hx hb hX hbl hbA hA.2.2 h1 dL_law_1191 ?_
    replace hA := Aw_swap hA
    refine r_fVl (r := v) (w := wM (gq g u) τ) (w1 := wM (gq g u) τ') (wr := wX g σ ++ oc g o (vp_updL f (0 : Int32).toNatClampNeg v)) (As := [.int (xs (x4 + 1).toNatClampNeg)]) (rest := []) C hA hl.1 (k_X8_fame (g := gq g u) C.2.2.2.2.2.2 hf2) (cwV 1 C.1.2.2.2.2 gL_law_X8_fame rfl rfl rfl nd_X8_fame ⟨Nat.le_of_ble_eq_true rfl, Nat.le_of_ble_eq_true rfl⟩) 0 rfl rfl rfl rfl (Nat.le_of_ble_eq_true rfl) dL_law_1192 ⟨by show _ ≤ 601024; omega, by show _ ≤ 7293034; omega⟩ (fun H locs hA => ?_)
    replace hA := Aw_swap hA
    refine lv_lstore (lv' := [(6, .long v), (5, .int 0), (0, .ref b), (1, .ref (g.2.1 0)), (2, .ref (u 0)), (3, .ref o), (4, .int x4)]) hx hb dL_law_1195 hl (by decide) rfl (fun ls hl => ?_)
    refine lv_aload_n hx hb dL_law_1197 rfl (lv_at hl 4 rfl) ?_
    replace hA := Aw_swap hA
    refine r_fVi (r := (τ'.1 0)) (w := wM (gq g u) τ') (w1 := wM (gq g u) τ') (wr := wX g σ ++ oc g o (vp_updL f (0 : Int32).toNatClampNeg v)) (As := []) (rest := []) C hA hl.1 (k_X8_thrown (g := gq g u) (fu := fu) C.2.2.2.2.2.2 rfl) (cwV 0 C.1.2.2.2.2 gL_law_X8_thrown rfl rfl rfl nd_X8_thrown ⟨Nat.le_of_ble_eq_true rfl, Nat.le_of_ble_eq_true rfl⟩) 0 rfl rfl rfl rfl (Nat.le_of_ble_eq_true rfl) dL_law_1198 ⟨by show _ ≤ 601024; omega, by show _ ≤ 7293034; omega⟩ (fun H locs hA => ?_)
    replace hA := Aw_swap hA
    refine lv_iload hx hb dL_law_1201 (lv_at hl 1 rfl) ?_
    refine lv_icmp_eq (tgt := 1208) hx hb dL_law_1203 (by decide) (fun c1 => ?_) (fun c1 => absurd ht c1)
    refine lv_iload hx hb dL_law_1208 (lv_at hl 1 rfl) ?_
    refine lv_if_ne (tgt := 1224) hx hb dL_law_1210 (by decide) (fun c1 => absurd rfl c1) (fun c1 => ?_)
    refine lv_aload_n hx hb dL_law_1213 rfl (lv_at hl 5 rfl) ?_
    refine lv_iconst (v := 0) hx hb dL_law_1214 (by decide) ?_
    refine r_lald C hA 44 1 rfl rfl (by decide) dL_law_1215 ?_
    rw [pk_uLs]
    refine lv_lload hx hb dL_law_1216 (lv_at hl 0 rfl) ?_
    refine W.lcmp hx hb dL_law_1218 ?_
    refine lv_if_eq (tgt := 1224) hx hb dL_law_1219 (by decide) (fun c1 => ?_) (fun c1 => absurd (lgc _) c1)
    refine lv_goto (tgt := 1387) hx hb dL_law_1224 (by decide) ?_
    refine W.widen (k := cells + 1) (n := slots + 6) (by show _ ≤ cells + 1; omega) (by show _ ≤ slots + 6; omega) ?_
    exact hk _ _ _ _ _ _ hRel hA (lv_sub hl [2, 3, 4, 5, 6] rfl)
  · refine lv_aload_n hx hb dL_law_1172 rfl (lv_at hl 1 rfl) ?_
    refine lv_aload_n hx hb dL_law_1173 rfl (lv_at hl 0 rfl) ?_
    refine lv_iload hx hb dL_law_1174 (lv_at hl 4 rfl) ?_
    refine lv_iconst (v := 1) hx hb dL_law_1176 (by decide) ?_
    refine lv_iadd hx hb dL_law_1177 ?_
    refine va_sld hx hb hX hbl hbA hA.2.2 h1 dL_law_1178 ?_
    refine lv_aload_n hx hb dL_law_1179 rfl (lv_at hl 3 rfl) ?_
    refine r_fSW (r := 1) (w := (wX g σ ++ oc g o f)) (w1 := (wX g σ ++ oc g o f)) (wr := wM (gq g u) τ) (As := [.ref (g.2.1 0), .int (xs (x4 + 1).toNatClampNeg), .ref o]) (rest := []) C hA hl.1 (k_L_fame_t2 C.2.2.2.2.2.2 hf1) (vx_cwSW 3 C.1.2.2.2.2 gL_law_L_fame rfl rfl rfl nd_L_fame ⟨Nat.le_of_ble_eq_true rfl, Nat.le_of_ble_eq_true rfl⟩) rfl rfl (Nat.le_of_ble_eq_true rfl) dL_law_1180 ⟨by show cells + 1 ≤ 601024; omega, by show slots + 6 ≤ 7293034; omega⟩ (fun H locs hA => ?_)
    refine lv_istore (lv' := [(5, .int 1), (0, .ref b), (1, .ref (g.2.1 0)), (2, .ref (u 0)), (3, .ref o), (4, .int x4)]) hx hb dL_law_1183 hl (by decide) rfl (fun ls hl => ?_)
    refine lv_aload_n hx hb dL_law_1185 rfl (lv_at hl 3 rfl) ?_
    refine lv_aload_n hx hb dL_law_1186 rfl (lv_at hl 1 rfl) ?_
    refine lv_iload hx hb dL_law_1187 (lv_at hl 5 rfl) ?_
    refine lv_iconst (v := 1) hx hb dL_law_1189 (by decide) ?_
    refine lv_iadd hx hb dL_law_1190 ?_
    refine va_sld hx hb hX hbl hbA hA.2.2 h1 dL_law_1191 ?_
    replace hA := Aw_swap hA
    refine r_fVl (r := v) (w := wM (gq g u) τ) (w1 := wM (gq g u) τ') (wr := wX g σ ++ oc g o f) (As := [.int (xs (x4 + 1).toNatClampNeg)]) (rest := []) C hA hl.1 (k_X8_fame (g := gq g u) C.2.2.2.2.2.2 hf2) (cwV 1 C.1.2.2.2.2 gL_law_X8_fame rfl rfl rfl nd_X8_fame ⟨Nat.le_of_ble_eq_true rfl, Nat.le_of_ble_eq_true rfl⟩) 0 rfl rfl rfl rfl (Nat.le_of_ble_eq_true rfl) dL_law_1192 ⟨by show _ ≤ 601024; omega, by show _ ≤ 7293034; omega⟩ (fun H locs hA => ?_)
    replace hA := Aw_swap hA
    refine lv_lstore (lv' := [(6, .long v), (5, .int 1), (0, .ref b), (1, .ref (g.2.1 0)), (2, .ref (u 0)), (3, .ref o), (4, .int x4)]) hx hb dL_law_1195 hl (by decide) rfl (fun ls hl => ?_)
    refine lv_aload_n hx hb dL_law_1197 rfl (lv_at hl 4 rfl) ?_
    replace hA := Aw_swap hA
    refine r_fVi (r := (τ'.1 0)) (w := wM (gq g u) τ') (w1 := wM (gq g u) τ') (wr := wX g σ ++ oc g o f) (As := []) (rest := []) C hA hl.1 (k_X8_thrown (g := gq g u) (fu := fu) C.2.2.2.2.2.2 rfl) (cwV 0 C.1.2.2.2.2 gL_law_X8_thrown rfl rfl rfl nd_X8_thrown ⟨Nat.le_of_ble_eq_true rfl, Nat.le_of_ble_eq_true rfl⟩) 0 rfl rfl rfl rfl (Nat.le_of_ble_eq_true rfl) dL_law_1198 ⟨by show _ ≤ 601024; omega, by show _ ≤ 7293034; omega⟩ (fun H locs hA => ?_)
    replace hA := Aw_swap hA
    refine lv_iload hx hb dL_law_1201 (lv_at hl 1 rfl) ?_
    refine lv_icmp_eq (tgt := 1208) hx hb dL_law_1203 (by decide) (fun c1 => ?_) (fun c1 => absurd ht c1)
    refine lv_iload hx hb dL_law_1208 (lv_at hl 1 rfl) ?_
    refine lv_if_ne (tgt := 1224) hx hb dL_law_1210 (by decide) (fun c1 => ?_) (fun c1 => absurd c1 (by decide))
    refine lv_goto (tgt := 1387) hx hb dL_law_1224 (by decide) ?_
    refine W.widen (k := cells + 1) (n := slots + 6) (by show _ ≤ cells + 1; omega) (by show _ ≤ slots + 6; omega) ?_
    exact hk _ _ _ _ _ _ hRel hA (lv_sub hl [2, 3, 4, 5, 6] rfl)
set_option maxHeartbeats 4000000 in
set_option maxRecDepth 100000 in
theorem law_c18 (SIM : Sim_gather fu Rel) (C : Cx p l s m args meth c code 8 wsL_law ret RL g A) (hX : va_X b L xs s s.heap) (hbl : b < s.heap.size) (hbA : ¬ A b) (hRel0 : Rel σ τ) (hrc : cells + 1 ≤ 601024) (hrs : slots + 6 ≤ 7293034) (h1 : vp_in (x4 + 1) L) (h2 : vp_in (x4 + 2) L) (h3 : vp_in (x4 + 3) L) (h4 : vp_in (x4 + 4) L) (h5 : vp_in (x4 + 5) L) (hA : Aw g A s.heap ((wX g σ ++ oc g o f) ++ wM (gq g u) τ) H locs) (hl : lv_has ls 8 [(0, .ref b), (1, .ref (g.2.1 0)), (2, .ref (u 0)), (3, .ref o), (4, .int x4)]) (hk : Kont p l e s m args below meth c Q g A Rel b o u x4 (cells + 1) (slots + 6)) : W p l e room_1 s m args below meth c H locs cells slots Q (F0 m 1227 ls []) := by
  have hx := C.1.1
  have hb := C.1.2.1
  rcases SIM σ τ hRel0 (xs (x4 + 1).toNatClampNeg) (xs (x4 + 2).toNatClampNeg) with ⟨v, σ', τ', hf1, hf2, ht, hRel⟩ | ⟨v, σ', τ', hf1, hf2, ht, hRel⟩
  · refine lv_aload_n hx hb dL_law_1227 rfl (lv_at hl 1 rfl) ?_
    refine lv_aload_n hx hb dL_law_1228 rfl (lv_at hl 0 rfl) ?_
    refine lv_iload hx hb dL_law_1229 (lv_at hl 4 rfl) ?_
    refine lv_iconst (v := 1) hx hb dL_law_1231 (by decide) ?_
    refine lv_iadd hx hb dL_law_1232 ?_
    refine va_sld hx hb hX hbl hbA hA.2.2 h1 dL_law_1233 ?_
    refine lv_aload_n hx hb dL_law_1234 rfl (lv_at hl 0 rfl) ?_
    refine lv_iload hx hb dL_law_1235 (lv_at hl 4 rfl) ?_
    refine lv_iconst (v := 2) hx hb dL_law_1237 (by decide) ?_
    refine lv_iadd hx hb dL_law_1238 ?_
    refine va_sld hx hb hX hbl hbA hA.2.2 h2 dL_law_1239 ?_
    refine lv_aload_n hx hb dL_law_1240 rfl (lv_at hl 3 rfl) ?_
    refine r_fSW (r := 0) (w := (wX g σ ++ oc g o f)) (w1 := (wX g σ' ++ oc g o (vp_updL f (0 : Int32).toNatClampNeg v))) (wr := wM (gq g u) τ) (As := [.ref (g.2.1 0), .int (xs (x4 + 1).toNatClampNeg), .int (xs (x4 + 2).toNatClampNeg), .ref o]) (rest := []) C hA hl.1 (k_L_gather C.2.2.2.2.2.2 hf1) (vx_cwSW 4 C.1.2.2.2.2 gL_law_L_gather rfl rfl rfl nd_L_gather ⟨Nat.le_of_ble_eq_true rfl, Nat.le_of_ble_eq_true rfl⟩) rfl rfl (Nat.le_of_ble_eq_true rfl) dL_law_1241 ⟨by show cells + 1 ≤ 601024; omega, by show slots + 6 ≤ 7293034; omega⟩ (fun H locs hA => ?_)
    refine lv_istore (lv' := [(5, .int 0), (0, .ref b), (1, .ref (g.2.1 0)), (2, .ref (u 0)), (3, .ref o), (4, .int x4)]) hx hb dL_law_1244 hl (by decide) rfl (fun ls hl => ?_)
    refine lv_aload_n hx hb dL_law_1246 rfl (lv_at hl 3 rfl) ?_
    refine lv_aload_n hx hb dL_law_1247 rfl (lv_at hl 1 rfl) ?_
    refine lv_iload hx hb dL_law_1248 (lv_at hl 5 rfl) ?_
    refine lv_iconst (v := 1) hx hb dL_law_1250 (by decide) ?_
    refine lv_iadd hx hb dL_law_1251 ?_
    refine va_sld hx hb hX hbl hbA hA.2.2 h1 dL_law_1252 ?_
    refine lv_aload_n hx hb dL_law_1253 rfl (lv_at hl 1 rfl) ?_
    refine lv_iload hx hb dL_law_1254 (lv_at hl 5 rfl) ?_
    refine lv_iconst (v := 2) hx hb dL_law_1256 (by decide) ?_
    refine lv_iadd hx hb dL_law_1257 ?_
    refine va_sld hx hb hX hbl hbA hA.2.2 h2 dL_law_1258 ?_
    replace hA := Aw_swap hA
    refine r_fVl (r := v) (w := wM (gq g u) τ) (w1 := wM (gq g u) τ') (wr := wX g σ' ++ oc g o (vp_updL f (0 : Int32).toNatClampNeg v)) (As := [.int (xs (x4 + 1).toNatClampNeg), .int (xs (x4 + 2).toNatClampNeg)]) (rest := []) C hA hl.1 (k_X8_gather (g := gq g u) C.2.2.2.2.2.2 hf2) (cwV 2 C.1.2.2.2.2 gL_law_X8_gather rfl rfl rfl nd_X8_gather ⟨Nat.le_of_ble_eq_true rfl, Nat.le_of_ble_eq_true rfl⟩) 0 rfl rfl rfl rfl (Nat.le_of_ble_eq_true rfl) dL_law_1259 ⟨by show _ ≤ 601024; omega, by show _ ≤ 7293034; omega⟩ (fun H locs hA => ?_)
    replace hA := Aw_swap hA
    refine lv_lstore (lv' := [(6, .long v), (5, .int 0), (0, .ref b), (1, .ref (g.2.1 0)), (2, .ref (u 0)), (3, .ref o), (4, .int x4)]) hx hb dL_law_1262 hl (by decide) rfl (fun ls hl => ?_)
    refine lv_aload_n hx hb dL_law_1264 rfl (lv_at hl 4 rfl) ?_
    replace hA := Aw_swap hA
    refine r_fVi (r := (τ'.1 0)) (w := wM (gq g u) τ') (w1 := wM (gq g u) τ') (wr := wX g σ' ++ oc g o (vp_updL f (0 : Int32).toNatClampNeg v)) (As := []) (rest := []) C hA hl.1 (k_X8_thrown (g := gq g u) (fu := fu) C.2.2.2.2.2.2 rfl) (cwV 0 C.1.2.2.2.2 gL_law_X8_thrown rfl rfl rfl nd_X8_thrown ⟨Nat.le_of_ble_eq_true rfl, Nat.le_of_ble_eq_true rfl⟩) 0 rfl rfl rfl rfl (Nat.le_of_ble_eq_true rfl) dL_law_1265 ⟨by show _ ≤ 601024; omega, by show _ ≤ 7293034; omega⟩ (fun H locs hA => ?_)
    replace hA := Aw_swap hA
    refine lv_iload hx hb dL_law_1268 (lv_at hl 1 rfl) ?_
    refine lv_icmp_eq (tgt := 1275) hx hb dL_law_1270 (by decide) (fun c1 => ?_) (fun c1 => absurd ht c1)
    refine lv_iload hx hb dL_law_1275 (lv_at hl 1 rfl) ?_
    refine lv_if_ne (tgt := 1291) hx hb dL_law_1277 (by decide) (fun c1 => absurd rfl c1) (fun c1 => ?_)
    refine lv_aload_n hx hb dL_law_1280 rfl (lv_at hl 5 rfl) ?_
    refine lv_iconst (v := 0) hx hb dL_law_1281 (by decide) ?_
    refine r_lald C hA 44 1 rfl rfl (by decide) dL_law_1282 ?_
    rw [pk_uLs]
    refine lv_lload hx hb dL_law_1283 (lv_at hl 0 rfl) ?_
    refine W.lcmp hx hb dL_law_1285 ?_
    refine lv_if_eq (tgt := 1291) hx hb dL_law_1286 (by decide) (fun c1 => ?_) (fun c1 => absurd (lgc _) c1)
    refine lv_goto (tgt := 1387) hx hb dL_law_1291 (by decide) ?_
    refine W.widen (k := cells + 1) (n := slots + 6) (by show _ ≤ cells + 1; omega) (by show _ ≤ slots + 6; omega) ?_
    exact hk _ _ _ _ _ _ hRel hA (lv_sub hl [2, 3, 4, 5, 6] rfl)
  · refine lv_aload_n hx hb dL_law_1227 rfl (lv_at hl 1 rfl) ?_
    refine lv_aload_n hx hb dL_law_1228 rfl (lv_at hl 0 rfl) ?_
    refine lv_iload hx hb dL_law_1229 (lv_at hl 4 rfl) ?_
    refine lv_iconst (v := 1) hx hb dL_law_1231 (by decide) ?_
    refine lv_iadd hx hb dL_law_1232 ?_
    refine va_sld hx hb hX hbl hbA hA.2.2 h1 dL_law_1233 ?_
    refine lv_aload_n hx hb dL_law_1234 rfl (lv_at hl 0 rfl) ?_
    refine lv_iload hx hb dL_law_1235 (lv_at hl 4 rfl) ?_
    refine lv_iconst (v := 2) hx hb dL_law_1237 (by decide) ?_
    refine lv_iadd hx hb dL_law_1238 ?_
    refine va_sld hx hb hX hbl hbA hA.2.2 h2 dL_law_1239 ?_
    refine lv_aload_n hx hb dL_law_1240 rfl (lv_at hl 3 rfl) ?_
    refine r_fSW (r := 1) (w := (wX g σ ++ oc g o f)) (w1 := (wX g σ' ++ oc g o f)) (wr := wM (gq g u) τ) (As := [.ref (g.2.1 0), .int (xs (x4 + 1).toNatClampNeg), .int (xs (x4 + 2).toNatClampNeg), .ref o]) (rest := []) C hA hl.1 (k_L_gather_t2 C.2.2.2.2.2.2 hf1) (vx_cwSW 4 C.1.2.2.2.2 gL_law_L_gather rfl rfl rfl nd_L_gather ⟨Nat.le_of_ble_eq_true rfl, Nat.le_of_ble_eq_true rfl⟩) rfl rfl (Nat.le_of_ble_eq_true rfl) dL_law_1241 ⟨by show cells + 1 ≤ 601024; omega, by show slots + 6 ≤ 7293034; omega⟩ (fun H locs hA => ?_)
    refine lv_istore (lv' := [(5, .int 1), (0, .ref b), (1, .ref (g.2.1 0)), (2, .ref (u 0)), (3, .ref o), (4, .int x4)]) hx hb dL_law_1244 hl (by decide) rfl (fun ls hl => ?_)
    refine lv_aload_n hx hb dL_law_1246 rfl (lv_at hl 3 rfl) ?_
    refine lv_aload_n hx hb dL_law_1247 rfl (lv_at hl 1 rfl) ?_
    refine lv_iload hx hb dL_law_1248 (lv_at hl 5 rfl) ?_
    refine lv_iconst (v := 1) hx hb dL_law_1250 (by decide) ?_
    refine lv_iadd hx hb dL_law_1251 ?_
    refine va_sld hx hb hX hbl hbA hA.2.2 h1 dL_law_1252 ?_
    refine lv_aload_n hx hb dL_law_1253 rfl (lv_at hl 1 rfl) ?_
    refine lv_iload hx hb dL_law_1254 (lv_at hl 5 rfl) ?_
    refine lv_iconst (v := 2) hx hb dL_law_1256 (by decide) ?_
    refine lv_iadd hx hb dL_law_1257 ?_
    refine va_sld hx hb hX hbl hbA hA.2.2 h2 dL_law_1258 ?_
    replace hA := Aw_swap hA
    refine r_fVl (r := v) (w := wM (gq g u) τ) (w1 := wM (gq g u) τ') (wr := wX g σ' ++ oc g o f) (As := [.int (xs (x4 + 1).toNatClampNeg), .int (xs (x4 + 2).toNatClampNeg)]) (rest := []) C hA hl.1 (k_X8_gather (g := gq g u) C.2.2.2.2.2.2 hf2) (cwV 2 C.1.2.2.2.2 gL_law_X8_gather rfl rfl rfl nd_X8_gather ⟨Nat.le_of_ble_eq_true rfl, Nat.le_of_ble_eq_true rfl⟩) 0 rfl rfl rfl rfl (Nat.le_of_ble_eq_true rfl) dL_law_1259 ⟨by show _ ≤ 601024; omega, by show _ ≤ 7293034; omega⟩ (fun H locs hA => ?_)
    replace hA := Aw_swap hA
    refine lv_lstore (lv' := [(6, .long v), (5, .int 1), (0, .ref b), (1, .ref (g.2.1 0)), (2, .ref (u 0)), (3, .ref o), (4, .int x4)]) hx hb dL_law_1262 hl (by decide) rfl (fun ls hl => ?_)
    refine lv_aload_n hx hb dL_law_1264 rfl (lv_at hl 4 rfl) ?_
    replace hA := Aw_swap hA
    refine r_fVi (r := (τ'.1 0)) (w := wM (gq g u) τ') (w1 := wM (gq g u) τ') (wr := wX g σ' ++ oc g o f) (As := []) (rest := []) C hA hl.1 (k_X8_thrown (g := gq g u) (fu := fu) C.2.2.2.2.2.2 rfl) (cwV 0 C.1.2.2.2.2 gL_law_X8_thrown rfl rfl rfl nd_X8_thrown ⟨Nat.le_of_ble_eq_true rfl, Nat.le_of_ble_eq_true rfl⟩) 0 rfl rfl rfl rfl (Nat.le_of_ble_eq_true rfl) dL_law_1265 ⟨by show _ ≤ 601024; omega, by show _ ≤ 7293034; omega⟩ (fun H locs hA => ?_)
    replace hA := Aw_swap hA
    refine lv_iload hx hb dL_law_1268 (lv_at hl 1 rfl) ?_
    refine lv_icmp_eq (tgt := 1275) hx hb dL_law_1270 (by decide) (fun c1 => ?_) (fun c1 => absurd ht c1)
    refine lv_iload hx hb dL_law_1275 (lv_at hl 1 rfl) ?_
    refine lv_if_ne (tgt := 1291) hx hb dL_law_1277 (by decide) (fun c1 => ?_) (fun c1 => absurd c1 (by decide))
    refine lv_goto (tgt := 1387) hx hb dL_law_1291 (by decide) ?_
    refine W.widen (k := cells + 1) (n := slots + 6) (by show _ ≤ cells + 1; omega) (by show _ ≤ slots + 6; omega) ?_
    exact hk _ _ _ _ _ _ hRel hA (lv_sub hl [2, 3, 4, 5, 6] rfl)
set_option maxHeartbeats 4000000 in
set_option maxRecDepth 100000 in
theorem law_c19 (SIM : Sim_hold fu Rel) (C : Cx p l s m args meth c code 8 wsL_law ret RL g A) (hX : va_X b L xs s s.heap) (hbl : b < s.heap.size) (hbA : ¬ A b) (hRel0 : Rel σ τ) (hrc : cells + 1 ≤ 601024) (hrs : slots + 6 ≤ 7293034) (h1 : vp_in (x4 + 1) L) (h2 : vp_in (x4 + 2) L) (h3 : vp_in (x4 + 3) L) (h4 : vp_in (x4 + 4) L) (h5 : vp_in (x4 + 5) L) (hA : Aw g A s.heap ((wX g σ ++ oc g o f) ++ wM (gq g u) τ) H locs) (hl : lv_has ls 8 [(0, .ref b), (1, .ref (g.2.1 0)), (2, .ref (u 0)), (3, .ref o), (4, .int x4)]) (hk : Kont p l e s m args below meth c Q g A Rel b o u x4 (cells + 1) (slots + 6)) : W p l e room_1 s m args below meth c H locs cells slots Q (F0 m 1294 ls []) := by
  have hx := C.1.1
  have hb := C.1.2.1
  rcases SIM σ τ hRel0 (xs (x4 + 1).toNatClampNeg) (xs (x4 + 2).toNatClampNeg) with ⟨v, σ', τ', hf1, hf2, ht, hRel⟩ | ⟨v, σ', τ', hf1, hf2, ht, hRel⟩
  · refine lv_aload_n hx hb dL_law_1294 rfl (lv_at hl 1 rfl) ?_
    refine lv_aload_n hx hb dL_law_1295 rfl (lv_at hl 0 rfl) ?_
    refine lv_iload hx hb dL_law_1296 (lv_at hl 4 rfl) ?_
    refine lv_iconst (v := 1) hx hb dL_law_1298 (by decide) ?_
    refine lv_iadd hx hb dL_law_1299 ?_
    refine va_sld hx hb hX hbl hbA hA.2.2 h1 dL_law_1300 ?_
    refine lv_aload_n hx hb dL_law_1301 rfl (lv_at hl 0 rfl) ?_
    refine lv_iload hx hb dL_law_1302 (lv_at hl 4 rfl) ?_
    refine lv_iconst (v := 2) hx hb dL_law_1304 (by decide) ?_
    refine lv_iadd hx hb dL_law_1305 ?_
    refine va_sld hx hb hX hbl hbA hA.2.2 h2 dL_law_1306 ?_
    refine lv_aload_n hx hb dL_law_1307 rfl (lv_at hl 3 rfl) ?_
    refine r_fSW (r := 0) (w := (wX g σ ++ oc g o f)) (w1 := (wX g σ' ++ oc g o (vp_updL f (0 : Int32).toNatClampNeg v.toInt64))) (wr := wM (gq g u) τ) (As := [.ref (g.2.1 0), .int (xs (x4 + 1).toNatClampNeg), .int (xs (x4 + 2).toNatClampNeg), .ref o]) (rest := []) C hA hl.1 (k_L_hold C.2.2.2.2.2.2 hf1) (vx_cwSW 4 C.1.2.2.2.2 gL_law_L_hold rfl rfl rfl nd_L_hold ⟨Nat.le_of_ble_eq_true rfl, Nat.le_of_ble_eq_true rfl⟩) rfl rfl (Nat.le_of_ble_eq_true rfl) dL_law_1308 ⟨by show cells + 1 ≤ 601024; omega, by show slots + 6 ≤ 7293034; omega⟩ (fun H locs hA => ?_)
    refine lv_istore (lv' := [(5, .int 0), (0, .ref b), (1, .ref (g.2.1 0)), (2, .ref (u 0)), (3, .ref o), (4, .int x4)]) hx hb dL_law_1311 hl (by decide) rfl (fun ls hl => ?_)
    refine lv_aload_n hx hb dL_law_1313 rfl (lv_at hl 3 rfl) ?_
    refine lv_aload_n hx hb dL_law_1314 rfl (lv_at hl 1 rfl) ?_
    refine lv_iload hx hb dL_law_1315 (lv_at hl 5 rfl) ?_
    refine lv_iconst (v := 1) hx hb dL_law_1317 (by decide) ?_
    refine lv_iadd hx hb dL_law_1318 ?_
    refine va_sld hx hb hX hbl hbA hA.2.2 h1 dL_law_1319 ?_
    refine lv_aload_n hx hb dL_law_1320 rfl (lv_at hl 1 rfl) ?_
    refine lv_iload hx hb dL_law_1321 (lv_at hl 5 rfl) ?_
    refine lv_iconst (v := 2) hx hb dL_law_1323 (by decide) ?_
    refine lv_iadd hx hb dL_law_1324 ?_
    refine va_sld hx hb hX hbl hbA hA.2.2 h2 dL_law_1325 ?_
    replace hA := Aw_swap hA
    refine r_fVi (r := v) (w := wM (gq g u) τ) (w1 := wM (gq g u) τ') (wr := wX g σ' ++ oc g o (vp_updL f (0 : Int32).toNatClampNeg v.toInt64)) (As := [.int (xs (x4 + 1).toNatClampNeg), .int (xs (x4 + 2).toNatClampNeg)]) (rest := []) C hA hl.1 (k_X8_hold (g := gq g u) C.2.2.2.2.2.2 hf2) (cwV 2 C.1.2.2.2.2 gL_law_X8_hold rfl rfl rfl nd_X8_hold ⟨Nat.le_of_ble_eq_true rfl, Nat.le_of_ble_eq_true rfl⟩) 0 rfl rfl rfl rfl (Nat.le_of_ble_eq_true rfl) dL_law_1326 ⟨by show _ ≤ 601024; omega, by show _ ≤ 7293034; omega⟩ (fun H locs hA => ?_)
    replace hA := Aw_swap hA
    refine lv_istore (lv' := [(6, .int v), (5, .int 0), (0, .ref b), (1, .ref (g.2.1 0)), (2, .ref (u 0)), (3, .ref o), (4, .int x4)]) hx hb dL_law_1329 hl (by decide) rfl (fun ls hl => ?_)
    refine lv_aload_n hx hb dL_law_1331 rfl (lv_at hl 4 rfl) ?_
    replace hA := Aw_swap hA
    refine r_fVi (r := (τ'.1 0)) (w := wM (gq g u) τ') (w1 := wM (gq g u) τ') (wr := wX g σ' ++ oc g o (vp_updL f (0 : Int32).toNatClampNeg v.toInt64)) (As := []) (rest := []) C hA hl.1 (k_X8_thrown (g := gq g u) (fu := fu) C.2.2.2.2.2.2 rfl) (cwV 0 C.1.2.2.2.2 gL_law_X8_thrown rfl rfl rfl nd_X8_thrown ⟨Nat.le_of_ble_eq_true rfl, Nat.le_of_ble_eq_true rfl⟩) 0 rfl rfl rfl rfl (Nat.le_of_ble_eq_true rfl) dL_law_1332 ⟨by show _ ≤ 601024; omega, by show _ ≤ 7293034; omega⟩ (fun H locs hA => ?_)
    replace hA := Aw_swap hA
    refine lv_iload hx hb dL_law_1335 (lv_at hl 1 rfl) ?_
    refine lv_icmp_eq (tgt := 1342) hx hb dL_law_1337 (by decide) (fun c1 => ?_) (fun c1 => absurd ht c1)
    refine lv_iload hx hb dL_law_1342 (lv_at hl 1 rfl) ?_
    refine lv_if_ne (tgt := 1359) hx hb dL_law_1344 (by decide) (fun c1 => absurd rfl c1) (fun c1 => ?_)
    refine lv_aload_n hx hb dL_law_1347 rfl (lv_at hl 5 rfl) ?_
    refine lv_iconst (v := 0) hx hb dL_law_1348 (by decide) ?_
    refine r_lald C hA 44 1 rfl rfl (by decide) dL_law_1349 ?_
    rw [pk_uLs]
    refine lv_iload hx hb dL_law_1350 (lv_at hl 0 rfl) ?_
    refine lv_i2l (v := v.toInt64) hx hb dL_law_1352 rfl ?_
    refine W.lcmp hx hb dL_law_1353 ?_
    refine lv_if_eq (tgt := 1359) hx hb dL_law_1354 (by decide) (fun c1 => ?_) (fun c1 => absurd (lgc _) c1)
    refine lv_goto (tgt := 1387) hx hb dL_law_1359 (by decide) ?_
    refine W.widen (k := cells + 1) (n := slots + 6) (by show _ ≤ cells + 1; omega) (by show _ ≤ slots + 6; omega) ?_
    exact hk _ _ _ _ _ _ hRel hA (lv_sub hl [2, 3, 4, 5, 6] rfl)
  · refine lv_aload_n hx hb dL_law_1294 rfl (lv_at hl 1 rfl) ?_
    refine lv_aload_n hx hb dL_law_1295 rfl (lv_at hl 0 rfl) ?_
    refine lv_iload hx hb dL_law_1296 (lv_at hl 4 rfl) ?_
    refine lv_iconst (v := 1) hx hb dL_law_1298 (by decide) ?_
    refine lv_iadd hx hb dL_law_1299 ?_
    refine va_sld hx hb hX hbl hbA hA.2.2 h1 dL_law_1300 ?_
    refine lv_aload_n hx hb dL_law_1301 rfl (lv_at hl 0 rfl) ?_
    refine lv_iload hx hb dL_law_1302 (lv_at hl 4 rfl) ?_
    refine lv_iconst (v := 2) hx hb dL_law_1304 (by decide) ?_
    refine lv_iadd hx hb dL_law_1305 ?_
    refine va_sld hx hb hX hbl hbA hA.2.2 h2 dL_law_1306 ?_
    refine lv_aload_n hx hb dL_law_1307 rfl (lv_at hl 3 rfl) ?_
    refine r_fSW (r := 1) (w := (wX g σ ++ oc g o f)) (w1 := (wX g σ' ++ oc g o f)) (wr := wM (gq g u) τ) (As := [.ref (g.2.1 0), .int (xs (x4 + 1).toNatClampNeg), .int (xs (x4 + 2).toNatClampNeg), .ref o]) (rest := []) C hA hl.1 (k_L_hold_t2 C.2.2.2.2.2.2 hf1) (vx_cwSW 4 C.1.2.2.2.2 gL_law_L_hold rfl rfl rfl nd_L_hold ⟨Nat.le_of_ble_eq_true rfl, Nat.le_of_ble_eq_true rfl⟩) rfl rfl (Nat.le_of_ble_eq_true rfl) dL_law_1308 ⟨by show cells + 1 ≤ 601024; omega, by show slots + 6 ≤ 7293034; omega⟩ (fun H locs hA => ?_)
    refine lv_istore (lv' := [(5, .int 1), (0, .ref b), (1, .ref (g.2.1 0)), (2, .ref (u 0)), (3, .ref o), (4, .int x4)]) hx hb dL_law_1311 hl (by decide) rfl (fun ls hl => ?_)
    refine lv_aload_n hx hb dL_law_1313 rfl (lv_at hl 3 rfl) ?_
    refine lv_aload_n hx hb dL_law_1314 rfl (lv_at hl 1 rfl) ?_
    refine lv_iload hx hb dL_law_1315 (lv_at hl 5 rfl) ?_
    refine lv_iconst (v := 1) hx hb dL_law_1317 (by decide) ?_
    refine lv_iadd hx hb dL_law_1318 ?_
    refine va_sld hx hb hX hbl hbA hA.2.2 h1 dL_law_1319 ?_
    refine lv_aload_n hx hb dL_law_1320 rfl (lv_at hl 1 rfl) ?_
    refine lv_iload hx hb dL_law_1321 (lv_at hl 5 rfl) ?_
    refine lv_iconst (v := 2) hx hb dL_law_1323 (by decide) ?_
    refine lv_iadd hx hb dL_law_1324 ?_
    refine va_sld hx hb hX hbl hbA hA.2.2 h2 dL_law_1325 ?_
    replace hA := Aw_swap hA
    refine r_fVi (r := v) (w := wM (gq g u) τ) (w1 := wM (gq g u) τ') (wr := wX g σ' ++ oc g o f) (As := [.int (xs (x4 + 1).toNatClampNeg), .int (xs (x4 + 2).toNatClampNeg)]) (rest := []) C hA hl.1 (k_X8_hold (g := gq g u) C.2.2.2.2.2.2 hf2) (cwV 2 C.1.2.2.2.2 gL_law_X8_hold rfl rfl rfl nd_X8_hold ⟨Nat.le_of_ble_eq_true rfl, Nat.le_of_ble_eq_true rfl⟩) 0 rfl rfl rfl rfl (Nat.le_of_ble_eq_true rfl) dL_law_1326 ⟨by show _ ≤ 601024; omega, by show _ ≤ 7293034; omega⟩ (fun H locs hA => ?_)
    replace hA := Aw_swap hA
    refine lv_istore (lv' := [(6, .int v), (5, .int 1), (0, .ref b), (1, .ref (g.2.1 0)), (2, .ref (u 0)), (3, .ref o), (4, .int x4)]) hx hb dL_law_1329 hl (by decide) rfl (fun ls hl => ?_)
    refine lv_aload_n hx hb dL_law_1331 rfl (lv_at hl 4 rfl) ?_
    replace hA := Aw_swap hA
    refine r_fVi (r := (τ'.1 0)) (w := wM (gq g u) τ') (w1 := wM (gq g u) τ') (wr := wX g σ' ++ oc g o f) (As := []) (rest := []) C hA hl.1 (k_X8_thrown (g := gq g u) (fu := fu) C.2.2.2.2.2.2 rfl) (cwV 0 C.1.2.2.2.2 gL_law_X8_thrown rfl rfl rfl nd_X8_thrown ⟨Nat.le_of_ble_eq_true rfl, Nat.le_of_ble_eq_true rfl⟩) 0 rfl rfl rfl rfl (Nat.le_of_ble_eq_true rfl) dL_law_1332 ⟨by show _ ≤ 601024; omega, by show _ ≤ 7293034; omega⟩ (fun H locs hA => ?_)
    replace hA := Aw_swap hA
    refine lv_iload hx hb dL_law_1335 (lv_at hl 1 rfl) ?_
    refine lv_icmp_eq (tgt := 1342) hx hb dL_law_1337 (by decide) (fun c1 => ?_) (fun c1 => absurd ht c1)
    refine lv_iload hx hb dL_law_1342 (lv_at hl 1 rfl) ?_
    refine lv_if_ne (tgt := 1359) hx hb dL_law_1344 (by decide) (fun c1 => ?_) (fun c1 => absurd c1 (by decide))
    refine lv_goto (tgt := 1387) hx hb dL_law_1359 (by decide) ?_
    refine W.widen (k := cells + 1) (n := slots + 6) (by show _ ≤ cells + 1; omega) (by show _ ≤ slots + 6; omega) ?_
    exact hk _ _ _ _ _ _ hRel hA (lv_sub hl [2, 3, 4, 5, 6] rfl)
set_option maxHeartbeats 4000000 in
set_option maxRecDepth 100000 in
theorem law_c20 (SIM : Sim_count fu Rel) (C : Cx p l s m args meth c code 8 wsL_law ret RL g A) (hX : va_X b L xs s s.heap) (hbl : b < s.heap.size) (hbA : ¬ A b) (hRel0 : Rel σ τ) (hrc : cells + 1 ≤ 601024) (hrs : slots + 6 ≤ 7293034) (h1 : vp_in (x4 + 1) L) (h2 : vp_in (x4 + 2) L) (h3 : vp_in (x4 + 3) L) (h4 : vp_in (x4 + 4) L) (h5 : vp_in (x4 + 5) L) (hA : Aw g A s.heap ((wX g σ ++ oc g o f) ++ wM (gq g u) τ) H locs) (hl : lv_has ls 8 [(0, .ref b), (1, .ref (g.2.1 0)), (2, .ref (u 0)), (3, .ref o), (4, .int x4)]) (hk : Kont p l e s m args below meth c Q g A Rel b o u x4 (cells + 1) (slots + 6)) : W p l e room_1 s m args below meth c H locs cells slots Q (F0 m 1362 ls []) := by
  have hx := C.1.1
  have hb := C.1.2.1
  obtain ⟨v, τ', hf1, hf2, hRel⟩ := SIM σ τ hRel0 (xs (x4 + 1).toNatClampNeg)
  refine lv_aload_n hx hb dL_law_1362 rfl (lv_at hl 1 rfl) ?_
  refine lv_aload_n hx hb dL_law_1363 rfl (lv_at hl 0 rfl) ?_
  refine lv_iload hx hb dL_law_1364 (lv_at hl 4 rfl) ?_
  refine lv_iconst (v := 1) hx hb dL_law_1366 (by decide) ?_
  refine lv_iadd hx hb dL_law_1367 ?_
  refine va_sld hx hb hX hbl hbA hA.2.2 h1 dL_law_1368 ?_
  replace hA := Aw_as hA
  refine r_fVi (r := v) (w := wX g σ) (w1 := wX g σ) (wr := oc g o f ++ wM (gq g u) τ) (As := [.int (xs (x4 + 1).toNatClampNeg)]) (rest := []) C hA hl.1 (k_X7_count C.2.2.2.2.2.2 hf1) (cwV 1 C.1.2.2.2.2 gL_law_X7_count rfl rfl rfl nd_X7_count ⟨Nat.le_of_ble_eq_true rfl, Nat.le_of_ble_eq_true rfl⟩) 0 rfl rfl rfl rfl (Nat.le_of_ble_eq_true rfl) dL_law_1369 ⟨by show cells + 0 ≤ 601024; omega, by show slots + 0 ≤ 7293034; omega⟩ (fun H locs hA => ?_)
  replace hA := Aw_sa hA
  refine lv_aload_n hx hb dL_law_1372 rfl (lv_at hl 2 rfl) ?_
  refine lv_aload_n hx hb dL_law_1373 rfl (lv_at hl 0 rfl) ?_
  refine lv_iload hx hb dL_law_1374 (lv_at hl 4 rfl) ?_
  refine lv_iconst (v := 1) hx hb dL_law_1376 (by decide) ?_
  refine lv_iadd hx hb dL_law_1377 ?_
  refine va_sld hx hb hX hbl hbA hA.2.2 h1 dL_law_1378 ?_
  replace hA := Aw_swap hA
  refine r_fVi (r := v) (w := wM (gq g u) τ) (w1 := wM (gq g u) τ') (wr := wX g σ ++ oc g o f) (As := [.int (xs (x4 + 1).toNatClampNeg)]) (rest := [.int v]) C hA hl.1 (k_X8_count (g := gq g u) C.2.2.2.2.2.2 hf2) (cwV 1 C.1.2.2.2.2 gL_law_X8_count rfl rfl rfl nd_X8_count ⟨Nat.le_of_ble_eq_true rfl, Nat.le_of_ble_eq_true rfl⟩) 0 rfl rfl rfl rfl (Nat.le_of_ble_eq_true rfl) dL_law_1379 ⟨by show _ ≤ 601024; omega, by show _ ≤ 7293034; omega⟩ (fun H locs hA => ?_)
  replace hA := Aw_swap hA
  refine lv_icmp_eq (tgt := 1387) hx hb dL_law_1382 (by decide) (fun c1 => ?_) (fun c1 => absurd rfl c1)
  refine W.widen (k := cells + 1) (n := slots + 6) (by show _ ≤ cells + 1; omega) (by show _ ≤ slots + 6; omega) ?_
  exact hk _ _ _ _ _ _ hRel hA (lv_sub hl [0, 1, 2, 3, 4] rfl)
end
