/-! A call's world beside the rest's, as lists joined -/
theorem fP_l {D : va_G} {cl : List vw_C} {a b : va_W} {H : Heap} (h : va_P D cl (a ++ b) H) : va_P D cl a H := fun k q hk => h k q (by rw [List.getElem?_append_left (List.getElem?_eq_some_iff.mp hk).1]; exact hk)
theorem fP_r {D : va_G} {cl : List vw_C} {a b : va_W} {H : Heap} (h : va_P D cl (a ++ b) H) : va_P D cl b H := fun k q hk => h (a.length + k) q (by rw [List.getElem?_append_right (Nat.le_add_right _ _)]; simpa using hk)
theorem fD_l {A : Nat → Prop} {a b : va_W} (h : va_D A (a ++ b)) : va_D A a := by
  have k : ∀ (i : Nat) (p : Nat × va_E), a[i]? = some p → (a ++ b)[i]? = some p := fun i p hi => by rw [List.getElem?_append_left (List.getElem?_eq_some_iff.mp hi).1]; exact hi
  exact ⟨fun i j p q hi hj e => h.1 i j p q (k i p hi) (k j q hj) e, fun i q hi => h.2 i q (k i q hi)⟩
theorem fD_r {A : Nat → Prop} {a b : va_W} (h : va_D A (a ++ b)) : va_D A b := by
  have k : ∀ (i : Nat) (p : Nat × va_E), b[i]? = some p → (a ++ b)[a.length + i]? = some p := fun i p hi => by rw [List.getElem?_append_right (Nat.le_add_right _ _)]; simpa using hi
  exact ⟨fun i j p q hi hj e => by have := h.1 _ _ p q (k i p hi) (k j q hj) e; omega, fun i q hi => h.2 _ q (k i q hi)⟩
theorem fD_x {A : Nat → Prop} {a b : va_W} (h : va_D A (a ++ b)) (i j : Nat) (p q : Nat × va_E) (hi : a[i]? = some p) (hj : b[j]? = some q) : p.1 ≠ q.1 := by
  intro e
  have hl := (List.getElem?_eq_some_iff.mp hi).1
  have h1 := h.1 i (a.length + j) p q (by rw [List.getElem?_append_left hl]; exact hi) (by rw [List.getElem?_append_right (Nat.le_add_right _ _)]; simpa using hj) e
  omega
theorem Aw_l {g : Gm} {A : Nat → Prop} {H0 H : Heap} {a b : va_W} {locs : List Loc} (h : Aw g A H0 (a ++ b) H locs) : Aw g A H0 a H locs := ⟨fP_l h.1, fD_l h.2.1, h.2.2⟩
theorem Aw_swap {g : Gm} {A : Nat → Prop} {H0 H : Heap} {a b : va_W} {locs : List Loc} (h : Aw g A H0 (a ++ b) H locs) : Aw g A H0 (b ++ a) H locs :=
  ⟨(fP_r h.1).app (fP_l h.1), (fD_r h.2.1).app (fD_l h.2.1) (fun i j p q hi hj e => fD_x h.2.1 j i q p hj hi e.symm), h.2.2⟩
section RowsF
variable {p : Program} {l : Launch} {e : Env} {R : Room} {s : State} {m : MethodId} {args : Array Value} {below : List Frame} {meth : Method} {c : Code} {H : Heap} {locs : List Loc} {cells slots : Nat} {Q : State → Prop}
variable {cc : ByteArray} {pc nL : Nat} {ls : Array Slot} {rest : List Value} {g : Gm} {A : Nat → Prop} {w wr : va_W} {Ts : List Cond} {own : String} {ret : Option FieldType}
theorem Aw_fr {w1 : va_W} {H1 : Heap} {locs1 : List Loc} (C : Cx p l s m args meth c cc nL Ts ret own g A) (h : Aw g A s.heap (w ++ wr) H locs) (hP1 : va_P g.1 vwCl w1 H1) (hD1 : va_D (va_A w H.size) w1) (hk : ∀ q : Nat, q < H.size → ¬ va_A w H.size q → H1[q]? = H[q]?) (hS : va_S A s.heap H1 locs1) : Aw g A s.heap (w1 ++ wr) H1 locs1 := by
  refine ⟨hP1.app ((fP_r h.1).kept (fun k q hq => hk q.1 (fP_r h.1 k q hq).lt ?_)), (hD1.weaken (fun _ _ _ q => Aw_in C (Aw_l h) rfl _ q)).app (fD_r h.2.1) (fun i j a b hi hj e => ?_), hS⟩
  · intro hz
    rcases hz with ⟨i, e, hi⟩ | hz
    · exact fD_x h.2.1 i k _ _ hi hq rfl
    · have := (fP_r h.1 k q hq).lt
      omega
  · rcases hD1.2 i a hi with ⟨k, e1, hk1⟩ | hz
    · exact fD_x h.2.1 k j _ _ hk1 hj e
    · have := (fP_r h.1 j b hj).lt
      omega
theorem r_fVi {y : MethodName} {wsY : List Cond} {rmY : Room} {bytes : ByteArray} {maxL n index b mc ms : Nat} {retY : Option FieldType} {As : List Value} {w1 : va_W} {r : Int32} {CN : String} {T : u_T} {N ci : Nat} {fs : List Value} {st : List Value}
    (C : Cx p l s m args meth c cc nL Ts ret own g A) (h : Aw g A s.heap (w ++ wr) H locs) (hl : ls.size = nL) (hM : ∀ sz, Met l y wsY rmY (Pw g w (.ref b :: As) sz) (Qi g (va_A w sz) w1 r) mc ms (va_A w sz))
    (cw : CallW R s args own CN index y bytes maxL retY wsY rmY mc ms n) (q0 : Nat) (he : w[q0]? = some (b, .inr (ci, fs))) (hc : vwCl[ci]? = some (CN, T, N)) (hn : As.length = n) (hst : st = As.reverse ++ .ref b :: rest) (hW : (rest.map fun v => v.category).sum ≤ 8) (hdg : decode cc pc = .ok (.invokevirtual index, 3)) (hf : cells + mc ≤ R.cells ∧ slots + ms ≤ R.slots)
    (kk : ∀ (H1 : Heap) (locs1 : List Loc), Aw g A s.heap (w1 ++ wr) H1 locs1 → W p l e R s m args below meth c H1 locs1 (cells + mc) (slots + ms) Q (F0 m (pc + 3) ls (.int r :: rest))) : W p l e R s m args below meth c H locs cells slots Q (F0 m pc ls st) := by
  refine va_calli (va_runV (As := As) (rest := rest) C.1 (hM H.size) cw ⟨Pw_blind, va_recv C.2.2.2.1 (fP_l h.1) hc he, Aw_pre C (Aw_l h)⟩ rfl hn hl hst (lv_room hW) hdg hf) h.2.2 (fun q _ hq => Aw_in C (Aw_l h) rfl q hq) (Aw_in C (Aw_l h) rfl) (fun r1 u t H1 locs1 ht hvm hw hB hz1 hk1 hS => ?_)
  cases hw
  exact kk H1 locs1 (Aw_fr C h (by rw [← ht]; exact hB.1) hB.2.2 hk1 hS)
theorem r_fVl {y : MethodName} {wsY : List Cond} {rmY : Room} {bytes : ByteArray} {maxL n index b mc ms : Nat} {retY : Option FieldType} {As : List Value} {w1 : va_W} {r : Int64} {CN : String} {T : u_T} {N ci : Nat} {fs : List Value} {st : List Value}
    (C : Cx p l s m args meth c cc nL Ts ret own g A) (h : Aw g A s.heap (w ++ wr) H locs) (hl : ls.size = nL) (hM : ∀ sz, Met l y wsY rmY (Pw g w (.ref b :: As) sz) (Ql g (va_A w sz) w1 r) mc ms (va_A w sz))
    (cw : CallW R s args own CN index y bytes maxL retY wsY rmY mc ms n) (q0 : Nat) (he : w[q0]? = some (b, .inr (ci, fs))) (hc : vwCl[ci]? = some (CN, T, N)) (hn : As.length = n) (hst : st = As.reverse ++ .ref b :: rest) (hW : (rest.map fun v => v.category).sum ≤ 8) (hdg : decode cc pc = .ok (.invokevirtual index, 3)) (hf : cells + mc ≤ R.cells ∧ slots + ms ≤ R.slots)
    (kk : ∀ (H1 : Heap) (locs1 : List Loc), Aw g A s.heap (w1 ++ wr) H1 locs1 → W p l e R s m args below meth c H1 locs1 (cells + mc) (slots + ms) Q (F0 m (pc + 3) ls (.long r :: rest))) : W p l e R s m args below meth c H locs cells slots Q (F0 m pc ls st) := by
  refine va_calll (va_runV (As := As) (rest := rest) C.1 (hM H.size) cw ⟨Pw_blind, va_recv C.2.2.2.1 (fP_l h.1) hc he, Aw_pre C (Aw_l h)⟩ rfl hn hl hst (lv_room hW) hdg hf) h.2.2 (fun q _ hq => Aw_in C (Aw_l h) rfl q hq) (Aw_in C (Aw_l h) rfl) (fun r1 u t H1 locs1 ht hvm hw hB hz1 hk1 hS => ?_)
  cases hw
  exact kk H1 locs1 (Aw_fr C h (by rw [← ht]; exact hB.1) hB.2.2 hk1 hS)
/-- a static method with a table of its own -/
theorem r_fSW {y : MethodName} {wsY : List Cond} {rmY : Room} {bytes : ByteArray} {maxL n index mc ms : Nat} {retY : Option FieldType} {hh : List (Nat × Nat × Nat × Nat)} {As : List Value} {w1 : va_W} {r : Int32} {st : List Value}
    (C : Cx p l s m args meth c cc nL Ts ret own g A) (h : Aw g A s.heap (w ++ wr) H locs) (hl : ls.size = nL) (hM : ∀ sz, Met l y wsY rmY (Pw g w As sz) (Qi g (va_A w sz) w1 r) mc ms (va_A w sz))
    (cw : vx_CSW R s args own index y bytes maxL retY hh wsY rmY mc ms n) (hn : As.length = n) (hst : st = As.reverse ++ rest) (hW : (rest.map fun v => v.category).sum ≤ 8) (hdg : decode cc pc = .ok (.invokestatic index, 3)) (hf : cells + mc ≤ R.cells ∧ slots + ms ≤ R.slots)
    (kk : ∀ (H1 : Heap) (locs1 : List Loc), Aw g A s.heap (w1 ++ wr) H1 locs1 → W p l e R s m args below meth c H1 locs1 (cells + mc) (slots + ms) Q (F0 m (pc + 3) ls (.int r :: rest))) : W p l e R s m args below meth c H locs cells slots Q (F0 m pc ls st) := by
  refine va_calli (vx_runSW (As := As) (rest := rest) C.1 (hM H.size) cw ⟨Pw_blind, Aw_pre C (Aw_l h)⟩ rfl hn hl hst (lv_room hW) hdg hf) h.2.2 (fun q _ hq => Aw_in C (Aw_l h) rfl q hq) (Aw_in C (Aw_l h) rfl) (fun r1 u t H1 locs1 ht hvm hw hB hz1 hk1 hS => ?_)
  cases hw
  exact kk H1 locs1 (Aw_fr C h (by rw [← ht]; exact hB.1) hB.2.2 hk1 hS)
/-- a callee throws: over to the table -/
theorem r_fXi {y : MethodName} {wsY : List Cond} {rmY : Room} {bytes : ByteArray} {maxL n index b j : Nat} {retY : Option FieldType} {As : List Value} {w1 : va_W} {CN : String} {T : u_T} {N ci : Nat} {fs : List Value} {st : List Value}
    (C : Cx p l s m args meth c cc nL Ts ret own g A) (h : Aw g A s.heap (w ++ wr) H locs) (hl : ls.size = nL) (hM : ∀ sz, vx_Met l y wsY rmY (Pw g w (.ref b :: As) sz) (QFi (va_A w sz)) (Xw g (va_A w sz) w1 j) 1 6 (va_A w sz))
    (cw : CallW R s args own CN index y bytes maxL retY wsY rmY 1 6 n) (q0 : Nat) (he : w[q0]? = some (b, .inr (ci, fs))) (hc : vwCl[ci]? = some (CN, T, N)) (hn : As.length = n) (hst : st = As.reverse ++ .ref b :: rest) (hW : (rest.map fun v => v.category).sum ≤ 8) (hdg : decode cc pc = .ok (.invokevirtual index, 3)) (hf : cells + 1 ≤ R.cells ∧ slots + 6 ≤ R.slots)
    (kx : ∀ (q9 : Addr) (ce : Cell) (H1 : Heap) (locs1 : List Loc), Aw g A s.heap (w1 ++ wr) H1 locs1 → H1[q9]? = some ce → ce.vm = .none → s.vm.findClass (en j) = some ce.cls → vx_W p l e R s m args below meth c H1 locs1 (cells + 1) (slots + 6) Q (F0 m pc ls rest) q9) : W p l e R s m args below meth c H locs cells slots Q (F0 m pc ls st) := by
  refine vx_calli (vx_runV (As := As) (rest := rest) C.1 (hM H.size) cw ⟨Pw_blind, va_recv C.2.2.2.1 (fP_l h.1) hc he, Aw_pre C (Aw_l h)⟩ rfl hn hl hst (lv_room hW) hdg hf) h.2.2 (fun q _ hq => Aw_in C (Aw_l h) rfl q hq) (Aw_in C (Aw_l h) rfl) (fun q _ hq => Aw_in C (Aw_l h) rfl q hq) (fun E ce q9 u t H1 locs1 ht hvm hp hB hz hk hS hce hcv hcl => ?_) (fun r u t H1 locs1 ht hvm hw hB hz1 hk1 hS => absurd hw id)
  have hE := hB.1
  subst hE
  exact kx q9 ce H1 locs1 (Aw_fr C h (by rw [← ht]; exact hB.2.1) hB.2.2.2 hk hS) hce hcv hcl
theorem r_fXl {y : MethodName} {wsY : List Cond} {rmY : Room} {bytes : ByteArray} {maxL n index b j : Nat} {retY : Option FieldType} {As : List Value} {w1 : va_W} {CN : String} {T : u_T} {N ci : Nat} {fs : List Value} {st : List Value}
    (C : Cx p l s m args meth c cc nL Ts ret own g A) (h : Aw g A s.heap (w ++ wr) H locs) (hl : ls.size = nL) (hM : ∀ sz, vx_Met l y wsY rmY (Pw g w (.ref b :: As) sz) (QFl (va_A w sz)) (Xw g (va_A w sz) w1 j) 1 6 (va_A w sz))
    (cw : CallW R s args own CN index y bytes maxL retY wsY rmY 1 6 n) (q0 : Nat) (he : w[q0]? = some (b, .inr (ci, fs))) (hc : vwCl[ci]? = some (CN, T, N)) (hn : As.length = n) (hst : st = As.reverse ++ .ref b :: rest) (hW : (rest.map fun v => v.category).sum ≤ 8) (hdg : decode cc pc = .ok (.invokevirtual index, 3)) (hf : cells + 1 ≤ R.cells ∧ slots + 6 ≤ R.slots)
    (kx : ∀ (q9 : Addr) (ce : Cell) (H1 : Heap) (locs1 : List Loc), Aw g A s.heap (w1 ++ wr) H1 locs1 → H1[q9]? = some ce → ce.vm = .none → s.vm.findClass (en j) = some ce.cls → vx_W p l e R s m args below meth c H1 locs1 (cells + 1) (slots + 6) Q (F0 m pc ls rest) q9) : W p l e R s m args below meth c H locs cells slots Q (F0 m pc ls st) := by
  refine vx_calll (vx_runV (As := As) (rest := rest) C.1 (hM H.size) cw ⟨Pw_blind, va_recv C.2.2.2.1 (fP_l h.1) hc he, Aw_pre C (Aw_l h)⟩ rfl hn hl hst (lv_room hW) hdg hf) h.2.2 (fun q _ hq => Aw_in C (Aw_l h) rfl q hq) (Aw_in C (Aw_l h) rfl) (fun q _ hq => Aw_in C (Aw_l h) rfl q hq) (fun E ce q9 u t H1 locs1 ht hvm hp hB hz hk hS hce hcv hcl => ?_) (fun r u t H1 locs1 ht hvm hw hB hz1 hk1 hS => absurd hw id)
  have hE := hB.1
  subst hE
  exact kx q9 ce H1 locs1 (Aw_fr C h (by rw [← ht]; exact hB.2.1) hB.2.2.2 hk hS) hce hcv hcl
end RowsF
theorem ofH {l : Launch} {y : MethodName} {ws ws' : List Cond} {rm : Room} {g : Gm} {w : va_W} {av : List Value} {sz : Nat} {Qc : Array Value → State → Outcome → State → Prop} {cc : ByteArray} {nL : Nat} {ret : Option FieldType} {own : String} {mc ms : Nat} {hh : List (Nat × Nat × Nat × Nat)}
    (hlt : l.stackTraces = false) (hy : plainName y.cls = true) (ho : y.cls = own) (hw : ws = Cond.codeWith y cc nL ret hh :: ws') (hlen : (lg_sl av).length ≤ nL)
    (body : ∀ (p : Program) (e : Env) (s : State) (m : MethodId) (below : List Frame) (meth : Method) (c : Code), s.heap.size = sz → Cx p l s m av.toArray meth c cc nL ws ret own g (va_A w sz) → c.exceptionTable.toList = tableOf hh → Aw g (va_A w sz) s.heap w s.heap [] → ∀ ls : Array Slot, lv_has ls nL (lv_args 0 av) → W p l e rm s m av.toArray below meth c s.heap [] 0 0 (MQ below Qc av.toArray s mc ms (va_A w sz)) (F0 m 0 ls [])) :
    Met l y ws rm (Pw g w av sz) Qc mc ms (va_A w sz) := by
  refine va_MetW (cc := cc) (maxL := nL) (ret := ret) hy hw ?_
  intro p e s m args below meth c s₁ B hml hv
  obtain ⟨rfl, hsz, hP, hK, hD0, hE⟩ := hv
  have hts := atoms_spec (ws := ws) B.pre
  have hown : s.vm.findClass own = some m.cls := by rw [← ho]; exact findClass_of_methodNamed B.named
  have hl := lv_entry av (n := nL) hlen
  rw [lg_entry_eq]
  exact body p e s m below meth c hsz ⟨⟨B.exec, B.bytes, hml, hown, hts⟩, B.returns, B.notSynchronized, hK, fun q h => Or.inr (by rw [← hsz]; exact h), hE, hlt⟩ (vx_table (x := y) B (hts _ (by rw [hw]; exact List.mem_cons_self))) ⟨hP, hD0.self, va_S.rf⟩ _ hl
abbrev oc (g : Gm) (o : Nat) (f : Nat → Int64) : va_W := [(o, .inl (g.2.2.1 1, 1, .inr (.inl f)))]
