/-! The pure words: a state is int fields, int rows, long rows, by numbers; loops with fuel -/
abbrev SS : Type := (Nat → Int32) × (Nat → Nat → Int32) × (Nat → Nat → Int64)
def sI (σ : SS) (k : Nat) (v : Int32) : SS := (fun j => bif Nat.beq j k then v else σ.1 j, σ.2.1, σ.2.2)
def sA (σ : SS) (a j : Nat) (v : Int32) : SS := (σ.1, fun b => bif Nat.beq b a then upd (σ.2.1 b) j v else σ.2.1 b, σ.2.2)
def sL (σ : SS) (a j : Nat) (v : Int64) : SS := (σ.1, σ.2.1, fun b => bif Nat.beq b a then vp_updL (σ.2.2 b) j v else σ.2.2 b)
def bnd {α β : Type} (o : Option (α × SS)) (k : α → SS → Option β) : Option β := match o with
  | none => none
  | some x => k x.1 x.2
theorem bd {α β : Type} {o : Option (α × SS)} {k : α → SS → Option β} {R : β} (h : bnd o k = some R) : ∃ (r : α) (t : SS), o = some (r, t) ∧ k r t = some R := by
  cases o with
  | none => cases h
  | some x => exact ⟨x.1, x.2, rfl, h⟩
theorem gd {β : Type} {P : Prop} [Decidable P] {A : Option β} {R : β} (h : (if P then A else none) = some R) : P ∧ A = some R := by
  by_cases hp : P
  · exact ⟨hp, (if_pos hp).symm.trans h⟩
  · rw [if_neg hp] at h
    cases h
abbrev inB (i : Int32) (n : Nat) : Prop := ¬ (i < 0 ∨ n ≤ i.toNatClampNeg)
def loopN {X β : Type} (body : (SS → X → Option β) → SS → X → Option β) : Nat → SS → X → Option β
  | 0 => fun _ _ => none
  | n + 1 => body (loopN body n)
theorem loopW {X β : Type} {body : (SS → X → Option β) → SS → X → Option β} {R : β} {P : SS → X → Prop} (hb : ∀ k : SS → X → Option β, (∀ σ x, k σ x = some R → P σ x) → ∀ σ x, body k σ x = some R → P σ x) : ∀ (n : Nat) (σ : SS) (x : X), loopN body n σ x = some R → P σ x
  | 0, _, _, h => by cases h
  | n + 1, σ, x, h => hb (loopN body n) (loopW hb n) σ x h
abbrev Gm : Type := va_G × (Nat → Nat) × (Nat → ClassId) × (Nat → Nat) × (Nat → Nat) × (Nat → Nat)
def tysG (g : Gm) : List (ClassId × FieldType) := [(g.2.2.1 0, .int), (g.2.2.1 1, .long), (g.2.2.1 2, .boolean), (g.2.2.1 3, .byte), (g.2.2.1 4, .array .long)]
abbrev lenJ : List Nat := [6, 4, 7, 6]
abbrev bytJ : List (List Int32) := [[114, 101, 116, 117, 114, 110], [108, 111, 97, 110], [119, 105, 116, 110, 101, 115, 115], [119, 105, 116, 104, 105, 110]]
theorem va_AOA.moved {ty : FieldType} {u U : State} (hvm : u.vm.Alike U.vm) (h : va_AOA ty u) : va_AOA ty U := by
  exact Jvm.Stand.arrayOver_alikeB hvm h
def en (k : Nat) : String := if k = 0 then "java/lang/IllegalArgumentException" else if k = 1 then "java/lang/IllegalStateException" else "java/lang/IndexOutOfBoundsException"
/-- the strings that are loaded, by class and place in its pool -/
def EvS (g : Gm) (U : State) : Prop := vk_R RX7 68 "blankets are 0 to 1,000,000" (g.2.2.2.2.2 0) U ∧ vk_R RX7 78 "there were 12 chiefs" (g.2.2.2.2.2 1) U ∧ vk_R RX7 92 "a text within the tape, from a year of 0 to 1,000" (g.2.2.2.2.2 2) U ∧ vk_R RX7 95 "there are 20 customs" (g.2.2.2.2.2 3) U ∧ vk_R RX7 143 "a worth is 1 to 1,000,000" (g.2.2.2.2.2 4) U ∧ vk_R RX7 149 "there were 30 coppers" (g.2.2.2.2.2 5) U ∧ vk_R RX7 160 "the copper is that chief's own" (g.2.2.2.2.2 6) U ∧ vk_R RX7 168 "of a copper 0 and 1 are told" (g.2.2.2.2.2 7) U ∧ vk_R RX7 189 "a chief is not its own heir" (g.2.2.2.2.2 8) U ∧ vk_R RX7 201 "0 to 100 years go by, up to the year 1,000" (g.2.2.2.2.2 9) U ∧ vk_R RX7 209 "no such debt" (g.2.2.2.2.2 10) U ∧ vk_R RX7 228 "of a debt 0 to 4 are told" (g.2.2.2.2.2 11) U ∧ vk_R RX7 236 "of a chief 0 to 2 are told" (g.2.2.2.2.2 12) U ∧ vk_R RX7 258 "no such chief" (g.2.2.2.2.2 13) U ∧ vk_R RX7 260 "that chief died" (g.2.2.2.2.2 14) U ∧ vk_R RX7 262 "no such copper" (g.2.2.2.2.2 15) U ∧ vk_R RX7 264 "at least 1, from one chief to another one" (g.2.2.2.2.2 16) U ∧ vk_R RX7 266 "guests and witnesses are chiefs, each one once" (g.2.2.2.2.2 17) U ∧ vk_R RX7 269 "a size is 1 to 100,000" (g.2.2.2.2.2 18) U ∧ vk_R RX6 53 "return" (g.2.2.2.1 0) U ∧ vk_R RX6 59 "loan" (g.2.2.2.1 1) U ∧ vk_R RX6 61 "witness" (g.2.2.2.1 2) U ∧ vk_R RX6 92 "within" (g.2.2.2.1 3) U ∧ vk_R RX8 129 "return" (g.2.2.2.1 0) U ∧ vk_R RX8 142 "within" (g.2.2.2.1 3) U ∧ vk_R RX8 144 "loan" (g.2.2.2.1 1) U ∧ vk_R RX8 146 "witness" (g.2.2.2.1 2) U ∧ va_Nw (.declares (Bundle.initS "java/lang/RuntimeException")) U ∧ va_Nw (.declares (Bundle.initS "java/lang/Exception")) U ∧ va_Nw (.declares (Bundle.initS Bundle.tN)) U ∧ va_Nc "java/lang/IllegalArgumentException" "java/lang/IndexOutOfBoundsException" U ∧ va_Nc "java/lang/IllegalStateException" "java/lang/IndexOutOfBoundsException" U ∧ va_Nc "java/lang/IllegalStateException" "java/lang/IllegalArgumentException" U ∧ va_AOA .long U
def Ev (g : Gm) (A : Nat → Prop) (U : State) (H : Heap) : Prop := vk_S 4 lenJ bytJ g.2.2.2.1 g.2.2.2.2.1 A U H ∧ va_Z "java/lang/String" "COMPACT_STRINGS" "Z" (.int 1) A U H ∧ va_Zq "jdk/internal/util/Preconditions" "SIOOBE_FORMATTER" "Ljava/util/function/BiFunction;" A U H ∧ vx_Zq Bundle.tN "UNASSIGNED_STACK" Bundle.steD A U H ∧ vx_Zq Bundle.tN "SUPPRESSED_SENTINEL" Bundle.listD A U H ∧ va_Nw (.castable "java/lang/IllegalArgumentException" "java/lang/IllegalArgumentException") U ∧ va_Nw (.castable "java/lang/IllegalStateException" "java/lang/IllegalStateException") U ∧ va_Nw (.castable "java/lang/IndexOutOfBoundsException" "java/lang/IndexOutOfBoundsException") U ∧ EvS g U
theorem cs_warm {a b : String} {s U : State} (hW : s.WarmedH U.vm) (hZ : va_Nw (.castable a b) s) : va_Nw (.castable a b) U := va_tabs rfl (rfl : (s.setVm U.vm).vm = U.vm) (by rw [Cond.castable_setVm hW.alike]; exact hZ)
theorem EvS.warm {g : Gm} {s U : State} (hW : s.WarmedH U.vm) (h : EvS g s) : EvS g U := by
  obtain ⟨a0, a1, a2, a3, a4, a5, a6, a7, a8, a9, a10, a11, a12, a13, a14, a15, a16, a17, a18, a19, a20, a21, a22, a23, a24, a25, a26, a27, a28, a29, a30, a31, a32, a33⟩ := h
  exact ⟨vk_R.warm hW a0, vk_R.warm hW a1, vk_R.warm hW a2, vk_R.warm hW a3, vk_R.warm hW a4, vk_R.warm hW a5, vk_R.warm hW a6, vk_R.warm hW a7, vk_R.warm hW a8, vk_R.warm hW a9, vk_R.warm hW a10, vk_R.warm hW a11, vk_R.warm hW a12, vk_R.warm hW a13, vk_R.warm hW a14, vk_R.warm hW a15, vk_R.warm hW a16, vk_R.warm hW a17, vk_R.warm hW a18, vk_R.warm hW a19, vk_R.warm hW a20, vk_R.warm hW a21, vk_R.warm hW a22, vk_R.warm hW a23, vk_R.warm hW a24, vk_R.warm hW a25, vk_R.warm hW a26, va_Nw.warmD hW a27, va_Nw.warmD hW a28, va_Nw.warmD hW a29, va_Nc.moved hW.alike a30, va_Nc.moved hW.alike a31, va_Nc.moved hW.alike a32, va_AOA.moved hW.alike a33⟩
theorem EvS.same {g : Gm} {s U : State} (hv : U.vm = s.vm) (h : EvS g s) : EvS g U := by
  obtain ⟨a0, a1, a2, a3, a4, a5, a6, a7, a8, a9, a10, a11, a12, a13, a14, a15, a16, a17, a18, a19, a20, a21, a22, a23, a24, a25, a26, a27, a28, a29, a30, a31, a32, a33⟩ := h
  exact ⟨vk_R.same hv a0, vk_R.same hv a1, vk_R.same hv a2, vk_R.same hv a3, vk_R.same hv a4, vk_R.same hv a5, vk_R.same hv a6, vk_R.same hv a7, vk_R.same hv a8, vk_R.same hv a9, vk_R.same hv a10, vk_R.same hv a11, vk_R.same hv a12, vk_R.same hv a13, vk_R.same hv a14, vk_R.same hv a15, vk_R.same hv a16, vk_R.same hv a17, vk_R.same hv a18, vk_R.same hv a19, vk_R.same hv a20, vk_R.same hv a21, vk_R.same hv a22, vk_R.same hv a23, vk_R.same hv a24, vk_R.same hv a25, vk_R.same hv a26, va_Nw.same rfl hv.symm a27, va_Nw.same rfl hv.symm a28, va_Nw.same rfl hv.symm a29, va_Nc.moved (by rw [hv]; exact Vm.Alike.refl s.vm) a30, va_Nc.moved (by rw [hv]; exact Vm.Alike.refl s.vm) a31, va_Nc.moved (by rw [hv]; exact Vm.Alike.refl s.vm) a32, va_AOA.moved (by rw [hv]; exact Vm.Alike.refl s.vm) a33⟩
theorem Ev.warm {g : Gm} {A : Nat → Prop} {s U : State} {H : Heap} (hW : s.WarmedH U.vm) (h : Ev g A s H) : Ev g A U H := by
  obtain ⟨a1, a2, a3, a4, a5, b1, b2, b3, c1⟩ := h
  exact ⟨a1.moved hW.alike, a2.moved hW.alike, a3.moved hW.alike, a4.moved hW.alike, a5.moved hW.alike, cs_warm hW b1, cs_warm hW b2, cs_warm hW b3, c1.warm hW⟩
theorem Ev.same {g : Gm} {A : Nat → Prop} {s U : State} {H : Heap} (hv : U.vm = s.vm) (h : Ev g A s H) : Ev g A U H := by
  obtain ⟨a1, a2, a3, a4, a5, b1, b2, b3, c1⟩ := h
  have hal : s.vm.Alike U.vm := by rw [hv]; exact Vm.Alike.refl s.vm
  exact ⟨a1.moved hal, a2.moved hal, a3.moved hal, a4.moved hal, a5.moved hal, va_Nw.same rfl hv.symm b1, va_Nw.same rfl hv.symm b2, va_Nw.same rfl hv.symm b3, c1.same hv⟩
theorem Ev.kept {g : Gm} {A : Nat → Prop} {U : State} {H H1 : Heap} (h : Ev g A U H) (hq : ∀ a : Nat, a < H.size → ¬ A a → H1[a]? = H[a]?) : Ev g A U H1 := by
  obtain ⟨a1, a2, a3, a4, a5, r⟩ := h
  exact ⟨a1.kept hq, a2.kept hq, a3.kept hq, a4.kept hq, a5.kept hq, r⟩
theorem Ev.narrow {g : Gm} {A B : Nat → Prop} {U : State} {H : Heap} (h : Ev g A U H) (hAB : ∀ q, B q → A q) : Ev g B U H := by
  obtain ⟨a1, a2, a3, a4, a5, r⟩ := h
  exact ⟨a1.narrow hAB, a2.narrow hAB, a3.narrow hAB, a4.narrow hAB, a5.narrow hAB, r⟩
/-! A method's surroundings, and the world at a point of it -/
def Cx (p : Program) (l : Launch) (s : State) (m : MethodId) (args : Array Value) (meth : Method) (c : Code) (cc : ByteArray) (nL : Nat) (Ts : List Cond) (ret : Option FieldType) (own : String) (g : Gm) (A : Nat → Prop) : Prop :=
  CallFix p m c cc nL s args Ts own ∧ meth.sig.returnType = ret ∧ meth.locks = false ∧ va_K g.1 vwCl (tysG g) s ∧ (∀ q, s.heap.size ≤ q → A q) ∧ Ev g A s s.heap ∧ l.stackTraces = false
def Aw (g : Gm) (A : Nat → Prop) (H0 : Heap) (w : va_W) (H : Heap) (locs : List Loc) : Prop := va_P g.1 vwCl w H ∧ va_D A w ∧ va_S A H0 H locs
def Pw (g : Gm) (w : va_W) (av : List Value) (sz : Nat) : Array Value → State → Prop := va_Pc av (fun U => U.heap.size = sz ∧ va_P g.1 vwCl w U.heap ∧ va_K g.1 vwCl (tysG g) U ∧ va_D (fun _ => True) w ∧ Ev g (va_A w sz) U U.heap)
def Bw (g : Gm) (A : Nat → Prop) (w : va_W) : Unit → State → Prop := fun _ t => va_P g.1 vwCl w t.heap ∧ va_K g.1 vwCl (tysG g) t ∧ va_D A w
def Qi (g : Gm) (A : Nat → Prop) (w : va_W) (r : Int32) : Array Value → State → Outcome → State → Prop := va_Qi (fun (v : Int32) (_ : Unit) => v = r) (Bw g A w) A
def Ql (g : Gm) (A : Nat → Prop) (w : va_W) (r : Int64) : Array Value → State → Outcome → State → Prop := va_Ql (fun (v : Int64) (_ : Unit) => v = r) (Bw g A w) A
def Qv (g : Gm) (A : Nat → Prop) (w : va_W) (_ : Unit) : Array Value → State → Outcome → State → Prop := va_Qv (fun (_ : Unit) => True) (Bw g A w) A
theorem Pw_blind {g : Gm} {w : va_W} {av : List Value} {sz : Nat} : FrameBlind (Pw g w av sz) := by
  intro a U gf mk q
  obtain ⟨q0, q1, qP, qK, qD, qE⟩ := q
  exact ⟨q0, q1, qP, va_K.moved (u := U) (U := U.calling gf mk a) (Vm.Alike.refl U.vm) qK, qD, Ev.same (s := U) (U := U.calling gf mk a) rfl qE⟩
theorem ofM {l : Launch} {y : MethodName} {ws ws' : List Cond} {rm : Room} {g : Gm} {w : va_W} {av : List Value} {sz : Nat} {Qc : Array Value → State → Outcome → State → Prop} {cc : ByteArray} {nL : Nat} {ret : Option FieldType} {own : String} {mc ms : Nat}
    (hlt : l.stackTraces = false) (hy : plainName y.cls = true) (ho : y.cls = own) (hw : ws = Cond.code y cc nL ret :: ws') (hlen : (lg_sl av).length ≤ nL)
    (body : ∀ (p : Program) (e : Env) (s : State) (m : MethodId) (below : List Frame) (meth : Method) (c : Code), s.heap.size = sz → Cx p l s m av.toArray meth c cc nL ws ret own g (va_A w sz) → Aw g (va_A w sz) s.heap w s.heap [] → ∀ ls : Array Slot, lv_has ls nL (lv_args 0 av) → W p l e rm s m av.toArray below meth c s.heap [] 0 0 (MQ below Qc av.toArray s mc ms (va_A w sz)) (F0 m 0 ls [])) :
    Met l y ws rm (Pw g w av sz) Qc mc ms (va_A w sz) := by
  refine Met.ofW (cc := cc) (maxL := nL) (ret := ret) hy hw ?_
  intro p e s m args below meth c s₁ B hml hv
  obtain ⟨rfl, hsz, hP, hK, hD0, hE⟩ := hv
  have hts := atoms_spec (ws := ws) B.pre
  have hown : s.vm.findClass own = some m.cls := by rw [← ho]; exact findClass_of_methodNamed B.named
  have hl := lv_entry av (n := nL) hlen
  rw [lg_entry_eq]
  exact body p e s m below meth c hsz ⟨⟨B.exec, B.bytes, hml, hown, hts⟩, B.returns, B.notSynchronized, hK, fun q h => Or.inr (by rw [← hsz]; exact h), hE, hlt⟩ ⟨hP, hD0.self, va_S.rf⟩ _ hl
section RowsB
variable {p : Program} {l : Launch} {e : Env} {R : Room} {s : State} {m : MethodId} {args : Array Value} {below : List Frame} {meth : Method} {c : Code} {H : Heap} {locs : List Loc} {cells slots : Nat} {Q : State → Prop}
variable {cc : ByteArray} {pc nL : Nat} {ls : Array Slot} {rest : List Value} {g : Gm} {A : Nat → Prop} {w : va_W} {Ts : List Cond} {own : String} {ret : Option FieldType}
theorem r_iret {v : Int32} (C : Cx p l s m args meth c cc nL Ts (some .int) own g A) (h : Aw g A s.heap w H locs) (hdg : decode cc pc = .ok (.ireturn, 1)) : W p l e R s m args below meth c H locs cells slots (MQ below (Qi g A w v) args s cells slots A) (F0 m pc ls [.int v]) := by
  have hlocks := C.2.2.1
  exact W.iret C.1.1 C.1.2.1 C.2.1 (fun t ht hW => ⟨⟨v, (), rfl, rfl, by rw [ht]; exact h.1, va_K.moved hW.alike C.2.2.2.1, h.2.1⟩, h.2.2.F ht⟩) h.2.2.2.2 hdg
theorem r_zret {v : Int32} (C : Cx p l s m args meth c cc nL Ts (some .boolean) own g A) (h : Aw g A s.heap w H locs) (hn : narrow .boolean (.int v) = .int v) (hdg : decode cc pc = .ok (.ireturn, 1)) : W p l e R s m args below meth c H locs cells slots (MQ below (Qi g A w v) args s cells slots A) (F0 m pc ls [.int v]) := by
  have hlocks := C.2.2.1
  exact W.zret C.1.1 C.1.2.1 C.2.1 hn (fun t ht hW => ⟨⟨v, (), rfl, rfl, by rw [ht]; exact h.1, va_K.moved hW.alike C.2.2.2.1, h.2.1⟩, h.2.2.F ht⟩) h.2.2.2.2 hdg
theorem r_lret {v : Int64} (C : Cx p l s m args meth c cc nL Ts (some .long) own g A) (h : Aw g A s.heap w H locs) (hdg : decode cc pc = .ok (.lreturn, 1)) : W p l e R s m args below meth c H locs cells slots (MQ below (Ql g A w v) args s cells slots A) (F0 m pc ls [.long v]) := by
  have hlocks := C.2.2.1
  exact W.lret C.1.1 C.1.2.1 C.2.1 (fun t ht hW => ⟨⟨v, (), rfl, rfl, by rw [ht]; exact h.1, va_K.moved hW.alike C.2.2.2.1, h.2.1⟩, h.2.2.F ht⟩) h.2.2.2.2 hdg
theorem r_vret {u : Unit} (C : Cx p l s m args meth c cc nL Ts none own g A) (h : Aw g A s.heap w H locs) (hdg : decode cc pc = .ok (.return_, 1)) : W p l e R s m args below meth c H locs cells slots (MQ below (Qv g A w u) args s cells slots A) (F0 m pc ls []) := by
  have hlocks := C.2.2.1
  exact W.vret C.1.1 C.1.2.1 C.2.1 (fun t ht hW => ⟨⟨(), rfl, trivial, by rw [ht]; exact h.1, va_K.moved hW.alike C.2.2.2.1, h.2.1⟩, h.2.2.F ht⟩) h.2.2.2.2 hdg
/-- a field is read: its value by its place in the world -/
theorem r_get {C0 ref : String} {T : u_T} {N ci index : Nat} {a : Nat} (C : Cx p l s m args meth c cc nL Ts ret own g A) (h : Aw g A s.heap w H locs) (hin : ∀ x ∈ u_ws C0 T N, x ∈ Ts) (q0 k : Nat) {fs : List Value} (he : w[q0]? = some (a, .inr (ci, fs))) (hc : vwCl[ci]? = some (C0, T, N)) (hk : k < N) {v : Value} (hv : fs[k]? = some v) (hr : ref = (T k).1) (hl : Cond.fieldLink own index ref (T k).2.1 (T k).2.2.1 ∈ Ts) (hdg : decode cc pc = .ok (.getfield index, 3))
    (kk : W p l e R s m args below meth c H locs cells slots Q (F0 m (pc + 3) ls (v :: rest))) : W p l e R s m args below meth c H locs cells slots Q (F0 m pc ls (.ref a :: rest)) :=
  va_get (D := g.1) (ci := ci) (v := v) (C := C0) (T := T) (N := N) C.1.1 C.1.2.1 C.1.2.2.2.2 hin C.1.2.2.2.1 C.2.2.2.1 h.1 q0 he hc k hk (C.1.2.2.2.2 _ hl) (fun x h9 => by rw [hr]; exact h9) hv hdg kk
/-- a field is written -/
theorem r_put {C0 ref : String} {T : u_T} {N ci index : Nat} {a : Nat} (C : Cx p l s m args meth c cc nL Ts ret own g A) (h : Aw g A s.heap w H locs) (hin : ∀ x ∈ u_ws C0 T N, x ∈ Ts) (ty0 : Nat → FieldType) (hty : ∀ k, k < N → parseFieldDescriptor (T k).2.2.1 = some (ty0 k)) (hnm : ∀ a, a < N → ∀ b, b < N → a ≠ b → (T a).2.1 ≠ (T b).2.1) (q0 k : Nat) {fs : List Value} (he : w[q0]? = some (a, .inr (ci, fs))) (hc : vwCl[ci]? = some (C0, T, N)) (hk : k < N) {v : Int32} (hd : parseFieldDescriptor (T k).2.2.1 = some .int) (hf : (T k).2.2.2 = false) (hfl : k < fs.length) (hr : ref = (T k).1) (hl : Cond.fieldLink own index ref (T k).2.1 (T k).2.2.1 ∈ Ts) (hdg : decode cc pc = .ok (.putfield index, 3)) {w1 : va_W} (hw : w.set q0 (a, .inr (ci, fs.set k (.int v))) = w1)
    (kk : ∀ (H1 : Heap) (locs1 : List Loc), Aw g A s.heap w1 H1 locs1 → W p l e R s m args below meth c H1 locs1 cells slots Q (F0 m (pc + 3) ls rest)) : W p l e R s m args below meth c H locs cells slots Q (F0 m pc ls (.int v :: .ref a :: rest)) := by
  subst hw
  exact va_put (D := g.1) (ci := ci) (v := .int v) (ty := .int) (C := C0) (T := T) (N := N) C.1.1 C.1.2.1 C.1.2.2.2.2 hin ty0 hty hnm C.1.2.2.2.1 C.2.2.2.1 h.1 h.2.1 h.2.2 q0 he hc k hk (C.1.2.2.2.2 _ hl) (fun x h9 => by rw [hr]; exact h9) hf hd rfl rfl hfl hdg (fun H1 locs1 hP hD hS => kk H1 locs1 ⟨hP, hD, hS⟩)
theorem r_iald {n a : Nat} {cA : ClassId} {f : Nat → Int32} {i : Int32} (C : Cx p l s m args meth c cc nL Ts ret own g A) (h : Aw g A s.heap w H locs) (q0 t0 : Nat) (ha : w[q0]? = some (a, .inl (cA, n, .inl f))) (ht : (tysG g)[t0]? = some (cA, .int)) (hin : inB i n) (hdg : decode cc pc = .ok (.iaload, 1))
    (kk : W p l e R s m args below meth c H locs cells slots Q (F0 m (pc + 1) ls (.int (f i.toNatClampNeg) :: rest))) : W p l e R s m args below meth c H locs cells slots Q (F0 m pc ls (.int i :: .ref a :: rest)) := va_iald C.1.1 C.1.2.1 C.2.2.2.1 h.1 q0 t0 ha ht hin hdg kk
theorem r_bald {n a : Nat} {cA : ClassId} {f : Nat → Int32} {i : Int32} (C : Cx p l s m args meth c cc nL Ts ret own g A) (h : Aw g A s.heap w H locs) (q0 t0 : Nat) (ha : w[q0]? = some (a, .inl (cA, n, .inl f))) (ht : (tysG g)[t0]? = some (cA, .byte)) (hin : inB i n) (hdg : decode cc pc = .ok (.baload, 1))
    (kk : W p l e R s m args below meth c H locs cells slots Q (F0 m (pc + 1) ls (.int (f i.toNatClampNeg) :: rest))) : W p l e R s m args below meth c H locs cells slots Q (F0 m pc ls (.int i :: .ref a :: rest)) := va_bald C.1.1 C.1.2.1 C.2.2.2.1 h.1 q0 t0 ha ht hin hdg kk
theorem r_zald {n a : Nat} {cA : ClassId} {f : Nat → Int32} {i : Int32} (C : Cx p l s m args meth c cc nL Ts ret own g A) (h : Aw g A s.heap w H locs) (q0 t0 : Nat) (ha : w[q0]? = some (a, .inl (cA, n, .inl f))) (ht : (tysG g)[t0]? = some (cA, .boolean)) (hin : inB i n) (hdg : decode cc pc = .ok (.baload, 1))
    (kk : W p l e R s m args below meth c H locs cells slots Q (F0 m (pc + 1) ls (.int (f i.toNatClampNeg) :: rest))) : W p l e R s m args below meth c H locs cells slots Q (F0 m pc ls (.int i :: .ref a :: rest)) := va_zald C.1.1 C.1.2.1 C.2.2.2.1 h.1 q0 t0 ha ht hin hdg kk
theorem r_lald {n a : Nat} {cA : ClassId} {f : Nat → Int64} {i : Int32} (C : Cx p l s m args meth c cc nL Ts ret own g A) (h : Aw g A s.heap w H locs) (q0 t0 : Nat) (ha : w[q0]? = some (a, .inl (cA, n, .inr (.inl f)))) (ht : (tysG g)[t0]? = some (cA, .long)) (hin : inB i n) (hdg : decode cc pc = .ok (.laload, 1))
    (kk : W p l e R s m args below meth c H locs cells slots Q (F0 m (pc + 1) ls (.long (f i.toNatClampNeg) :: rest))) : W p l e R s m args below meth c H locs cells slots Q (F0 m pc ls (.int i :: .ref a :: rest)) := va_lald C.1.1 C.1.2.1 C.2.2.2.1 h.1 q0 t0 ha ht hin hdg kk
theorem r_iast {n a : Nat} {cA : ClassId} {f : Nat → Int32} {i x : Int32} {w1 : va_W} (C : Cx p l s m args meth c cc nL Ts ret own g A) (h : Aw g A s.heap w H locs) (q0 t0 : Nat) (ha : w[q0]? = some (a, .inl (cA, n, .inl f))) (ht : (tysG g)[t0]? = some (cA, .int)) (hin : inB i n) (hdg : decode cc pc = .ok (.iastore, 1)) (hw : w.set q0 (a, .inl (cA, n, .inl (upd f i.toNatClampNeg x))) = w1)
    (kk : ∀ (H1 : Heap) (locs1 : List Loc), Aw g A s.heap w1 H1 locs1 → W p l e R s m args below meth c H1 locs1 cells slots Q (F0 m (pc + 1) ls rest)) : W p l e R s m args below meth c H locs cells slots Q (F0 m pc ls (.int x :: .int i :: .ref a :: rest)) := by
  subst hw
  exact va_iast C.1.1 C.1.2.1 C.2.2.2.1 h.1 h.2.1 h.2.2 q0 t0 ha ht hin hdg (fun H1 locs1 hP hD hS => kk H1 locs1 ⟨hP, hD, hS⟩)
theorem r_bast {n a : Nat} {cA : ClassId} {f : Nat → Int32} {i x : Int32} {w1 : va_W} (C : Cx p l s m args meth c cc nL Ts ret own g A) (h : Aw g A s.heap w H locs) (q0 t0 : Nat) (ha : w[q0]? = some (a, .inl (cA, n, .inl f))) (ht : (tysG g)[t0]? = some (cA, .byte)) (hin : inB i n) (hdg : decode cc pc = .ok (.bastore, 1)) (hw : w.set q0 (a, .inl (cA, n, .inl (upd f i.toNatClampNeg (vp_nar .byte x)))) = w1)
    (kk : ∀ (H1 : Heap) (locs1 : List Loc), Aw g A s.heap w1 H1 locs1 → W p l e R s m args below meth c H1 locs1 cells slots Q (F0 m (pc + 1) ls rest)) : W p l e R s m args below meth c H locs cells slots Q (F0 m pc ls (.int x :: .int i :: .ref a :: rest)) := by
  subst hw
  exact va_bast C.1.1 C.1.2.1 C.2.2.2.1 h.1 h.2.1 h.2.2 q0 t0 ha ht hin hdg (fun H1 locs1 hP hD hS => kk H1 locs1 ⟨hP, hD, hS⟩)
theorem r_zast {n a : Nat} {cA : ClassId} {f : Nat → Int32} {i x : Int32} {w1 : va_W} (C : Cx p l s m args meth c cc nL Ts ret own g A) (h : Aw g A s.heap w H locs) (q0 t0 : Nat) (ha : w[q0]? = some (a, .inl (cA, n, .inl f))) (ht : (tysG g)[t0]? = some (cA, .boolean)) (hin : inB i n) (hdg : decode cc pc = .ok (.bastore, 1)) (hw : w.set q0 (a, .inl (cA, n, .inl (upd f i.toNatClampNeg (vp_nar .boolean x)))) = w1)
    (kk : ∀ (H1 : Heap) (locs1 : List Loc), Aw g A s.heap w1 H1 locs1 → W p l e R s m args below meth c H1 locs1 cells slots Q (F0 m (pc + 1) ls rest)) : W p l e R s m args below meth c H locs cells slots Q (F0 m pc ls (.int x :: .int i :: .ref a :: rest)) := by
  subst hw
  exact va_zast C.1.1 C.1.2.1 C.2.2.2.1 h.1 h.2.1 h.2.2 q0 t0 ha ht hin hdg (fun H1 locs1 hP hD hS => kk H1 locs1 ⟨hP, hD, hS⟩)
theorem r_last {n a : Nat} {cA : ClassId} {f : Nat → Int64} {i : Int32} {x : Int64} {w1 : va_W} (C : Cx p l s m args meth c cc nL Ts ret own g A) (h : Aw g A s.heap w H locs) (q0 t0 : Nat) (ha : w[q0]? = some (a, .inl (cA, n, .inr (.inl f)))) (ht : (tysG g)[t0]? = some (cA, .long)) (hin : inB i n) (hdg : decode cc pc = .ok (.lastore, 1)) (hw : w.set q0 (a, .inl (cA, n, .inr (.inl (vp_updL f i.toNatClampNeg x)))) = w1)
    (kk : ∀ (H1 : Heap) (locs1 : List Loc), Aw g A s.heap w1 H1 locs1 → W p l e R s m args below meth c H1 locs1 cells slots Q (F0 m (pc + 1) ls rest)) : W p l e R s m args below meth c H locs cells slots Q (F0 m pc ls (.long x :: .int i :: .ref a :: rest)) := by
  subst hw
  exact va_last C.1.1 C.1.2.1 C.2.2.2.1 h.1 h.2.1 h.2.2 q0 t0 ha ht hin hdg (fun H1 locs1 hP hD hS => kk H1 locs1 ⟨hP, hD, hS⟩)
theorem Aw_in {sz : Nat} (C : Cx p l s m args meth c cc nL Ts ret own g A) (h : Aw g A s.heap w H locs) (hs : H.size = sz) : ∀ q, va_A w sz q → A q := by
  intro q hq
  rcases hq with ⟨k, e, hk⟩ | hq
  · exact h.2.1.2 k _ hk
  · exact C.2.2.2.2.1 q (Nat.le_trans h.2.2.1 (by omega))
theorem Aw_pre {As : List Value} (C : Cx p l s m args meth c cc nL Ts ret own g A) (h : Aw g A s.heap w H locs) : ∀ U : State, U.heap = H → s.WarmedH U.vm → Pw g w As H.size As.toArray U := fun U hU hW => ⟨rfl, by rw [hU], by rw [hU]; exact h.1, va_K.moved hW.alike C.2.2.2.1, h.2.1.weaken (fun _ _ _ _ => trivial), by rw [hU]; exact ((C.2.2.2.2.2.1.kept h.2.2.2.1).narrow (Aw_in C h rfl)).warm hW⟩
theorem Aw_back {sz : Nat} {w1 : va_W} {t : State} {H1 : Heap} {locs1 : List Loc} (C : Cx p l s m args meth c cc nL Ts ret own g A) (h : Aw g A s.heap w H locs) (hs : H.size = sz) (ht : t.heap = H1) (hB : Bw g (va_A w sz) w1 () t) (hS : va_S A s.heap H1 locs1) : Aw g A s.heap w1 H1 locs1 :=
  ⟨by rw [← ht]; exact hB.1, hB.2.2.weaken (fun _ _ _ q => Aw_in C h hs _ q), hS⟩
/-- a call within the same world: the method of an object that lies at place q0 -/
theorem r_callVi {y : MethodName} {wsY : List Cond} {rmY : Room} {bytes : ByteArray} {maxL n index b mc ms : Nat} {retY : Option FieldType} {As : List Value} {w1 : va_W} {r : Int32} {CN : String} {T : u_T} {N ci : Nat} {fs : List Value} {st : List Value}
    (C : Cx p l s m args meth c cc nL Ts ret own g A) (h : Aw g A s.heap w H locs) (hl : ls.size = nL) (hM : ∀ sz, Met l y wsY rmY (Pw g w (.ref b :: As) sz) (Qi g (va_A w sz) w1 r) mc ms (va_A w sz))
    (cw : CallW R s args own CN index y bytes maxL retY wsY rmY mc ms n) (q0 : Nat) (he : w[q0]? = some (b, .inr (ci, fs))) (hc : vwCl[ci]? = some (CN, T, N)) (hn : As.length = n) (hst : st = As.reverse ++ .ref b :: rest) (hW : (rest.map fun v => v.category).sum ≤ 8) (hdg : decode cc pc = .ok (.invokevirtual index, 3)) (hf : cells + mc ≤ R.cells ∧ slots + ms ≤ R.slots)
    (kk : ∀ (H1 : Heap) (locs1 : List Loc), Aw g A s.heap w1 H1 locs1 → W p l e R s m args below meth c H1 locs1 (cells + mc) (slots + ms) Q (F0 m (pc + 3) ls (.int r :: rest))) : W p l e R s m args below meth c H locs cells slots Q (F0 m pc ls st) := by
  refine va_calli (va_runV (As := As) (rest := rest) C.1 (hM H.size) cw ⟨Pw_blind, va_recv C.2.2.2.1 h.1 hc he, Aw_pre C h⟩ rfl hn hl hst (lv_room hW) hdg hf) h.2.2 (fun q _ hq => Aw_in C h rfl q hq) (Aw_in C h rfl) (fun r1 u t H1 locs1 ht hvm hw hB hz1 hk1 hS => ?_)
  cases hw
  exact kk H1 locs1 (Aw_back C h rfl ht hB hS)
theorem r_callVl {y : MethodName} {wsY : List Cond} {rmY : Room} {bytes : ByteArray} {maxL n index b mc ms : Nat} {retY : Option FieldType} {As : List Value} {w1 : va_W} {r : Int64} {CN : String} {T : u_T} {N ci : Nat} {fs : List Value} {st : List Value}
    (C : Cx p l s m args meth c cc nL Ts ret own g A) (h : Aw g A s.heap w H locs) (hl : ls.size = nL) (hM : ∀ sz, Met l y wsY rmY (Pw g w (.ref b :: As) sz) (Ql g (va_A w sz) w1 r) mc ms (va_A w sz))
    (cw : CallW R s args own CN index y bytes maxL retY wsY rmY mc ms n) (q0 : Nat) (he : w[q0]? = some (b, .inr (ci, fs))) (hc : vwCl[ci]? = some (CN, T, N)) (hn : As.length = n) (hst : st = As.reverse ++ .ref b :: rest) (hW : (rest.map fun v => v.category).sum ≤ 8) (hdg : decode cc pc = .ok (.invokevirtual index, 3)) (hf : cells + mc ≤ R.cells ∧ slots + ms ≤ R.slots)
    (kk : ∀ (H1 : Heap) (locs1 : List Loc), Aw g A s.heap w1 H1 locs1 → W p l e R s m args below meth c H1 locs1 (cells + mc) (slots + ms) Q (F0 m (pc + 3) ls (.long r :: rest))) : W p l e R s m args below meth c H locs cells slots Q (F0 m pc ls st) := by
  refine va_calll (va_runV (As := As) (rest := rest) C.1 (hM H.size) cw ⟨Pw_blind, va_recv C.2.2.2.1 h.1 hc he, Aw_pre C h⟩ rfl hn hl hst (lv_room hW) hdg hf) h.2.2 (fun q _ hq => Aw_in C h rfl q hq) (Aw_in C h rfl) (fun r1 u t H1 locs1 ht hvm hw hB hz1 hk1 hS => ?_)
  cases hw
  exact kk H1 locs1 (Aw_back C h rfl ht hB hS)
theorem r_callVv {y : MethodName} {wsY : List Cond} {rmY : Room} {bytes : ByteArray} {maxL n index b mc ms : Nat} {retY : Option FieldType} {As : List Value} {w1 : va_W} {r : Unit} {CN : String} {T : u_T} {N ci : Nat} {fs : List Value} {st : List Value}
    (C : Cx p l s m args meth c cc nL Ts ret own g A) (h : Aw g A s.heap w H locs) (hl : ls.size = nL) (hM : ∀ sz, Met l y wsY rmY (Pw g w (.ref b :: As) sz) (Qv g (va_A w sz) w1 r) mc ms (va_A w sz))
    (cw : CallW R s args own CN index y bytes maxL retY wsY rmY mc ms n) (q0 : Nat) (he : w[q0]? = some (b, .inr (ci, fs))) (hc : vwCl[ci]? = some (CN, T, N)) (hn : As.length = n) (hst : st = As.reverse ++ .ref b :: rest) (hW : (rest.map fun v => v.category).sum ≤ 8) (hdg : decode cc pc = .ok (.invokevirtual index, 3)) (hf : cells + mc ≤ R.cells ∧ slots + ms ≤ R.slots)
    (kk : ∀ (H1 : Heap) (locs1 : List Loc), Aw g A s.heap w1 H1 locs1 → W p l e R s m args below meth c H1 locs1 (cells + mc) (slots + ms) Q (F0 m (pc + 3) ls rest)) : W p l e R s m args below meth c H locs cells slots Q (F0 m pc ls st) := by
  refine va_callv (va_runV (As := As) (rest := rest) C.1 (hM H.size) cw ⟨Pw_blind, va_recv C.2.2.2.1 h.1 hc he, Aw_pre C h⟩ rfl hn hl hst (lv_room hW) hdg hf) h.2.2 (fun q _ hq => Aw_in C h rfl q hq) (Aw_in C h rfl) (fun u t H1 locs1 ht hvm hw hB hz1 hk1 hS => ?_)
  exact kk H1 locs1 (Aw_back C h rfl ht hB hS)
theorem r_callSi {y : MethodName} {wsY : List Cond} {rmY : Room} {bytes : ByteArray} {maxL n index mc ms : Nat} {retY : Option FieldType} {As : List Value} {w1 : va_W} {r : Int32} {st : List Value}
    (C : Cx p l s m args meth c cc nL Ts ret own g A) (h : Aw g A s.heap w H locs) (hl : ls.size = nL) (hM : ∀ sz, Met l y wsY rmY (Pw g w As sz) (Qi g (va_A w sz) w1 r) mc ms (va_A w sz))
    (cw : CallB R s args own index y bytes maxL retY wsY rmY mc ms n ∧ (Cond.static y).before args s = true) (hn : As.length = n) (hst : st = As.reverse ++ rest) (hW : (rest.map fun v => v.category).sum ≤ 8) (hdg : decode cc pc = .ok (.invokestatic index, 3)) (hf : cells + mc ≤ R.cells ∧ slots + ms ≤ R.slots)
    (kk : ∀ (H1 : Heap) (locs1 : List Loc), Aw g A s.heap w1 H1 locs1 → W p l e R s m args below meth c H1 locs1 (cells + mc) (slots + ms) Q (F0 m (pc + 3) ls (.int r :: rest))) : W p l e R s m args below meth c H locs cells slots Q (F0 m pc ls st) := by
  refine va_calli (va_runS (As := As) (rest := rest) C.1 (hM H.size) cw ⟨Pw_blind, Aw_pre C h⟩ rfl hn hl hst (lv_room hW) hdg hf) h.2.2 (fun q _ hq => Aw_in C h rfl q hq) (Aw_in C h rfl) (fun r1 u t H1 locs1 ht hvm hw hB hz1 hk1 hS => ?_)
  cases hw
  exact kk H1 locs1 (Aw_back C h rfl ht hB hS)
end RowsB
