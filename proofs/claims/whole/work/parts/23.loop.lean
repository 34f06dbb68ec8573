def R_law : String := "FeastLedgerLaw"
def lw_P (b : Addr) (xs : List Int32) (args : Array Value) (s : State) : Prop := args = #[.ref b] ∧ s.IntsAt b xs ∧ xs.length ≤ 3072 ∧ (Jvm.Cond.and given_1 narrow_1).before args s = true
def lw_Q (_ : Array Value) (s : State) (o : Outcome) (t : State) : Prop := o = .returned (some (.int 1)) ∧ Framed s o t [] 601024 7293034
def lw_Z (below : List Frame) (a : Array Value) (s : State) : State → Prop := fun t => ∃ o, t.status = .running ∧ Ended t below o ∧ lw_Q a s o t
/-- the law's own end, with 1 on the stack, nothing written that was there before, its room as the claim has it -/
theorem lw_ret {p : Program} {l : Launch} {e : Env} {s : State} {m : MethodId} {below : List Frame} {meth : Method} {c : Code} {b : Nat} (hx : p.tables.exec = Jvm.exec) (hb : c.code = code) (hr : meth.sig.returnType = ret) (hlocks : meth.locks = false) {pc : Nat} {H : Heap} {ls : Array Slot} (hdg : decode code pc = .ok (.ireturn, 1)) : W p l e room_1 s m #[Value.ref b] below meth c H [] 601024 7293034 (lw_Z below #[Value.ref b] s) (F0 m pc ls [.int 1]) := by
  intro T hT X
  obtain ⟨fs, hret, hrun, hended, hW, hframe⟩ := X.leave (v := some (.int 1)) (hlocks := hlocks) (fun h => by rw [hr] at h; cases h)
  have hmeth' : T.vm.method? m = some meth := X.method'
  refine ⟨T.setFrames fs, ?_, .returned (some (.int 1)), hrun, hended, rfl, ⟨_, rfl⟩, hW, hframe⟩
  jvm_step X.here [X.here.top, hx, hb, hdg, hmeth', hr, ret, narrow_b1]
  (try refine ⟨rfl, ?_⟩); (try refine ⟨rfl, ?_⟩)
  first | (intro acts; rw [hret _ acts rfl rfl rfl]) | rw [hret _ _ rfl rfl rfl]
  exact Steps.refl _
/-- what holds at the law's entry: the machine, the code, the tables' words (any of lw_tbl by 'hts w (by decide +kernel)'), the script of L ints xs at the cell b, what the Statement gives of the start (any of its parts by flat_of_before) -/
def lw_At (p : Program) (s : State) (m : MethodId) (meth : Method) (c : Code) (b L : Nat) (xs : Nat → Int32) : Prop :=
  p.tables.exec = Jvm.exec ∧ c.code = code ∧ meth.sig.returnType = ret ∧ c.maxLocals = 8 ∧ s.vm.findClass R_law = some m.cls ∧ (∀ w ∈ lw_tbl, w.before #[Value.ref b] s = true) ∧ va_X b L xs s s.heap ∧ b < s.heap.size ∧ meth.locks = false ∧ (Jvm.Cond.and given_1 narrow_1).before #[Value.ref b] s = true
theorem sw_out20 {x : Int32} (h0 : ¬ x = 0) (h1 : ¬ x = 1) (h2 : ¬ x = 2) (h3 : ¬ x = 3) (h4 : ¬ x = 4) (h5 : ¬ x = 5) (h6 : ¬ x = 6) (h7 : ¬ x = 7) (h8 : ¬ x = 8) (h9 : ¬ x = 9) (h10 : ¬ x = 10) (h11 : ¬ x = 11) (h12 : ¬ x = 12) (h13 : ¬ x = 13) (h14 : ¬ x = 14) (h15 : ¬ x = 15) (h16 : ¬ x = 16) (h17 : ¬ x = 17) (h18 : ¬ x = 18) (h19 : ¬ x = 19) (h20 : ¬ x = 20) : x.toInt < 0 ∨ 20 < x.toInt := by
  have e : ∀ y : Int32, ¬ x = y → x.toInt ≠ y.toInt := fun y h q => h (Int32.toInt_inj.mp q)
  have a0 := e 0 h0
  have a1 := e 1 h1
  have a2 := e 2 h2
  have a3 := e 3 h3
  have a4 := e 4 h4
  have a5 := e 5 h5
  have a6 := e 6 h6
  have a7 := e 7 h7
  have a8 := e 8 h8
  have a9 := e 9 h9
  have a10 := e 10 h10
  have a11 := e 11 h11
  have a12 := e 12 h12
  have a13 := e 13 h13
  have a14 := e 14 h14
  have a15 := e 15 h15
  have a16 := e 16 h16
  have a17 := e 17 h17
  have a18 := e 18 h18
  have a19 := e 19 h19
  have a20 := e 20 h20
  simp at a0 a1 a2 a3 a4 a5 a6 a7 a8 a9 a10 a11 a12 a13 a14 a15 a16 a17 a18 a19 a20
  omega
theorem law_gt {k L : Nat} (hL : L ≤ 3072) (hk : 6 * k ≤ 4000) : nI L - 6 < nI (6 * k) ↔ L < 6 * k + 6 := by
  have h1 : (nI L - 6).toInt = (L : Int) - 6 := pk_sub_toInt (a := L) (b := 6) (by omega) (by omega)
  have h2 : (nI (6 * k)).toInt = ((6 * k : Nat) : Int) := nI_toInt (by omega)
  rw [Int32.lt_iff_toInt_lt, h1, h2]
  omega
theorem law_ix {k L j : Nat} (hL : L ≤ 3072) (h : 6 * k + 6 ≤ L) (hj : j < 6) : vp_in (nI (6 * k) + nI j) L := by
  rw [nI_add]
  exact vp_in_nI (by omega) (by omega)
section
variable {p : Program} {l : Launch} {e : Env} {s : State} {m : MethodId} {below : List Frame} {meth : Method} {c : Code} {g : Gm} {fu : Nat} {Rel : SS → SS → Prop} {b o L : Nat} {xs : Nat → Int32} {u : Nat → Nat}
set_option maxHeartbeats 4000000 in
set_option maxRecDepth 100000 in
theorem law_loop (SIM : Sim fu Rel) (hL : L ≤ 3072) (C : Cx p l s m #[Value.ref b] meth c code 8 wsL_law ret RL g (fun q : Nat => s.heap.size ≤ q)) (hX : va_X b L xs s s.heap) (hbl : b < s.heap.size) :
    ∀ (n k : Nat) (σ τ : SS) (f : Nat → Int64) (H : Heap) (locs : List Loc) (ls : Array Slot) (cells slots : Nat), k + n = 600 → 6 * k ≤ 3100 → cells ≤ 65 + k → slots ≤ 5214 + 6 * k → Rel σ τ → Aw g (fun q : Nat => s.heap.size ≤ q) s.heap ((wX g σ ++ oc g o f) ++ wM (gq g u) τ) H locs → lv_has ls 8 [(0, .ref b), (1, .ref (g.2.1 0)), (2, .ref (u 0)), (3, .ref o), (4, .int (nI (6 * k)))] → W p l e room_1 s m #[Value.ref b] below meth c H locs cells slots (lw_Z below #[Value.ref b] s) (F0 m 23 ls []) := by
  have hx := C.1.1
  have hb := C.1.2.1
  have hbA : ¬ (fun q : Nat => s.heap.size ≤ q) b := Nat.not_le.mpr hbl
  intro n
  induction n with
  | zero =>
    intro k σ τ f H locs ls cells slots h1 h2
    omega
  | succ n ih =>
    intro k σ τ f H locs ls cells slots hkn hk hce hsl hRel hA hl
    refine lv_iload hx hb dL_law_23 (lv_at hl 4 rfl) ?_
    refine lv_aload_n hx hb dL_law_25 rfl (lv_at hl 0 rfl) ?_
    refine va_slen hx hb hX hbl hbA hA.2.2 dL_law_26 ?_
    refine lv_bipush (v := 6) hx hb dL_law_27 (by decide) ?_
    refine lv_isub hx hb dL_law_29 ?_
    refine lv_icmp_gt (tgt := 1393) hx hb dL_law_30 (by decide) (fun c1 => ?_) (fun c1 => ?_)
    · refine lv_iconst (v := 1) hx hb dL_law_1393 (by decide) ?_
      refine va_forget (fun q hq => hA.2.2.2.2 q hq) ?_
      refine W.widen (k := 601024) (n := 7293034) (by omega) (by omega) ?_
      exact lw_ret hx hb C.2.1 C.2.2.1 dL_law_1394
    · have hlt : 6 * k + 6 ≤ L := by
        rcases Nat.lt_or_ge L (6 * k + 6) with q | q
        · exact absurd ((law_gt hL (by omega)).mpr q) c1
        · exact q
      have h0 : vp_in (nI (6 * k)) L := vp_in_nI (by omega) (by omega)
      have h1 : vp_in (nI (6 * k) + 1) L := law_ix hL hlt (j := 1) (by decide)
      have h2 : vp_in (nI (6 * k) + 2) L := law_ix hL hlt (j := 2) (by decide)
      have h3 : vp_in (nI (6 * k) + 3) L := law_ix hL hlt (j := 3) (by decide)
      have h4 : vp_in (nI (6 * k) + 4) L := law_ix hL hlt (j := 4) (by decide)
      have h5 : vp_in (nI (6 * k) + 5) L := law_ix hL hlt (j := 5) (by decide)
      have hk1 : Kont p l e s m #[Value.ref b] below meth c (lw_Z below #[Value.ref b] s) g (fun q : Nat => s.heap.size ≤ q) Rel b o u (nI (6 * k)) (cells + 1) (slots + 6) := by
        intro σ τ f H locs ls hRel hA hl
        refine lv_iinc (v := nI (6 * (k + 1))) (lv' := [(4, .int (nI (6 * (k + 1)))), (0, .ref b), (1, .ref (g.2.1 0)), (2, .ref (u 0)), (3, .ref o)]) hx hb dL_law_1387 hl (k := 4) rfl (nI_add (6 * k) 6) (by decide) rfl (fun ls hl => ?_)
        refine lv_goto (tgt := 23) hx hb dL_law_1390 (by decide) ?_
        exact ih (k + 1) σ τ f H locs ls (cells + 1) (slots + 6) (by omega) (by omega) (by omega) (by omega) hRel hA (lv_sub hl [1, 2, 3, 4, 0] rfl)
      have hrc : cells + 1 ≤ 601024 := by omega
      have hrs : slots + 6 ≤ 7293034 := by omega
      refine lv_aload_n hx hb dL_law_33 rfl (lv_at hl 0 rfl) ?_
      refine lv_iload hx hb dL_law_34 (lv_at hl 4 rfl) ?_
      refine va_sld hx hb hX hbl hbA hA.2.2 h0 dL_law_36 ?_
      refine lv_bipush (v := 31) hx hb dL_law_37 (by decide) ?_
      refine lv_iand hx hb dL_law_39 ?_
      generalize xs (nI (6 * k)).toNatClampNeg &&& 31 = x
      by_cases sw0 : x = 0
      · rw [sw0]
        refine lv_tableIn (tgt := 140) hx hb dL_law_40 (by decide) (by decide) rfl (by decide) ?_
        exact law_c0 SIM.1 C hX hbl hbA hRel hrc hrs h1 h2 h3 h4 h5 hA hl hk1
      by_cases sw1 : x = 1
      · rw [sw1]
        refine lv_tableIn (tgt := 196) hx hb dL_law_40 (by decide) (by decide) rfl (by decide) ?_
        exact law_c1 SIM.2.1 C hX hbl hbA hRel hrc hrs h1 h2 h3 h4 h5 hA hl hk1
      by_cases sw2 : x = 2
      · rw [sw2]
        refine lv_tableIn (tgt := 269) hx hb dL_law_40 (by decide) (by decide) rfl (by decide) ?_
        exact law_c2 SIM.2.2.1 C hX hbl hbA hRel hrc hrs h1 h2 h3 h4 h5 hA hl hk1
      by_cases sw3 : x = 3
      · rw [sw3]
        refine lv_tableIn (tgt := 337) hx hb dL_law_40 (by decide) (by decide) rfl (by decide) ?_
        exact law_c3 SIM.2.2.2.1 C hX hbl hbA hRel hrc hrs h1 h2 h3 h4 h5 hA hl hk1
      by_cases sw4 : x = 4
      · rw [sw4]
        refine lv_tableIn (tgt := 350) hx hb dL_law_40 (by decide) (by decide) rfl (by decide) ?_
        exact law_c4 SIM.2.2.2.2.1 C hX hbl hbA hRel hrc hrs h1 h2 h3 h4 h5 hA hl hk1
      by_cases sw5 : x = 5
      · rw [sw5]
        refine lv_tableIn (tgt := 375) hx hb dL_law_40 (by decide) (by decide) rfl (by decide) ?_
        exact law_c5 SIM.2.2.2.2.2.1 C hX hbl hbA hRel hrc hrs h1 h2 h3 h4 h5 hA hl hk1
      by_cases sw6 : x = 6
      · rw [sw6]
        refine lv_tableIn (tgt := 455) hx hb dL_law_40 (by decide) (by decide) rfl (by decide) ?_
        exact law_c6 SIM.2.2.2.2.2.2.1 C hX hbl hbA hRel hrc hrs h1 h2 h3 h4 h5 hA hl hk1
      by_cases sw7 : x = 7
      · rw [sw7]
        refine lv_tableIn (tgt := 535) hx hb dL_law_40 (by decide) (by decide) rfl (by decide) ?_
        exact law_c7 SIM.2.2.2.2.2.2.2.1 C hX hbl hbA hRel hrc hrs h1 h2 h3 h4 h5 hA hl hk1
      by_cases sw8 : x = 8
      · rw [sw8]
        refine lv_tableIn (tgt := 603) hx hb dL_law_40 (by decide) (by decide) rfl (by decide) ?_
        exact law_c8 SIM.2.2.2.2.2.2.2.2.1 C hX hbl hbA hRel hrc hrs h1 h2 h3 h4 h5 hA hl hk1
      by_cases sw9 : x = 9
      · rw [sw9]
        refine lv_tableIn (tgt := 671) hx hb dL_law_40 (by decide) (by decide) rfl (by decide) ?_
        exact law_c9 SIM.2.2.2.2.2.2.2.2.2.1 C hX hbl hbA hRel hrc hrs h1 h2 h3 h4 h5 hA hl hk1
      by_cases sw10 : x = 10
      · rw [sw10]
        refine lv_tableIn (tgt := 727) hx hb dL_law_40 (by decide) (by decide) rfl (by decide) ?_
        exact law_c10 SIM.2.2.2.2.2.2.2.2.2.2.1 C hX hbl hbA hRel hrc hrs h1 h2 h3 h4 h5 hA hl hk1
      by_cases sw11 : x = 11
      · rw [sw11]
        refine lv_tableIn (tgt := 795) hx hb dL_law_40 (by decide) (by decide) rfl (by decide) ?_
        exact law_c11 SIM.2.2.2.2.2.2.2.2.2.2.2.1 C hX hbl hbA hRel hrc hrs h1 h2 h3 h4 h5 hA hl hk1
      by_cases sw12 : x = 12
      · rw [sw12]
        refine lv_tableIn (tgt := 887) hx hb dL_law_40 (by decide) (by decide) rfl (by decide) ?_
        exact law_c12 SIM.2.2.2.2.2.2.2.2.2.2.2.2.1 C hX hbl hbA hRel hrc hrs h1 h2 h3 h4 h5 hA hl hk1
      by_cases sw13 : x = 13
      · rw [sw13]
        refine lv_tableIn (tgt := 955) hx hb dL_law_40 (by decide) (by decide) rfl (by decide) ?_
        exact law_c13 SIM.2.2.2.2.2.2.2.2.2.2.2.2.2.1 C hX hbl hbA hRel hrc hrs h1 h2 h3 h4 h5 hA hl hk1
      by_cases sw14 : x = 14
      · rw [sw14]
        refine lv_tableIn (tgt := 1011) hx hb dL_law_40 (by decide) (by decide) rfl (by decide) ?_
        exact law_c14 SIM.2.2.2.2.2.2.2.2.2.2.2.2.2.2.1 C hX hbl hbA hRel hrc hrs h1 h2 h3 h4 h5 hA hl hk1
      by_cases sw15 : x = 15
      · rw [sw15]
        refine lv_tableIn (tgt := 1079) hx hb dL_law_40 (by decide) (by decide) rfl (by decide) ?_
        exact law_c15 SIM.2.2.2.2.2.2.2.2.2.2.2.2.2.2.2.1 C hX hbl hbA hRel hrc hrs h1 h2 h3 h4 h5 hA hl hk1
      by_cases sw16 : x = 16
      · rw [sw16]
        refine lv_tableIn (tgt := 1104) hx hb dL_law_40 (by decide) (by decide) rfl (by decide) ?_
        exact law_c16 SIM.2.2.2.2.2.2.2.2.2.2.2.2.2.2.2.2.1 C hX hbl hbA hRel hrc hrs h1 h2 h3 h4 h5 hA hl hk1
      by_cases sw17 : x = 17
      · rw [sw17]
        refine lv_tableIn (tgt := 1172) hx hb dL_law_40 (by decide) (by decide) rfl (by decide) ?_
        exact law_c17 SIM.2.2.2.2.2.2.2.2.2.2.2.2.2.2.2.2.2.1 C hX hbl hbA hRel hrc hrs h1 h2 h3 h4 h5 hA hl hk1
      by_cases sw18 : x = 18
      · rw [sw18]
        refine lv_tableIn (tgt := 1227) hx hb dL_law_40 (by decide) (by decide) rfl (by decide) ?_
        exact law_c18 SIM.2.2.2.2.2.2.2.2.2.2.2.2.2.2.2.2.2.2.1 C hX hbl hbA hRel hrc hrs h1 h2 h3 h4 h5 hA hl hk1
      by_cases sw19 : x = 19
      · rw [sw19]
        refine lv_tableIn (tgt := 1294) hx hb dL_law_40 (by decide) (by decide) rfl (by decide) ?_
        exact law_c19 SIM.2.2.2.2.2.2.2.2.2.2.2.2.2.2.2.2.2.2.2.1 C hX hbl hbA hRel hrc hrs h1 h2 h3 h4 h5 hA hl hk1
      by_cases sw20 : x = 20
      · rw [sw20]
        refine lv_tableIn (tgt := 1362) hx hb dL_law_40 (by decide) (by decide) rfl (by decide) ?_
        exact law_c20 SIM.2.2.2.2.2.2.2.2.2.2.2.2.2.2.2.2.2.2.2.2 C hX hbl hbA hRel hrc hrs h1 h2 h3 h4 h5 hA hl hk1
      refine lv_tableOut (tgt := 1387) hx hb dL_law_40 (sw_out20 sw0 sw1 sw2 sw3 sw4 sw5 sw6 sw7 sw8 sw9 sw10 sw11 sw12 sw13 sw14 sw15 sw16 sw17 sw18 sw19 sw20) (by decide) ?_
      refine W.widen (k := cells + 1) (n := slots + 6) (by omega) (by omega) ?_
      exact hk1 _ _ _ _ _ _ hRel hA hl
theorem r_callIP {U : Type} {wf : U → va_W} {args : Array Value} {R : Room} {H : Heap} {locs : List Loc} {cells slots : Nat} {Q : State → Prop} {cc : ByteArray} {pc nL : Nat} {ls : Array Slot} {rest : List Value} {A : Nat → Prop} {w : va_W} {Ts : List Cond} {own : String} {ret : Option FieldType} {y : MethodName} {wsY : List Cond} {rmY : Room} {bytes : ByteArray} {maxL index b mc ms : Nat} {d0 : va_E} {st : List Value}
    (C : Cx p l s m args meth c cc nL Ts ret own g A) (hN : NestF s) (h : Aw g A s.heap (w ++ [(b, d0)]) H locs) (hl : ls.size = nL) (hM : ∀ sz, Met l y wsY rmY (PwN g [(b, d0)] [.ref b] sz) (QU g (va_A [(b, d0)] sz) wf) mc ms (va_A [(b, d0)] sz))
    (cw : CallB R s args own index y bytes maxL none wsY rmY mc ms 0 ∧ y.name = "<init>" ∧ (Cond.instanceMethod y).before args s = true) (hst : st = .ref b :: rest) (hW : (rest.map fun v => v.category).sum ≤ 8) (hdg : decode cc pc = .ok (.invokespecial index, 3)) (hf : cells + mc ≤ R.cells ∧ slots + ms ≤ R.slots)
    (kk : ∀ (u : U) (H1 : Heap) (locs1 : List Loc), Aw g A s.heap (w ++ wf u) H1 locs1 → W p l e R s m args below meth c H1 locs1 (cells + mc) (slots + ms) Q (F0 m (pc + 3) ls rest)) : W p l e R s m args below meth c H locs cells slots Q (F0 m pc ls st) := by
  have h2 := Aw_swap h
  refine va_callv (va_runI (As := []) (rest := rest) C.1 (hM H.size) cw ⟨PwN_blind, fun U hU hW => ⟨Aw_pre C (Aw_l h2) U hU hW, hN.warm hW⟩⟩ rfl rfl hl hst (lv_room hW) hdg hf) h.2.2 (fun q _ hq => Aw_in C (Aw_l h2) rfl q hq) (Aw_in C (Aw_l h2) rfl) (fun u t H1 locs1 ht hvm hw hB hz1 hk1 hS => ?_)
  exact kk u H1 locs1 (Aw_swap (Aw_fr C h2 (by rw [← ht]; exact hB.1) hB.2.2 hk1 hS))
set_option maxHeartbeats 4000000 in
set_option maxRecDepth 100000 in
theorem whole_open (SIM : Sim fu Rel) (hR0 : Rel sX0 sM0) (hlt : l.stackTraces = false) (hL : L ≤ 3072) (C0 : lw_At p s m meth c b L xs) : W p l e room_1 s m #[Value.ref b] below meth c s.heap [] 0 0 (lw_Z below #[Value.ref b] s) (entryFrame m ([Value.ref b] : List Value).toArray 8) := by
  obtain ⟨hx, hb, hr, hml, hown, hts, hX, hbl, hlocks, hgv⟩ := C0
  obtain ⟨g, hK, hE, hN⟩ := geo_start hts hgv
  have hts2 : ∀ w ∈ wsL_law, w.before #[Value.ref b] s = true := fun w h => hts w (wsL_law_in w h)
  have C : Cx p l s m #[Value.ref b] meth c code 8 wsL_law ret RL g (fun q : Nat => s.heap.size ≤ q) := ⟨⟨hx, hb, hml, hown, hts2⟩, hr, hlocks, hK, fun _ h => h, hE, hlt⟩
  have hA : Aw g (fun q : Nat => s.heap.size ≤ q) s.heap [] s.heap [] := ⟨fun k q h => by simp at h, ⟨fun i j p q h => by simp at h, fun k q h => by simp at h⟩, va_S.rf⟩
  have hl := lv_entry [Value.ref b] (n := 8) (Nat.le_of_ble_eq_true rfl)
  rw [lg_entry_eq]
  generalize (lg_sl [Value.ref b] ++ List.replicate (8 - (lg_sl [Value.ref b]).length) Slot.unset).toArray = ls at hl ⊢
  have hl : lv_has ls 8 [(0, .ref b)] := hl
  refine r_new (ci := 7) (fs := [.null, .null, .null, .null, .null, .null, .null, .int 0, .int 0]) C hA inlX7 tyX7 tyX7_ok (by decide +kernel) (by decide +kernel) (by decide +kernel) rfl (by decide) (Nat.le_of_ble_eq_true rfl) (Nat.le_of_ble_eq_true rfl) dL_law_0 (fun q1 H hA => ?_)
  refine lv_dup hx hb dL_law_3 rfl ?_
  refine r_callIP (w := []) (wf := fun u : {u : Nat → Nat // u 0 = q1} => wX (gq g u.1) sX0) (rest := [.ref q1]) C hN hA hl.1 (k_X7_init hlt) (cwI 0 hts2 gL_law_X7_init rfl rfl rfl (hts2 (.initialized RX7) (by decide +kernel)) (hts2 (.methodLink RL 69 yX7_init) (by decide +kernel)) (hts2 (.instanceMethod yX7_init) (by decide +kernel)) rfl nd_X7_init ⟨Nat.le_of_ble_eq_true rfl, Nat.le_of_ble_eq_true rfl⟩) rfl (Nat.le_of_ble_eq_true rfl) dL_law_4 ⟨Nat.le_of_ble_eq_true rfl, Nat.le_of_ble_eq_true rfl⟩ (fun u1 H locs hA => ?_)
  obtain ⟨u1, hu1⟩ := u1
  have hA : Aw g (fun q : Nat => s.heap.size ≤ q) s.heap (wX (gq g u1) sX0) H locs := hA
  refine lv_astore_n (lv' := [(1, .ref q1), (0, .ref b)]) hx hb dL_law_7 rfl hl (by decide) rfl (fun ls hl => ?_)
  refine r_new (ci := 8) (fs := [.int 0, .null, .null, .null, .int 0, .int 0, .null, .int 0, .int 0, .int 0, .int 0, .int 0, .null, .null, .int 0, .null, .null, .null, .null, .null, .int 0, .null, .null, .null, .int 0, .null, .null, .null, .null, .null, .int 0]) C hA inlX8 tyX8 tyX8_ok (by decide +kernel) (by decide +kernel) (by decide +kernel) rfl (by decide) (Nat.le_of_ble_eq_true rfl) (Nat.le_of_ble_eq_true rfl) dL_law_8 (fun q2 H hA => ?_)
  refine lv_dup hx hb dL_law_11 rfl ?_
  refine r_callI (wf := wN_X8 g q2) (rest := [.ref q2]) C hA hl.1 (k_X8_init hlt) (cwI 0 hts2 gL_law_X8_init rfl rfl rfl (hts2 (.initialized RX8) (by decide +kernel)) (hts2 (.methodLink RL 72 yX8_init) (by decide +kernel)) (hts2 (.instanceMethod yX8_init) (by decide +kernel)) rfl nd_X8_init ⟨Nat.le_of_ble_eq_true rfl, Nat.le_of_ble_eq_true rfl⟩) rfl (Nat.le_of_ble_eq_true rfl) dL_law_12 ⟨Nat.le_of_ble_eq_true rfl, Nat.le_of_ble_eq_true rfl⟩ (fun u2 H locs hA => ?_)
  rw [wN_X8_eq] at hA
  refine lv_astore_n (lv' := [(2, .ref q2), (1, .ref q1), (0, .ref b)]) hx hb dL_law_15 rfl hl (by decide) rfl (fun ls hl => ?_)
  refine lv_iconst (v := 1) hx hb dL_law_16 (by decide) ?_
  refine r_newa (atype := .long) (ty := .long) (a0 := (1, .inr (.inl (fun _ => 0)))) C hA (by decide +kernel) rfl 1 rfl (fun _ h9 => h9) (fun _ => rfl) (by decide) rfl (Nat.le_of_ble_eq_true rfl) (Nat.le_of_ble_eq_true rfl) (Nat.le_of_ble_eq_true rfl) dL_law_17 (fun o H hA => ?_)
  refine lv_astore_n (lv' := [(3, .ref o), (2, .ref q2), (1, .ref q1), (0, .ref b)]) hx hb dL_law_19 rfl hl (by decide) rfl (fun ls hl => ?_)
  refine lv_iconst (v := 0) hx hb dL_law_20 (by decide) ?_
  refine lv_istore (lv' := [(4, .int 0), (3, .ref o), (2, .ref q2), (1, .ref q1), (0, .ref b)]) hx hb dL_law_21 hl (by decide) rfl (fun ls hl => ?_)
  have C' : Cx p l s m #[Value.ref b] meth c code 8 wsL_law ret RL (gq g u1) (fun q : Nat => s.heap.size ≤ q) := C
  have hA' : Aw (gq g u1) (fun q : Nat => s.heap.size ≤ q) s.heap ((wX (gq g u1) sX0 ++ oc (gq g u1) o (fun _ => 0)) ++ wM (gq (gq g u1) (uM q2 u2)) sM0) H _ := ⟨va_P.swap hA.1, va_D.swap hA.2.1, hA.2.2⟩
  refine law_loop (g := gq g u1) (o := o) (u := uM q2 u2) SIM hL C' hX hbl 600 0 sX0 sM0 (fun _ => 0) H _ ls _ _ rfl (by decide) (by decide) (by decide) hR0 hA' ?_
  have hl := lv_sub hl [4, 3, 2, 1, 0] rfl
  rw [← hu1] at hl
  exact hl
end
