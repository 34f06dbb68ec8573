/-! the loop over paths, both at once -/
theorem flow_both {n c fu : Nat} (hfu : 12000 ≤ fu) (hn : n ≤ 12) (hc : c < n) : ∀ (N fuel p s : Nat) (σ τ : SS) (st : Nat → Nat) (cp : Nat → Nat → Nat), Phi cp st c < N → N + p ≤ 9800 → N + 1 ≤ fuel → FX σ st cp → FM τ n st cp → τ.1 4 = nI n → FB n st cp → s + sumTo st 12 ≤ 12000000 → ∃ (s' : Nat) (σ' τ' : SS) (cp' : Nat → Nat → Nat), loopN (fun k17 σ x => f_X4_most_17 fu k17 σ x.1 x.2.1 x.2.2) fuel σ (nI c, lN s, nI p) = some (lN s', σ') ∧ loopN (fun k133 σ x => f_X8_gathers_133 fu k133 σ x.1 x.2.1 x.2.2) fuel τ (nI c, lN s, 1) = some (lN s', τ') ∧ s' ≤ 12000000 ∧ QX σ' c (bfO cp' c 12) ∧ QM τ' n c (bfO cp' c 12) ∧ (∀ v, n ≤ v → (bfO cp' c 12).2 0 v = 0) ∧ (∀ v, (bfO cp' c 12).2 0 v ≤ 1) ∧ XF σ σ' ∧ MF τ τ' := by
  intro N
  induction N with
  | zero => intro fuel p s σ τ st cp h; omega
  | succ N ih =>
    intro fuel p s σ τ st cp hPhi hp hf hX hM h4 hB hs
    obtain ⟨f, rfl⟩ : ∃ f, fuel = f + 1 := ⟨fuel - 1, by omega⟩
    obtain ⟨τ1, w1, w2, w3⟩ := ways_all (by omega : 1000 ≤ fu) hn hc hB τ hM h4
    have hM1 := FM_NF hM w3
    show ∃ (s' : Nat) (σ' τ' : SS) (cp' : Nat → Nat → Nat), f_X4_most_17 fu (loopN (fun k17 σ x => f_X4_most_17 fu k17 σ x.1 x.2.1 x.2.2) f) σ (nI c) (lN s) (nI p) = some (lN s', σ') ∧ f_X8_gathers_133 fu (loopN (fun k133 σ x => f_X8_gathers_133 fu k133 σ x.1 x.2.1 x.2.2) f) τ (nI c) (lN s) 1 = some (lN s', τ') ∧ s' ≤ 12000000 ∧ QX σ' c (bfO cp' c 12) ∧ QM τ' n c (bfO cp' c 12) ∧ (∀ v, n ≤ v → (bfO cp' c 12).2 0 v = 0) ∧ (∀ v, (bfO cp' c 12).2 0 v ≤ 1) ∧ XF σ σ' ∧ MF τ τ'
    rw [f_X4_most_17, if_neg (show ¬ (10000 : Int32) ≤ nI p from fun z => by have := (q_le (a := 10000) (by omega) (by omega)).mp z; omega), f_X8_gathers_133, if_neg i10, w1, bnd_some, f_X8_gathers_L146]
    have hJ12 := (bfO_ok hn hc hB.2.1 12).1
    have hq12 := BJ_12 hJ12
    rcases near_all (fu := fu) (by omega) hn hc hB σ hX with ⟨σ1, a1, a2, a3, a4⟩ | ⟨j, σ1, a2, a3, a1, a5, a6, a7, a8⟩
    · rw [a1, bnd_some, if_pos rfl]
      have e := scan_no (fu := fu) hn hc hB hM1 w2 (loopN (fun k133 σ x => f_X8_gathers_133 fu k133 σ x.1 x.2.1 x.2.2) f) (lN s) a4 ((bfO cp c 12).1 0) 0 fu (by omega) (by omega)
      refine ⟨s, σ1, τ1, cp, rfl, ?_, by omega, a2, w2, fun v hv => ?_, hJ12.2.2.1, XF_Q a3, MF_N w3⟩
      · refine Eq.trans e ?_
        obtain ⟨f2, rfl⟩ : ∃ f2, f = f2 + 1 := ⟨f - 1, by omega⟩
        show f_X8_gathers_133 fu _ τ1 (nI c) (lN s) 0 = _
        rw [f_X8_gathers_133, if_pos rfl]
      · by_cases z : (bfO cp c 12).2 0 v = 0
        · exact z
        · obtain ⟨i, hi, hi2⟩ := hJ12.2.2.2.2.2.2.2.1 v z
          have := (hJ12.2.2.2.2.2.2.1 i hi).1
          omega
    · obtain ⟨hJj, _, _⟩ := bfO_ok hn hc hB.2.1 j
      have hSB := bfO_SB hn hc hB.2.1 j (12 - j)
      rw [show j + (12 - j) = 12 by omega] at hSB
      obtain ⟨d1, d2, d3, d4, d5⟩ := dF_ok hn hc hB.2.1
      have eg : (bfO cp c 12).2 2 j = (bfO cp c j).2 2 j := hSB.2.1 j a2
      have hgj := hJj.2.2.2.2.2.2.1 j a2
      have hgn : (bfO cp c j).2 2 j < n := hgj.1
      have hfound : (bfO cp c j).2 0 ((bfO cp c j).2 2 j) ≠ 0 := by rw [hgj.2.1]; omega
      have hd12 : dF cp c ((bfO cp c j).2 2 j) < 12 := (d5 _).mpr (hSB.2.2 _ hfound).1
      have hst := hB.2.2.2 ((bfO cp c j).2 2 j)
      have hd' : ∀ v, v ≠ c → dF cp c v < 12 → dF cp c ((bfO cp c 12).2 1 v) + 1 = dF cp c v ∧ (bfO cp c 12).2 1 v < n := fun v h1 h2 => ⟨(d3 v h1 h2).1, (d3 v h1 h2).2.2⟩
      have hm1 : f_X8_gathers_L224 fu (loopN (fun k133 σ x => f_X8_gathers_133 fu k133 σ x.1 x.2.1 x.2.2) f) τ1 (nI c, lN s, 1, nI ((bfO cp c 12).2 2 j), lN (st ((bfO cp c 12).2 2 j)), nI ((bfO cp c 12).2 2 j)) = loopN (fun k146 σ x => f_X8_gathers_146 fu (loopN (fun k133 σ x => f_X8_gathers_133 fu k133 σ x.1 x.2.1 x.2.2) f) k146 σ x.1 x.2.1 x.2.2) fu τ1 (nI c, lN s, 0) :=
        (scan_hit (fu := fu) hn hc hB hM1 w2 (loopN (fun k133 σ x => f_X8_gathers_133 fu k133 σ x.1 x.2.1 x.2.2) f) (lN s) (Nat.lt_of_lt_of_le a2 hSB.1) a8 (by rw [eg]; exact a7) j 0 fu (by omega) (by omega)).symm
      rw [← hm1, eg, a1, bnd_some, if_neg (q_m1 (by omega))]
      generalize hg : (bfO cp c j).2 2 j = g at *
      obtain ⟨o1, o2, o3⟩ := mnP_ok ((bfO cp c 12).2 1) cp (dF cp c g) g (st g)
      -- all along the path there is something
      have hal : ∀ L v, dF cp c v = L → L < 12 → alP ((bfO cp c 12).2 1) (fun x => x ≠ 0) cp L v := by
        intro L
        induction L with
        | zero => intro v _ _; trivial
        | succ L ihL =>
          intro v hv hL
          have hvc : v ≠ c := fun z => by rw [z, d1] at hv; omega
          obtain ⟨x1, x2, x3⟩ := d3 v hvc (by omega)
          exact ⟨x2, ihL _ (by omega) (by omega)⟩
      have hS32 : ∀ v, (bfO cp c j).2 0 v ≠ 0 → v ≠ c → σ1.2.1 32 v = nI ((bfO cp c 12).2 1 v) ∧ (bfO cp c j).2 0 ((bfO cp c 12).2 1 v) ≠ 0 := by
        intro v hv hvc
        obtain ⟨x1, x2, x3, x4⟩ := hJj.2.2.2.2.2.2.2.2.1 v hv hvc
        obtain ⟨i, hi, hi2⟩ := hJj.2.2.2.2.2.2.2.1 v hv
        have hv12 := (hJj.2.2.2.2.2.2.1 i hi).1
        rw [hi2] at hv12
        rw [(hSB.2.2 v hv).2.1]
        exact ⟨a5.2.1 v (by omega) hv hvc, by rw [x2]; omega⟩
      have hS27 : ∀ v, v < n → v ≠ c → dF cp c v < 12 → τ1.2.1 27 v = nI ((bfO cp c 12).2 1 v) := fun v hv hvc hd => w2.2.1 v hv ((d5 v).mp hd) hvc
      have hX1 := FX_QF hX a6
      -- the class
      have x1 := X_min (fu := fu) (S := fun v => (bfO cp c j).2 0 v ≠ 0) hn d1 hd' hB hX1 hS32 hc (nI g) (dF cp c g) g (st g) 0 fu hfound hgn rfl (by omega) (by omega) hst
      have hX2 : FX (sL σ1 29 g (lN (st g - mnP ((bfO cp c 12).2 1) cp (dF cp c g) g (st g)))) (fun i => if i = g then st g - mnP ((bfO cp c 12).2 1) cp (dF cp c g) g (st g) else st i) cp := by
        refine ⟨fun i hi => ?_, fun i k hi hk => ?_⟩
        · rw [sL_3]
          by_cases e : i = g
          · rw [if_pos ⟨rfl, e⟩, if_pos e]
          · rw [if_neg (fun z => e z.2), if_neg e]
            exact hX1.1 i hi
        · rw [sL_3, if_neg (fun z => by have := z.1; omega)]
          exact hX1.2 i k hi hk
      obtain ⟨σ2, u1, u2, u3⟩ := X_upd (fu := fu) (S := fun v => (bfO cp c j).2 0 v ≠ 0) (m := mnP ((bfO cp c 12).2 1) cp (dF cp c g) g (st g)) hn d1 hd' hc (dF cp c g) g 0 fu _ _ hfound hgn rfl (by omega) (by omega) hX2 hS32 o2
      have eX : f_X4_handOn fu σ1 (nI g) (nI c) = some (lN (mnP ((bfO cp c 12).2 1) cp (dF cp c g) g (st g)), σ2) := by
        rw [f_X4_handOn, if_pos ((q_in (by omega)).mpr (by omega)), q_cl (by omega), hX1.1 g (by omega), f_X4_handOn_L13]
        refine Eq.trans x1 ?_
        rw [f_X4_handOn_61, if_pos ((q_in (by omega)).mpr (by omega)), q_cl (by omega), hX1.1 g (by omega), lN_sub o1, f_X4_handOn_L77]
        exact u1
      -- the reference
      have m1 := M_min (fu := fu) hn d1 hd' hB hM1 hS27 hc (loopN (fun k133 σ x => f_X8_gathers_133 fu k133 σ x.1 x.2.1 x.2.2) f) (lN s) 1 (nI g) (dF cp c g) g (st g) fu hgn rfl (by omega) (by omega) hst
      obtain ⟨τ2, v1, v2, v3⟩ := M_upd (fu := fu) (m := mnP ((bfO cp c 12).2 1) cp (dF cp c g) g (st g)) hn d1 hd' hc (loopN (fun k133 σ x => f_X8_gathers_133 fu k133 σ x.1 x.2.1 x.2.2) f) (lN s) 1 hgn (dF cp c g) g fu τ1 cp hgn rfl (by omega) (by omega) hM1 hS27 o2 o1
      have eM : f_X8_gathers_L224 fu (loopN (fun k133 σ x => f_X8_gathers_133 fu k133 σ x.1 x.2.1 x.2.2) f) τ1 (nI c, lN s, 1, nI g, lN (st g), nI g) = loopN (fun k133 σ x => f_X8_gathers_133 fu k133 σ x.1 x.2.1 x.2.2) f (sL τ2 26 g (lN (st g - mnP ((bfO cp c 12).2 1) cp (dF cp c g) g (st g)))) (nI c, lN (s + mnP ((bfO cp c 12).2 1) cp (dF cp c g) g (st g)), 1) := by
        rw [← lN_add]
        exact (m1.trans v1)
      rw [eX, bnd_some, lN_add, q_inc, eM]
      generalize hm : mnP ((bfO cp c 12).2 1) cp (dF cp c g) g (st g) = m at *
      have hMx : FM (sL τ2 26 g (lN (st g - m))) n (fun i => if i = g then st g - m else st i) (upP ((bfO cp c 12).2 1) m (dF cp c g) g cp) := by
        refine ⟨fun i hi => ?_, fun i k hi hk => ?_⟩
        · rw [sL_3]
          by_cases e : i = g
          · rw [if_pos ⟨rfl, e⟩, if_pos e]
          · rw [if_neg (fun z => e z.2), if_neg e]
            exact v2.1 i hi
        · rw [sL_3, if_neg (fun z => by have := z.1; omega)]
          exact v2.2 i k hi hk
      have hz' := up_iv (m := m) d1 hd' (dF cp c g) g cp rfl hd12 hgn hB.2.1
      have hB' : FB n (fun i => if i = g then st g - m else st i) (upP ((bfO cp c 12).2 1) m (dF cp c g) g cp) := by
        refine ⟨fun i hi => ?_, hz', fun a b => ?_, fun i => ?_⟩
        · show (if i = g then st g - m else st i) = 0
          rw [if_neg (by omega)]
          exact hB.1 i hi
        · rw [up_iii d1 hd' (dF cp c g) g cp rfl hd12 o2 a b]
          exact hB.2.2.1 a b
        · show (if i = g then st g - m else st i) ≤ 12000000
          have := hB.2.2.2 i
          split <;> omega
      have hsum := sumTo_set (f := st) (n := 12) (j := g) (v := st g - m) (by omega)
      have hPhi' : Phi (upP ((bfO cp c 12).2 1) m (dF cp c g) g cp) (fun i => if i = g then st g - m else st i) c < Phi cp st c := by
        refine Phi_lt hn hc hB.2.1 hz' (up_i d1 hd' (dF cp c g) g cp rfl hd12) (fun v hv => ?_) ?_
        · by_cases e : v = g
          · rw [e]; exact a7
          · have hv2 : (if v = g then st g - m else st v) ≠ 0 := hv
            rw [if_neg e] at hv2
            exact hv2
        · rcases o3 with h | h
          · refine Or.inl ⟨g, by omega, a7, ?_⟩
            show (if g = g then st g - m else st g) = 0
            rw [if_pos rfl]
            omega
          · exact Or.inr (up_ii d1 hd' hn (dF cp c g) g cp rfl hd12 (by omega) (hal _ g rfl hd12) h)
      obtain ⟨s', σ', τ', cp', r1, r2, r3, r4, r5, r6, r7, r8, r9⟩ := ih f (p + 1) (s + m) σ2 (sL τ2 26 g (lN (st g - m))) _ _ (by omega) (by omega) (by omega) u2 hMx (by
        show τ2.1 4 = nI n
        rw [v3.1 4 (by omega), w3.1 4 (by omega)]
        exact h4) hB' (by omega)
      exact ⟨s', σ', τ', cp', r1, r2, r3, r4, r5, r6, r7, XF_tr (XF_Q a6) (XF_tr (XF_L (by omega)) (XF_tr u3 r8)), MF_tr (MF_N w3) (MF_tr v3 (MF_tr (MF_L (by omega)) r9))⟩
