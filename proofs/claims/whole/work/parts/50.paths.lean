/-! one path, both at once -/
theorem hand_X {nx d : Nat → Nat} {n c g fu : Nat} {S : Nat → Prop} {σ : SS} {st : Nat → Nat} {cp : Nat → Nat → Nat} (hfu : 1000 ≤ fu) (hn : n ≤ 12) (hc : c < n) (hd0 : d c = 0) (hd : ∀ v, v ≠ c → d v < 12 → d (nx v) + 1 = d v ∧ nx v < n) (hB : FB n st cp) (hF : FX σ st cp) (hS : ∀ v, S v → v ≠ c → σ.2.1 32 v = nI (nx v) ∧ S (nx v)) (hSg : S g) (hg : g < n) (hL : d g < 12) {m : Nat} (hm : mnP nx cp (d g) g (st g) = m) : ∃ σ' : SS, f_X4_handOn fu σ (nI g) (nI c) = some (lN m, σ') ∧ FX σ' (fun i => if i = g then st g - m else st i) (upP nx m (d g) g cp) ∧ XF σ σ' := by
  obtain ⟨o1, o2, o3⟩ := mnP_ok nx cp (d g) g (st g)
  rw [hm] at o1 o2 o3
  have hst := hB.2.2.2 g
  have x1 := X_min (fu := fu) (S := S) hn hd0 hd hB hF hS hc (nI g) (d g) g (st g) 0 fu hSg hg rfl (by omega) (by omega) hst
  rw [hm] at x1
  have hX2 : FX (sL σ 29 g (lN (st g - m))) (fun i => if i = g then st g - m else st i) cp := by
    refine ⟨fun i hi => ?_, fun i k hi hk => ?_⟩
    · show _ = lN (if i = g then st g - m else st i)
      rw [sL_3]
      by_cases e : i = g
      · rw [if_pos ⟨rfl, e⟩, if_pos e]
      · rw [if_neg (fun z => e z.2), if_neg e]
        exact hF.1 i hi
    · rw [sL_3, if_neg (fun z => by have := z.1; omega)]
      exact hF.2 i k hi hk
  obtain ⟨σ2, u1, u2, u3⟩ := X_upd (fu := fu) (S := S) (m := m) hn hd0 hd hc (d g) g 0 fu _ cp hSg hg rfl (by omega) (by omega) hX2 hS o2
  refine ⟨σ2, ?_, u2, XF_tr (XF_L (by omega)) u3⟩
  rw [f_X4_handOn, if_pos ((q_in (by omega)).mpr (by omega)), q_cl (by omega), hF.1 g (by omega), f_X4_handOn_L13]
  refine Eq.trans x1 ?_
  rw [f_X4_handOn_61, if_pos ((q_in (by omega)).mpr (by omega)), q_cl (by omega), hF.1 g (by omega), lN_sub o1, f_X4_handOn_L77]
  exact u1
theorem hand_M {nx d : Nat → Nat} {n c g fu s : Nat} {τ : SS} {st : Nat → Nat} {cp : Nat → Nat → Nat} (hfu : 1000 ≤ fu) (hn : n ≤ 12) (hc : c < n) (hd0 : d c = 0) (hd : ∀ v, v ≠ c → d v < 12 → d (nx v) + 1 = d v ∧ nx v < n) (hB : FB n st cp) (hF : FM τ n st cp) (hS : ∀ v, v < n → v ≠ c → d v < 12 → τ.2.1 27 v = nI (nx v)) (hg : g < n) (hL : d g < 12) {m : Nat} (hm : mnP nx cp (d g) g (st g) = m) (k133 : SS → (Int32 × Int64 × Int32) → Option (Int64 × SS)) : ∃ τ' : SS, f_X8_gathers_L224 fu k133 τ (nI c, lN s, 1, nI g, lN (st g), nI g) = k133 τ' (nI c, lN (s + m), 1) ∧ FM τ' n (fun i => if i = g then st g - m else st i) (upP nx m (d g) g cp) ∧ MF τ τ' := by
  obtain ⟨o1, o2, o3⟩ := mnP_ok nx cp (d g) g (st g)
  rw [hm] at o1 o2 o3
  have hst := hB.2.2.2 g
  have m1 := M_min (fu := fu) hn hd0 hd hB hF hS hc k133 (lN s) 1 (nI g) (d g) g (st g) fu hg rfl hL (by omega) hst
  rw [hm] at m1
  obtain ⟨τ2, v1, v2, v3⟩ := M_upd (fu := fu) (m := m) hn hd0 hd hc k133 (lN s) 1 hg (d g) g fu τ cp hg rfl hL (by omega) hF hS o2 o1
  refine ⟨sL τ2 26 g (lN (st g - m)), ?_, ⟨fun i hi => ?_, fun i k hi hk => ?_⟩, MF_tr v3 (MF_L (by omega))⟩
  · rw [← lN_add]
    exact m1.trans v1
  · show _ = lN (if i = g then st g - m else st i)
    rw [sL_3]
    by_cases e : i = g
    · rw [if_pos ⟨rfl, e⟩, if_pos e]
    · rw [if_neg (fun z => e z.2), if_neg e]
      exact v2.1 i hi
  · rw [sL_3, if_neg (fun z => by have := z.1; omega)]
    exact v2.2 i k hi hk
theorem hand_P {nx d : Nat → Nat} {n c g : Nat} {st : Nat → Nat} {cp : Nat → Nat → Nat} (hn : n ≤ 12) (hd0 : d c = 0) (hd : ∀ v, v ≠ c → d v < 12 → d (nx v) + 1 = d v ∧ cp v (nx v) ≠ 0 ∧ nx v < n) (hB : FB n st cp) (hg : g < n) (hL : d g < 12) (hst : st g ≠ 0) {m : Nat} (hm : mnP nx cp (d g) g (st g) = m) : FB n (fun i => if i = g then st g - m else st i) (upP nx m (d g) g cp) ∧ (∀ a b, upP nx m (d g) g cp a b ≠ 0 → cp a b ≠ 0 ∨ d b = d a + 1) ∧ (∀ v, (fun i => if i = g then st g - m else st i) v ≠ 0 → st v ≠ 0) ∧ ((∃ v, v < 12 ∧ st v ≠ 0 ∧ (fun i => if i = g then st g - m else st i) v = 0) ∨ ∃ a b, a < 12 ∧ b < 12 ∧ d a = d b + 1 ∧ cp a b ≠ 0 ∧ upP nx m (d g) g cp a b = 0) ∧ m ≤ st g := by
  obtain ⟨o1, o2, o3⟩ := mnP_ok nx cp (d g) g (st g)
  rw [hm] at o1 o2 o3
  have hd' : ∀ v, v ≠ c → d v < 12 → d (nx v) + 1 = d v ∧ nx v < n := fun v h1 h2 => ⟨(hd v h1 h2).1, (hd v h1 h2).2.2⟩
  have hal : ∀ L v, d v = L → L < 12 → alP nx (fun x => x ≠ 0) cp L v := by
    intro L
    induction L with
    | zero => intro v _ _; trivial
    | succ L ihL =>
      intro v hv hL2
      have hvc : v ≠ c := fun z => by rw [z, hd0] at hv; omega
      obtain ⟨x1, x2, x3⟩ := hd v hvc (by omega)
      exact ⟨x2, ihL _ (by omega) (by omega)⟩
  refine ⟨⟨fun i hi => ?_, up_iv hd0 hd' (d g) g cp rfl hL hg hB.2.1, fun a b => ?_, fun i => ?_⟩, up_i hd0 hd' (d g) g cp rfl hL, fun v hv => ?_, ?_, o1⟩
  · show (if i = g then st g - m else st i) = 0
    rw [if_neg (by omega)]
    exact hB.1 i hi
  · rw [up_iii hd0 hd' (d g) g cp rfl hL o2 a b]
    exact hB.2.2.1 a b
  · show (if i = g then st g - m else st i) ≤ 12000000
    have := hB.2.2.2 i
    have := hB.2.2.2 g
    split <;> omega
  · by_cases e : v = g
    · rw [e]; exact hst
    · have hv2 : (if v = g then st g - m else st v) ≠ 0 := hv
      rw [if_neg e] at hv2
      exact hv2
  · rcases o3 with h | h
    · refine Or.inl ⟨g, by omega, hst, ?_⟩
      show (if g = g then st g - m else st g) = 0
      rw [if_pos rfl]
      omega
    · exact Or.inr (up_ii hd0 hd' hn (d g) g cp rfl hL (by omega) (hal _ g rfl hL) h)
/-! the loop over paths -/
theorem flow_both {n c fu : Nat} (hfu : 12000 ≤ fu) (hn : n ≤ 12) (hc : c < n) : ∀ (N fuel p s : Nat) (σ τ : SS) (st : Nat → Nat) (cp : Nat → Nat → Nat), Phi cp st c < N → N + p ≤ 9800 → N + 1 ≤ fuel → FX σ st cp → FM τ n st cp → τ.1 4 = nI n → FB n st cp → s + sumTo st 12 ≤ 12000000 → ∃ (s' : Nat) (σ' τ' : SS) (B : Nat → Nat), loopN (fun k17 σ x => f_X4_most_17 fu k17 σ x.1 x.2.1 x.2.2) fuel σ (nI c, lN s, nI p) = some (lN s', σ') ∧ loopN (fun k133 σ x => f_X8_gathers_133 fu k133 σ x.1 x.2.1 x.2.2) fuel τ (nI c, lN s, 1) = some (lN s', τ') ∧ s' ≤ 12000000 ∧ (∀ v, v < 12 → σ'.2.1 31 v = nI (B v)) ∧ (∀ v, v < n → τ'.2.1 28 v = nI (B v)) ∧ (∀ v, n ≤ v → B v = 0) ∧ (∀ v, B v ≤ 1) ∧ XF σ σ' ∧ MF τ τ' := by
  intro N
  induction N with
  | zero => intro fuel p s σ τ st cp h; exact absurd h (Nat.not_lt_zero _)
  | succ N ih =>
    intro fuel p s σ τ st cp hPhi hp hf hX hM h4 hB hs
    obtain ⟨f, rfl⟩ : ∃ f, fuel = f + 1 := ⟨fuel - 1, by omega⟩
    have hfu1 : 1000 ≤ fu := by omega
    obtain ⟨τ1, w1, w2, w3⟩ := ways_all hfu1 hn hc hB τ hM h4
    have hM1 := FM_NF hM w3
    have hnear := near_all (fu := fu) hfu1 hn hc hB σ hX
    have hJ12 := (bfO_ok hn hc hB.2.1 12).1
    have hq12 := BJ_12 hJ12
    have hdF := dF_ok hn hc hB.2.1
    have hSBa := fun j => bfO_SB hn hc hB.2.1 j (12 - j)
    have hJja := fun j => (bfO_ok hn hc hB.2.1 j).1
    have hscan1 := fun k133 sum h0 => scan_no (fu := fu) hn hc hB hM1 w2 k133 sum h0 ((bfO cp c 12).1 0) 0 fu (Nat.zero_add _) (by omega)
    have hscan2 := fun k133 sum j (hj : j < (bfO cp c 12).1 0) h0 h1 => scan_hit (fu := fu) hn hc hB hM1 w2 k133 sum hj h0 h1 j 0 fu (Nat.zero_add _) (by omega)
    obtain ⟨F, hF⟩ : ∃ F : AS, F = bfO cp c 12 := ⟨_, rfl⟩
    rw [← hF] at hnear hJ12 hq12 hdF w2 hscan1 hscan2
    show ∃ (s' : Nat) (σ' τ' : SS) (B : Nat → Nat), f_X4_most_17 fu (loopN (fun k17 σ x => f_X4_most_17 fu k17 σ x.1 x.2.1 x.2.2) f) σ (nI c) (lN s) (nI p) = some (lN s', σ') ∧ f_X8_gathers_133 fu (loopN (fun k133 σ x => f_X8_gathers_133 fu k133 σ x.1 x.2.1 x.2.2) f) τ (nI c) (lN s) 1 = some (lN s', τ') ∧ s' ≤ 12000000 ∧ (∀ v, v < 12 → σ'.2.1 31 v = nI (B v)) ∧ (∀ v, v < n → τ'.2.1 28 v = nI (B v)) ∧ (∀ v, n ≤ v → B v = 0) ∧ (∀ v, B v ≤ 1) ∧ XF σ σ' ∧ MF τ τ'
    rw [f_X4_most_17, if_neg (show ¬ (10000 : Int32) ≤ nI p from fun z => by have := (q_le (a := 10000) (by omega) (by omega)).mp z; omega), f_X8_gathers_133, if_neg i10, w1, bnd_some, f_X8_gathers_L146]
    rcases hnear with ⟨σ1, a1, a2, a3, a4⟩ | ⟨j, σ1, a2, a3, a1, a5, a6, a7, a8⟩
    · rw [a1, bnd_some, if_pos rfl]
      have e := hscan1 (loopN (fun k133 σ x => f_X8_gathers_133 fu k133 σ x.1 x.2.1 x.2.2) f) (lN s) a4
      refine ⟨s, σ1, τ1, F.2 0, rfl, ?_, by omega, a2.1, w2.1, fun v hv => ?_, hJ12.2.2.1, XF_Q a3, MF_N w3⟩
      · refine Eq.trans e ?_
        obtain ⟨f2, rfl⟩ : ∃ f2, f = f2 + 1 := ⟨f - 1, by omega⟩
        show f_X8_gathers_133 fu _ τ1 (nI c) (lN s) 0 = _
        rw [f_X8_gathers_133, if_pos rfl]
      · by_cases z : F.2 0 v = 0
        · exact z
        · obtain ⟨i, hi, hi2⟩ := hJ12.2.2.2.2.2.2.2.1 v z
          have := (hJ12.2.2.2.2.2.2.1 i hi).1
          omega
    · have hJj := hJja j
      have hSB := hSBa j
      rw [show j + (12 - j) = 12 by omega, ← hF] at hSB
      obtain ⟨d1, d2, d3, d4, d5⟩ := hdF
      have eg : F.2 2 j = (bfO cp c j).2 2 j := hSB.2.1 j a2
      obtain ⟨G, hG⟩ : ∃ G : AS, G = bfO cp c j := ⟨_, rfl⟩
      rw [← hG] at a1 a2 a5 a7 hJj hSB eg
      have hgj := hJj.2.2.2.2.2.2.1 j a2
      obtain ⟨g, hg⟩ : ∃ g, g = G.2 2 j := ⟨_, rfl⟩
      rw [← hg] at a1 a7 eg hgj
      have hgn : g < n := hgj.1
      have hfound : G.2 0 g ≠ 0 := by rw [hgj.2.1]; omega
      have hd12 : dF cp c g < 12 := (d5 g).mpr (hSB.2.2 g hfound).1
      have hm1 := hscan2 (loopN (fun k133 σ x => f_X8_gathers_133 fu k133 σ x.1 x.2.1 x.2.2) f) (lN s) j (Nat.lt_of_lt_of_le a2 hSB.1) a8 (by rw [eg]; exact a7)
      rw [eg] at hm1
      have hm1' : loopN (fun k146 σ x => f_X8_gathers_146 fu (loopN (fun k133 σ x => f_X8_gathers_133 fu k133 σ x.1 x.2.1 x.2.2) f) k146 σ x.1 x.2.1 x.2.2) fu τ1 (nI c, lN s, 0) = f_X8_gathers_L224 fu (loopN (fun k133 σ x => f_X8_gathers_133 fu k133 σ x.1 x.2.1 x.2.2) f) τ1 (nI c, lN s, 1, nI g, lN (st g), nI g) := hm1
      have hS32 : ∀ v, G.2 0 v ≠ 0 → v ≠ c → σ1.2.1 32 v = nI (F.2 1 v) ∧ G.2 0 (F.2 1 v) ≠ 0 := by
        intro v hv hvc
        obtain ⟨x1, x2, x3, x4⟩ := hJj.2.2.2.2.2.2.2.2.1 v hv hvc
        obtain ⟨i, hi, hi2⟩ := hJj.2.2.2.2.2.2.2.1 v hv
        have hv12 := (hJj.2.2.2.2.2.2.1 i hi).1
        rw [hi2] at hv12
        rw [(hSB.2.2 v hv).2.1]
        exact ⟨a5.2.1 v (by omega) hv hvc, by rw [x2]; omega⟩
      have hS27 : ∀ v, v < n → v ≠ c → dF cp c v < 12 → τ1.2.1 27 v = nI (F.2 1 v) := fun v hv hvc hd => w2.2.1 v hv ((d5 v).mp hd) hvc
      have hd' : ∀ v, v ≠ c → dF cp c v < 12 → dF cp c (F.2 1 v) + 1 = dF cp c v ∧ F.2 1 v < n := fun v h1 h2 => ⟨(d3 v h1 h2).1, (d3 v h1 h2).2.2⟩
      have hX1 := FX_QF hX a6
      obtain ⟨m, hm⟩ : ∃ m, mnP (F.2 1) cp (dF cp c g) g (st g) = m := ⟨_, rfl⟩
      obtain ⟨P1, P2, P3, P4, P5⟩ := hand_P hn d1 d3 hB hgn hd12 a7 hm
      obtain ⟨σ2, u1, u2, u3⟩ := hand_X (fu := fu) (S := fun v => G.2 0 v ≠ 0) hfu1 hn hc d1 hd' hB hX1 hS32 hfound hgn hd12 hm
      obtain ⟨τ2, v1, v2, v3⟩ := hand_M (fu := fu) (s := s) hfu1 hn hc d1 hd' hB hM1 hS27 hgn hd12 hm (loopN (fun k133 σ x => f_X8_gathers_133 fu k133 σ x.1 x.2.1 x.2.2) f)
      have hPhi' := Phi_lt hn hc hB.2.1 P1.2.1 P2 P3 P4
      have hsum := sumTo_set (f := st) (n := 12) (j := g) (v := st g - m) (Nat.lt_of_lt_of_le hgn hn)
      have h42 : τ2.1 4 = nI n := by
        rw [v3.1 4 (by omega), w3.1 4 (by omega)]
        exact h4
      obtain ⟨s', σ', τ', B, r1, r2, r3, r4, r5, r6, r7, r8, r9⟩ := ih f (p + 1) (s + m) σ2 τ2 _ _ (Nat.lt_of_lt_of_le hPhi' (Nat.le_of_lt_succ hPhi)) (by omega) (by omega) u2 v2 h42 P1 (by omega)
      rw [a1, bnd_some, if_neg (q_m1 (by omega)), u1, bnd_some, lN_add, q_inc, hm1', v1]
      exact ⟨s', σ', τ', B, r1, r2, r3, r4, r5, r6, r7, XF_tr (XF_Q a6) (XF_tr u3 r8), MF_tr (MF_N w3) (MF_tr v3 r9)⟩
