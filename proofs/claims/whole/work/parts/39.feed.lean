/-! both at once -/
def RR (σ τ : SS) (a : AS) : Prop := RX σ a ∧ RM τ a ∧ RC σ τ ∧ Inv a ∧ InvB a
theorem RR_rel {σ τ : SS} {a : AS} (h : RR σ τ a) : Rel σ τ := ⟨a, h⟩
theorem RR_thrown {σ τ : SS} {a : AS} {v : Int32} (h : RR σ τ a) : RR σ (sI τ 0 v) a := ⟨h.1, RM_thrown h.2.1, RC_thrown h.2.2.1, h.2.2.2⟩
theorem RR_ow {σ τ : SS} {a : AS} {j v : Nat} (h : RR σ τ a) (hv : v < a.1 0) : RR (sA σ 26 j (nI v)) (sA τ 21 j (nI v)) (aA a 14 j v) := ⟨RX_ow h.1, RM_ow h.2.1, RC_eq h.2.2.1 rfl rfl rfl rfl rfl rfl, Inv_ow h.2.2.2.1 hv, InvB_ne h.2.2.2.2 (by omega)⟩
theorem RR_dx {σ τ : SS} {a : AS} {j v : Nat} (h : RR σ τ a) (hv : v < a.1 0) : RR (sA σ 22 j (nI v)) (sA τ 15 j (nI v)) (aA a 10 j v) := ⟨RX_dx h.1, RM_dx h.2.1, RC_eq h.2.2.1 rfl rfl rfl rfl rfl rfl, Inv_dx h.2.2.2.1 hv, InvB_ne h.2.2.2.2 (by omega)⟩
theorem RR_dw {σ τ : SS} {a : AS} {j v : Nat} (h : RR σ τ a) (hv : v < a.1 0) : RR (sA σ 23 j (nI v)) (sA τ 16 j (nI v)) (aA a 11 j v) := ⟨RX_dw h.1, RM_dw h.2.1, RC_eq h.2.2.1 rfl rfl rfl rfl rfl rfl, Inv_dw h.2.2.2.1 hv, InvB_ne h.2.2.2.2 (by omega)⟩
theorem sL17_2 (τ : SS) (j : Nat) (v : Int64) : (sL τ 17 j v).2.2 2 = τ.2.2 2 := rfl
theorem RR_dl {σ τ : SS} {a : AS} {j v : Nat} (h : RR σ τ a) (hv : v ≤ 1000000000) : RR (sA σ 24 j (nI v)) (sL τ 17 j (lN v)) (aA a 12 j v) := ⟨RX_dl h.1, RM_dl h.2.1, RC_eq h.2.2.1 rfl rfl rfl rfl rfl rfl, Inv_dl h.2.2.2.1 hv, InvB_ne h.2.2.2.2 (by omega)⟩
theorem Inv_len {a : AS} {v : Nat} (h : Inv a) (hv : v ≤ 200) : Inv (aI a 2 v) := by
  obtain ⟨i1, i2, i3, r⟩ := h
  exact ⟨i1, i2, hv, r⟩
theorem Inv_now {a : AS} {v : Nat} (h : Inv a) (hv : v ≤ 1000) : Inv (aI a 1 v) := by
  obtain ⟨i1, i2, i3, r⟩ := h
  exact ⟨i1, hv, i3, r⟩
theorem aA_comm {a : AS} {r j v r' j' v' : Nat} (h : ¬ (r = r' ∧ j = j')) : aA (aA a r j v) r' j' v' = aA (aA a r' j' v') r j v := by
  refine Prod.ext rfl ?_
  funext b i
  simp only [aA_2]
  by_cases e1 : b = r' ∧ i = j'
  · by_cases e2 : b = r ∧ i = j
    · exact absurd ⟨e2.1.symm.trans e1.1, e2.2.symm.trans e1.2⟩ h
    · rw [if_pos e1, if_neg e2, if_pos e1]
  · rw [if_neg e1, if_neg e1]
theorem aA_idem {a : AS} {r j v w : Nat} : aA (aA a r j v) r j w = aA a r j w := by
  refine Prod.ext rfl ?_
  funext b i
  simp only [aA_2]
  by_cases e1 : b = r ∧ i = j
  · rw [if_pos e1, if_pos e1]
  · rw [if_neg e1, if_neg e1, if_neg e1]
theorem aA_self {a : AS} {r j : Nat} : aA a r j (a.2 r j) = a := by
  refine Prod.ext rfl ?_
  funext b i
  simp only [aA_2]
  by_cases e1 : b = r ∧ i = j
  · rw [if_pos e1, e1.1, e1.2]
  · rw [if_neg e1]
/-! feed -/
def by8 (x s : Int32) : Int32 := vp_nar .byte ((x >>> (s &&& 31))).toInt8.toInt32
theorem feed1 {σ τ : SS} {a : AS} {x s : Int32} (h : RR σ τ a) (hL : a.1 2 < 200) : RR (sI (sA σ 10 (a.1 2) (by8 x s)) 2 (nI (a.1 2 + 1))) (sI (sA τ 6 (a.1 2) (by8 x s)) 7 (nI (a.1 2 + 1))) (aI a 2 (a.1 2 + 1)) := by
  obtain ⟨h1, h2, h3, h4, h5⟩ := h
  refine ⟨RX_len (RX_eq h1 (fun _ _ => rfl) (fun r q1 q2 q3 => ?_)), RM_len (RM_eq h2 (fun _ _ => rfl) (fun r q1 q2 => ?_) rfl), ?_, Inv_len h4 (by omega), InvB_I h5 (by omega)⟩
  · funext i
    rw [sA_2, if_neg (fun z => by have := z.1; omega)]
  · funext i
    rw [sA_2, if_neg (fun z => by have := z.1; omega)]
  · obtain ⟨c1, c2, c3⟩ := h3
    refine ⟨c1, fun j hj => ?_, c3⟩
    have q := c2 j hj
    simp only [sI_2, sA_2]
    by_cases e : j = a.1 2
    · rw [if_pos ⟨trivial, e⟩, if_pos ⟨trivial, e⟩]
      refine ⟨rfl, ?_⟩
      unfold by8
      rw [pk_vb]
      exact pk_fb _
    · rw [if_neg (fun z => e z.2), if_neg (fun z => e z.2)]
      exact q
theorem ap_X {fu : Nat} {σ : SS} {L : Nat} {x s : Int32} (k : SS → Int32 × Int32 → Option (Unit × SS)) (hL : σ.1 2 = nI L) (h : L < 200) (hs : ¬ s < 0) : f_X5_append_3 fu k σ x s = k (sI (sA σ 10 L (by8 x s)) 2 (nI (L + 1))) (x, s + (-8)) := by
  rw [f_X5_append_3, if_neg hs, hL, if_pos ((q_in (by omega)).mpr h), q_cl (by omega), q_inc]
  rfl
theorem ap_M {fu : Nat} {τ : SS} {L : Nat} {x1 x2 x3 x4 x5 x6 x s : Int32} (k23 : SS → (Int32 × Int32 × Int32 × Int32 × Int32 × Int32) → Option (Int32 × SS)) (k : SS → (Int32 × Int32 × Int32 × Int32 × Int32 × Int32 × Int32 × Int32) → Option (Int32 × SS)) (hL : τ.1 7 = nI L) (h : L < 200) (hs : ¬ s < 0) : f_X8_feed_77 fu k23 k τ x1 x2 x3 x4 x5 x6 x s = k (sI (sA τ 6 L (by8 x s)) 7 (nI (L + 1))) (x1, x2, x3, x4, x5, x6, x, s + (-8)) := by
  rw [f_X8_feed_77, if_neg hs, hL, if_pos ((q_in (by omega)).mpr h), q_cl (by omega), q_inc]
  rfl
theorem word {fu : Nat} (hfu : 1000 ≤ fu) {σ τ : SS} {a : AS} (x : Int32) (h : RR σ τ a) (hL : a.1 2 + 4 ≤ 200) : ∃ (σ' τ' : SS) (a' : AS), f_X5_append fu σ x = some ((), σ') ∧ (∀ (k23 : SS → (Int32 × Int32 × Int32 × Int32 × Int32 × Int32) → Option (Int32 × SS)) (x1 x2 x3 x4 x5 x6 : Int32), f_X8_feed_L77 fu k23 τ (x1, x2, x3, x4, x5, x6, x, 24) = k23 τ' (x1, x2, x3, x4, x5, x6 + 1)) ∧ RR σ' τ' a' ∧ a'.1 2 = a.1 2 + 4 := by
  have r1 := feed1 (x := x) (s := 24) h (by omega)
  have r2 := feed1 (x := x) (s := 16) r1 (by show a.1 2 + 1 < 200; omega)
  have r3 := feed1 (x := x) (s := 8) r2 (by show a.1 2 + 1 + 1 < 200; omega)
  have r4 := feed1 (x := x) (s := 0) r3 (by show a.1 2 + 1 + 1 + 1 < 200; omega)
  refine ⟨_, _, _, ?_, ?_, r4, rfl⟩
  · unfold f_X5_append f_X5_append_L3
    obtain ⟨f, hf⟩ : ∃ f, fu = f + 5 := ⟨fu - 5, by omega⟩
    rw [show loopN (fun k3 σ x => f_X5_append_3 fu k3 σ x.1 x.2) fu = loopN (fun k3 σ x => f_X5_append_3 fu k3 σ x.1 x.2) (f + 5) by rw [← hf]]
    refine (ap_X (fu := fu) (x := x) (s := 24) (loopN (fun k3 σ x => f_X5_append_3 fu k3 σ x.1 x.2) (f + 4)) h.1.1.2.2.1 (by omega) (by decide)).trans ?_
    refine (ap_X (fu := fu) (x := x) (s := 16) (loopN (fun k3 σ x => f_X5_append_3 fu k3 σ x.1 x.2) (f + 3)) r1.1.1.2.2.1 (by show a.1 2 + 1 < 200; omega) (by decide)).trans ?_
    refine (ap_X (fu := fu) (x := x) (s := 8) (loopN (fun k3 σ x => f_X5_append_3 fu k3 σ x.1 x.2) (f + 2)) r2.1.1.2.2.1 (by show a.1 2 + 1 + 1 < 200; omega) (by decide)).trans ?_
    refine (ap_X (fu := fu) (x := x) (s := 0) (loopN (fun k3 σ x => f_X5_append_3 fu k3 σ x.1 x.2) (f + 1)) r3.1.1.2.2.1 (by show a.1 2 + 1 + 1 + 1 < 200; omega) (by decide)).trans ?_
    show f_X5_append_3 fu (loopN (fun k3 σ x => f_X5_append_3 fu k3 σ x.1 x.2) f) _ x (-8) = _
    rw [f_X5_append_3, if_pos (by decide)]
  · intro k23 x1 x2 x3 x4 x5 x6
    unfold f_X8_feed_L77
    obtain ⟨f, hf⟩ : ∃ f, fu = f + 5 := ⟨fu - 5, by omega⟩
    rw [show loopN (fun k77 σ x => f_X8_feed_77 fu k23 k77 σ x.1 x.2.1 x.2.2.1 x.2.2.2.1 x.2.2.2.2.1 x.2.2.2.2.2.1 x.2.2.2.2.2.2.1 x.2.2.2.2.2.2.2) fu = loopN (fun k77 σ x => f_X8_feed_77 fu k23 k77 σ x.1 x.2.1 x.2.2.1 x.2.2.2.1 x.2.2.2.2.1 x.2.2.2.2.2.1 x.2.2.2.2.2.2.1 x.2.2.2.2.2.2.2) (f + 5) by rw [← hf]]
    refine (ap_M (fu := fu) (x := x) (s := 24) k23 (loopN (fun k77 σ x => f_X8_feed_77 fu k23 k77 σ x.1 x.2.1 x.2.2.1 x.2.2.2.1 x.2.2.2.2.1 x.2.2.2.2.2.1 x.2.2.2.2.2.2.1 x.2.2.2.2.2.2.2) (f + 4)) h.2.1.1.2.2.1 (by omega) (by decide)).trans ?_
    refine (ap_M (fu := fu) (x := x) (s := 16) k23 (loopN (fun k77 σ x => f_X8_feed_77 fu k23 k77 σ x.1 x.2.1 x.2.2.1 x.2.2.2.1 x.2.2.2.2.1 x.2.2.2.2.2.1 x.2.2.2.2.2.2.1 x.2.2.2.2.2.2.2) (f + 3)) r1.2.1.1.2.2.1 (by show a.1 2 + 1 < 200; omega) (by decide)).trans ?_
    refine (ap_M (fu := fu) (x := x) (s := 8) k23 (loopN (fun k77 σ x => f_X8_feed_77 fu k23 k77 σ x.1 x.2.1 x.2.2.1 x.2.2.2.1 x.2.2.2.2.1 x.2.2.2.2.2.1 x.2.2.2.2.2.2.1 x.2.2.2.2.2.2.2) (f + 2)) r2.2.1.1.2.2.1 (by show a.1 2 + 1 + 1 < 200; omega) (by decide)).trans ?_
    refine (ap_M (fu := fu) (x := x) (s := 0) k23 (loopN (fun k77 σ x => f_X8_feed_77 fu k23 k77 σ x.1 x.2.1 x.2.2.1 x.2.2.2.1 x.2.2.2.2.1 x.2.2.2.2.2.1 x.2.2.2.2.2.2.1 x.2.2.2.2.2.2.2) (f + 1)) r3.2.1.1.2.2.1 (by show a.1 2 + 1 + 1 + 1 < 200; omega) (by decide)).trans ?_
    show f_X8_feed_77 fu k23 (loopN _ f) _ x1 x2 x3 x4 x5 x6 x (-8) = _
    rw [f_X8_feed_77, if_pos (by decide)]
theorem sim_feed {fu : Nat} (hfu : 1000 ≤ fu) : Sim_feed fu Rel := by
  intro σ τ h x1 x2 x3 x4 x5
  have h0 := h
  obtain ⟨a, hR⟩ := h
  have hL : a.1 2 ≤ 200 := hR.2.2.2.1.2.2.1
  have e20 : ∀ v : Nat, nI v + (20 : Int32) = nI (v + 20) := fun v => q_add v 20
  rw [f_X7_feed, f_X8_feed, hR.1.1.2.2.1, hR.2.1.1.2.2.1, e20]
  by_cases q : a.1 2 + 20 ≤ 200
  · have q' : nI (a.1 2 + 20) ≤ (200 : Int32) := (q_le (b := 200) (by omega) (by omega)).mpr q
    rw [if_pos q', if_pos q']
    obtain ⟨s1, t1, a1, w1, m1, R1, L1⟩ := word hfu x1 (RR_thrown (v := 0) hR) (by omega)
    obtain ⟨s2, t2, a2, w2, m2, R2, L2⟩ := word hfu x2 R1 (by omega)
    obtain ⟨s3, t3, a3, w3, m3, R3, L3⟩ := word hfu x3 R2 (by omega)
    obtain ⟨s4, t4, a4, w4, m4, R4, L4⟩ := word hfu x4 R3 (by omega)
    obtain ⟨s5, t5, a5, w5, m5, R5, L5⟩ := word hfu x5 R4 (by omega)
    refine ⟨nI (a5.1 2), s5, t5, ?_, ?_, RR_rel R5⟩
    · rw [w1, bnd_some, w2, bnd_some, w3, bnd_some, w4, bnd_some, w5, bnd_some, R5.1.1.2.2.1]
    · unfold f_X8_feed_L23
      obtain ⟨f, hf⟩ : ∃ f, fu = f + 6 := ⟨fu - 6, by omega⟩
      rw [show loopN (fun k23 σ x => f_X8_feed_23 fu k23 σ x.1 x.2.1 x.2.2.1 x.2.2.2.1 x.2.2.2.2.1 x.2.2.2.2.2) fu = loopN (fun k23 σ x => f_X8_feed_23 fu k23 σ x.1 x.2.1 x.2.2.1 x.2.2.2.1 x.2.2.2.2.1 x.2.2.2.2.2) (f + 6) by rw [← hf]]
      have st : ∀ (k : SS → (Int32 × Int32 × Int32 × Int32 × Int32 × Int32) → Option (Int32 × SS)) (t : SS) (y : Int32), ¬ (5 : Int32) ≤ y → f_X8_feed_23 fu k t x1 x2 x3 x4 x5 y = f_X8_feed_71 fu k t x1 x2 x3 x4 x5 y (if y = 0 then x1 else if y = 1 then x2 else if y = 2 then x3 else if y = 3 then x4 else x5) := by
        intro k t y hy
        rw [f_X8_feed_23, if_neg hy]
        split
        · rfl
        · split
          · rfl
          · split
            · rfl
            · split <;> rfl
      show f_X8_feed_23 fu (loopN _ (f + 5)) (sI τ 0 0) x1 x2 x3 x4 x5 0 = _
      rw [st _ _ 0 (by decide), f_X8_feed_71, if_pos rfl, m1]
      show f_X8_feed_23 fu (loopN _ (f + 4)) t1 x1 x2 x3 x4 x5 1 = _
      rw [st _ _ 1 (by decide), f_X8_feed_71, if_neg i10, if_pos rfl, m2]
      show f_X8_feed_23 fu (loopN _ (f + 3)) t2 x1 x2 x3 x4 x5 2 = _
      rw [st _ _ 2 (by decide), f_X8_feed_71, if_neg (by decide), if_neg (by decide), if_pos rfl, m3]
      show f_X8_feed_23 fu (loopN _ (f + 2)) t3 x1 x2 x3 x4 x5 3 = _
      rw [st _ _ 3 (by decide), f_X8_feed_71, if_neg (by decide), if_neg (by decide), if_neg (by decide), if_pos rfl, m4]
      show f_X8_feed_23 fu (loopN _ (f + 1)) t4 x1 x2 x3 x4 x5 4 = _
      rw [st _ _ 4 (by decide), f_X8_feed_71, if_neg (by decide), if_neg (by decide), if_neg (by decide), if_neg (by decide), m5]
      show f_X8_feed_23 fu (loopN _ f) t5 x1 x2 x3 x4 x5 5 = _
      rw [f_X8_feed_23, if_pos (by decide), R5.2.1.1.2.2.1]
  · have q' : ¬ nI (a.1 2 + 20) ≤ (200 : Int32) := fun z => q ((q_le (b := 200) (by omega) (by omega)).mp z)
    rw [if_neg q', if_neg q']
    exact ⟨-1, σ, _, rfl, rfl, Rel_thrown h0⟩
