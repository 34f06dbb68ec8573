/-! give and pass -/
theorem EQ_same {a b : AS} (h : EQ a b) (h0 : b.2 0 = a.2 0) (h14 : b.2 14 = a.2 14) : b = a := by
  refine Prod.ext h.1 ?_
  funext r
  by_cases e0 : r = 0
  · rw [e0]; exact h0
  · by_cases e1 : r = 14
    · rw [e1]; exact h14
    · exact h.2 r e0 e1
theorem fl_le {A d : Nat} (hd : d ≤ 400) : (if A = 0 then (0 : Int32) else 1) ≤ nI (400 - d) ↔ (A ≠ 0 → d < 400) := by
  by_cases z : A = 0
  · rw [if_pos z]
    exact ⟨fun _ h => absurd z h, fun _ => (q_le (a := 0) (by omega) (by omega)).mpr (by omega)⟩
  · rw [if_neg z]
    constructor
    · intro h _
      have := (q_le (a := 1) (by omega) (by omega)).mp h
      omega
    · intro h
      have := h z
      exact (q_le (a := 1) (by omega) (by omega)).mpr (by omega)
theorem lc0 {a : Nat} (ha : a < 2 ^ 63) : lg_cmp (lN a) 0 ≤ 0 ↔ a = 0 := by
  have h : lg_cmp (lN a) 0 ≤ 0 ↔ a ≤ 0 := lc_le (b := 0) ha (by omega)
  rw [h]
  omega
theorem go_M {A d : Nat} {β : Type} (hd : d ≤ 400) (hA : A ≤ 1000000000) (P Q : β) : (if nI d = (400 : Int32) then (if lg_cmp (lN A) 0 ≤ 0 then P else Q) else P) = if (A ≠ 0 → d < 400) then P else Q := by
  by_cases e : d = 400
  · rw [if_pos (by rw [e]; rfl)]
    by_cases z : A = 0
    · rw [if_pos ((lc0 (by omega)).mpr z), if_pos (fun h => absurd z h)]
    · rw [if_neg (fun y => by have := (lc_le (b := 0) (by omega) (by omega)).mp y; omega), if_neg (fun h => by have := h z; omega)]
  · rw [if_neg (show ¬ nI d = (400 : Int32) from fun z => e ((q_eq (b := 400) (by omega) (by omega)).mp z)), if_pos (fun _ => by omega)]
theorem sim_give {fu : Nat} (hfu : 1000 ≤ fu) : Sim_give fu Rel := by
  intro σ τ h x1 x2 x3
  have h0 := h
  obtain ⟨a, h1, h2, h3, h4, h5⟩ := h
  have hM := RM_thrown (v := 0) h2
  have hn : a.1 0 ≤ 12 := h4.1
  have hd : a.1 4 ≤ 400 := h4.2.2.2.2.1
  unfold f_X7_give f_X8_give
  rcases pair_both (fu := fu) h1 hM h4 x1 x2 x3 with ⟨i, j, n, hi, hj, hij, hn1, hn2, rfl, rfl, rfl, li, lj, eX, eM⟩ | ⟨eX, eM⟩ | ⟨eX, eM⟩ | ⟨eX, eM⟩
  · left
    have hbi := InvB_one h5 h4 (show i < 12 by omega)
    have hii : inB (nI i) 12 := (q_in (by omega)).mpr (by omega)
    have hjj : inB (nI j) 12 := (q_in (by omega)).mpr (by omega)
    rw [eX, eM, bndX_ok, bnd_some, if_neg i10, if_pos hii, if_pos hii, q_cl (by omega), (h1.2.1 i (by omega)).1, (hM.2.1 i (by omega)).1]
    by_cases q : n ≤ a.2 0 i
    · have hA := ask_le (ctm a 0) (ctm a 1) (n - owA a i j)
      have e400 : (400 : Int32) - nI (a.1 4) = nI (400 - a.1 4) := q_sub (a := 400) hd
      rw [if_pos ((nI_leI (by omega) (by omega)).mpr q), if_pos ((nI_leI (by omega) (by omega)).mpr q), X_makes hfu h1 h4 hi hj (by omega), bnd1_some, f_X3_room, bnd1_some, h1.1.2.2.2.2.1, hM.1.2.2.2.2.1, e400, nI_l (by omega), M_made hfu hM h4 hi hj (by omega), bnd1_some, go_M hd hA]
      by_cases c : ask (ctm a 0) (ctm a 1) (n - owA a i j) ≠ 0 → a.1 4 < 400
      · rw [if_pos ((fl_le hd).mpr c), if_pos c, f_X0_moveBlankets, if_pos hii, if_pos hjj, q_cl (by omega), q_cl (by omega), bnd_some, f_X8_give_55, if_pos hii, if_pos hjj, q_cl (by omega), q_cl (by omega)]
        have R : RG _ _ (mvB a i j n) (mvB a i j n) := ⟨RX_mv (n := n) h1 (show i < 12 by omega) (show j < 12 by omega) hij q, RM_mv (n := n) hM (show i < 12 by omega) (show j < 12 by omega) hij q, RC_eq h3 rfl rfl rfl rfl rfl rfl, Inv_mv h4 hi hj, InvB_mv h5 (by omega) (by omega) hij q, Inv_mv h4 hi hj, EQ_rf _⟩
        obtain ⟨v, σ', τ', a', b', g1, g2, g3, g4, g5, g6⟩ := gives_both (n := n) hfu R hi hj hij (by omega) c
        have eb : b' = a' := EQ_same g3.2.2.2.2.2.2 (by rw [g5 0 (by omega), g4.2.2.1 0 (by omega)]) (by rw [g5 14 (by omega), g4.2.2.1 14 (by omega)])
        refine ⟨v, σ', τ', by rw [g1, bnd_some], by rw [g2, bnd_some], g6, a', g3.1, ?_, g3.2.2.1, g3.2.2.2.1, g3.2.2.2.2.1⟩
        rw [← eb]
        exact g3.2.1
      · rw [if_neg (fun z => c ((fl_le hd).mp z)), if_neg c]
        exact ⟨-2, σ, sI τ 0 0, rfl, rfl, rfl, Rel_thrown h0⟩
    · rw [if_neg (fun z => q ((nI_leI (by omega) (by omega)).mp z)), if_neg (fun z => q ((nI_leI (by omega) (by omega)).mp z))]
      exact ⟨-1, σ, sI τ 0 0, rfl, rfl, rfl, Rel_thrown h0⟩
  · refine Or.inr (Or.inl ⟨0, σ, _, by rw [eX, bndX_no], by rw [eM, bnd_some, if_pos rfl], rfl, Rel_thrown (Rel_thrown h0)⟩)
  · refine Or.inr (Or.inr (Or.inl ⟨0, σ, _, by rw [eX, bndX_no], by rw [eM, bnd_some, if_pos rfl], rfl, Rel_thrown (Rel_thrown h0)⟩))
  · refine Or.inr (Or.inr (Or.inr ⟨0, σ, _, by rw [eX, bndX_no], by rw [eM, bnd_some, if_pos rfl], rfl, Rel_thrown (Rel_thrown h0)⟩))
theorem EQ_own (a : AS) (j y : Nat) : EQ (aA a 14 j y) a := ⟨rfl, fun r _ h14 => by
  funext i
  rw [aA_2, if_neg (fun z => h14 z.1)]⟩
theorem sim_pass {fu : Nat} (hfu : 1000 ≤ fu) : Sim_pass fu Rel := by
  intro σ τ h x1 x2
  have h0 := h
  obtain ⟨a, h1, h2, h3, h4, h5⟩ := h
  have hM := RM_thrown (v := 0) h2
  have hn : a.1 0 ≤ 12 := h4.1
  have hd : a.1 4 ≤ 400 := h4.2.2.2.2.1
  have hp : a.1 5 ≤ 30 := h4.2.2.2.2.2.1
  have hb1 : ∀ y1 y2, f_X8_pass_22 fu (sI τ 0 0) y1 y2 = some (0, sI (sI τ 0 0) 0 1) := fun y1 y2 => by
    rw [f_X8_pass_22, f_X8_pass_27, b_no, bnd_some, if_neg i10]
  rcases ix3 x1 (n := a.1 5) (by omega) with hx | ⟨j, hj, rfl⟩
  · refine Or.inr (Or.inl ⟨0, σ, sI (sI τ 0 0) 0 1, ?_, ?_, rfl, Rel_thrown (Rel_thrown h0)⟩)
    · rw [f_X7_pass, cp_no (by omega) h1.1.2.2.2.2.2 hx, bndX_no]
    · rw [f_X8_pass, mp_no (by omega) hM.1.2.2.2.2.2 hx, bnd1_some, if_pos rfl, hb1]
  rcases ix3 x2 (n := a.1 0) (by omega) with hx | ⟨y, hy, rfl⟩
  · refine Or.inr (Or.inl ⟨0, σ, sI (sI τ 0 0) 0 1, ?_, ?_, rfl, Rel_thrown (Rel_thrown h0)⟩)
    · rw [f_X7_pass, cp_ok (by omega) h1.1.2.2.2.2.2 hj, bndX_ok, cc_no (by omega) h1.1.1 hx, bndX_no]
    · rw [f_X8_pass, mp_ok (by omega) hM.1.2.2.2.2.2 hj, bnd1_some, if_neg i10, mc_no (by omega) hM.1.1 hx, bnd1_some, if_pos rfl, hb1]
  obtain ⟨p1, p2, p3⟩ := h1.2.2.2.2 j hj
  obtain ⟨m1, m2, m3⟩ := hM.2.2.2.2 j hj
  obtain ⟨hI1, hI2, hI3, hI4⟩ := h4.2.2.2.2.2.2.2.2.1 j hj
  have hin : inB (nI j) 30 := (q_in (by omega)).mpr (by omega)
  have hiy : inB (nI y) 12 := (q_in (by omega)).mpr (by omega)
  have ay := h4.2.2.2.2.2.2.2.2.2.2 y
  rw [f_X7_pass, cp_ok (by omega) h1.1.2.2.2.2.2 hj, bndX_ok, cc_ok (by omega) h1.1.1 hy, bndX_ok, if_pos hin, q_cl (by omega), p1, p2, f_X8_pass, mp_ok (by omega) hM.1.2.2.2.2.2 hj, bnd1_some, if_neg i10, mc_ok (by omega) hM.1.1 hy, bnd1_some, if_neg i10, f_X8_pass_27, b_ok, bnd_some, if_pos rfl, if_pos hin, q_cl (by omega), m1]
  by_cases e : a.2 14 j = y
  · have e' : nI (a.2 14 j) = nI y := by rw [e]
    rw [if_pos e', if_pos e', f_X8_pass_50, b_no, bnd_some, if_neg i10]
    exact Or.inr (Or.inr (Or.inl ⟨0, σ, _, rfl, rfl, rfl, Rel_thrown (Rel_thrown h0)⟩))
  have e' : ¬ nI (a.2 14 j) = nI y := fun z => e ((q_eq (by omega) (by omega)).mp z)
  rw [if_neg e', if_neg e', f_X8_pass_50, b_ok, bnd_some, if_pos rfl, if_pos hiy, q_cl (by omega), (hM.2.1 y (by omega)).2]
  by_cases c1 : a.2 1 y = 0
  · refine Or.inr (Or.inr (Or.inr ⟨0, σ, sI (sI τ 0 0) 0 3, ?_, ?_, rfl, Rel_thrown (Rel_thrown h0)⟩))
    · rw [lv_no (by omega) (by rw [(h1.2.1 y (by omega)).2, c1]), bndX_no]
    · rw [show (if y < a.1 0 ∧ a.2 1 y = 0 then (1 : Int32) else 0) = 1 from if_pos ⟨hy, c1⟩, b_no, bnd_some, if_neg i10]
  rw [lv_ok (by omega) (h1.2.1 y (by omega)).2 ay c1, bndX_ok, show (if y < a.1 0 ∧ a.2 1 y = 0 then (1 : Int32) else 0) = 0 from if_neg (fun z => c1 z.2), b_ok, bnd_some, if_pos rfl, if_pos hin, q_cl (by omega), m1, m2]
  left
  by_cases w0 : a.2 15 j = 0
  · rw [if_pos ((q_eq0 (by omega)).mpr w0), if_pos ((q_eq0 (by omega)).mpr w0)]
    exact ⟨-1, σ, sI τ 0 0, rfl, rfl, rfl, Rel_thrown h0⟩
  have w0' : ¬ nI (a.2 15 j) = 0 := fun z => w0 ((q_eq0 (by omega)).mp z)
  have hA := ask_le (ctm a 0) (ctm a 1) (a.2 15 j - owA a (a.2 14 j) y)
  have e400 : (400 : Int32) - nI (a.1 4) = nI (400 - a.1 4) := q_sub (a := 400) hd
  rw [if_neg w0', if_neg w0', X_makes hfu h1 h4 hI1 hy (by omega), bnd1_some, f_X3_room, bnd1_some, h1.1.2.2.2.2.1, hM.1.2.2.2.2.1, e400, nI_l (by omega), M_made hfu hM h4 hI1 hy (by omega), bnd1_some, go_M hd hA]
  by_cases c : ask (ctm a 0) (ctm a 1) (a.2 15 j - owA a (a.2 14 j) y) ≠ 0 → a.1 4 < 400
  · have m1' : (sI τ 0 0).2.1 21 (nI j).toNatClampNeg = nI (a.2 14 j) := by rw [q_cl (by omega)]; exact m1
    have m2' : (sI τ 0 0).2.1 22 (nI j).toNatClampNeg = nI (a.2 15 j) := by rw [q_cl (by omega)]; exact m2
    rw [if_pos ((fl_le hd).mpr c), if_pos c, f_X8_pass_120, if_pos hin, m1', m2']
    have R : RG (sA σ 26 j (nI y)) (sI τ 0 0) (aA a 14 j y) a := ⟨RX_ow h1, hM, RC_eq (RC_thrown (v := 0) h3) rfl rfl rfl rfl rfl rfl, Inv_ow h4 hy, InvB_ne h5 (by omega), h4, EQ_own a j y⟩
    obtain ⟨v, σ', τ', a', b', g1, g2, g3, g4, g5, g6⟩ := gives_both (n := a.2 15 j) (x := a.2 14 j) (y := y) hfu R hI1 hy e (by omega) c
    have hE := g3.2.2.2.2.2.2
    have eb : aA b' 14 j y = a' := by
      refine Prod.ext hE.1 ?_
      funext r i
      by_cases e1 : r = 14
      · rw [e1, g4.2.2.1 14 (by omega), aA_2, aA_2, g5 14 (by omega)]
      · rw [aA_2, if_neg (fun z => e1 z.1)]
        by_cases e2 : r = 0
        · rw [e2, g4.2.2.1 0 (by omega), g5 0 (by omega), aA_2, if_neg (fun z => by have := z.1; omega)]
        · rw [hE.2 r e2 e1]
    refine ⟨v, σ', sA τ' 21 j (nI y), by rw [g1, bnd_some], by rw [g2, bnd_some, if_pos hin, q_cl (by omega)], g6, a', g3.1, ?_, RC_eq g3.2.2.1 rfl rfl rfl rfl rfl rfl, g3.2.2.2.1, g3.2.2.2.2.1⟩
    rw [← eb]
    exact RM_ow g3.2.1
  · rw [if_neg (fun z => c ((fl_le hd).mp z)), if_neg c]
    exact ⟨-2, σ, sI τ 0 0, rfl, rfl, rfl, Rel_thrown h0⟩
