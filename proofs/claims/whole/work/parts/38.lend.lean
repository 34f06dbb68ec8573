theorem lv_no {fu j : Nat} {σ : SS} (hj : j < 12) (h : σ.2.1 21 j = nI 0) : f_X7_checkLives fu σ (nI j) = some (.inr 1) := by
  unfold f_X7_checkLives
  rw [if_pos ((q_in (by omega)).mpr hj), q_cl (by omega), h, if_pos (by decide)]
theorem lv_ok {fu j v : Nat} {σ : SS} (hj : j < 12) (h : σ.2.1 21 j = nI v) (hv : v ≤ 1) (h0 : v ≠ 0) : f_X7_checkLives fu σ (nI j) = some (.inl ()) := by
  unfold f_X7_checkLives
  rw [if_pos ((q_in (by omega)).mpr hj), q_cl (by omega), h, if_neg (fun z => h0 ((q_eq0 (by omega)).mp z))]
theorem of1 {x : Int32} (h : (1 : Int32) ≤ x) : ∃ n : Nat, 1 ≤ n ∧ n < 2147483648 ∧ x = nI n := by
  have h0 : ¬ x < 0 := fun q => absurd (Int32.lt_of_le_of_lt h q) (by decide)
  obtain ⟨j, hj, rfl⟩ := nI_of h0
  refine ⟨j, ?_, by omega, rfl⟩
  by_cases e : j = 0
  · subst e
    exact absurd h (by decide)
  · omega
theorem sub_z {x : Int32} {b : Nat} : x - nI b = 0 ↔ nI b = x := by
  constructor <;> intro h <;> grind
theorem sub_s {x : Int32} {b : Nat} : x - nI b + (-1) = x - nI (b + 1) := by
  rw [← q_inc]
  grind
theorem late_both {σ τ : SS} {a : AS} {fu : Nat} (h1 : RX σ a) (hM : RM τ a) (h4 : Inv a) (x : Int32) : ∀ m i b fuel, i + m = a.1 4 → m < fuel → b ≤ i → ∃ r, loopN (fun k5 σ x => f_X3_overdue_5 fu k5 σ x.1 x.2.1 x.2.2.1 x.2.2.2) fuel σ (x, nI (a.1 1), nI b, nI i) = some r ∧ (x < 0 → r = -1) ∧ (¬ x < 0 → loopN (fun k9 σ x => f_X8_late_9 fu k9 σ x.1 x.2.1 x.2.2) fuel τ (x, x - nI b, nI i) = some (r, τ)) := by
  have hn : a.1 4 ≤ 400 := h4.2.2.2.2.1
  intro m
  induction m with
  | zero =>
    intro i b fuel hi hf hb
    obtain ⟨f, rfl⟩ : ∃ f, fuel = f + 1 := ⟨fuel - 1, by omega⟩
    have hii : i = a.1 4 := by omega
    refine ⟨-1, ?_, fun _ => rfl, fun _ => ?_⟩
    · show f_X3_overdue_5 fu _ σ x (nI (a.1 1)) (nI b) (nI i) = _
      rw [f_X3_overdue_5, h1.1.2.2.2.2.1, hii, if_pos ((q_le (by omega) (by omega)).mpr (Nat.le_refl _))]
    · show f_X8_late_9 fu _ τ x (x - nI b) (nI i) = _
      rw [f_X8_late_9, hM.1.2.2.2.2.1, hii, if_pos ((q_le (by omega) (by omega)).mpr (Nat.le_refl _))]
  | succ m ih =>
    intro i b fuel hi hf hb
    obtain ⟨f, rfl⟩ : ∃ f, fuel = f + 1 := ⟨fuel - 1, by omega⟩
    have hlt : i < a.1 4 := by omega
    obtain ⟨s1, s2, s3, s4⟩ := h1.2.2.2.1 i hlt
    obtain ⟨t1, t2, t3, t4, t5⟩ := hM.2.2.2.1 i hlt
    have hI := h4.2.2.2.2.2.2.2.1 i hlt
    have eX : ∀ k, f_X3_overdue_5 fu k σ x (nI (a.1 1)) (nI b) (nI i) = if a.2 12 i = 0 then k σ (x, nI (a.1 1), nI b, nI (i + 1)) else if a.2 13 i = 0 then k σ (x, nI (a.1 1), nI b, nI (i + 1)) else if nI (a.1 1) ≤ nI (a.2 13 i) - 1 then k σ (x, nI (a.1 1), nI b, nI (i + 1)) else if nI b = x then some (nI i) else k σ (x, nI (a.1 1), nI (b + 1), nI (i + 1)) := by
      intro k
      rw [f_X3_overdue_5, h1.1.2.2.2.2.1, if_neg (fun z => by have := (q_le (by omega) (by omega)).mp z; omega), if_pos ((q_in (by omega)).mpr (by omega)), q_cl (by omega), s3, X_isLoan (by omega) s4 hI.2.2.2, bnd1_some, s4]
      simp only [f_X3_overdue_55, q_inc, q_le0 (show a.2 12 i < 2000000000 by omega)]
      by_cases e : a.2 13 i = 0
      · simp only [if_pos e, if_neg i10]
      · simp only [if_neg e, if_true]
    have eM : ∀ k, ¬ x < 0 → f_X8_late_9 fu k τ x (x - nI b) (nI i) = if a.2 12 i = 0 then k τ (x, x - nI b, nI (i + 1)) else if a.2 13 i = 0 then k τ (x, x - nI b, nI (i + 1)) else if nI (a.1 1) ≤ nI (a.2 13 i) - 1 then k τ (x, x - nI b, nI (i + 1)) else if nI b = x then some (nI i, τ) else k τ (x, x - nI (b + 1), nI (i + 1)) := by
      intro k hx
      rw [f_X8_late_9, hM.1.2.2.2.2.1, if_neg (fun z => by have := (q_le (by omega) (by omega)).mp z; omega), if_neg hx, if_pos ((q_in (by omega)).mpr (by omega)), q_cl (by omega), t3, t4, t5, lcz (by omega), hM.1.2.1]
      simp only [f_X8_late_66, q_inc, sub_z, sub_s]
      by_cases e : a.2 13 i = 0
      · simp only [if_pos e, if_neg i10]
        by_cases e2 : a.2 12 i = 0
        · rw [if_pos e2]
        · rw [if_neg e2]
      · simp only [if_neg e, if_true]
        by_cases e2 : a.2 12 i = 0
        · rw [if_pos e2, if_pos e2, if_pos rfl]
        · rw [if_neg e2, if_neg e2, if_neg i10]
          by_cases e3 : nI (a.1 1) ≤ nI (a.2 13 i) - 1
          · rw [if_pos e3, if_neg (Int32.not_lt.mpr e3)]
          · rw [if_neg e3, if_pos (Int32.not_le.mp e3)]
    show ∃ r, f_X3_overdue_5 fu _ σ x (nI (a.1 1)) (nI b) (nI i) = some r ∧ (x < 0 → r = -1) ∧ (¬ x < 0 → f_X8_late_9 fu _ τ x (x - nI b) (nI i) = some (r, τ))
    rw [eX]
    by_cases hx : x < 0
    · have hbx : ¬ nI b = x := fun e => q_neg (show b < 2000000000 by omega) (by rw [e]; exact hx)
      by_cases c1 : a.2 12 i = 0
      · rw [if_pos c1]
        obtain ⟨r, r1, r2, r3⟩ := ih (i + 1) b f (by omega) (by omega) (by omega)
        exact ⟨r, r1, r2, fun z => absurd hx z⟩
      rw [if_neg c1]
      by_cases c2 : a.2 13 i = 0
      · rw [if_pos c2]
        obtain ⟨r, r1, r2, r3⟩ := ih (i + 1) b f (by omega) (by omega) (by omega)
        exact ⟨r, r1, r2, fun z => absurd hx z⟩
      rw [if_neg c2]
      by_cases c3 : nI (a.1 1) ≤ nI (a.2 13 i) - 1
      · rw [if_pos c3]
        obtain ⟨r, r1, r2, r3⟩ := ih (i + 1) b f (by omega) (by omega) (by omega)
        exact ⟨r, r1, r2, fun z => absurd hx z⟩
      rw [if_neg c3, if_neg hbx]
      obtain ⟨r, r1, r2, r3⟩ := ih (i + 1) (b + 1) f (by omega) (by omega) (by omega)
      exact ⟨r, r1, r2, fun z => absurd hx z⟩
    · rw [eM _ hx]
      by_cases c1 : a.2 12 i = 0
      · rw [if_pos c1, if_pos c1]
        exact ih (i + 1) b f (by omega) (by omega) (by omega)
      rw [if_neg c1, if_neg c1]
      by_cases c2 : a.2 13 i = 0
      · rw [if_pos c2, if_pos c2]
        exact ih (i + 1) b f (by omega) (by omega) (by omega)
      rw [if_neg c2, if_neg c2]
      by_cases c3 : nI (a.1 1) ≤ nI (a.2 13 i) - 1
      · rw [if_pos c3, if_pos c3]
        exact ih (i + 1) b f (by omega) (by omega) (by omega)
      rw [if_neg c3, if_neg c3]
      by_cases c4 : nI b = x
      · rw [if_pos c4, if_pos c4]
        exact ⟨nI i, rfl, fun z => absurd z hx, fun _ => rfl⟩
      rw [if_neg c4, if_neg c4]
      exact ih (i + 1) (b + 1) f (by omega) (by omega) (by omega)
theorem sim_late {fu : Nat} (hfu : 1000 ≤ fu) : Sim_late fu Rel := by
  intro σ τ h x1
  have h0 := h
  obtain ⟨a, h1, h2, h3, h4, h5⟩ := h
  have hM := RM_thrown (v := 0) h2
  have hn : a.1 4 ≤ 400 := h4.2.2.2.2.1
  obtain ⟨r, r1, r2, r3⟩ := late_both (fu := fu) h1 hM h4 x1 (a.1 4) 0 0 fu (by omega) (by omega) (by omega)
  refine ⟨r, sI τ 0 0, ?_, ?_, Rel_thrown h0⟩
  · unfold f_X7_late f_X3_overdue f_X3_overdue_L5
    rw [h1.1.2.1]
    have e : loopN (fun k5 σ x => f_X3_overdue_5 fu k5 σ x.1 x.2.1 x.2.2.1 x.2.2.2) fu σ (x1, nI (a.1 1), 0, 0) = some r := r1
    rw [e]
    rfl
  · unfold f_X8_late f_X8_late_L9
    by_cases hx : x1 < 0
    · rw [r2 hx]
      obtain ⟨f, rfl⟩ : ∃ f, fu = f + 1 := ⟨fu - 1, by omega⟩
      show f_X8_late_9 (f + 1) _ (sI τ 0 0) x1 x1 0 = some (-1, sI τ 0 0)
      rw [f_X8_late_9, if_pos hx]
      split <;> rfl
    · have e := r3 hx
      have e2 : x1 - nI 0 = x1 := by rw [nI00]; simp
      rw [e2] at e
      exact e
theorem sim_copper (fu : Nat) : Sim_copper fu Rel := by
  intro σ τ h x1 x2
  have h0 := h
  obtain ⟨a, h1, h2, h3, h4, h5⟩ := h
  have hM := RM_thrown (v := 0) h2
  have hn : a.1 0 ≤ 12 := h4.1
  have hp : a.1 5 ≤ 30 := h4.2.2.2.2.2.1
  rcases ix3 x1 (n := a.1 0) (by omega) with hx | ⟨j, hj, rfl⟩
  · refine Or.inr (Or.inl ⟨0, σ, sI (sI τ 0 0) 0 1, ?_, ?_, rfl, Rel_thrown (Rel_thrown h0)⟩)
    · rw [f_X7_copper, cc_no (by omega) h1.1.1 hx, bndX_no]
    · rw [f_X8_copper, mc_no (by omega) hM.1.1 hx, bnd1_some, if_pos rfl, f_X8_copper_19, b_no, bnd_some, if_neg i10]
  have hX : f_X7_copper fu σ (nI j) x2 = (if x2 < (1 : Int32) then f_X7_copper_16 fu σ else (if x2 ≤ (1000000 : Int32) then bndX (f_X7_checkLives fu σ (nI j)) σ (fun r5 => (if (σ.1 16) < (30 : Int32) then bnd (f_X1_add fu σ (nI j) x2) (fun r8 t10 => some (.inl r8, t10)) else some (.inr 1, σ))) else f_X7_copper_16 fu σ)) := by
    rw [f_X7_copper, cc_ok (by omega) h1.1.1 hj, bndX_ok]
  have hY : f_X8_copper fu τ (nI j) x2 = (if x2 < (1 : Int32) then f_X8_copper_38 fu (sI τ 0 0) (nI j) x2 else (if x2 ≤ (1000000 : Int32) then f_X8_copper_43 fu (sI τ 0 0) (nI j) x2 (0 : Int32) else f_X8_copper_38 fu (sI τ 0 0) (nI j) x2)) := by
    rw [f_X8_copper, mc_ok (by omega) hM.1.1 hj, bnd1_some, if_neg i10, f_X8_copper_19, b_ok, bnd_some, if_pos rfl]
  have hbad : f_X8_copper_38 fu (sI τ 0 0) (nI j) x2 = some (0, sI (sI τ 0 0) 0 2) := by
    rw [f_X8_copper_38, f_X8_copper_43, b_no, bnd_some, if_neg i10]
  rw [hX, hY, hbad]
  by_cases q1 : x2 < 1
  · refine Or.inr (Or.inr (Or.inl ⟨0, σ, sI (sI τ 0 0) 0 2, ?_, ?_, rfl, Rel_thrown (Rel_thrown h0)⟩))
    · rw [if_pos q1, f_X7_copper_16]
    · rw [if_pos q1]
  rw [if_neg q1, if_neg q1]
  by_cases q2 : x2 ≤ 1000000
  · obtain ⟨w, hw1, hw2, rfl⟩ := of1 (Int32.not_lt.mp q1)
    have hw : w ≤ 1000000 := (nI_leI (a := w) (b := 1000000) (by omega) (by omega)).mp q2
    rw [if_pos q2, if_pos q2, f_X8_copper_43, b_ok, bnd_some, if_pos rfl, if_pos ((q_in (by omega)).mpr (by omega)), q_cl (by omega), (hM.2.1 j (by omega)).2, hM.1.2.2.2.2.2, h1.1.2.2.2.2.2]
    have hal := h4.2.2.2.2.2.2.2.2.2.2 j
    have hbad2 : f_X8_copper_69 fu (sI τ 0 0) (nI j) (nI w) = some (0, sI (sI τ 0 0) 0 3) := by
      rw [f_X8_copper_69, f_X8_copper_74, b_no, bnd_some, if_neg i10]
    rw [hbad2]
    by_cases q3 : a.2 1 j = 0
    · refine Or.inr (Or.inr (Or.inr ⟨0, σ, sI (sI τ 0 0) 0 3, ?_, ?_, rfl, Rel_thrown (Rel_thrown h0)⟩))
      · rw [lv_no (by omega) (by rw [(h1.2.1 j (by omega)).2, q3]), bndX_no]
      · rw [show (if j < a.1 0 ∧ a.2 1 j = 0 then (1 : Int32) else 0) = 1 from if_pos ⟨hj, q3⟩, if_neg i10]
    rw [lv_ok (by omega) (h1.2.1 j (by omega)).2 hal q3, bndX_ok, show (if j < a.1 0 ∧ a.2 1 j = 0 then (1 : Int32) else 0) = 0 from if_neg (fun z => q3 z.2), if_pos rfl]
    by_cases q4 : a.1 5 = 30
    · refine Or.inr (Or.inr (Or.inr ⟨0, σ, sI (sI τ 0 0) 0 3, ?_, ?_, rfl, Rel_thrown (Rel_thrown h0)⟩))
      · rw [q4, if_neg (by decide)]
      · rw [q4, if_pos (show nI 30 = 30 from rfl)]
    · refine Or.inl ⟨nI (a.1 5), sI (sA (sA (sA σ 26 (a.1 5) (nI j)) 27 (a.1 5) (nI w)) 28 (a.1 5) (nI w)) 16 (nI (a.1 5 + 1)), sI (sA (sA (sA (sI τ 0 0) 21 (a.1 5) (nI j)) 22 (a.1 5) (nI w)) 23 (a.1 5) (nI w)) 24 (nI (a.1 5 + 1)), ?_, ?_, rfl, addP a j w, RX_addP h1, RM_addP hM, ?_, Inv_addP h4 (by omega) hj hw hw1, InvB_addP h5⟩
      · rw [if_pos (show nI (a.1 5) < 30 from (q_lt (b := 30) (by omega) (by omega)).mpr (by omega)), f_X1_add, h1.1.2.2.2.2.2, if_pos ((q_in (by omega)).mpr (by omega)), bnd_some, q_cl (by omega), q_inc, q_dec (by omega)]
        rfl
      · rw [if_neg (show ¬ nI (a.1 5) = 30 from fun e => by have := (q_eq (b := 30) (by omega) (by omega)).mp e; omega), f_X8_copper_74, b_ok, bnd_some, if_pos rfl, hM.1.2.2.2.2.2, if_pos ((q_in (by omega)).mpr (by omega)), q_cl (by omega), q_inc, q_dec (by omega)]
        rfl
      · exact RC_eq h3 rfl rfl rfl rfl rfl rfl
  · refine Or.inr (Or.inr (Or.inl ⟨0, σ, sI (sI τ 0 0) 0 2, ?_, ?_, rfl, Rel_thrown (Rel_thrown h0)⟩))
    · rw [if_neg q2, f_X7_copper_16]
    · rw [if_neg q2]
theorem sim_breaks (fu : Nat) : Sim_breaks fu Rel := by
  intro σ τ h x1
  have h0 := h
  obtain ⟨a, h1, h2, h3, h4, h5⟩ := h
  have hM := RM_thrown (v := 0) h2
  have hp : a.1 5 ≤ 30 := h4.2.2.2.2.2.1
  rcases ix3 x1 (n := a.1 5) (by omega) with hx | ⟨j, hj, rfl⟩
  · refine Or.inr ⟨0, σ, sI (sI τ 0 0) 0 1, ?_, ?_, rfl, Rel_thrown (Rel_thrown h0)⟩
    · rw [f_X7_breaks, cp_no (by omega) h1.1.2.2.2.2.2 hx, bndX_no]
    · rw [f_X8_breaks, mp_no (by omega) hM.1.2.2.2.2.2 hx, bnd1_some, if_pos rfl, f_X8_breaks_19, b_no, bnd_some, if_neg i10]
  · left
    obtain ⟨p1, p2, p3⟩ := h1.2.2.2.2 j hj
    obtain ⟨m1, m2, m3⟩ := hM.2.2.2.2 j hj
    obtain ⟨hI1, hI2, hI3, hI4⟩ := h4.2.2.2.2.2.2.2.2.1 j hj
    have hin : inB (nI j) 30 := (q_in (by omega)).mpr (by omega)
    have d8 : nI (a.2 16 j) / (8 : Int32) = nI (a.2 16 j / 8) := pk_div (d := 8) (by omega) (by omega) (by omega)
    rw [f_X7_breaks, cp_ok (by omega) h1.1.2.2.2.2.2 hj, bndX_ok, if_pos hin, q_cl (by omega), p2, f_X8_breaks, mp_ok (by omega) hM.1.2.2.2.2.2 hj, bnd1_some, if_neg i10, f_X8_breaks_19, b_ok, bnd_some, if_pos rfl, if_pos hin, q_cl (by omega), m2, m3, d8]
    by_cases q : a.2 15 j = 0
    · refine ⟨-1, σ, sI τ 0 0, ?_, ?_, rfl, Rel_thrown h0⟩
      · rw [if_pos ((q_eq0 (by omega)).mpr q)]
      · rw [if_pos ((q_eq0 (by omega)).mpr q)]
    · have key : ∀ p : Nat, 1 ≤ p → p ≤ 1000000 → p = (if a.2 16 j / 8 = 0 then 1 else a.2 16 j / 8) → f_X1_breakOff fu σ (nI j) = some (nI (a.2 15 j - p), sA σ 28 j (nI (a.2 15 j - p))) ∧ f_X8_breaks_64 fu (sI τ 0 0) (nI j) (nI p) = some (nI (a.2 15 j - p), sA (sI τ 0 0) 22 j (nI (a.2 15 j - p))) := by
        intro p hp1 hp2 hp3
        have eA : (if nI (a.2 16 j / 8) < (1 : Int32) then (1 : Int32) else nI (a.2 16 j / 8)) = nI p := by
          rw [hp3]
          by_cases e : a.2 16 j / 8 = 0
          · rw [if_pos e, e, if_pos (by decide)]
            rfl
          · rw [if_neg e, if_neg (fun z => by have := (q_lt (b := 1) (by omega) (by omega)).mp z; omega)]
        have eB : (if nI (a.2 15 j) - nI p < (0 : Int32) then (0 : Int32) else nI (a.2 15 j) - nI p) = nI (a.2 15 j - p) := by
          by_cases e : a.2 15 j < p
          · rw [if_pos (pk_sneg (by omega) e), show a.2 15 j - p = 0 by omega, nI00]
          · rw [q_sub (by omega), if_neg (q_neg (by omega))]
        constructor
        · rw [f_X1_breakOff, if_pos hin, q_cl (by omega), p2, p3, d8, eA, eB, sA_2, if_pos ⟨rfl, rfl⟩]
        · rw [f_X8_breaks_64, if_pos hin, q_cl (by omega), m2]
          have e9 : ∀ v : Int32, f_X8_breaks_92 fu (sI τ 0 0) (nI j) v (nI j) = some (v, sA (sI τ 0 0) 22 j v) := by
            intro v
            rw [f_X8_breaks_92, if_pos hin, if_pos hin, q_cl (by omega), sA_2, if_pos ⟨rfl, rfl⟩]
          rw [e9, e9]
          by_cases e : a.2 15 j < p
          · rw [if_neg (fun z => by have := (q_le (by omega) (by omega)).mp z; omega), show a.2 15 j - p = 0 by omega, nI00]
          · rw [if_pos ((q_le (by omega) (by omega)).mpr (by omega)), q_sub (by omega)]
      have hdiv : a.2 16 j / 8 ≤ 1000000 := by omega
      have hp1 : 1 ≤ (if a.2 16 j / 8 = 0 then 1 else a.2 16 j / 8) := by split <;> omega
      have hp2 : (if a.2 16 j / 8 = 0 then 1 else a.2 16 j / 8) ≤ 1000000 := by split <;> omega
      obtain ⟨k1, k2⟩ := key _ hp1 hp2 rfl
      refine ⟨nI (a.2 15 j - (if a.2 16 j / 8 = 0 then 1 else a.2 16 j / 8)), _, _, ?_, ?_, ?_, aA a 15 j (a.2 15 j - (if a.2 16 j / 8 = 0 then 1 else a.2 16 j / 8)), RX_wo h1, RM_wo hM, RC_eq h3 rfl rfl rfl rfl rfl rfl, Inv_wo h4 (by omega), InvB_ne h5 (by omega)⟩
      · rw [if_neg (fun z => q ((q_eq0 (by omega)).mp z)), k1, bnd_some]
      · rw [if_neg (fun z => q ((q_eq0 (by omega)).mp z)), ← k2]
        by_cases e : a.2 16 j / 8 = 0
        · rw [if_pos e, if_pos ((q_eq0 (by omega)).mpr e)]
          rfl
        · rw [if_neg e, if_neg (fun z => e ((q_eq0 (by omega)).mp z))]
      · rfl
theorem pair_both {σ τ : SS} {a : AS} {fu : Nat} (h1 : RX σ a) (h2 : RM τ a) (h4 : Inv a) (x1 x2 x3 : Int32) : (∃ i j n : Nat, i < a.1 0 ∧ j < a.1 0 ∧ i ≠ j ∧ 1 ≤ n ∧ n < 2147483648 ∧ x1 = nI i ∧ x2 = nI j ∧ x3 = nI n ∧ a.2 1 i ≠ 0 ∧ a.2 1 j ≠ 0 ∧ f_X7_checkHandingOver fu σ x1 x2 x3 = some (.inl ()) ∧ f_X8_isPair fu τ x1 x2 x3 = some (1, τ)) ∨ (f_X7_checkHandingOver fu σ x1 x2 x3 = some (.inr 2) ∧ f_X8_isPair fu τ x1 x2 x3 = some (0, sI τ 0 1)) ∨ (f_X7_checkHandingOver fu σ x1 x2 x3 = some (.inr 0) ∧ f_X8_isPair fu τ x1 x2 x3 = some (0, sI τ 0 2)) ∨ (f_X7_checkHandingOver fu σ x1 x2 x3 = some (.inr 1) ∧ f_X8_isPair fu τ x1 x2 x3 = some (0, sI τ 0 3)) := by
  have hn : a.1 0 ≤ 12 := h4.1
  have hb1 : f_X8_isPair_17 fu τ x1 x2 x3 = some (0, sI τ 0 1) := by
    rw [f_X8_isPair_17, f_X8_isPair_22, b_no, bnd_some, if_neg i10]
  have hb2 : f_X8_isPair_40 fu τ x1 x2 = some (0, sI τ 0 2) := by
    rw [f_X8_isPair_40, f_X8_isPair_45, b_no, bnd_some, if_neg i10]
  have hb3 : f_X8_isPair_71 fu τ = some (0, sI τ 0 3) := by
    rw [f_X8_isPair_71, f_X8_isPair_76, b_no, bnd_some, if_neg i10]
  rcases ix3 x1 (n := a.1 0) (by omega) with hx | ⟨i, hi, rfl⟩
  · refine Or.inr (Or.inl ⟨?_, ?_⟩)
    · rw [f_X7_checkHandingOver, cc_no (by omega) h1.1.1 hx, bndX0_no]
    · rw [f_X8_isPair, mc_no (by omega) h2.1.1 hx, bnd1_some, if_pos rfl, hb1]
  rcases ix3 x2 (n := a.1 0) (by omega) with hx | ⟨j, hj, rfl⟩
  · refine Or.inr (Or.inl ⟨?_, ?_⟩)
    · rw [f_X7_checkHandingOver, cc_ok (by omega) h1.1.1 hi, bndX0_ok, cc_no (by omega) h1.1.1 hx, bndX0_no]
    · rw [f_X8_isPair, mc_ok (by omega) h2.1.1 hi, bnd1_some, if_neg i10, mc_no (by omega) h2.1.1 hx, bnd1_some, if_pos rfl, hb1]
  rw [f_X7_checkHandingOver, cc_ok (by omega) h1.1.1 hi, bndX0_ok, cc_ok (by omega) h1.1.1 hj, bndX0_ok, f_X8_isPair, mc_ok (by omega) h2.1.1 hi, bnd1_some, if_neg i10, mc_ok (by omega) h2.1.1 hj, bnd1_some, if_neg i10, f_X8_isPair_22, b_ok, bnd_some, if_pos rfl, hb2, f_X7_checkHandingOver_20]
  by_cases e : i = j
  · subst e
    refine Or.inr (Or.inr (Or.inl ⟨?_, ?_⟩))
    · rw [if_pos rfl]
    · rw [if_pos rfl]
  have e' : ¬ nI i = nI j := fun z => e ((q_eq (by omega) (by omega)).mp z)
  rw [if_neg e', if_neg e']
  by_cases q : (1 : Int32) ≤ x3
  · obtain ⟨n, hn1, hn2, rfl⟩ := of1 q
    have ai := h4.2.2.2.2.2.2.2.2.2.2 i
    have aj := h4.2.2.2.2.2.2.2.2.2.2 j
    rw [if_pos q, if_pos q, f_X8_isPair_45, b_ok, bnd_some, if_pos rfl, if_pos ((q_in (by omega)).mpr (by omega)), if_pos ((q_in (by omega)).mpr (by omega)), q_cl (by omega), q_cl (by omega), (h2.2.1 i (by omega)).2, (h2.2.1 j (by omega)).2, hb3]
    by_cases c1 : a.2 1 i = 0
    · refine Or.inr (Or.inr (Or.inr ⟨?_, ?_⟩))
      · rw [lv_no (by omega) (by rw [(h1.2.1 i (by omega)).2, c1]), bndX0_no]
      · rw [show (if i < a.1 0 ∧ a.2 1 i = 0 then (1 : Int32) else 0) = 1 from if_pos ⟨hi, c1⟩, if_neg i10]
    rw [lv_ok (by omega) (h1.2.1 i (by omega)).2 ai c1, bndX0_ok, show (if i < a.1 0 ∧ a.2 1 i = 0 then (1 : Int32) else 0) = 0 from if_neg (fun z => c1 z.2), if_pos rfl]
    by_cases c2 : a.2 1 j = 0
    · refine Or.inr (Or.inr (Or.inr ⟨?_, ?_⟩))
      · rw [lv_no (by omega) (by rw [(h1.2.1 j (by omega)).2, c2]), bndX0_no]
      · rw [show (if j < a.1 0 ∧ a.2 1 j = 0 then (1 : Int32) else 0) = 1 from if_pos ⟨hj, c2⟩, if_neg i10]
    rw [lv_ok (by omega) (h1.2.1 j (by omega)).2 aj c2, bndX0_ok, show (if j < a.1 0 ∧ a.2 1 j = 0 then (1 : Int32) else 0) = 0 from if_neg (fun z => c2 z.2), if_pos rfl]
    refine Or.inl ⟨i, j, n, hi, hj, e, hn1, hn2, rfl, rfl, rfl, c1, c2, rfl, ?_⟩
    rw [f_X8_isPair_76, b_ok, bnd_some, if_pos rfl]
  · refine Or.inr (Or.inr (Or.inl ⟨?_, ?_⟩))
    · rw [if_neg q]
    · rw [if_neg q]
theorem sim_lend (fu : Nat) : Sim_lend fu Rel := by
  intro σ τ h x1 x2 x3
  have h0 := h
  obtain ⟨a, h1, h2, h3, h4, h5⟩ := h
  have hM := RM_thrown (v := 0) h2
  have hn : a.1 0 ≤ 12 := h4.1
  have hd : a.1 4 ≤ 400 := h4.2.2.2.2.1
  unfold f_X7_lend f_X8_lend
  rcases pair_both (fu := fu) h1 hM h4 x1 x2 x3 with ⟨i, j, n, hi, hj, hij, hn1, hn2, rfl, rfl, rfl, li, lj, eX, eM⟩ | ⟨eX, eM⟩ | ⟨eX, eM⟩ | ⟨eX, eM⟩
  · left
    have hbi := InvB_one h5 h4 (show i < 12 by omega)
    rw [eX, eM, bndX_ok, bnd_some, if_neg i10, if_pos ((q_in (by omega)).mpr (by omega)), if_pos ((q_in (by omega)).mpr (by omega)), q_cl (by omega), (h1.2.1 i (by omega)).1, (hM.2.1 i (by omega)).1]
    by_cases q : n ≤ a.2 0 i
    · rw [if_pos ((nI_leI (by omega) (by omega)).mpr q), if_pos ((nI_leI (by omega) (by omega)).mpr q), f_X3_room, bnd1_some, h1.1.2.2.2.2.1, hM.1.2.2.2.2.1]
      by_cases q2 : a.1 4 = 400
      · refine ⟨-2, σ, sI τ 0 0, ?_, ?_, rfl, Rel_thrown h0⟩
        · rw [q2, if_neg (by decide)]
        · rw [q2, if_pos (show nI 400 = 400 from rfl)]
      · have e400 : (400 : Int32) - nI (a.1 4) = nI (400 - a.1 4) := q_sub (a := 400) hd
        have eX2 := RX_addD (x := j) (y := i) (v := n) (q := 0) (RX_mv (n := n) h1 (show i < 12 by omega) (show j < 12 by omega) hij q)
        have eM2 := RM_addD (x := j) (y := i) (v := n) (q := 0) (z := 1) (by decide) (RM_mv (n := n) hM (show i < 12 by omega) (show j < 12 by omega) hij q)
        refine ⟨nI (a.1 4), _, _, ?_, ?_, ?_, _, eX2, eM2, RC_eq h3 rfl rfl rfl rfl rfl rfl, Inv_addD (Inv_mv h4 hi hj) (show a.1 4 < 400 by omega) hj hi (by omega) (by omega), InvB_addD (InvB_mv h5 (by omega) (by omega) hij q)⟩
        · rw [e400, if_pos (show (1 : Int32) ≤ nI (400 - a.1 4) from (q_le (a := 1) (by omega) (by omega)).mpr (by omega)), f_X0_moveBlankets, if_pos ((q_in (by omega)).mpr (by omega)), if_pos ((q_in (by omega)).mpr (by omega)), q_cl (by omega), q_cl (by omega), bnd_some, f_X3_add]
          have e15 : (sA (sA σ 19 i (σ.2.1 19 i - nI n)) 19 j ((sA σ 19 i (σ.2.1 19 i - nI n)).2.1 19 j + nI n)).1 15 = nI (a.1 4) := h1.1.2.2.2.2.1
          rw [e15, if_pos ((q_in (by omega)).mpr (by omega)), bnd_some, q_cl (by omega), q_inc, q_dec (by omega)]
          rfl
        · rw [if_neg (show ¬ nI (a.1 4) = 400 from fun e => by have := (q_eq (b := 400) (by omega) (by omega)).mp e; omega), if_pos ((q_in (by omega)).mpr (by omega)), q_cl (by omega), nI_l (by omega), f_X8_owe]
          rw [← (hM.2.1 i (by omega)).1]
          have e20 : (sA (sA (sI τ 0 0) 1 i ((sI τ 0 0).2.1 1 i - nI n)) 1 j ((sA (sI τ 0 0) 1 i ((sI τ 0 0).2.1 1 i - nI n)).2.1 1 j + nI n)).1 20 = nI (a.1 4) := hM.1.2.2.2.2.1
          rw [e20, if_pos ((q_in (by omega)).mpr (by omega)), if_neg i10, f_X8_owe_60, if_pos ((q_in (by omega)).mpr (by omega)), q_cl (by omega), bnd_some, vz1]
          have e20' : ∀ (s : SS) (v : Int32), (sI s 20 v).1 20 = v := fun s v => by rw [sI_1, if_pos rfl]
          have e21 : (sA (sL (sA (sA (sA (sA (sI τ 0 0) 1 i ((sI τ 0 0).2.1 1 i - nI n)) 1 j ((sA (sI τ 0 0) 1 i ((sI τ 0 0).2.1 1 i - nI n)).2.1 1 j + nI n)) 15 (a.1 4) (nI j)) 16 (a.1 4) (nI i)) 17 (a.1 4) (lN n)) 18 (a.1 4) 1).1 20 = nI (a.1 4) := hM.1.2.2.2.2.1
          rw [e20', e21, q_inc, q_dec (by omega)]
          rfl
        · rfl
    · refine ⟨-1, σ, sI τ 0 0, ?_, ?_, rfl, Rel_thrown h0⟩
      · rw [if_neg (fun z => q ((nI_leI (by omega) (by omega)).mp z))]
      · rw [if_neg (fun z => q ((nI_leI (by omega) (by omega)).mp z))]
  · refine Or.inr (Or.inl ⟨0, σ, _, by rw [eX, bndX_no], by rw [eM, bnd_some, if_pos rfl], rfl, Rel_thrown (Rel_thrown h0)⟩)
  · refine Or.inr (Or.inr (Or.inl ⟨0, σ, _, by rw [eX, bndX_no], by rw [eM, bnd_some, if_pos rfl], rfl, Rel_thrown (Rel_thrown h0)⟩))
  · refine Or.inr (Or.inr (Or.inr ⟨0, σ, _, by rw [eX, bndX_no], by rw [eM, bnd_some, if_pos rfl], rfl, Rel_thrown (Rel_thrown h0)⟩))
