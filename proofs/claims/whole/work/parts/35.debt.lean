theorem due_m1 {d : Nat} (h : d ≤ 2001) : nI d - 1 = -1 ↔ d = 0 := by
  constructor
  · intro e
    by_cases q : d = 0
    · exact q
    · rw [q_dec (by omega)] at e
      exact absurd e (q_m1 (by omega))
  · rintro rfl
    decide
theorem X_isLoan {σ : SS} {fu i q : Nat} (hi : i < 400) (h : σ.2.1 25 i = nI q - 1) (hq : q ≤ 2001) : f_X3_isLoan fu σ (nI i) = some (if q = 0 then 1 else 0) := by
  unfold f_X3_isLoan
  rw [if_pos ((q_in (by omega)).mpr hi), q_cl (by omega), h]
  by_cases e : q = 0
  · rw [if_pos e, if_pos ((due_m1 hq).mpr e)]
  · rw [if_neg e, if_neg (fun z => e ((due_m1 hq).mp z))]
theorem sim_debt (fu : Nat) : Sim_debt fu Rel := by
  intro σ τ h x1 x2
  have h0 := h
  obtain ⟨a, h1, h2, h3, h4, h5⟩ := h
  have hM := RM_thrown (v := 0) h2
  have hn : a.1 4 ≤ 400 := h4.2.2.2.2.1
  rcases ix3 x1 (n := a.1 4) (by omega) with hx | ⟨j, hj, rfl⟩
  · refine Or.inr (Or.inl ⟨0, sI (sI τ 0 0) 0 1, ?_, ?_, rfl, Rel_thrown (Rel_thrown h0)⟩)
    · unfold f_X7_debt f_X7_debt_15
      rw [h1.1.2.2.2.2.1]
      by_cases q : x1 < 0
      · rw [if_pos q]
      · rw [if_neg q, if_neg (fun r => (hx.elim q (fun z => absurd r (Int32.not_lt.mpr z))))]
    · unfold f_X8_debt f_X8_debt_18 f_X8_debt_23
      rw [h2.1.2.2.2.2.1]
      by_cases q : x1 < 0
      · rw [if_pos q, b_no, bnd_some, if_neg i10]
      · rw [if_neg q, if_neg (fun r => (hx.elim q (fun z => absurd r (Int32.not_lt.mpr z)))), b_no, bnd_some, if_neg i10]
  · have hI := h4.2.2.2.2.2.2.2.1 j hj
    have hX : f_X7_debt fu σ (nI j) x2 = if x2 = 0 then some (.inl (nI (a.2 10 j))) else if x2 = 1 then some (.inl (nI (a.2 11 j))) else if x2 = 2 then some (.inl (nI (a.2 12 j))) else if x2 = 3 then some (.inl (if a.2 13 j = 0 then 1 else 0)) else if x2 = 4 then some (.inl (nI (a.2 13 j) - 1)) else some (.inr 0) := by
      unfold f_X7_debt
      have hin : inB (nI j) 400 := (q_in (by omega)).mpr (by omega)
      obtain ⟨d1, d2, d3, d4⟩ := h1.2.2.2.1 j hj
      rw [h1.1.2.2.2.2.1, if_neg (q_neg (by omega)), if_pos ((q_lt (by omega) (by omega)).mpr hj), X_isLoan (by omega) d4 hI.2.2.2, bnd1_some]
      simp only [if_pos hin, q_cl (show j < 2000000000 by omega), d1, d2, d3, d4]
      by_cases e : a.2 13 j = 0
      · simp only [if_pos e, if_neg i10]
      · simp only [if_neg e, if_true]
    have hY : f_X8_debt fu τ (nI j) x2 = f_X8_debt_23 fu (sI τ 0 0) (nI j) x2 0 := by
      unfold f_X8_debt
      rw [h2.1.2.2.2.2.1, if_neg (q_neg (by omega)), if_pos ((q_lt (by omega) (by omega)).mpr hj)]
    by_cases q : x2 < 0 ∨ nI 5 ≤ x2
    · have e0 : ¬ x2 = 0 := by rintro rfl; exact absurd q (by decide)
      have e1 : ¬ x2 = 1 := by rintro rfl; exact absurd q (by decide)
      have e2 : ¬ x2 = 2 := by rintro rfl; exact absurd q (by decide)
      have e3 : ¬ x2 = 3 := by rintro rfl; exact absurd q (by decide)
      have e4 : ¬ x2 = 4 := by rintro rfl; exact absurd q (by decide)
      refine Or.inr (Or.inr ⟨0, sI (sI τ 0 0) 0 2, by rw [hX, if_neg e0, if_neg e1, if_neg e2, if_neg e3, if_neg e4], ?_, rfl, Rel_thrown (Rel_thrown h0)⟩)
      have hbad : f_X8_debt_40 fu (sI τ 0 0) (nI j) x2 = some (0, sI (sI τ 0 0) 0 2) := by
        rw [f_X8_debt_40, f_X8_debt_45, b_no, bnd_some, if_neg i10]
      rw [hY, f_X8_debt_23, b_ok, bnd_some, if_pos rfl, hbad]
      by_cases z : x2 < 0
      · rw [if_pos z]
      · rw [if_neg z, if_neg (fun r => ?_)]
        rcases nI_of2 (M := 4) (n := 4) rfl z r with ⟨k, hk, rfl⟩
        rcases q with q | q
        · exact z q
        · have := (q_le (a := 5) (b := k) (by omega) (by omega)).mp q
          omega
    · rcases ix3 x2 (n := 5) (by omega) with z | ⟨k, hk, rfl⟩
      · exact absurd z q
      · refine Or.inl ⟨(if nI k = 0 then nI (a.2 10 j) else if nI k = 1 then nI (a.2 11 j) else if nI k = 2 then nI (a.2 12 j) else if nI k = 3 then (if a.2 13 j = 0 then 1 else 0) else nI (a.2 13 j) - 1), sI τ 0 0, ?_, ?_, rfl, Rel_thrown h0⟩
        · rw [hX]
          have hk5 : k = 0 ∨ k = 1 ∨ k = 2 ∨ k = 3 ∨ k = 4 := by omega
          rcases hk5 with rfl | rfl | rfl | rfl | rfl <;> rfl
        · have hin : inB (nI j) 400 := (q_in (by omega)).mpr (by omega)
          obtain ⟨d1, d2, d3, d4, d5⟩ := hM.2.2.2.1 j hj
          rw [hY, f_X8_debt_23, b_ok, bnd_some, if_pos rfl, if_neg (q_neg (by omega)), if_pos (show nI k ≤ 4 from (q_le (b := 4) (by omega) (by omega)).mpr (by omega)), f_X8_debt_45, b_ok, bnd_some, if_pos rfl]
          simp only [if_pos hin, q_cl (show j < 2000000000 by omega), d1, d2, d3, d4, d5, lN_i]
          have hk5 : k = 0 ∨ k = 1 ∨ k = 2 ∨ k = 3 ∨ k = 4 := by omega
          rcases hk5 with rfl | rfl | rfl | rfl | rfl
          · rfl
          · rfl
          · rfl
          · by_cases e : a.2 13 j = 0
            · simp only [if_pos e]; rfl
            · simp only [if_neg e]; rfl
          · rfl
