/-! Checks, and the small methods -/
theorem b_ok (fu : Nat) (σ : SS) (w : Int32) : f_X8_bad fu σ 0 w = some (0, σ) := by simp [f_X8_bad]
theorem b_no (fu : Nat) (σ : SS) (w : Int32) : f_X8_bad fu σ 1 w = some (1, sI σ 0 w) := by simp [f_X8_bad]
theorem bnd_some {α β : Type} (x : α) (t : SS) (k : α → SS → Option β) : bnd (some (x, t)) k = k x t := rfl
theorem bnd1_some {α β : Type} (x : α) (k : α → Option β) : bnd1 (some x) k = k x := rfl
theorem bndX_ok {α β : Type} (x : α) (σ : SS) (k : α → Option ((β ⊕ Nat) × SS)) : bndX (some (.inl x)) σ k = k x := rfl
theorem bndX_no {α β : Type} (j : Nat) (σ : SS) (k : α → Option ((β ⊕ Nat) × SS)) : bndX (some (.inr j)) σ k = some (.inr j, σ) := rfl
theorem bndX0_ok {α β : Type} (x : α) (k : α → Option (β ⊕ Nat)) : bndX0 (some (.inl x)) k = k x := rfl
theorem bndX0_no {α β : Type} (j : Nat) (k : α → Option (β ⊕ Nat)) : bndX0 (some (.inr j)) k = some (.inr j) := rfl
theorem i10 : ¬ (1 : Int32) = 0 := by decide
section
variable {fu n : Nat} {σ τ : SS} {x : Int32}
theorem cc_no (hn : n ≤ 1000) (h : σ.1 14 = nI n) (hx : x < 0 ∨ nI n ≤ x) : f_X7_checkChief fu σ x = some (.inr 2) := by
  unfold f_X7_checkChief f_X7_checkChief_15
  rw [h]
  rcases hx with q | q
  · rw [if_pos q]
  · by_cases q2 : x < 0
    · rw [if_pos q2]
    · rw [if_neg q2, if_neg (Int32.not_lt.mpr q)]
theorem cc_ok {j : Nat} (hn : n ≤ 1000) (h : σ.1 14 = nI n) (hj : j < n) : f_X7_checkChief fu σ (nI j) = some (.inl ()) := by
  unfold f_X7_checkChief
  rw [h, if_neg (q_neg (by omega)), if_pos ((q_lt (by omega) (by omega)).mpr hj)]
theorem cp_no (hn : n ≤ 1000) (h : σ.1 16 = nI n) (hx : x < 0 ∨ nI n ≤ x) : f_X7_checkCopper fu σ x = some (.inr 2) := by
  unfold f_X7_checkCopper f_X7_checkCopper_15
  rw [h]
  rcases hx with q | q
  · rw [if_pos q]
  · by_cases q2 : x < 0
    · rw [if_pos q2]
    · rw [if_neg q2, if_neg (Int32.not_lt.mpr q)]
theorem cp_ok {j : Nat} (hn : n ≤ 1000) (h : σ.1 16 = nI n) (hj : j < n) : f_X7_checkCopper fu σ (nI j) = some (.inl ()) := by
  unfold f_X7_checkCopper
  rw [h, if_neg (q_neg (by omega)), if_pos ((q_lt (by omega) (by omega)).mpr hj)]
theorem mc_no (hn : n ≤ 1000) (h : τ.1 4 = nI n) (hx : x < 0 ∨ nI n ≤ x) : f_X8_isChief fu τ x = some 0 := by
  unfold f_X8_isChief
  rw [h]
  rcases hx with q | q
  · rw [if_pos q]
  · by_cases q2 : x < 0
    · rw [if_pos q2]
    · rw [if_neg q2, if_pos q]
theorem mc_ok {j : Nat} (hn : n ≤ 1000) (h : τ.1 4 = nI n) (hj : j < n) : f_X8_isChief fu τ (nI j) = some 1 := by
  unfold f_X8_isChief
  rw [h, if_neg (q_neg (by omega)), if_neg (fun q => by have := (q_le (by omega) (by omega)).mp q; omega)]
theorem mp_no (hn : n ≤ 1000) (h : τ.1 24 = nI n) (hx : x < 0 ∨ nI n ≤ x) : f_X8_isCopper fu τ x = some 0 := by
  unfold f_X8_isCopper
  rw [h]
  rcases hx with q | q
  · rw [if_pos q]
  · by_cases q2 : x < 0
    · rw [if_pos q2]
    · rw [if_neg q2, if_pos q]
theorem mp_ok {j : Nat} (hn : n ≤ 1000) (h : τ.1 24 = nI n) (hj : j < n) : f_X8_isCopper fu τ (nI j) = some 1 := by
  unfold f_X8_isCopper
  rw [h, if_neg (q_neg (by omega)), if_neg (fun q => by have := (q_le (by omega) (by omega)).mp q; omega)]
theorem ix3 (x : Int32) {n : Nat} (hn : n ≤ 1000) : (x < 0 ∨ nI n ≤ x) ∨ ∃ j, j < n ∧ x = nI j := by
  rcases pk_ix x (n := n) (by omega) with h | h | h
  · exact Or.inl (Or.inl h)
  · exact Or.inl (Or.inr h)
  · exact Or.inr h
end
theorem sim_fame (fu : Nat) : Sim_fame fu Rel := by
  intro σ τ h x1
  have h0 := h
  obtain ⟨a, h1, h2, h3, h4, h5⟩ := h
  have hM := RM_thrown (v := 0) h2
  have hn : a.1 0 ≤ 12 := h4.1
  rcases ix3 x1 (n := a.1 0) (by omega) with hx | ⟨j, hj, rfl⟩
  · refine Or.inr ⟨0, sI (sI τ 0 0) 0 1, ?_, ?_, rfl, Rel_thrown (Rel_thrown h0)⟩
    · unfold f_X7_fame
      rw [cc_no (by omega) h1.1.1 hx, bndX0_no]
    · unfold f_X8_fame f_X8_fame_19
      rw [mc_no (by omega) hM.1.1 hx, bnd1_some, if_pos rfl, b_no, bnd_some, if_neg i10]
  · refine Or.inl ⟨σ.2.2 20 j, sI τ 0 0, ?_, ?_, rfl, Rel_thrown h0⟩
    · unfold f_X7_fame
      rw [cc_ok (by omega) h1.1.1 hj, bndX0_ok, if_pos ((q_in (by omega)).mpr (by omega)), q_cl (by omega)]
    · unfold f_X8_fame f_X8_fame_19
      rw [mc_ok (by omega) hM.1.1 hj, bnd1_some, if_neg i10, b_ok, bnd_some, if_pos rfl, if_pos ((q_in (by omega)).mpr (by omega)), q_cl (by omega), h3.1 j (by omega)]
      rfl
theorem sim_copperTold (fu : Nat) : Sim_copperTold fu Rel := by
  intro σ τ h x1 x2
  have h0 := h
  obtain ⟨a, h1, h2, h3, h4, h5⟩ := h
  have hM := RM_thrown (v := 0) h2
  have hn : a.1 5 ≤ 30 := h4.2.2.2.2.2.1
  rcases ix3 x1 (n := a.1 5) (by omega) with hx | ⟨j, hj, rfl⟩
  · refine Or.inr (Or.inl ⟨0, sI (sI τ 0 0) 0 1, ?_, ?_, rfl, Rel_thrown (Rel_thrown h0)⟩)
    · unfold f_X7_copperTold
      rw [cp_no (by omega) h1.1.2.2.2.2.2 hx, bndX0_no]
    · unfold f_X8_copperTold f_X8_copperTold_19
      rw [mp_no (by omega) hM.1.2.2.2.2.2 hx, bnd1_some, if_pos rfl, b_no, bnd_some, if_neg i10]
  · have hX : f_X7_copperTold fu σ (nI j) x2 = if x2 = 0 then some (.inl (nI (a.2 14 j))) else if x2 = 1 then some (.inl (nI (a.2 15 j))) else some (.inr 0) := by
      unfold f_X7_copperTold
      rw [cp_ok (by omega) h1.1.2.2.2.2.2 hj, bndX0_ok, if_pos ((q_in (by omega)).mpr (by omega)), if_pos ((q_in (by omega)).mpr (by omega)), q_cl (by omega), (h1.2.2.2.2 j hj).1, (h1.2.2.2.2 j hj).2.1]
    have hY : f_X8_copperTold fu τ (nI j) x2 = f_X8_copperTold_19 fu (sI τ 0 0) (nI j) x2 0 := by
      unfold f_X8_copperTold
      rw [mp_ok (by omega) hM.1.2.2.2.2.2 hj, bnd1_some, if_neg i10]
    by_cases e0 : x2 = 0
    · subst e0
      refine Or.inl ⟨nI (a.2 14 j), sI τ 0 0, by rw [hX, if_pos rfl], ?_, rfl, Rel_thrown h0⟩
      rw [hY, f_X8_copperTold_19, b_ok, bnd_some, if_pos rfl, if_neg (by decide), if_pos (by decide), f_X8_copperTold_41, b_ok, bnd_some, if_pos rfl, if_pos rfl, if_pos ((q_in (by omega)).mpr (by omega)), q_cl (by omega), (hM.2.2.2.2 j hj).1]
    · by_cases e1 : x2 = 1
      · subst e1
        refine Or.inl ⟨nI (a.2 15 j), sI τ 0 0, by rw [hX, if_neg e0, if_pos rfl], ?_, rfl, Rel_thrown h0⟩
        rw [hY, f_X8_copperTold_19, b_ok, bnd_some, if_pos rfl, if_neg (by decide), if_pos (by decide), f_X8_copperTold_41, b_ok, bnd_some, if_pos rfl, if_neg e0, if_pos ((q_in (by omega)).mpr (by omega)), q_cl (by omega), (hM.2.2.2.2 j hj).2.1]
      · refine Or.inr (Or.inr ⟨0, sI (sI τ 0 0) 0 2, by rw [hX, if_neg e0, if_neg e1], ?_, rfl, Rel_thrown (Rel_thrown h0)⟩)
        have hbad : f_X8_copperTold_36 fu (sI τ 0 0) (nI j) x2 = some (0, sI (sI τ 0 0) 0 2) := by
          rw [f_X8_copperTold_36, f_X8_copperTold_41, b_no, bnd_some, if_neg i10]
        rw [hY, f_X8_copperTold_19, b_ok, bnd_some, if_pos rfl, hbad]
        by_cases q : x2 < 0
        · rw [if_pos q]
        · rw [if_neg q, if_neg (fun r => ?_)]
          rcases nI_of2 (M := 1) (n := 1) rfl q r with ⟨k, hk, rfl⟩
          have : k = 0 ∨ k = 1 := by omega
          rcases this with rfl | rfl
          · exact e0 rfl
          · exact e1 rfl
