theorem RX_eq {σ σ' : SS} {a : AS} (h : RX σ a) (e1 : ∀ k, k = 0 ∨ k = 2 ∨ k = 13 ∨ k = 14 ∨ k = 15 ∨ k = 16 → σ'.1 k = σ.1 k) (e2 : ∀ r, 12 ≤ r → r ≤ 28 → r ≠ 20 → σ'.2.1 r = σ.2.1 r) : RX σ' a := by
  obtain ⟨⟨f1, f2, f3, f4, f5, f6⟩, hb, hc, hd, hp⟩ := h
  refine ⟨⟨?_, ?_, ?_, ?_, ?_, ?_⟩, ?_, ?_, ?_, ?_⟩
  · rw [e1 14 (by omega)]; exact f1
  · rw [e1 0 (by omega)]; exact f2
  · rw [e1 2 (by omega)]; exact f3
  · rw [e1 13 (by omega)]; exact f4
  · rw [e1 15 (by omega)]; exact f5
  · rw [e1 16 (by omega)]; exact f6
  · rw [e2 19 (by omega) (by omega) (by omega), e2 21 (by omega) (by omega) (by omega)]
    exact hb
  · unfold RXc
    rw [e2 12 (by omega) (by omega) (by omega), e2 14 (by omega) (by omega) (by omega), e2 17 (by omega) (by omega) (by omega), e2 18 (by omega) (by omega) (by omega), e2 13 (by omega) (by omega) (by omega), e2 15 (by omega) (by omega) (by omega), e2 16 (by omega) (by omega) (by omega)]
    exact hc
  · unfold RXd
    rw [e2 22 (by omega) (by omega) (by omega), e2 23 (by omega) (by omega) (by omega), e2 24 (by omega) (by omega) (by omega), e2 25 (by omega) (by omega) (by omega)]
    exact hd
  · unfold RXp
    rw [e2 26 (by omega) (by omega) (by omega), e2 27 (by omega) (by omega) (by omega), e2 28 (by omega) (by omega) (by omega)]
    exact hp
theorem RM_eq {τ τ' : SS} {a : AS} (h : RM τ a) (e1 : ∀ k, k = 4 ∨ k = 5 ∨ k = 7 ∨ k = 14 ∨ k = 20 ∨ k = 24 → τ'.1 k = τ.1 k) (e2 : ∀ r, r < 24 → r ≠ 6 → τ'.2.1 r = τ.2.1 r) (e3 : τ'.2.2 17 = τ.2.2 17) : RM τ' a := by
  obtain ⟨⟨f1, f2, f3, f4, f5, f6⟩, hb, hc, hd, hp⟩ := h
  refine ⟨⟨?_, ?_, ?_, ?_, ?_, ?_⟩, ?_, ?_, ?_, ?_⟩
  · rw [e1 4 (by omega)]; exact f1
  · rw [e1 5 (by omega)]; exact f2
  · rw [e1 7 (by omega)]; exact f3
  · rw [e1 14 (by omega)]; exact f4
  · rw [e1 20 (by omega)]; exact f5
  · rw [e1 24 (by omega)]; exact f6
  · rw [e2 1 (by omega) (by omega), e2 3 (by omega) (by omega)]
    exact hb
  · unfold RMc
    rw [e2 12 (by omega) (by omega), e2 13 (by omega) (by omega)]
    exact hc
  · unfold RMd
    rw [e2 15 (by omega) (by omega), e2 16 (by omega) (by omega), e3, e2 18 (by omega) (by omega), e2 19 (by omega) (by omega)]
    exact hd
  · unfold RMp
    rw [e2 21 (by omega) (by omega), e2 22 (by omega) (by omega), e2 23 (by omega) (by omega)]
    exact hp
theorem RC_eq {σ τ σ' τ' : SS} (h : RC σ τ) (e1 : σ'.1 1 = σ.1 1) (e2 : σ'.2.1 10 = σ.2.1 10) (e3 : σ'.2.2 20 = σ.2.2 20) (e4 : τ'.1 11 = τ.1 11) (e5 : τ'.2.1 6 = τ.2.1 6) (e6 : τ'.2.2 2 = τ.2.2 2) : RC σ' τ' := by
  unfold RC
  rw [e1, e2, e3, e4, e5, e6]
  exact h
theorem RC_fame {σ τ : SS} {j : Nat} {v : Int64} (h : RC σ τ) : RC (sL σ 20 j v) (sL τ 2 j v) := by
  obtain ⟨c1, c2, c3⟩ := h
  refine ⟨fun i hi => ?_, c2, c3⟩
  have := c1 i hi
  by_cases e : i = j <;> simp [sL_3, e, this]
theorem RX_fame {σ : SS} {a : AS} {j : Nat} {v : Int64} (h : RX σ a) : RX (sL σ 20 j v) a := RX_eq h (fun _ _ => rfl) (fun _ _ _ _ => rfl)
theorem RM_fame {τ : SS} {a : AS} {j : Nat} {v : Int64} (h : RM τ a) : RM (sL τ 2 j v) a := RM_eq h (fun _ _ => rfl) (fun _ _ _ => rfl) (by funext i; simp [sL_3])
theorem ne3 (k r : Nat) (h : r < 3) : ¬ 3 + k = r := by omega

theorem RX_b {σ : SS} {a : AS} {j v : Nat} (h : RX σ a) : RX (sA σ 19 j (nI v)) (aA a 0 j v) := by
  obtain ⟨hf, hb, hc, hd, hp⟩ := h
  refine ⟨hf, fun i hi => ?_, fun i hi => ?_, fun i hi => ?_, fun i hi => ?_⟩
  · have q := hb i hi
    by_cases e : i = j
    · subst e
      simp [sA_2, aA_2, q]
    · simp [sA_2, aA_2, q, e]
  · have q := hc i hi
    simpa [sA_2, aA_2] using q
  · have q := hd i hi
    simpa [sA_2, aA_2] using q
  · have q := hp i hi
    simpa [sA_2, aA_2] using q
theorem RX_l {σ : SS} {a : AS} {j v : Nat} (h : RX σ a) : RX (sA σ 21 j (nI v)) (aA a 1 j v) := by
  obtain ⟨hf, hb, hc, hd, hp⟩ := h
  refine ⟨hf, fun i hi => ?_, fun i hi => ?_, fun i hi => ?_, fun i hi => ?_⟩
  · have q := hb i hi
    by_cases e : i = j
    · subst e
      simp [sA_2, aA_2, q]
    · simp [sA_2, aA_2, q, e]
  · have q := hc i hi
    simpa [sA_2, aA_2] using q
  · have q := hd i hi
    simpa [sA_2, aA_2] using q
  · have q := hp i hi
    simpa [sA_2, aA_2] using q
theorem RX_dx {σ : SS} {a : AS} {j v : Nat} (h : RX σ a) : RX (sA σ 22 j (nI v)) (aA a 10 j v) := by
  obtain ⟨hf, hb, hc, hd, hp⟩ := h
  refine ⟨hf, fun i hi => ?_, fun i hi => ?_, fun i hi => ?_, fun i hi => ?_⟩
  · have q := hb i hi
    simpa [sA_2, aA_2] using q
  · have q := hc i hi
    simpa [sA_2, aA_2] using q
  · have q := hd i hi
    by_cases e : i = j
    · subst e
      simp [sA_2, aA_2, q]
    · simp [sA_2, aA_2, q, e]
  · have q := hp i hi
    simpa [sA_2, aA_2] using q
theorem RX_dw {σ : SS} {a : AS} {j v : Nat} (h : RX σ a) : RX (sA σ 23 j (nI v)) (aA a 11 j v) := by
  obtain ⟨hf, hb, hc, hd, hp⟩ := h
  refine ⟨hf, fun i hi => ?_, fun i hi => ?_, fun i hi => ?_, fun i hi => ?_⟩
  · have q := hb i hi
    simpa [sA_2, aA_2] using q
  · have q := hc i hi
    simpa [sA_2, aA_2] using q
  · have q := hd i hi
    by_cases e : i = j
    · subst e
      simp [sA_2, aA_2, q]
    · simp [sA_2, aA_2, q, e]
  · have q := hp i hi
    simpa [sA_2, aA_2] using q
theorem RX_dl {σ : SS} {a : AS} {j v : Nat} (h : RX σ a) : RX (sA σ 24 j (nI v)) (aA a 12 j v) := by
  obtain ⟨hf, hb, hc, hd, hp⟩ := h
  refine ⟨hf, fun i hi => ?_, fun i hi => ?_, fun i hi => ?_, fun i hi => ?_⟩
  · have q := hb i hi
    simpa [sA_2, aA_2] using q
  · have q := hc i hi
    simpa [sA_2, aA_2] using q
  · have q := hd i hi
    by_cases e : i = j
    · subst e
      simp [sA_2, aA_2, q]
    · simp [sA_2, aA_2, q, e]
  · have q := hp i hi
    simpa [sA_2, aA_2] using q
theorem RX_ow {σ : SS} {a : AS} {j v : Nat} (h : RX σ a) : RX (sA σ 26 j (nI v)) (aA a 14 j v) := by
  obtain ⟨hf, hb, hc, hd, hp⟩ := h
  refine ⟨hf, fun i hi => ?_, fun i hi => ?_, fun i hi => ?_, fun i hi => ?_⟩
  · have q := hb i hi
    simpa [sA_2, aA_2] using q
  · have q := hc i hi
    simpa [sA_2, aA_2] using q
  · have q := hd i hi
    simpa [sA_2, aA_2] using q
  · have q := hp i hi
    by_cases e : i = j
    · subst e
      simp [sA_2, aA_2, q]
    · simp [sA_2, aA_2, q, e]
theorem RX_wo {σ : SS} {a : AS} {j v : Nat} (h : RX σ a) : RX (sA σ 28 j (nI v)) (aA a 15 j v) := by
  obtain ⟨hf, hb, hc, hd, hp⟩ := h
  refine ⟨hf, fun i hi => ?_, fun i hi => ?_, fun i hi => ?_, fun i hi => ?_⟩
  · have q := hb i hi
    simpa [sA_2, aA_2] using q
  · have q := hc i hi
    simpa [sA_2, aA_2] using q
  · have q := hd i hi
    simpa [sA_2, aA_2] using q
  · have q := hp i hi
    by_cases e : i = j
    · subst e
      simp [sA_2, aA_2, q]
    · simp [sA_2, aA_2, q, e]
theorem RM_b {τ : SS} {a : AS} {j v : Nat} (h : RM τ a) : RM (sA τ 1 j (nI v)) (aA a 0 j v) := by
  obtain ⟨hf, hb, hc, hd, hp⟩ := h
  refine ⟨hf, fun i hi => ?_, fun i hi => ?_, fun i hi => ?_, fun i hi => ?_⟩
  · have q := hb i hi
    by_cases e : i = j
    · subst e
      simp [sA_2, aA_2, aA_1, sA_3, q]
    · simp [sA_2, aA_2, aA_1, sA_3, q, e]
  · have q := hc i hi
    refine ⟨by simpa [sA_2, aA_2] using q.1, fun k hk => ?_⟩
    have q2 := q.2 k hk
    have z : ¬ 3 + k = 0 := by omega
    simpa [sA_2, aA_2, z] using q2
  · have q := hd i hi
    simpa [sA_2, aA_2, aA_1, sA_3] using q
  · have q := hp i hi
    simpa [sA_2, aA_2, aA_1, sA_3] using q
theorem RM_dx {τ : SS} {a : AS} {j v : Nat} (h : RM τ a) : RM (sA τ 15 j (nI v)) (aA a 10 j v) := by
  obtain ⟨hf, hb, hc, hd, hp⟩ := h
  refine ⟨hf, fun i hi => ?_, fun i hi => ?_, fun i hi => ?_, fun i hi => ?_⟩
  · have q := hb i hi
    simpa [sA_2, aA_2, aA_1, sA_3] using q
  · have q := hc i hi
    refine ⟨by simpa [sA_2, aA_2] using q.1, fun k hk => ?_⟩
    have q2 := q.2 k hk
    have z : ¬ 3 + k = 10 := by omega
    simpa [sA_2, aA_2, z] using q2
  · have q := hd i hi
    by_cases e : i = j
    · subst e
      simp [sA_2, aA_2, aA_1, sA_3, q]
    · simp [sA_2, aA_2, aA_1, sA_3, q, e]
  · have q := hp i hi
    simpa [sA_2, aA_2, aA_1, sA_3] using q
theorem RM_dw {τ : SS} {a : AS} {j v : Nat} (h : RM τ a) : RM (sA τ 16 j (nI v)) (aA a 11 j v) := by
  obtain ⟨hf, hb, hc, hd, hp⟩ := h
  refine ⟨hf, fun i hi => ?_, fun i hi => ?_, fun i hi => ?_, fun i hi => ?_⟩
  · have q := hb i hi
    simpa [sA_2, aA_2, aA_1, sA_3] using q
  · have q := hc i hi
    refine ⟨by simpa [sA_2, aA_2] using q.1, fun k hk => ?_⟩
    have q2 := q.2 k hk
    have z : ¬ 3 + k = 11 := by omega
    simpa [sA_2, aA_2, z] using q2
  · have q := hd i hi
    by_cases e : i = j
    · subst e
      simp [sA_2, aA_2, aA_1, sA_3, q]
    · simp [sA_2, aA_2, aA_1, sA_3, q, e]
  · have q := hp i hi
    simpa [sA_2, aA_2, aA_1, sA_3] using q
theorem RM_ow {τ : SS} {a : AS} {j v : Nat} (h : RM τ a) : RM (sA τ 21 j (nI v)) (aA a 14 j v) := by
  obtain ⟨hf, hb, hc, hd, hp⟩ := h
  refine ⟨hf, fun i hi => ?_, fun i hi => ?_, fun i hi => ?_, fun i hi => ?_⟩
  · have q := hb i hi
    simpa [sA_2, aA_2, aA_1, sA_3] using q
  · have q := hc i hi
    refine ⟨by simpa [sA_2, aA_2] using q.1, fun k hk => ?_⟩
    have q2 := q.2 k hk
    have z : ¬ 3 + k = 14 := by omega
    simpa [sA_2, aA_2, z] using q2
  · have q := hd i hi
    simpa [sA_2, aA_2, aA_1, sA_3] using q
  · have q := hp i hi
    by_cases e : i = j
    · subst e
      simp [sA_2, aA_2, aA_1, sA_3, q]
    · simp [sA_2, aA_2, aA_1, sA_3, q, e]
theorem RM_wo {τ : SS} {a : AS} {j v : Nat} (h : RM τ a) : RM (sA τ 22 j (nI v)) (aA a 15 j v) := by
  obtain ⟨hf, hb, hc, hd, hp⟩ := h
  refine ⟨hf, fun i hi => ?_, fun i hi => ?_, fun i hi => ?_, fun i hi => ?_⟩
  · have q := hb i hi
    simpa [sA_2, aA_2, aA_1, sA_3] using q
  · have q := hc i hi
    refine ⟨by simpa [sA_2, aA_2] using q.1, fun k hk => ?_⟩
    have q2 := q.2 k hk
    have z : ¬ 3 + k = 15 := by omega
    simpa [sA_2, aA_2, z] using q2
  · have q := hd i hi
    simpa [sA_2, aA_2, aA_1, sA_3] using q
  · have q := hp i hi
    by_cases e : i = j
    · subst e
      simp [sA_2, aA_2, aA_1, sA_3, q]
    · simp [sA_2, aA_2, aA_1, sA_3, q, e]
theorem RM_dl {τ : SS} {a : AS} {j v : Nat} (h : RM τ a) : RM (sL τ 17 j (lN v)) (aA a 12 j v) := by
  obtain ⟨hf, hb, hc, hd, hp⟩ := h
  refine ⟨hf, fun i hi => ?_, fun i hi => ?_, fun i hi => ?_, fun i hi => ?_⟩
  · have q := hb i hi
    simpa [sL_2, aA_2, aA_1] using q
  · have q := hc i hi
    refine ⟨by simpa [sL_2, aA_2] using q.1, fun k hk => ?_⟩
    have q2 := q.2 k hk
    have z : ¬ 3 + k = 12 := by omega
    simpa [sL_2, aA_2, z] using q2
  · have q := hd i hi
    by_cases e : i = j
    · subst e
      simp [sL_2, sL_3, aA_2, q]
    · simp [sL_2, sL_3, aA_2, q, e]
  · have q := hp i hi
    simpa [sL_2, aA_2] using q
theorem RM_die {τ : SS} {a : AS} {j : Nat} (h : RM τ a) (hj : j < a.1 0) : RM (sA τ 3 j 1) (aA a 1 j 0) := by
  obtain ⟨hf, hb, hc, hd, hp⟩ := h
  refine ⟨hf, fun i hi => ?_, fun i hi => ?_, fun i hi => ?_, fun i hi => ?_⟩
  · have q := hb i hi
    by_cases e : i = j
    · subst e
      simp [sA_2, aA_2, aA_1, q, hj]
    · simp [sA_2, aA_2, aA_1, q, e]
  · have q := hc i hi
    refine ⟨by simpa [sA_2, aA_2] using q.1, fun k hk => ?_⟩
    have q2 := q.2 k hk
    have z : ¬ 3 + k = 1 := by omega
    simpa [sA_2, aA_2, z] using q2
  · have q := hd i hi
    simpa [sA_2, aA_2, sA_3] using q
  · have q := hp i hi
    simpa [sA_2, aA_2] using q
theorem RX_now {σ : SS} {a : AS} {v : Nat} (h : RX σ a) : RX (sI σ 0 (nI v)) (aI a 1 v) := by
  obtain ⟨⟨f1, f2, f3, f4, f5, f6⟩, hb, hc, hd, hp⟩ := h
  exact ⟨⟨by simp [sI_1, aI_1, f1], by simp [sI_1, aI_1], by simp [sI_1, aI_1, f3], by simp [sI_1, aI_1, f4], by simp [sI_1, aI_1, f5], by simp [sI_1, aI_1, f6]⟩, hb, hc, hd, hp⟩
theorem RM_now {τ : SS} {a : AS} {v : Nat} (h : RM τ a) : RM (sI τ 5 (nI v)) (aI a 1 v) := by
  obtain ⟨⟨f1, f2, f3, f4, f5, f6⟩, hb, hc, hd, hp⟩ := h
  exact ⟨⟨by simp [sI_1, aI_1, f1], by simp [sI_1, aI_1], by simp [sI_1, aI_1, f3], by simp [sI_1, aI_1, f4], by simp [sI_1, aI_1, f5], by simp [sI_1, aI_1, f6]⟩, hb, hc, hd, hp⟩
theorem RX_len {σ : SS} {a : AS} {v : Nat} (h : RX σ a) : RX (sI σ 2 (nI v)) (aI a 2 v) := by
  obtain ⟨⟨f1, f2, f3, f4, f5, f6⟩, hb, hc, hd, hp⟩ := h
  exact ⟨⟨by simp [sI_1, aI_1, f1], by simp [sI_1, aI_1, f2], by simp [sI_1, aI_1], by simp [sI_1, aI_1, f4], by simp [sI_1, aI_1, f5], by simp [sI_1, aI_1, f6]⟩, hb, hc, hd, hp⟩
theorem RM_len {τ : SS} {a : AS} {v : Nat} (h : RM τ a) : RM (sI τ 7 (nI v)) (aI a 2 v) := by
  obtain ⟨⟨f1, f2, f3, f4, f5, f6⟩, hb, hc, hd, hp⟩ := h
  exact ⟨⟨by simp [sI_1, aI_1, f1], by simp [sI_1, aI_1, f2], by simp [sI_1, aI_1], by simp [sI_1, aI_1, f4], by simp [sI_1, aI_1, f5], by simp [sI_1, aI_1, f6]⟩, hb, hc, hd, hp⟩
def addD (a : AS) (x y v q : Nat) : AS := aI (aA (aA (aA (aA a 10 (a.1 4) x) 11 (a.1 4) y) 12 (a.1 4) v) 13 (a.1 4) q) 4 (a.1 4 + 1)
def addP (a : AS) (o w : Nat) : AS := aI (aA (aA (aA a 14 (a.1 5) o) 15 (a.1 5) w) 16 (a.1 5) w) 5 (a.1 5 + 1)
theorem RX_addD {σ : SS} {a : AS} {x y v q : Nat} (h : RX σ a) : RX (sI (sA (sA (sA (sA σ 22 (a.1 4) (nI x)) 23 (a.1 4) (nI y)) 24 (a.1 4) (nI v)) 25 (a.1 4) (nI q - 1)) 15 (nI (a.1 4 + 1))) (addD a x y v q) := by
  obtain ⟨⟨f1, f2, f3, f4, f5, f6⟩, hb, hc, hd, hp⟩ := h
  refine ⟨⟨by simp [addD, sI_1, sA_1, aI_1, aA_1, f1], by simp [addD, sI_1, sA_1, aI_1, aA_1, f2], by simp [addD, sI_1, sA_1, aI_1, aA_1, f3], by simp [addD, sI_1, sA_1, aI_1, aA_1, f4], by simp [addD, sI_1, sA_1, aI_1, aA_1], by simp [addD, sI_1, sA_1, aI_1, aA_1, f6]⟩, fun i hi => ?_, fun i hi => ?_, fun i hi => ?_, fun i hi => ?_⟩
  · have q := hb i hi
    simpa [addD, sI_2, sA_2, aI_2, aA_2] using q
  · have q := hc i (by simpa [addD, aI_1, aA_1] using hi)
    simpa [addD, sI_2, sA_2, aI_2, aA_2] using q
  · have hi2 : i < a.1 4 + 1 := by simpa [addD, aI_1] using hi
    by_cases e : i = a.1 4
    · subst e
      simp [addD, sI_2, sA_2, aI_2, aA_2]
    · have q := hd i (by omega)
      simp [addD, sI_2, sA_2, aI_2, aA_2, q, e]
  · have q := hp i (by simpa [addD, aI_1, aA_1] using hi)
    simpa [addD, sI_2, sA_2, aI_2, aA_2] using q
theorem RM_addD {τ : SS} {a : AS} {x y v q : Nat} {z : Int32} (hz : z = if q = 0 then 1 else 0) (h : RM τ a) : RM (sI (sA (sA (sL (sA (sA τ 15 (a.1 4) (nI x)) 16 (a.1 4) (nI y)) 17 (a.1 4) (lN v)) 18 (a.1 4) z) 19 (a.1 4) (nI q - 1)) 20 (nI (a.1 4 + 1))) (addD a x y v q) := by
  obtain ⟨⟨f1, f2, f3, f4, f5, f6⟩, hb, hc, hd, hp⟩ := h
  refine ⟨⟨by simp [addD, sI_1, sA_1, sL_1, aI_1, aA_1, f1], by simp [addD, sI_1, sA_1, sL_1, aI_1, aA_1, f2], by simp [addD, sI_1, sA_1, sL_1, aI_1, aA_1, f3], by simp [addD, sI_1, sA_1, sL_1, aI_1, aA_1, f4], by simp [addD, sI_1, sA_1, aI_1, aA_1], by simp [addD, sI_1, sA_1, sL_1, aI_1, aA_1, f6]⟩, fun i hi => ?_, fun i hi => ?_, fun i hi => ?_, fun i hi => ?_⟩
  · have q := hb i hi
    simpa [addD, sI_2, sA_2, sL_2, aI_2, aA_2, aI_1, aA_1] using q
  · have q := hc i (by simpa [addD, aI_1, aA_1] using hi)
    refine ⟨by simpa [addD, sI_2, sA_2, sL_2, aI_2, aA_2] using q.1, fun k hk => ?_⟩
    have q2 := q.2 k hk
    have z : ¬ 3 + k = 10 ∧ ¬ 3 + k = 11 ∧ ¬ 3 + k = 12 ∧ ¬ 3 + k = 13 := by omega
    simpa [addD, sI_2, sA_2, sL_2, aI_2, aA_2, z] using q2
  · have hi2 : i < a.1 4 + 1 := by simpa [addD, aI_1] using hi
    by_cases e : i = a.1 4
    · subst e
      simp [addD, sI_2, sA_2, sL_2, sL_3, sA_3, aI_2, aA_2, hz]
    · have q := hd i (by omega)
      simp [addD, sI_2, sA_2, sL_2, sL_3, sA_3, aI_2, aA_2, q, e]
  · have q := hp i (by simpa [addD, aI_1, aA_1] using hi)
    simpa [addD, sI_2, sA_2, sL_2, aI_2, aA_2] using q
theorem RX_addP {σ : SS} {a : AS} {o w : Nat} (h : RX σ a) : RX (sI (sA (sA (sA σ 26 (a.1 5) (nI o)) 27 (a.1 5) (nI w)) 28 (a.1 5) (nI w)) 16 (nI (a.1 5 + 1))) (addP a o w) := by
  obtain ⟨⟨f1, f2, f3, f4, f5, f6⟩, hb, hc, hd, hp⟩ := h
  refine ⟨⟨by simp [addP, sI_1, sA_1, aI_1, aA_1, f1], by simp [addP, sI_1, sA_1, aI_1, aA_1, f2], by simp [addP, sI_1, sA_1, aI_1, aA_1, f3], by simp [addP, sI_1, sA_1, aI_1, aA_1, f4], by simp [addP, sI_1, sA_1, aI_1, aA_1, f5], by simp [addP, sI_1, sA_1, aI_1, aA_1]⟩, fun i hi => ?_, fun i hi => ?_, fun i hi => ?_, fun i hi => ?_⟩
  · have q := hb i hi
    simpa [addP, sI_2, sA_2, aI_2, aA_2] using q
  · have q := hc i (by simpa [addP, aI_1, aA_1] using hi)
    simpa [addP, sI_2, sA_2, aI_2, aA_2] using q
  · have q := hd i (by simpa [addP, aI_1, aA_1] using hi)
    simpa [addP, sI_2, sA_2, aI_2, aA_2] using q
  · have hi2 : i < a.1 5 + 1 := by simpa [addP, aI_1] using hi
    by_cases e : i = a.1 5
    · subst e
      simp [addP, sI_2, sA_2, aI_2, aA_2]
    · have q := hp i (by omega)
      simp [addP, sI_2, sA_2, aI_2, aA_2, q, e]
theorem RM_addP {τ : SS} {a : AS} {o w : Nat} (h : RM τ a) : RM (sI (sA (sA (sA τ 21 (a.1 5) (nI o)) 22 (a.1 5) (nI w)) 23 (a.1 5) (nI w)) 24 (nI (a.1 5 + 1))) (addP a o w) := by
  obtain ⟨⟨f1, f2, f3, f4, f5, f6⟩, hb, hc, hd, hp⟩ := h
  refine ⟨⟨by simp [addP, sI_1, sA_1, aI_1, aA_1, f1], by simp [addP, sI_1, sA_1, aI_1, aA_1, f2], by simp [addP, sI_1, sA_1, aI_1, aA_1, f3], by simp [addP, sI_1, sA_1, aI_1, aA_1, f4], by simp [addP, sI_1, sA_1, aI_1, aA_1, f5], by simp [addP, sI_1, sA_1, aI_1, aA_1]⟩, fun i hi => ?_, fun i hi => ?_, fun i hi => ?_, fun i hi => ?_⟩
  · have q := hb i hi
    simpa [addP, sI_2, sA_2, aI_2, aA_2, aI_1, aA_1] using q
  · have q := hc i (by simpa [addP, aI_1, aA_1] using hi)
    refine ⟨by simpa [addP, sI_2, sA_2, aI_2, aA_2] using q.1, fun k hk => ?_⟩
    have q2 := q.2 k hk
    have z : ¬ 3 + k = 14 ∧ ¬ 3 + k = 15 ∧ ¬ 3 + k = 16 := by omega
    simpa [addP, sI_2, sA_2, aI_2, aA_2, z] using q2
  · have q := hd i (by simpa [addP, aI_1, aA_1] using hi)
    simpa [addP, sI_2, sA_2, sA_3, aI_2, aA_2] using q
  · have hi2 : i < a.1 5 + 1 := by simpa [addP, aI_1] using hi
    by_cases e : i = a.1 5
    · subst e
      simp [addP, sI_2, sA_2, aI_2, aA_2]
    · have q := hp i (by omega)
      simp [addP, sI_2, sA_2, aI_2, aA_2, q, e]

theorem Inv_b {a : AS} {j v : Nat} (h : Inv a) (hj : j < a.1 0) : Inv (aA a 0 j v) := by
  obtain ⟨i1, i2, i3, i4, i5, i6, i7, i8, i9, i10, i11⟩ := h
  refine ⟨i1, i2, i3, i4, i5, i6, fun i hi => ?_, fun i hi => ?_, fun i hi => ?_, fun i hi => ?_, fun i => ?_⟩
  · have q := i7 i hi
    refine ⟨by simpa [aA_2] using q.1, fun k hk => ?_⟩
    have q2 := q.2 k hk
    have z : ¬ 3 + k = 0 := by omega
    simpa [aA_2, z] using q2
  · have q := i8 i hi
    simp only [aA_2, aA_1]
    by_cases e : i = j <;> simp [e] at q ⊢ <;> first | omega | (try subst e) ; simp_all
  · have q := i9 i hi
    simp only [aA_2, aA_1]
    by_cases e : i = j <;> simp [e] at q ⊢ <;> first | omega | (try subst e) ; simp_all
  · have q := i10 i hi
    have hi2 : a.1 0 ≤ i := hi
    simp only [aA_2]
    by_cases e : i = j
    · subst e
      simp [q] <;> omega
    · simp [e, q]
  · have q := i11 i
    simp only [aA_2]
    by_cases e : i = j
    · subst e
      simp [q] <;> omega
    · simp [e, q]
theorem Inv_l {a : AS} {j v : Nat} (h : Inv a) (hj : j < a.1 0) (hv : v ≤ 1) : Inv (aA a 1 j v) := by
  obtain ⟨i1, i2, i3, i4, i5, i6, i7, i8, i9, i10, i11⟩ := h
  refine ⟨i1, i2, i3, i4, i5, i6, fun i hi => ?_, fun i hi => ?_, fun i hi => ?_, fun i hi => ?_, fun i => ?_⟩
  · have q := i7 i hi
    refine ⟨by simpa [aA_2] using q.1, fun k hk => ?_⟩
    have q2 := q.2 k hk
    have z : ¬ 3 + k = 1 := by omega
    simpa [aA_2, z] using q2
  · have q := i8 i hi
    simp only [aA_2, aA_1]
    by_cases e : i = j <;> simp [e] at q ⊢ <;> first | omega | (try subst e) ; simp_all
  · have q := i9 i hi
    simp only [aA_2, aA_1]
    by_cases e : i = j <;> simp [e] at q ⊢ <;> first | omega | (try subst e) ; simp_all
  · have q := i10 i hi
    have hi2 : a.1 0 ≤ i := hi
    simp only [aA_2]
    by_cases e : i = j
    · subst e
      simp [q] <;> omega
    · simp [e, q]
  · have q := i11 i
    simp only [aA_2]
    by_cases e : i = j
    · subst e
      simp [q] <;> omega
    · simp [e, q]
theorem Inv_dx {a : AS} {j v : Nat} (h : Inv a) (hv : v < a.1 0) : Inv (aA a 10 j v) := by
  obtain ⟨i1, i2, i3, i4, i5, i6, i7, i8, i9, i10, i11⟩ := h
  refine ⟨i1, i2, i3, i4, i5, i6, fun i hi => ?_, fun i hi => ?_, fun i hi => ?_, fun i hi => ?_, fun i => ?_⟩
  · have q := i7 i hi
    refine ⟨by simpa [aA_2] using q.1, fun k hk => ?_⟩
    have q2 := q.2 k hk
    have z : ¬ 3 + k = 10 := by omega
    simpa [aA_2, z] using q2
  · have q := i8 i hi
    simp only [aA_2, aA_1]
    by_cases e : i = j <;> simp [e] at q ⊢ <;> first | omega | (try subst e) ; simp_all
  · have q := i9 i hi
    simp only [aA_2, aA_1]
    by_cases e : i = j <;> simp [e] at q ⊢ <;> first | omega | (try subst e) ; simp_all
  · have q := i10 i hi
    have hi2 : a.1 0 ≤ i := hi
    simp only [aA_2]
    by_cases e : i = j
    · subst e
      simp [q] <;> omega
    · simp [e, q]
  · have q := i11 i
    simp only [aA_2]
    by_cases e : i = j
    · subst e
      simp [q] <;> omega
    · simp [e, q]
theorem Inv_dw {a : AS} {j v : Nat} (h : Inv a) (hv : v < a.1 0) : Inv (aA a 11 j v) := by
  obtain ⟨i1, i2, i3, i4, i5, i6, i7, i8, i9, i10, i11⟩ := h
  refine ⟨i1, i2, i3, i4, i5, i6, fun i hi => ?_, fun i hi => ?_, fun i hi => ?_, fun i hi => ?_, fun i => ?_⟩
  · have q := i7 i hi
    refine ⟨by simpa [aA_2] using q.1, fun k hk => ?_⟩
    have q2 := q.2 k hk
    have z : ¬ 3 + k = 11 := by omega
    simpa [aA_2, z] using q2
  · have q := i8 i hi
    simp only [aA_2, aA_1]
    by_cases e : i = j <;> simp [e] at q ⊢ <;> first | omega | (try subst e) ; simp_all
  · have q := i9 i hi
    simp only [aA_2, aA_1]
    by_cases e : i = j <;> simp [e] at q ⊢ <;> first | omega | (try subst e) ; simp_all
  · have q := i10 i hi
    have hi2 : a.1 0 ≤ i := hi
    simp only [aA_2]
    by_cases e : i = j
    · subst e
      simp [q] <;> omega
    · simp [e, q]
  · have q := i11 i
    simp only [aA_2]
    by_cases e : i = j
    · subst e
      simp [q] <;> omega
    · simp [e, q]
theorem Inv_dl {a : AS} {j v : Nat} (h : Inv a) (hv : v ≤ 1000000000) : Inv (aA a 12 j v) := by
  obtain ⟨i1, i2, i3, i4, i5, i6, i7, i8, i9, i10, i11⟩ := h
  refine ⟨i1, i2, i3, i4, i5, i6, fun i hi => ?_, fun i hi => ?_, fun i hi => ?_, fun i hi => ?_, fun i => ?_⟩
  · have q := i7 i hi
    refine ⟨by simpa [aA_2] using q.1, fun k hk => ?_⟩
    have q2 := q.2 k hk
    have z : ¬ 3 + k = 12 := by omega
    simpa [aA_2, z] using q2
  · have q := i8 i hi
    simp only [aA_2, aA_1]
    by_cases e : i = j <;> simp [e] at q ⊢ <;> first | omega | (try subst e) ; simp_all
  · have q := i9 i hi
    simp only [aA_2, aA_1]
    by_cases e : i = j <;> simp [e] at q ⊢ <;> first | omega | (try subst e) ; simp_all
  · have q := i10 i hi
    have hi2 : a.1 0 ≤ i := hi
    simp only [aA_2]
    by_cases e : i = j
    · subst e
      simp [q] <;> omega
    · simp [e, q]
  · have q := i11 i
    simp only [aA_2]
    by_cases e : i = j
    · subst e
      simp [q] <;> omega
    · simp [e, q]
theorem Inv_dq {a : AS} {j v : Nat} (h : Inv a) (hv : v ≤ 2001) : Inv (aA a 13 j v) := by
  obtain ⟨i1, i2, i3, i4, i5, i6, i7, i8, i9, i10, i11⟩ := h
  refine ⟨i1, i2, i3, i4, i5, i6, fun i hi => ?_, fun i hi => ?_, fun i hi => ?_, fun i hi => ?_, fun i => ?_⟩
  · have q := i7 i hi
    refine ⟨by simpa [aA_2] using q.1, fun k hk => ?_⟩
    have q2 := q.2 k hk
    have z : ¬ 3 + k = 13 := by omega
    simpa [aA_2, z] using q2
  · have q := i8 i hi
    simp only [aA_2, aA_1]
    by_cases e : i = j <;> simp [e] at q ⊢ <;> first | omega | (try subst e) ; simp_all
  · have q := i9 i hi
    simp only [aA_2, aA_1]
    by_cases e : i = j <;> simp [e] at q ⊢ <;> first | omega | (try subst e) ; simp_all
  · have q := i10 i hi
    have hi2 : a.1 0 ≤ i := hi
    simp only [aA_2]
    by_cases e : i = j
    · subst e
      simp [q] <;> omega
    · simp [e, q]
  · have q := i11 i
    simp only [aA_2]
    by_cases e : i = j
    · subst e
      simp [q] <;> omega
    · simp [e, q]
theorem Inv_ow {a : AS} {j v : Nat} (h : Inv a) (hv : v < a.1 0) : Inv (aA a 14 j v) := by
  obtain ⟨i1, i2, i3, i4, i5, i6, i7, i8, i9, i10, i11⟩ := h
  refine ⟨i1, i2, i3, i4, i5, i6, fun i hi => ?_, fun i hi => ?_, fun i hi => ?_, fun i hi => ?_, fun i => ?_⟩
  · have q := i7 i hi
    refine ⟨by simpa [aA_2] using q.1, fun k hk => ?_⟩
    have q2 := q.2 k hk
    have z : ¬ 3 + k = 14 := by omega
    simpa [aA_2, z] using q2
  · have q := i8 i hi
    simp only [aA_2, aA_1]
    by_cases e : i = j <;> simp [e] at q ⊢ <;> first | omega | (try subst e) ; simp_all
  · have q := i9 i hi
    simp only [aA_2, aA_1]
    by_cases e : i = j <;> simp [e] at q ⊢ <;> first | omega | (try subst e) ; simp_all
  · have q := i10 i hi
    have hi2 : a.1 0 ≤ i := hi
    simp only [aA_2]
    by_cases e : i = j
    · subst e
      simp [q] <;> omega
    · simp [e, q]
  · have q := i11 i
    simp only [aA_2]
    by_cases e : i = j
    · subst e
      simp [q] <;> omega
    · simp [e, q]
theorem Inv_wo {a : AS} {j v : Nat} (h : Inv a) (hv : v ≤ 1000000) : Inv (aA a 15 j v) := by
  obtain ⟨i1, i2, i3, i4, i5, i6, i7, i8, i9, i10, i11⟩ := h
  refine ⟨i1, i2, i3, i4, i5, i6, fun i hi => ?_, fun i hi => ?_, fun i hi => ?_, fun i hi => ?_, fun i => ?_⟩
  · have q := i7 i hi
    refine ⟨by simpa [aA_2] using q.1, fun k hk => ?_⟩
    have q2 := q.2 k hk
    have z : ¬ 3 + k = 15 := by omega
    simpa [aA_2, z] using q2
  · have q := i8 i hi
    simp only [aA_2, aA_1]
    by_cases e : i = j <;> simp [e] at q ⊢ <;> first | omega | (try subst e) ; simp_all
  · have q := i9 i hi
    simp only [aA_2, aA_1]
    by_cases e : i = j <;> simp [e] at q ⊢ <;> first | omega | (try subst e) ; simp_all
  · have q := i10 i hi
    have hi2 : a.1 0 ≤ i := hi
    simp only [aA_2]
    by_cases e : i = j
    · subst e
      simp [q] <;> omega
    · simp [e, q]
  · have q := i11 i
    simp only [aA_2]
    by_cases e : i = j
    · subst e
      simp [q] <;> omega
    · simp [e, q]
theorem Inv_addD {a : AS} {x y v q : Nat} (h : Inv a) (hd : a.1 4 < 400) (hx : x < a.1 0) (hy : y < a.1 0) (hv : v ≤ 1000000000) (hq : q ≤ 2001) : Inv (addD a x y v q) := by
  have h2 : Inv (aA (aA (aA (aA a 10 (a.1 4) x) 11 (a.1 4) y) 12 (a.1 4) v) 13 (a.1 4) q) := Inv_dq (Inv_dl (Inv_dw (Inv_dx h hx) hy) hv) hq
  obtain ⟨i1, i2, i3, i4, i5, i6, i7, i8, i9, i10, i11⟩ := h2
  refine ⟨i1, i2, i3, i4, ?_, i6, i7, fun i hi => ?_, i9, i10, i11⟩
  · simp [addD, aI_1]
    omega
  · have hi2 : i < a.1 4 + 1 := by simpa [addD, aI_1] using hi
    by_cases e : i = a.1 4
    · subst e
      simp [addD, aI_1, aI_2, aA_1, aA_2, hx, hy, hv, hq]
    · exact i8 i (show i < a.1 4 by omega)
theorem Inv_addP {a : AS} {o w : Nat} (h : Inv a) (hd : a.1 5 < 30) (ho : o < a.1 0) (hw : w ≤ 1000000) (hw1 : 1 ≤ w) : Inv (addP a o w) := by
  obtain ⟨i1, i2, i3, i4, i5, i6, i7, i8, i9, i10, i11⟩ := h
  refine ⟨i1, i2, i3, i4, i5, ?_, fun i hi => ?_, fun i hi => ?_, fun i hi => ?_, fun i hi => ?_, fun i => ?_⟩
  · simp [addP, aI_1]
    omega
  · have q := i7 i hi
    refine ⟨by simpa [addP, aI_2, aA_2] using q.1, fun k hk => ?_⟩
    have q2 := q.2 k hk
    have z : ¬ 3 + k = 14 ∧ ¬ 3 + k = 15 ∧ ¬ 3 + k = 16 := by omega
    simpa [addP, aI_2, aA_2, z] using q2
  · have q := i8 i hi
    simpa [addP, aI_1, aI_2, aA_1, aA_2] using q
  · have hi2 : i < a.1 5 + 1 := by simpa [addP, aI_1] using hi
    by_cases e : i = a.1 5
    · subst e
      simp [addP, aI_1, aI_2, aA_1, aA_2, ho, hw, hw1]
    · have q := i9 i (by omega)
      simpa [addP, aI_1, aI_2, aA_1, aA_2, e] using q
  · have q := i10 i hi
    simpa [addP, aI_2, aA_2] using q
  · have q := i11 i
    simpa [addP, aI_2, aA_2] using q
theorem InvB_ne {a : AS} {r j v : Nat} (h : InvB a) (hr : r ≠ 0) : InvB (aA a r j v) := by
  have e : (aA a r j v).2 0 = a.2 0 := by
    funext i
    rw [aA_2, if_neg (fun z => hr z.1.symm)]
  unfold InvB
  rw [e]
  exact h
theorem InvB_I {a : AS} {k v : Nat} (h : InvB a) (hk : k ≠ 0) : InvB (aI a k v) := by
  unfold InvB
  rw [aI_1, if_neg (fun z => hk z.symm)]
  exact h
theorem InvB_addD {a : AS} {x y v q : Nat} (h : InvB a) : InvB (addD a x y v q) := InvB_I (InvB_ne (InvB_ne (InvB_ne (InvB_ne h (by omega)) (by omega)) (by omega)) (by omega)) (by omega)
theorem InvB_addP {a : AS} {o w : Nat} (h : InvB a) : InvB (addP a o w) := InvB_I (InvB_ne (InvB_ne (InvB_ne h (by omega)) (by omega)) (by omega)) (by omega)
theorem sumTo_one {f : Nat → Nat} {n j : Nat} (h : j < n) : f j ≤ sumTo f n := by
  induction n with
  | zero => omega
  | succ n ih =>
    show f j ≤ sumTo f n + f n
    by_cases e : j = n
    · subst e; omega
    · have := ih (by omega); omega
theorem InvB_one {a : AS} {j : Nat} (h : InvB a) (h4 : Inv a) (hj : j < 12) : a.2 0 j ≤ 12000000 := by
  have := sumTo_one (f := a.2 0) hj
  have h2 : sumTo (a.2 0) 12 ≤ 1000000 * a.1 0 := h
  have := h4.1
  omega
theorem sumTo_two {f : Nat → Nat} {n i j : Nat} (hi : i < n) (hj : j < n) (hij : i ≠ j) : f i + f j ≤ sumTo f n := by
  have e := sumTo_set (f := f) (v := 0) hi
  have q := sumTo_one (f := fun k => if k = i then 0 else f k) hj
  simp only [if_neg (show ¬ j = i from fun z => hij z.symm)] at q
  omega
theorem InvB_two {a : AS} {i j : Nat} (h : InvB a) (h4 : Inv a) (hi : i < 12) (hj : j < 12) (hij : i ≠ j) : a.2 0 i + a.2 0 j ≤ 12000000 := by
  have := sumTo_two (f := a.2 0) hi hj hij
  have h2 : sumTo (a.2 0) 12 ≤ 1000000 * a.1 0 := h
  have := h4.1
  omega
/-- n blankets go from i to j -/
def mvB (a : AS) (i j n : Nat) : AS := aA (aA a 0 i (a.2 0 i - n)) 0 j (a.2 0 j + n)
theorem InvB_mv {a : AS} {i j n : Nat} (h : InvB a) (hi : i < 12) (hj : j < 12) (hij : i ≠ j) (hn : n ≤ a.2 0 i) : InvB (mvB a i j n) := by
  have e1 := sumTo_set (f := a.2 0) (v := a.2 0 i - n) hi
  have e2 := sumTo_set (f := fun k => if k = i then a.2 0 i - n else a.2 0 k) (v := a.2 0 j + n) hj
  simp only [if_neg (show ¬ j = i from fun z => hij z.symm)] at e2
  have h2 : sumTo (a.2 0) 12 ≤ 1000000 * a.1 0 := h
  have e3 : sumTo ((mvB a i j n).2 0) 12 = sumTo (fun k => if k = j then a.2 0 j + n else if k = i then a.2 0 i - n else a.2 0 k) 12 := sumTo_congr (fun k _ => by simp [mvB, aA_2])
  show sumTo ((mvB a i j n).2 0) 12 ≤ 1000000 * a.1 0
  rw [e3]
  omega
theorem RX_mv {σ : SS} {a : AS} {i j n : Nat} (h : RX σ a) (hi : i < 12) (hj : j < 12) (hij : i ≠ j) (hn : n ≤ a.2 0 i) : RX (sA (sA σ 19 i (σ.2.1 19 i - nI n)) 19 j ((sA σ 19 i (σ.2.1 19 i - nI n)).2.1 19 j + nI n)) (mvB a i j n) := by
  have e1 : σ.2.1 19 i - nI n = nI (a.2 0 i - n) := by rw [(h.2.1 i hi).1, q_sub hn]
  have e2 : (sA σ 19 i (σ.2.1 19 i - nI n)).2.1 19 j + nI n = nI (a.2 0 j + n) := by
    rw [sA_2, if_neg (fun z => hij z.2.symm), (h.2.1 j hj).1, q_add]
  rw [e2, e1]
  exact RX_b (RX_b h)
theorem RM_mv {τ : SS} {a : AS} {i j n : Nat} (h : RM τ a) (hi : i < 12) (hj : j < 12) (hij : i ≠ j) (hn : n ≤ a.2 0 i) : RM (sA (sA τ 1 i (τ.2.1 1 i - nI n)) 1 j ((sA τ 1 i (τ.2.1 1 i - nI n)).2.1 1 j + nI n)) (mvB a i j n) := by
  have e1 : τ.2.1 1 i - nI n = nI (a.2 0 i - n) := by rw [(h.2.1 i hi).1, q_sub hn]
  have e2 : (sA τ 1 i (τ.2.1 1 i - nI n)).2.1 1 j + nI n = nI (a.2 0 j + n) := by
    rw [sA_2, if_neg (fun z => hij z.2.symm), (h.2.1 j hj).1, q_add]
  rw [e2, e1]
  exact RM_b (RM_b h)
theorem Inv_mv {a : AS} {i j n : Nat} (h : Inv a) (hi : i < a.1 0) (hj : j < a.1 0) : Inv (mvB a i j n) := Inv_b (Inv_b h hi) hj
