/-! The relation: both states stand for one abstract ledger.
  a.1: 0 chiefs, 1 the year, 2 the tape's length, 3 customs, 4 debts, 5 coppers
  a.2: 0 blankets, 1 alive, 2 from which year, 3..8 the custom's six numbers, 10 who owes, 11 whom, 12 left, 13 due + 1 (0: a loan), 14 owner, 15 worth, 16 first worth -/
abbrev AS : Type := (Nat → Nat) × (Nat → Nat → Nat)
def Inv (a : AS) : Prop := a.1 0 ≤ 12 ∧ a.1 1 ≤ 1000 ∧ a.1 2 ≤ 200 ∧ a.1 3 ≤ 20 ∧ a.1 4 ≤ 400 ∧ a.1 5 ≤ 30 ∧
  (∀ i, i < a.1 3 → a.2 2 i ≤ 1000 ∧ ∀ k, k < 6 → a.2 (3 + k) i ≤ 1000) ∧
  (∀ i, i < a.1 4 → a.2 10 i < a.1 0 ∧ a.2 11 i < a.1 0 ∧ a.2 12 i ≤ 1000000000 ∧ a.2 13 i ≤ 2001) ∧
  (∀ i, i < a.1 5 → a.2 14 i < a.1 0 ∧ a.2 15 i ≤ 1000000 ∧ a.2 16 i ≤ 1000000 ∧ 1 ≤ a.2 16 i) ∧
  (∀ i, a.1 0 ≤ i → a.2 0 i = 0 ∧ a.2 1 i = 0) ∧ (∀ i, a.2 1 i ≤ 1)
/-- all blankets together -/
def sumTo (f : Nat → Nat) : Nat → Nat
  | 0 => 0
  | k + 1 => sumTo f k + f k
def InvB (a : AS) : Prop := sumTo (a.2 0) 12 ≤ 1000000 * a.1 0
def RXc (σ : SS) (a : AS) : Prop := ∀ i, i < a.1 3 → σ.2.1 12 i = nI (a.2 2 i) ∧ σ.2.1 14 i = nI (a.2 4 i) ∧ σ.2.1 17 i = nI (a.2 7 i) ∧ σ.2.1 18 i = nI (a.2 8 i) ∧ (a.2 4 i ≠ 0 → σ.2.1 13 i = nI (a.2 3 i) ∧ σ.2.1 15 i = nI (a.2 5 i)) ∧ (a.2 7 i ≠ 0 → σ.2.1 16 i = nI (a.2 6 i))
def RXd (σ : SS) (a : AS) : Prop := ∀ i, i < a.1 4 → σ.2.1 22 i = nI (a.2 10 i) ∧ σ.2.1 23 i = nI (a.2 11 i) ∧ σ.2.1 24 i = nI (a.2 12 i) ∧ σ.2.1 25 i = nI (a.2 13 i) - 1
def RXp (σ : SS) (a : AS) : Prop := ∀ i, i < a.1 5 → σ.2.1 26 i = nI (a.2 14 i) ∧ σ.2.1 28 i = nI (a.2 15 i) ∧ σ.2.1 27 i = nI (a.2 16 i)
def RX (σ : SS) (a : AS) : Prop := (σ.1 14 = nI (a.1 0) ∧ σ.1 0 = nI (a.1 1) ∧ σ.1 2 = nI (a.1 2) ∧ σ.1 13 = nI (a.1 3) ∧ σ.1 15 = nI (a.1 4) ∧ σ.1 16 = nI (a.1 5)) ∧
  (∀ i, i < 12 → σ.2.1 19 i = nI (a.2 0 i) ∧ σ.2.1 21 i = nI (a.2 1 i)) ∧ RXc σ a ∧ RXd σ a ∧ RXp σ a
def RMc (τ : SS) (a : AS) : Prop := ∀ i, i < a.1 3 → τ.2.1 12 i = nI (a.2 2 i) ∧ ∀ k, k < 6 → τ.2.1 13 (6 * i + k) = nI (a.2 (3 + k) i)
def RMd (τ : SS) (a : AS) : Prop := ∀ i, i < a.1 4 → τ.2.1 15 i = nI (a.2 10 i) ∧ τ.2.1 16 i = nI (a.2 11 i) ∧ τ.2.2 17 i = lN (a.2 12 i) ∧ τ.2.1 18 i = (if a.2 13 i = 0 then 1 else 0) ∧ τ.2.1 19 i = nI (a.2 13 i) - 1
def RMp (τ : SS) (a : AS) : Prop := ∀ i, i < a.1 5 → τ.2.1 21 i = nI (a.2 14 i) ∧ τ.2.1 22 i = nI (a.2 15 i) ∧ τ.2.1 23 i = nI (a.2 16 i)
def RM (τ : SS) (a : AS) : Prop := (τ.1 4 = nI (a.1 0) ∧ τ.1 5 = nI (a.1 1) ∧ τ.1 7 = nI (a.1 2) ∧ τ.1 14 = nI (a.1 3) ∧ τ.1 20 = nI (a.1 4) ∧ τ.1 24 = nI (a.1 5)) ∧
  (∀ i, i < 12 → τ.2.1 1 i = nI (a.2 0 i) ∧ τ.2.1 3 i = (if i < a.1 0 ∧ a.2 1 i = 0 then 1 else 0)) ∧ RMc τ a ∧ RMd τ a ∧ RMp τ a
/-- what both hold alike -/
def RC (σ τ : SS) : Prop := (∀ i, i < 12 → σ.2.2 20 i = τ.2.2 2 i) ∧ (∀ j, j < 200 → σ.2.1 10 j = τ.2.1 6 j ∧ fits .byte (.int (σ.2.1 10 j)) = true) ∧ σ.1 1 = τ.1 11
def Rel (σ τ : SS) : Prop := ∃ a : AS, RX σ a ∧ RM τ a ∧ RC σ τ ∧ Inv a ∧ InvB a
theorem Rel0 : Rel sX0 sM0 := by
  refine ⟨(fun _ => 0, fun _ _ => 0), ⟨⟨rfl, rfl, rfl, rfl, rfl, rfl⟩, fun i _ => ⟨rfl, rfl⟩, fun i h => by simp at h, fun i h => by simp at h, fun i h => by simp at h⟩, ⟨⟨rfl, rfl, rfl, rfl, rfl, rfl⟩, fun i _ => ⟨rfl, by simp [sM0]⟩, fun i h => by simp at h, fun i h => by simp at h, fun i h => by simp at h⟩, ⟨fun _ _ => rfl, fun _ _ => ⟨rfl, rfl⟩, rfl⟩, ⟨by simp, by simp, by simp, by simp, by simp, by simp, fun i h => by simp at h, fun i h => by simp at h, fun i h => by simp at h, fun i _ => ⟨rfl, rfl⟩, fun i => by simp⟩, by simp [InvB, sumTo]⟩
/-- the reference's 'thrown' isn't looked at -/
theorem RM_thrown {τ : SS} {a : AS} {v : Int32} (h : RM τ a) : RM (sI τ 0 v) a := by
  obtain ⟨⟨h1, h2, h3, h4, h5, h6⟩, hr⟩ := h
  refine ⟨⟨?_, ?_, ?_, ?_, ?_, ?_⟩, hr⟩ <;> rw [sI_1] <;> simpa
theorem RC_thrown {σ τ : SS} {v : Int32} (h : RC σ τ) : RC σ (sI τ 0 v) := by
  obtain ⟨h1, h2, h3⟩ := h
  exact ⟨h1, h2, by rw [sI_1]; simpa using h3⟩
theorem Rel_thrown {σ τ : SS} {v : Int32} (h : Rel σ τ) : Rel σ (sI τ 0 v) := by
  obtain ⟨a, h1, h2, h3, h4, h5⟩ := h
  exact ⟨a, h1, RM_thrown h2, RC_thrown h3, h4, h5⟩
theorem M_forceOf {τ : SS} {fu c : Nat} {cy : Nat → Nat} {y : Int32} (hfu : 1000 ≤ fu) (hc : c ≤ 20) (h13 : τ.1 14 = nI c) (hy : ∀ i, i < c → τ.2.1 12 i = nI (cy i)) (hb : ∀ i, i < c → cy i ≤ 1000) : f_X8_forceOf fu τ y = some (forceS cy y c) := by
  unfold f_X8_forceOf f_X8_forceOf_L4
  refine up_loop (X := Int32 × Int32 × Int32) c (fun _ => τ) (fun i => (y, forceS cy y i, nI i)) _ (fun i k hi => ?_) (fun k => ?_) fu (by omega)
  · have hbi := hb i hi
    simp (disch := omega) only [f_X8_forceOf_4, f_X8_forceOf_41, f_X8_forceOf_43, h13, q_le, q_in, q_cl, hy i hi, q_inc]
    rw [if_neg (by omega), if_pos (by omega), forceS_s]
    rcases forceS_cases cy y i with h | ⟨j, hj, h⟩
    · by_cases h1 : y < nI (cy i)
      · rw [if_pos h1, if_neg (fun q => absurd h1 (Int32.not_lt.mpr q.1))]
      · rw [h, if_neg h1, if_pos (by decide), if_pos ⟨Int32.not_lt.mp h1, Or.inl rfl⟩]
    · have hj2 : j < c := by omega
      have hbj := hb j hj2
      by_cases h1 : y < nI (cy i)
      · rw [if_pos h1, if_neg (fun q => absurd h1 (Int32.not_lt.mpr q.1))]
      · rw [h, if_neg h1]
        simp (disch := omega) only [q_neg, q_m1, q_in, q_cl, hy j hj2, q_lt, if_false, false_or]
        rw [if_pos (show j < 20 by omega)]
        by_cases h2 : cy i < cy j
        · rw [if_pos h2, if_neg (fun q => by have := q.2; omega)]
        · rw [if_neg h2, if_pos ⟨Int32.not_lt.mp h1, by omega⟩]
  · simp (disch := omega) only [f_X8_forceOf_4, h13, q_le]
    rw [if_pos (Nat.le_refl _)]
theorem sim_fault (fu : Nat) : Sim_fault fu Rel := by
  intro σ τ h
  obtain ⟨a, h1, h2, h3, h4, h5⟩ := h
  refine ⟨σ.1 1, sI τ 0 0, rfl, ?_, a, h1, RM_thrown h2, RC_thrown h3, h4, h5⟩
  show some (τ.1 11, sI τ 0 0) = some (σ.1 1, sI τ 0 0)
  rw [h3.2.2]
theorem sim_force {fu : Nat} (hfu : 1000 ≤ fu) : Sim_force fu Rel := by
  intro σ τ h x1
  obtain ⟨a, h1, h2, h3, h4, h5⟩ := h
  refine ⟨forceS (a.2 2) x1 (a.1 3), sI τ 0 0, ?_, ?_, a, h1, RM_thrown h2, RC_thrown h3, h4, h5⟩
  · have e := X_inForce (σ := σ) (y := x1) hfu h4.2.2.2.1 h1.1.2.2.2.1 (fun i hi => (h1.2.2.1 i hi).1) (fun i hi => (h4.2.2.2.2.2.2.1 i hi).1)
    unfold f_X7_force
    rw [e]
    rfl
  · have hM := RM_thrown (v := 0) h2
    have e := M_forceOf (τ := sI τ 0 0) (y := x1) hfu h4.2.2.2.1 hM.1.2.2.2.1 (fun i hi => (hM.2.2.1 i hi).1) (fun i hi => (h4.2.2.2.2.2.2.1 i hi).1)
    unfold f_X8_force
    rw [e]
    rfl
