/-! PURE: numbers and states -/
theorem lt31 {a : Nat} (h : a < 2000000000) : a < 2 ^ 31 := by omega
theorem q_le {a b : Nat} (ha : a < 2000000000) (hb : b < 2000000000) : nI a ≤ nI b ↔ a ≤ b := nI_leI (lt31 ha) (lt31 hb)
theorem q_lt {a b : Nat} (ha : a < 2000000000) (hb : b < 2000000000) : nI a < nI b ↔ a < b := nI_ltI (lt31 ha) (lt31 hb)
theorem q_eq {a b : Nat} (ha : a < 2000000000) (hb : b < 2000000000) : nI a = nI b ↔ a = b := nI_eq (lt31 ha) (lt31 hb)
theorem q_cl {a : Nat} (ha : a < 2000000000) : (nI a).toNatClampNeg = a := nI_clamp (lt31 ha)
theorem q_neg {a : Nat} (ha : a < 2000000000) : ¬ nI a < 0 := nI_pos (lt31 ha)
theorem q_in {a N : Nat} (ha : a < 2000000000) : inB (nI a) N ↔ a < N := by
  constructor
  · intro h
    have := inB_nat h
    rwa [q_cl ha] at this
  · intro h q
    rcases q with q | q
    · exact q_neg ha q
    · rw [q_cl ha] at q
      omega
theorem q_m1 {a : Nat} (ha : a < 2000000000) : ¬ nI a = -1 := by
  intro h
  exact q_neg ha (by rw [h]; decide)
theorem q_0le {a : Nat} (ha : a < 2000000000) : 0 ≤ nI a := nI_pos' (lt31 ha)
theorem q_inc (a : Nat) : nI a + 1 = nI (a + 1) := nI_1 a
theorem q_dec {a : Nat} (h : 1 ≤ a) : nI a - 1 = nI (a - 1) := (pk_sub (b := 1) h)
theorem q_add (a b : Nat) : nI a + nI b = nI (a + b) := nI_add a b
theorem q_sub {a b : Nat} (h : b ≤ a) : nI a - nI b = nI (a - b) := pk_sub h
theorem q_mul (a b : Nat) : nI a * nI b = nI (a * b) := pk_mul a b
/-- states: what a setter leaves -/
theorem sI_1 (σ : SS) (k j : Nat) (v : Int32) : (sI σ k v).1 j = if j = k then v else σ.1 j := by
  show (bif Nat.beq j k then v else σ.1 j) = _
  by_cases h : j = k
  · subst h; simp
  · have : Nat.beq j k = false := by
      cases hb : Nat.beq j k with
      | false => rfl
      | true => exact absurd (Nat.eq_of_beq_eq_true hb) h
    simp [h, this]
theorem sI_2 (σ : SS) (k : Nat) (v : Int32) : (sI σ k v).2 = σ.2 := rfl
theorem sA_1 (σ : SS) (a j : Nat) (v : Int32) : (sA σ a j v).1 = σ.1 := rfl
theorem sA_2 (σ : SS) (a j b i : Nat) (v : Int32) : (sA σ a j v).2.1 b i = if b = a ∧ i = j then v else σ.2.1 b i := by
  show (bif Nat.beq b a then upd (σ.2.1 b) j v else σ.2.1 b) i = _
  by_cases h : b = a
  · subst h
    by_cases hi : i = j
    · subst hi; simp [upd]
    · simp [upd, hi]
  · have : Nat.beq b a = false := by
      cases hb : Nat.beq b a with
      | false => rfl
      | true => exact absurd (Nat.eq_of_beq_eq_true hb) h
    simp [h, this]
theorem sA_3 (σ : SS) (a j : Nat) (v : Int32) : (sA σ a j v).2.2 = σ.2.2 := rfl
theorem sL_1 (σ : SS) (a j : Nat) (v : Int64) : (sL σ a j v).1 = σ.1 := rfl
theorem sL_2 (σ : SS) (a j : Nat) (v : Int64) : (sL σ a j v).2.1 = σ.2.1 := rfl
theorem sL_3 (σ : SS) (a j b i : Nat) (v : Int64) : (sL σ a j v).2.2 b i = if b = a ∧ i = j then v else σ.2.2 b i := by
  show (bif Nat.beq b a then vp_updL (σ.2.2 b) j v else σ.2.2 b) i = _
  by_cases h : b = a
  · subst h
    by_cases hi : i = j
    · subst hi; simp [vp_updL]
    · simp [vp_updL, hi]
  · have : Nat.beq b a = false := by
      cases hb : Nat.beq b a with
      | false => rfl
      | true => exact absurd (Nat.eq_of_beq_eq_true hb) h
    simp [h, this]
theorem vz0 : vp_nar .boolean 0 = 0 := by decide
theorem vz1 : vp_nar .boolean 1 = 1 := by decide
/-- a loop that goes through N states and ends -/
theorem up_loop {X β : Type} {body : (SS → X → Option β) → SS → X → Option β} (N : Nat) (st : Nat → SS) (x : Nat → X) (r : Option β) (hs : ∀ (i : Nat) (k : SS → X → Option β), i < N → body k (st i) (x i) = k (st (i + 1)) (x (i + 1))) (he : ∀ k : SS → X → Option β, body k (st N) (x N) = r) : ∀ fuel : Nat, N < fuel → loopN body fuel (st 0) (x 0) = r := by
  have key : ∀ (m i fuel : Nat), i + m = N → m < fuel → loopN body fuel (st i) (x i) = r := by
    intro m
    induction m with
    | zero =>
      intro i fuel hi hf
      obtain ⟨f, rfl⟩ : ∃ f, fuel = f + 1 := ⟨fuel - 1, by omega⟩
      have : i = N := by omega
      subst this
      exact he _
    | succ m ih =>
      intro i fuel hi hf
      obtain ⟨f, rfl⟩ : ∃ f, fuel = f + 1 := ⟨fuel - 1, by omega⟩
      show body (loopN body f) (st i) (x i) = r
      rw [hs i _ (by omega)]
      exact ih (i + 1) f (by omega) (by omega)
  exact fun fuel hf => key N 0 fuel (by omega) hf
/-- the custom in force among the first k -/
def forceS (cy : Nat → Nat) (y : Int32) : Nat → Int32
  | 0 => -1
  | k + 1 => if nI (cy k) ≤ y ∧ (forceS cy y k = -1 ∨ cy (forceS cy y k).toNatClampNeg ≤ cy k) then nI k else forceS cy y k
theorem forceS_s (cy : Nat → Nat) (y : Int32) (k : Nat) : forceS cy y (k + 1) = if nI (cy k) ≤ y ∧ (forceS cy y k = -1 ∨ cy (forceS cy y k).toNatClampNeg ≤ cy k) then nI k else forceS cy y k := rfl
theorem forceS_cases (cy : Nat → Nat) (y : Int32) (k : Nat) : forceS cy y k = -1 ∨ ∃ j, j < k ∧ forceS cy y k = nI j := by
  induction k with
  | zero => exact Or.inl rfl
  | succ k ih =>
    unfold forceS
    split
    · exact Or.inr ⟨k, by omega, rfl⟩
    · rcases ih with h | ⟨j, hj, h⟩
      · exact Or.inl h
      · exact Or.inr ⟨j, by omega, h⟩
theorem X_inForce {σ : SS} {fu c : Nat} {cy : Nat → Nat} {y : Int32} (hfu : 1000 ≤ fu) (hc : c ≤ 20) (h13 : σ.1 13 = nI c) (hy : ∀ i, i < c → σ.2.1 12 i = nI (cy i)) (hb : ∀ i, i < c → cy i ≤ 1000) : f_X2_inForce fu σ y = some (forceS cy y c) := by
  unfold f_X2_inForce f_X2_inForce_L4
  refine up_loop (X := Int32 × Int32 × Int32) c (fun _ => σ) (fun i => (y, forceS cy y i, nI i)) _ (fun i k hi => ?_) (fun k => ?_) fu (by omega)
  · have hbi := hb i hi
    simp (disch := omega) only [f_X2_inForce_4, f_X2_inForce_42, f_X2_inForce_44, h13, q_le, q_in, q_cl, hy i hi, q_inc]
    rw [if_neg (by omega), if_pos (by omega), forceS_s]
    rcases forceS_cases cy y i with h | ⟨j, hj, h⟩
    · by_cases h1 : y < nI (cy i)
      · rw [if_pos h1, if_neg (fun q => absurd h1 (Int32.not_lt.mpr q.1))]
      · rw [h, if_neg h1, if_pos rfl, if_pos ⟨Int32.not_lt.mp h1, Or.inl rfl⟩]
    · have hj2 : j < c := by omega
      have hbj := hb j hj2
      by_cases h1 : y < nI (cy i)
      · rw [if_pos h1, if_neg (fun q => absurd h1 (Int32.not_lt.mpr q.1))]
      · rw [h, if_neg h1]
        simp (disch := omega) only [q_m1, q_in, q_cl, hy j hj2, q_lt, if_false, false_or]
        rw [if_pos (show j < 20 by omega)]
        by_cases h2 : cy i < cy j
        · rw [if_pos h2, if_neg (fun q => by have := q.2; omega)]
        · rw [if_neg h2, if_pos ⟨Int32.not_lt.mp h1, by omega⟩]
  · simp (disch := omega) only [f_X2_inForce_4, h13, q_le]
    rw [if_pos (Nat.le_refl _)]
