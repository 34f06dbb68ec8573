/-! bits -/
theorem bs_l : ∀ n, n < 32 → ((nI n &&& 31).toBitVec.smod 32).toNat = n := by decide +kernel
theorem bs_or (a b : Nat) : nI a ||| nI b = nI (a ||| b) := by
  apply Int32.toBitVec_inj.1
  show BitVec.ofNat 32 a ||| BitVec.ofNat 32 b = BitVec.ofNat 32 (a ||| b)
  apply BitVec.eq_of_getLsbD_eq
  intro i hi
  simp [hi]
theorem bs_and (a b : Nat) : nI a &&& nI b = nI (a &&& b) := by
  apply Int32.toBitVec_inj.1
  show BitVec.ofNat 32 a &&& BitVec.ofNat 32 b = BitVec.ofNat 32 (a &&& b)
  apply BitVec.eq_of_getLsbD_eq
  intro i hi
  simp [hi]
theorem bs_pow : ∀ n, n < 13 → ((1 : Int32) <<< (nI n &&& 31)) - 1 = nI (2 ^ n - 1) ∧ 2 ^ n ≤ 4096 := by decide +kernel
theorem bs_neg {x y : Int32} (h : x < 0 ∨ y < 0) : x ||| y < 0 := by
  have e : ∀ z : Int32, z < 0 ↔ z.toBitVec.msb = true := by
    intro z
    rw [BitVec.msb_eq_toInt, Int32.lt_iff_toInt_lt, decide_eq_true_iff]
    exact Iff.rfl
  rw [e] at h ⊢
  rw [e] at h
  rw [Int32.toBitVec_or, BitVec.msb_or]
  rcases h with h | h
  · rw [h]; rfl
  · rw [h]; simp
theorem bs_sneg {x : Int32} {n : Nat} (hn : n < 32) (h : x < 0) : ¬ x >>> (nI n &&& 31) = 0 := by
  intro e
  have h1 := pk_shr x (nI n &&& 31) n (bs_l n hn)
  rw [e, Int32.toInt_zero] at h1
  have h2 : x.toInt < 0 := by
    have := Int32.lt_iff_toInt_lt.mp h
    rwa [Int32.toInt_zero] at this
  rw [Int.shiftRight_eq_div_pow] at h1
  have h3 : x.toInt / ((2 ^ n : Nat) : Int) < 0 := Int.ediv_neg_of_neg_of_pos h2 (by exact_mod_cast Nat.two_pow_pos n)
  omega
theorem bits_ok {n : Nat} (hn : n ≤ 12) (x y : Int32) : ((x ||| y) >>> (nI n &&& 31) = 0 ∧ ∃ g w, g < 2 ^ n ∧ w < 2 ^ n ∧ x = nI g ∧ y = nI w) ∨ (¬ (x ||| y) >>> (nI n &&& 31) = 0 ∧ (x < 0 ∨ y < 0 ∨ nI (2 ^ n - 1) < x ∨ nI (2 ^ n - 1) < y)) := by
  have hp := (bs_pow n (by omega)).2
  have hp1 := Nat.two_pow_pos n
  by_cases h1 : x < 0
  · exact Or.inr ⟨bs_sneg (by omega) (bs_neg (Or.inl h1)), Or.inl h1⟩
  by_cases h2 : y < 0
  · exact Or.inr ⟨bs_sneg (by omega) (bs_neg (Or.inr h2)), Or.inr (Or.inl h2)⟩
  obtain ⟨g, hg, rfl⟩ := nI_of h1
  obtain ⟨w, hw, rfl⟩ := nI_of h2
  have hgw : g ||| w < 2 ^ 31 := Nat.or_lt_two_pow hg hw
  have e : (nI g ||| nI w) >>> (nI n &&& 31) = nI ((g ||| w) / 2 ^ n) := by
    rw [bs_or, pk_shrN hgw _ n (bs_l n (by omega))]
  have hdl : (g ||| w) / 2 ^ n ≤ g ||| w := Nat.div_le_self _ _
  have ez : nI ((g ||| w) / 2 ^ n) = 0 ↔ (g ||| w) / 2 ^ n = 0 := nI_eq (b := 0) (by omega) (by omega)
  rw [e, ez]
  by_cases q : (g ||| w) < 2 ^ n
  · have l1 : g ≤ g ||| w := Nat.left_le_or
    have l2 : w ≤ g ||| w := Nat.right_le_or
    exact Or.inl ⟨Nat.div_eq_of_lt q, g, w, by omega, by omega, rfl, rfl⟩
  · refine Or.inr ⟨fun z => q ((Nat.div_eq_zero_iff_lt hp1).mp z), Or.inr (Or.inr ?_)⟩
    by_cases q1 : g < 2 ^ n
    · by_cases q2 : w < 2 ^ n
      · exact absurd (Nat.or_lt_two_pow q1 q2) q
      · exact Or.inr ((nI_ltI (by omega) (by omega)).mpr (by omega))
    · exact Or.inl ((nI_ltI (by omega) (by omega)).mpr (by omega))
theorem isin_e {m c : Nat} (hm : m < 4096) (hc : c < 12) : (((nI m >>> (nI c &&& 31)) &&& (1 : Int32)) = (1 : Int32)) ↔ m.testBit c = true := by
  have h1 : m / 2 ^ c ≤ m := Nat.div_le_self _ _
  rw [pk_shrN (by omega) _ c (bs_l c (by omega)), pk_andN (by omega) 1 (by decide), Nat.testBit_eq_decide_div_mod_eq, decide_eq_true_iff]
  exact nI_eq (b := 1) (by omega) (by omega)
theorem X_isIn {fu m c : Nat} {σ : SS} (hm : m < 4096) (hc : c < 12) : f_X7_isIn fu σ (nI m) (nI c) = some (if m.testBit c = true then 1 else 0) := by
  unfold f_X7_isIn
  by_cases h : m.testBit c = true
  · rw [if_pos ((isin_e hm hc).mpr h), if_pos h]
  · rw [if_neg (fun z => h ((isin_e hm hc).mp z)), if_neg h]
theorem M_isIn {fu m c : Nat} {σ : SS} (hm : m < 4096) (hc : c < 12) : f_X8_isIn fu σ (nI m) (nI c) = some (if m.testBit c = true then 1 else 0) := X_isIn (fu := fu) (σ := σ) hm hc
def popS (g : Nat) : Nat → Nat
  | 0 => 0
  | k + 1 => popS g k + (if g.testBit k = true then 1 else 0)
def bitX (x : Int32) : Int32 := (f_J6_bitCount_0f7a4 0 (fun _ => 0, fun _ _ => 0, fun _ _ => 0) x).getD 0
theorem bit_all : ∀ h, h < 64 → ∀ l, l < 64 → bitX (nI (64 * h + l)) = nI (popS (64 * h + l) 12) := by decide +kernel
theorem popS_lt {g n : Nat} (hg : g < 2 ^ n) : ∀ m, popS g (n + m) = popS g n := by
  intro m
  induction m with
  | zero => rfl
  | succ m ih =>
    show popS g (n + m) + (if g.testBit (n + m) = true then 1 else 0) = popS g n
    have : g.testBit (n + m) = false := Nat.testBit_lt_two_pow (Nat.lt_of_lt_of_le hg (Nat.pow_le_pow_right (by omega) (by omega)))
    rw [ih, this]
    rfl
theorem popS_le (g k : Nat) : popS g k ≤ k := by
  induction k with
  | zero => exact Nat.le_refl _
  | succ k ih =>
    show popS g k + (if g.testBit k = true then 1 else 0) ≤ k + 1
    split <;> omega
theorem X_bits {fu g n : Nat} {σ : SS} (hn : n ≤ 12) (hg : g < 2 ^ n) : f_J6_bitCount_0f7a4 fu σ (nI g) = some (nI (popS g n)) := by
  have hp := (bs_pow n (by omega)).2
  have e : f_J6_bitCount_0f7a4 fu σ (nI g) = some (bitX (nI g)) := rfl
  have e2 := bit_all (g / 64) (by omega) (g % 64) (by omega)
  rw [show 64 * (g / 64) + g % 64 = g by omega] at e2
  have e3 := popS_lt hg (12 - n)
  rw [show n + (12 - n) = 12 by omega] at e3
  rw [e, e2, e3]
