/-! gather: the search as a picture. B.1 0 how many are queued; B.2: 0 found, 1 next, 2 queue, 3 level -/
def mkB (B : AS) (k u : Nat) : AS := aI (aA (aA (aA (aA B 0 k 1) 1 k u) 2 (B.1 0) k) 3 k (B.2 3 u + 1)) 0 (B.1 0 + 1)
theorem mkB_n (B : AS) (k u : Nat) : (mkB B k u).1 0 = B.1 0 + 1 := rfl
theorem mkB_0 (B : AS) (k u v : Nat) : (mkB B k u).2 0 v = if v = k then 1 else B.2 0 v := by simp [mkB, aI_2, aA_2]
theorem mkB_1 (B : AS) (k u v : Nat) : (mkB B k u).2 1 v = if v = k then u else B.2 1 v := by simp [mkB, aI_2, aA_2]
theorem mkB_2 (B : AS) (k u v : Nat) : (mkB B k u).2 2 v = if v = B.1 0 then k else B.2 2 v := by simp [mkB, aI_2, aA_2]
theorem mkB_3 (B : AS) (k u v : Nat) : (mkB B k u).2 3 v = if v = k then B.2 3 u + 1 else B.2 3 v := by simp [mkB, aI_2, aA_2]
def bfI (cp : Nat → Nat → Nat) (u : Nat) : Nat → AS → AS
  | 0, B => B
  | k + 1, B => if (bfI cp u k B).2 0 k = 0 ∧ cp k u ≠ 0 then mkB (bfI cp u k B) k u else bfI cp u k B
theorem bfI_s (cp : Nat → Nat → Nat) (u k : Nat) (B : AS) : bfI cp u (k + 1) B = if (bfI cp u k B).2 0 k = 0 ∧ cp k u ≠ 0 then mkB (bfI cp u k B) k u else bfI cp u k B := rfl
def B0 (c : Nat) : AS := (fun _ => 1, fun r v => if r = 0 then (if v = c then 1 else 0) else if r = 2 then c else 0)
def bfO (cp : Nat → Nat → Nat) (c : Nat) : Nat → AS
  | 0 => B0 c
  | i + 1 => if i < (bfO cp c i).1 0 then bfI cp ((bfO cp c i).2 2 i) 12 (bfO cp c i) else bfO cp c i
theorem bfO_s (cp : Nat → Nat → Nat) (c i : Nat) : bfO cp c (i + 1) = if i < (bfO cp c i).1 0 then bfI cp ((bfO cp c i).2 2 i) 12 (bfO cp c i) else bfO cp c i := rfl
def BJ (cp : Nat → Nat → Nat) (n c : Nat) (B : AS) : Prop :=
  1 ≤ B.1 0 ∧ B.1 0 = sumTo (B.2 0) 12 ∧ (∀ v, B.2 0 v ≤ 1) ∧ B.2 2 0 = c ∧ B.2 0 c = 1 ∧ B.2 3 c = 0 ∧
  (∀ j, j < B.1 0 → B.2 2 j < n ∧ B.2 0 (B.2 2 j) = 1 ∧ B.2 3 (B.2 2 j) ≤ j) ∧
  (∀ v, B.2 0 v ≠ 0 → ∃ j, j < B.1 0 ∧ B.2 2 j = v) ∧
  (∀ v, B.2 0 v ≠ 0 → v ≠ c → B.2 1 v < n ∧ B.2 0 (B.2 1 v) = 1 ∧ B.2 3 v = B.2 3 (B.2 1 v) + 1 ∧ cp v (B.2 1 v) ≠ 0) ∧
  (∀ j j', j ≤ j' → j' < B.1 0 → B.2 3 (B.2 2 j) ≤ B.2 3 (B.2 2 j'))
def BC (B : AS) (i : Nat) : Prop := ∀ j, j < B.1 0 → B.2 3 (B.2 2 j) ≤ B.2 3 (B.2 2 i) + 1
def BP (cp : Nat → Nat → Nat) (B : AS) (i : Nat) : Prop := ∀ p, p < i → p < B.1 0 → ∀ v, cp v (B.2 2 p) ≠ 0 → B.2 0 v ≠ 0 ∧ B.2 3 v ≤ B.2 3 (B.2 2 p) + 1
def SB (B B' : AS) : Prop := B.1 0 ≤ B'.1 0 ∧ (∀ j, j < B.1 0 → B'.2 2 j = B.2 2 j) ∧ ∀ v, B.2 0 v ≠ 0 → B'.2 0 v ≠ 0 ∧ B'.2 1 v = B.2 1 v ∧ B'.2 3 v = B.2 3 v
theorem SB_rf (B : AS) : SB B B := ⟨Nat.le_refl _, fun _ _ => rfl, fun _ h => ⟨h, rfl, rfl⟩⟩
theorem SB_tr {A B C : AS} (h : SB A B) (g : SB B C) : SB A C := by
  refine ⟨Nat.le_trans h.1 g.1, fun j hj => (g.2.1 j (Nat.lt_of_lt_of_le hj h.1)).trans (h.2.1 j hj), fun v hv => ?_⟩
  obtain ⟨h1, h2, h3⟩ := h.2.2 v hv
  obtain ⟨g1, g2, g3⟩ := g.2.2 v h1
  exact ⟨g1, g2.trans h2, g3.trans h3⟩
theorem mark_ok {cp : Nat → Nat → Nat} {n c i k : Nat} {B : AS} (hn : n ≤ 12) (hJ : BJ cp n c B) (hC : BC B i) (hP : BP cp B i) (hi : i < B.1 0) (hk : k < n) (hf : B.2 0 k = 0) (he : cp k (B.2 2 i) ≠ 0) : BJ cp n c (mkB B k (B.2 2 i)) ∧ BC (mkB B k (B.2 2 i)) i ∧ BP cp (mkB B k (B.2 2 i)) i ∧ SB B (mkB B k (B.2 2 i)) ∧ (mkB B k (B.2 2 i)).2 0 k ≠ 0 ∧ (mkB B k (B.2 2 i)).2 3 k ≤ (mkB B k (B.2 2 i)).2 3 (B.2 2 i) + 1 := by
  obtain ⟨j1, j2, j3, j4, j5, j6, j7, j8, j9, j10⟩ := hJ
  obtain ⟨u1, u2, u3⟩ := j7 i hi
  have huk : B.2 2 i ≠ k := fun z => by rw [z, hf] at u2; omega
  have hck : c ≠ k := fun z => by rw [z, hf] at j5; omega
  have q2 : ∀ j, j < B.1 0 → B.2 2 j ≠ k := fun j hj z => by have := (j7 j hj).2.1; rw [z, hf] at this; omega
  have e2 : ∀ j, j < B.1 0 → (mkB B k (B.2 2 i)).2 2 j = B.2 2 j := fun j hj => by rw [mkB_2, if_neg (by omega)]
  have e3 : ∀ v, v ≠ k → (mkB B k (B.2 2 i)).2 3 v = B.2 3 v := fun v hv => by rw [mkB_3, if_neg hv]
  have e0 : ∀ v, v ≠ k → (mkB B k (B.2 2 i)).2 0 v = B.2 0 v := fun v hv => by rw [mkB_0, if_neg hv]
  have e1 : ∀ v, v ≠ k → (mkB B k (B.2 2 i)).2 1 v = B.2 1 v := fun v hv => by rw [mkB_1, if_neg hv]
  have e2q : (mkB B k (B.2 2 i)).2 2 (B.1 0) = k := by rw [mkB_2, if_pos rfl]
  have e3k : (mkB B k (B.2 2 i)).2 3 k = B.2 3 (B.2 2 i) + 1 := by rw [mkB_3, if_pos rfl]
  have e0k : (mkB B k (B.2 2 i)).2 0 k = 1 := by rw [mkB_0, if_pos rfl]
  have e1k : (mkB B k (B.2 2 i)).2 1 k = B.2 2 i := by rw [mkB_1, if_pos rfl]
  refine ⟨⟨by rw [mkB_n]; omega, ?_, fun v => ?_, ?_, ?_, ?_, fun j hj => ?_, fun v hv => ?_, fun v hv hvc => ?_, fun j j' hjj hj' => ?_⟩, fun j hj => ?_, fun p hp hpq v hv => ?_, ⟨by rw [mkB_n]; omega, e2, fun v hv => ?_⟩, by rw [e0k]; omega, by rw [e3k, e3 _ huk]; omega⟩
  · rw [mkB_n]
    have h := sumTo_set (f := B.2 0) (n := 12) (j := k) (v := 1) (by omega)
    have h2 : sumTo ((mkB B k (B.2 2 i)).2 0) 12 = sumTo (fun v => if v = k then 1 else B.2 0 v) 12 := sumTo_congr (fun v _ => mkB_0 B k _ v)
    omega
  · by_cases e : v = k
    · rw [e, e0k]; omega
    · rw [e0 v e]; exact j3 v
  · rw [e2 0 (by omega)]; exact j4
  · rw [e0 c hck]; exact j5
  · rw [e3 c hck]; exact j6
  · rw [mkB_n] at hj
    by_cases e : j = B.1 0
    · rw [e, e2q, e0k, e3k]
      exact ⟨hk, rfl, by omega⟩
    · have hj2 : j < B.1 0 := by omega
      obtain ⟨a1, a2, a3⟩ := j7 j hj2
      rw [e2 j hj2, e0 _ (q2 j hj2), e3 _ (q2 j hj2)]
      exact ⟨a1, a2, a3⟩
  · by_cases e : v = k
    · exact ⟨B.1 0, by rw [mkB_n]; omega, by rw [e2q, e]⟩
    · rw [e0 v e] at hv
      obtain ⟨j, hj, hj2⟩ := j8 v hv
      exact ⟨j, by rw [mkB_n]; omega, by rw [e2 j hj]; exact hj2⟩
  · by_cases e : v = k
    · rw [e, e1k, e0 _ huk, e3k, e3 _ huk]
      exact ⟨u1, u2, rfl, he⟩
    · rw [e0 v e] at hv
      obtain ⟨a1, a2, a3, a4⟩ := j9 v hv hvc
      have hw : B.2 1 v ≠ k := fun z => by rw [z, hf] at a2; omega
      rw [e1 v e, e0 _ hw, e3 v e, e3 _ hw]
      exact ⟨a1, a2, a3, a4⟩
  · rw [mkB_n] at hj'
    by_cases e : j' = B.1 0
    · rw [e, e2q, e3k]
      by_cases e' : j = B.1 0
      · rw [e', e2q, e3k]; omega
      · have hj2 : j < B.1 0 := by omega
        rw [e2 j hj2, e3 _ (q2 j hj2)]
        exact hC j hj2
    · have hj2 : j' < B.1 0 := by omega
      have hj3 : j < B.1 0 := by omega
      rw [e2 j hj3, e2 j' hj2, e3 _ (q2 j hj3), e3 _ (q2 j' hj2)]
      exact j10 j j' hjj hj2
  · rw [mkB_n] at hj
    rw [e2 i hi, e3 _ huk]
    by_cases e : j = B.1 0
    · rw [e, e2q, e3k]; omega
    · have hj2 : j < B.1 0 := by omega
      rw [e2 j hj2, e3 _ (q2 j hj2)]
      exact hC j hj2
  · have hpq2 : p < B.1 0 := by omega
    rw [e2 p hpq2] at hv ⊢
    obtain ⟨a1, a2⟩ := hP p hp hpq2 v hv
    have hvk : v ≠ k := fun z => by rw [z] at a1; exact a1 hf
    rw [e0 v hvk, e3 v hvk, e3 _ (q2 p hpq2)]
    exact ⟨a1, a2⟩
  · have hvk : v ≠ k := fun z => by rw [z] at hv; exact hv hf
    rw [e0 v hvk, e1 v hvk, e3 v hvk]
    exact ⟨hv, rfl, rfl⟩
theorem bfI_ok {cp : Nat → Nat → Nat} {n c i : Nat} {B : AS} (hn : n ≤ 12) (hz : ∀ v u, n ≤ v ∨ n ≤ u → cp v u = 0) (hJ : BJ cp n c B) (hC : BC B i) (hP : BP cp B i) (hi : i < B.1 0) : ∀ k, k ≤ 12 → BJ cp n c (bfI cp (B.2 2 i) k B) ∧ BC (bfI cp (B.2 2 i) k B) i ∧ BP cp (bfI cp (B.2 2 i) k B) i ∧ SB B (bfI cp (B.2 2 i) k B) ∧ ∀ v, v < k → cp v (B.2 2 i) ≠ 0 → (bfI cp (B.2 2 i) k B).2 0 v ≠ 0 ∧ (bfI cp (B.2 2 i) k B).2 3 v ≤ (bfI cp (B.2 2 i) k B).2 3 (B.2 2 i) + 1 := by
  intro k
  induction k with
  | zero =>
    intro _
    exact ⟨hJ, hC, hP, SB_rf B, fun v hv => absurd hv (by omega)⟩
  | succ k ih =>
    intro hk
    obtain ⟨a1, a2, a3, a4, a5⟩ := ih (by omega)
    have eu : (bfI cp (B.2 2 i) k B).2 2 i = B.2 2 i := a4.2.1 i hi
    have hi' : i < (bfI cp (B.2 2 i) k B).1 0 := Nat.lt_of_lt_of_le hi a4.1
    rw [bfI_s]
    by_cases c1 : (bfI cp (B.2 2 i) k B).2 0 k = 0 ∧ cp k (B.2 2 i) ≠ 0
    · rw [if_pos c1]
      have hkn : k < n := by
        by_cases z : n ≤ k
        · exact absurd (hz k _ (Or.inl z)) c1.2
        · omega
      obtain ⟨b1, b2, b3, b4, b5, b6⟩ := mark_ok hn a1 a2 a3 hi' hkn c1.1 (by rw [eu]; exact c1.2)
      rw [eu] at b1 b2 b3 b4 b5 b6
      refine ⟨b1, b2, b3, SB_tr a4 b4, fun v hv hcv => ?_⟩
      by_cases e : v = k
      · rw [e]; exact ⟨b5, b6⟩
      · obtain ⟨f1, f2⟩ := a5 v (by omega) hcv
        obtain ⟨s1, s2, s3⟩ := b4.2.2 v f1
        have hu : (bfI cp (B.2 2 i) k B).2 0 (B.2 2 i) ≠ 0 := by
          have := (a1.2.2.2.2.2.2.1 i hi').2.1
          rw [eu] at this
          omega
        obtain ⟨t1, t2, t3⟩ := b4.2.2 _ hu
        exact ⟨s1, by rw [s3, t3]; exact f2⟩
    · rw [if_neg c1]
      refine ⟨a1, a2, a3, a4, fun v hv hcv => ?_⟩
      by_cases e : v = k
      · subst e
        have hf : (bfI cp (B.2 2 i) v B).2 0 v ≠ 0 := fun z => c1 ⟨z, hcv⟩
        obtain ⟨j, hj, hj2⟩ := a1.2.2.2.2.2.2.2.1 v hf
        refine ⟨hf, ?_⟩
        have := a2 j hj
        rw [hj2, eu] at this
        exact this
      · exact a5 v (by omega) hcv
theorem sumTo_le {f g : Nat → Nat} {n : Nat} (h : ∀ i, i < n → f i ≤ g i) : sumTo f n ≤ sumTo g n := by
  induction n with
  | zero => exact Nat.le_refl _
  | succ n ih =>
    have h1 := ih (fun i hi => h i (by omega))
    have h2 := h n (by omega)
    show sumTo f n + f n ≤ sumTo g n + g n
    omega
theorem sumTo_lt {f g : Nat → Nat} {n j : Nat} (h : ∀ i, i < n → f i ≤ g i) (hj : j < n) (hl : f j < g j) : sumTo f n < sumTo g n := by
  induction n with
  | zero => omega
  | succ n ih =>
    show sumTo f n + f n < sumTo g n + g n
    by_cases e : j = n
    · subst e
      have h1 := sumTo_le (n := j) (fun i hi => h i (by omega))
      omega
    · have h1 := ih (fun i hi => h i (by omega)) (by omega)
      have h2 := h n (by omega)
      omega
theorem sumTo_const (k n : Nat) : sumTo (fun _ => k) n = k * n := by
  induction n with
  | zero => rfl
  | succ n ih =>
    show sumTo (fun _ => k) n + k = k * (n + 1)
    rw [ih, Nat.mul_succ]
theorem bfO_ok {cp : Nat → Nat → Nat} {n c : Nat} (hn : n ≤ 12) (hc : c < n) (hz : ∀ v u, n ≤ v ∨ n ≤ u → cp v u = 0) : ∀ i, BJ cp n c (bfO cp c i) ∧ BP cp (bfO cp c i) i ∧ (i < (bfO cp c i).1 0 → BC (bfO cp c i) i) := by
  intro i
  induction i with
  | zero =>
    have e1 : (B0 c).2 0 c = 1 := by simp [B0]
    have e2 : (B0 c).2 2 0 = c := rfl
    have e3 : ∀ v, (B0 c).2 3 v = 0 := fun v => rfl
    have e0 : ∀ v, (B0 c).2 0 v = if v = c then 1 else 0 := fun v => rfl
    refine ⟨⟨Nat.le_refl _, ?_, fun v => by show (if v = c then 1 else 0) ≤ 1; split <;> omega, e2, e1, rfl, fun j hj => ?_, fun v hv => ?_, fun v hv hvc => ?_, fun j j' _ _ => ?_⟩, fun p hp => absurd hp (by omega), fun _ j _ => ?_⟩
    · have h : sumTo (fun i => if i = c then 1 else 0) 12 + 0 = sumTo (fun _ => 0) 12 + 1 := sumTo_set (f := fun _ => 0) (n := 12) (j := c) (v := 1) (by omega)
      have h2 : sumTo (fun _ => 0) 12 = 0 := rfl
      show 1 = sumTo (fun i => if i = c then 1 else 0) 12
      omega
    · have hj0 : j = 0 := by
        have : j < 1 := hj
        omega
      subst hj0
      exact ⟨hc, e1, Nat.le_refl _⟩
    · by_cases e : v = c
      · exact ⟨0, Nat.lt_succ_self _, by rw [e]; rfl⟩
      · exact absurd (by show (if v = c then 1 else 0) = 0; rw [if_neg e]) hv
    · exact absurd (by show (if v = c then 1 else 0) = 0; rw [if_neg hvc]) hv
    · exact Nat.le_refl _
    · exact Nat.zero_le _
  | succ i ih =>
    obtain ⟨hJ, hP, hC⟩ := ih
    rw [bfO_s]
    by_cases hi : i < (bfO cp c i).1 0
    · rw [if_pos hi]
      obtain ⟨a1, a2, a3, a4, a5⟩ := bfI_ok hn hz hJ (hC hi) hP hi 12 (Nat.le_refl _)
      have eu := a4.2.1 i hi
      refine ⟨a1, fun p hp hpq v hv => ?_, fun hi2 j hj => ?_⟩
      · by_cases e : p = i
        · subst e
          rw [eu] at hv ⊢
          have hv12 : v < 12 := by
            by_cases z : n ≤ v
            · exact absurd (hz v _ (Or.inl z)) hv
            · omega
          exact a5 v hv12 hv
        · exact a3 p (by omega) hpq v hv
      · have h1 := a2 j hj
        have h2 := a1.2.2.2.2.2.2.2.2.2 i (i + 1) (by omega) hi2
        omega
    · rw [if_neg hi]
      exact ⟨hJ, fun p hp hpq v hv => hP p (by omega) hpq v hv, fun hi2 => absurd hi2 (by omega)⟩
theorem bfO_SB {cp : Nat → Nat → Nat} {n c : Nat} (hn : n ≤ 12) (hc : c < n) (hz : ∀ v u, n ≤ v ∨ n ≤ u → cp v u = 0) (i : Nat) : ∀ m, SB (bfO cp c i) (bfO cp c (i + m)) := by
  intro m
  induction m with
  | zero => exact SB_rf _
  | succ m ih =>
    refine SB_tr ih ?_
    show SB _ (bfO cp c (i + m + 1))
    rw [bfO_s]
    obtain ⟨hJ, hP, hC⟩ := bfO_ok hn hc hz (i + m)
    by_cases hi : i + m < (bfO cp c (i + m)).1 0
    · rw [if_pos hi]
      exact (bfI_ok hn hz hJ (hC hi) hP hi 12 (Nat.le_refl _)).2.2.2.1
    · rw [if_neg hi]
      exact SB_rf _
theorem bfO_st {cp : Nat → Nat → Nat} {c i : Nat} (h : ¬ i < (bfO cp c i).1 0) : ∀ m, bfO cp c (i + m) = bfO cp c i := by
  intro m
  induction m with
  | zero => rfl
  | succ m ih =>
    show bfO cp c (i + m + 1) = _
    rw [bfO_s, ih, if_neg (by omega)]
theorem BJ_12 {cp : Nat → Nat → Nat} {n c : Nat} {B : AS} (hJ : BJ cp n c B) : B.1 0 ≤ 12 := by
  rw [hJ.2.1]
  have h := sumTo_le (f := B.2 0) (g := fun _ => 1) (n := 12) (fun i _ => hJ.2.2.1 i)
  rw [sumTo_const] at h
  omega
/-! distances -/
def dF (cp : Nat → Nat → Nat) (c v : Nat) : Nat := if (bfO cp c 12).2 0 v = 0 then 12 else (bfO cp c 12).2 3 v
theorem dF_ok {cp : Nat → Nat → Nat} {n c : Nat} (hn : n ≤ 12) (hc : c < n) (hz : ∀ v u, n ≤ v ∨ n ≤ u → cp v u = 0) : dF cp c c = 0 ∧ (∀ v u, cp v u ≠ 0 → dF cp c v ≤ dF cp c u + 1) ∧ (∀ v, v ≠ c → dF cp c v < 12 → dF cp c ((bfO cp c 12).2 1 v) + 1 = dF cp c v ∧ cp v ((bfO cp c 12).2 1 v) ≠ 0 ∧ (bfO cp c 12).2 1 v < n) ∧ (∀ v, dF cp c v ≤ 12) ∧ (∀ v, dF cp c v < 12 ↔ (bfO cp c 12).2 0 v ≠ 0) := by
  obtain ⟨hJ, hP, _⟩ := bfO_ok hn hc hz 12
  have hq := BJ_12 hJ
  obtain ⟨j1, j2, j3, j4, j5, j6, j7, j8, j9, j10⟩ := hJ
  have hlv : ∀ v, (bfO cp c 12).2 0 v ≠ 0 → (bfO cp c 12).2 3 v < 12 := by
    intro v hv
    obtain ⟨j, hj, hj2⟩ := j8 v hv
    have := (j7 j hj).2.2
    rw [hj2] at this
    omega
  have hle : ∀ v, dF cp c v ≤ 12 := by
    intro v
    unfold dF
    split
    · omega
    · rename_i h
      have := hlv v h
      omega
  have hf : ∀ v, (bfO cp c 12).2 0 v ≠ 0 → dF cp c v = (bfO cp c 12).2 3 v := fun v hv => if_neg hv
  have hiff : ∀ v, dF cp c v < 12 ↔ (bfO cp c 12).2 0 v ≠ 0 := by
    intro v
    constructor
    · intro h z
      have : dF cp c v = 12 := if_pos z
      omega
    · intro h
      rw [hf v h]
      exact hlv v h
  refine ⟨?_, fun v u he => ?_, fun v hv hd => ?_, hle, hiff⟩
  · rw [hf c (by omega), j6]
  · by_cases hu : (bfO cp c 12).2 0 u = 0
    · have e : dF cp c u = 12 := if_pos hu
      have := hle v
      omega
    · obtain ⟨p, hp, hp2⟩ := j8 u hu
      obtain ⟨f1, f2⟩ := hP p (by omega) hp v (by rw [hp2]; exact he)
      rw [hf v f1, hf u hu]
      rw [hp2] at f2
      exact f2
  · have hv1 := (hiff v).mp hd
    obtain ⟨a1, a2, a3, a4⟩ := j9 v hv1 hv
    rw [hf v hv1, hf _ (by omega), a3]
    exact ⟨rfl, a4, a1⟩
theorem dF_mono {cp cp' : Nat → Nat → Nat} {n c : Nat} (hn : n ≤ 12) (hc : c < n) (hz : ∀ v u, n ≤ v ∨ n ≤ u → cp v u = 0) (hz' : ∀ v u, n ≤ v ∨ n ≤ u → cp' v u = 0) (H : ∀ a b, cp' a b ≠ 0 → cp a b ≠ 0 ∨ dF cp c b = dF cp c a + 1) (v : Nat) : dF cp c v ≤ dF cp' c v := by
  obtain ⟨a1, a2, a3, a4, a5⟩ := dF_ok hn hc hz
  obtain ⟨b1, b2, b3, b4, b5⟩ := dF_ok hn hc hz'
  have key : ∀ k v, dF cp' c v = k → dF cp c v ≤ k := by
    intro k
    induction k with
    | zero =>
      intro v hv
      by_cases e : v = c
      · rw [e, a1]; exact Nat.le_refl _
      · have := (b3 v e (by omega)).1
        omega
    | succ k ih =>
      intro v hv
      by_cases h12 : 12 ≤ k + 1
      · have := a4 v
        omega
      · by_cases e : v = c
        · rw [e, a1]; omega
        · obtain ⟨d1, d2, d3⟩ := b3 v e (by omega)
          have h1 := ih ((bfO cp' c 12).2 1 v) (by omega)
          rcases H _ _ d2 with h | h
          · have := a2 _ _ h
            omega
          · omega
  exact key _ v rfl
/-! how far it is from the end -/
def ad (d : Nat → Nat) (cp : Nat → Nat → Nat) (u v : Nat) : Nat := if (cp u v ≠ 0 ∧ d u = d v + 1) ∨ (cp v u ≠ 0 ∧ d v = d u + 1) then 1 else 0
def adm (d : Nat → Nat) (cp : Nat → Nat → Nat) : Nat := sumTo (fun u => sumTo (fun v => ad d cp u v) u) 12
def giv (st : Nat → Nat) : Nat := sumTo (fun v => if st v = 0 then 0 else 1) 12
theorem ad_le (d : Nat → Nat) (cp : Nat → Nat → Nat) (u v : Nat) : ad d cp u v ≤ 1 := by unfold ad; split <;> omega
theorem adm_le (d : Nat → Nat) (cp : Nat → Nat → Nat) : adm d cp ≤ 66 := by
  have h : adm d cp ≤ sumTo (fun u => u) 12 := by
    refine sumTo_le (fun u _ => ?_)
    have h1 := sumTo_le (f := fun v => ad d cp u v) (g := fun _ => 1) (n := u) (fun v _ => ad_le d cp u v)
    rw [sumTo_const] at h1
    show sumTo (fun v => ad d cp u v) u ≤ u
    omega
  have e : sumTo (fun u => u) 12 = 66 := rfl
  omega
theorem giv_le (st : Nat → Nat) : giv st ≤ 12 := by
  have h := sumTo_le (f := fun v => if st v = 0 then 0 else 1) (g := fun _ => 1) (n := 12) (fun v _ => by show (if st v = 0 then 0 else 1) ≤ 1; split <;> omega)
  rw [sumTo_const] at h
  unfold giv
  omega
theorem sum_d {f : Nat → Nat} {c : Nat} (h0 : f c = 0) (h1 : ∀ v, v ≠ c → 1 ≤ f v) (h2 : ∀ v, f v ≤ 12) : ∀ k, k ≤ sumTo f k + 1 ∧ (c < k → sumTo f k + 12 ≤ 12 * k) ∧ sumTo f k ≤ 12 * k ∧ (k ≤ c → k ≤ sumTo f k) := by
  intro k
  induction k with
  | zero => exact ⟨by omega, fun h => absurd h (by omega), Nat.le_refl _, fun _ => Nat.zero_le _⟩
  | succ k ih =>
    obtain ⟨i1, i2, i3, i4⟩ := ih
    have e : sumTo f (k + 1) = sumTo f k + f k := rfl
    have hk := h2 k
    rw [e]
    by_cases q : k = c
    · subst q
      rw [h0]
      have := i4 (Nat.le_refl _)
      refine ⟨by omega, fun _ => by omega, by omega, fun h => absurd h (by omega)⟩
    · have := h1 k q
      refine ⟨by omega, fun h => ?_, by omega, fun h => ?_⟩
      · have := i2 (by omega)
        omega
      · have := i4 (by omega)
        omega
def Phi (cp : Nat → Nat → Nat) (st : Nat → Nat) (c : Nat) : Nat := 79 * (132 - sumTo (dF cp c) 12) + adm (dF cp c) cp + giv st
theorem dF_sum {cp : Nat → Nat → Nat} {n c : Nat} (hn : n ≤ 12) (hc : c < n) (hz : ∀ v u, n ≤ v ∨ n ≤ u → cp v u = 0) : 11 ≤ sumTo (dF cp c) 12 ∧ sumTo (dF cp c) 12 ≤ 132 := by
  obtain ⟨a1, a2, a3, a4, a5⟩ := dF_ok hn hc hz
  have h := sum_d a1 (fun v hv => by
    by_cases q : dF cp c v < 12
    · have := (a3 v hv q).1
      omega
    · omega) a4 12
  have := h.2.1 (by omega)
  omega
theorem Phi_le {cp : Nat → Nat → Nat} {n c : Nat} (hn : n ≤ 12) (hc : c < n) (hz : ∀ v u, n ≤ v ∨ n ≤ u → cp v u = 0) (st : Nat → Nat) : Phi cp st c ≤ 9637 := by
  have h1 := dF_sum hn hc hz
  have h2 := adm_le (dF cp c) cp
  have h3 := giv_le st
  unfold Phi
  omega
theorem Phi_lt {cp cp' : Nat → Nat → Nat} {st st' : Nat → Nat} {n c : Nat} (hn : n ≤ 12) (hc : c < n) (hz : ∀ v u, n ≤ v ∨ n ≤ u → cp v u = 0) (hz' : ∀ v u, n ≤ v ∨ n ≤ u → cp' v u = 0) (H : ∀ a b, cp' a b ≠ 0 → cp a b ≠ 0 ∨ dF cp c b = dF cp c a + 1) (hst : ∀ v, st' v ≠ 0 → st v ≠ 0) (pr : (∃ v, v < 12 ∧ st v ≠ 0 ∧ st' v = 0) ∨ ∃ a b, a < 12 ∧ b < 12 ∧ dF cp c a = dF cp c b + 1 ∧ cp a b ≠ 0 ∧ cp' a b = 0) : Phi cp' st' c < Phi cp st c := by
  have s1 := dF_sum hn hc hz
  have s2 := dF_sum hn hc hz'
  have l1 := adm_le (dF cp' c) cp'
  have l2 := giv_le st'
  have mono := fun v => dF_mono hn hc hz hz' H v
  have hle := sumTo_le (f := dF cp c) (g := dF cp' c) (n := 12) (fun i _ => mono i)
  unfold Phi
  by_cases q : sumTo (dF cp c) 12 = sumTo (dF cp' c) 12
  · have hd : ∀ v, v < 12 → dF cp' c v = dF cp c v := by
      intro v hv
      have := mono v
      by_cases e : dF cp c v < dF cp' c v
      · have := sumTo_lt (f := dF cp c) (g := dF cp' c) (n := 12) (fun i _ => mono i) hv e
        omega
      · omega
    have hadp : ∀ u, u < 12 → ∀ v, v < u → ad (dF cp' c) cp' u v ≤ ad (dF cp c) cp u v := by
      intro u hu v hv
      unfold ad
      rw [hd u hu, hd v (by omega)]
      by_cases c1 : (cp' u v ≠ 0 ∧ dF cp c u = dF cp c v + 1) ∨ (cp' v u ≠ 0 ∧ dF cp c v = dF cp c u + 1)
      · rw [if_pos c1, if_pos]
        · exact Nat.le_refl _
        · rcases c1 with ⟨x, y⟩ | ⟨x, y⟩
          · rcases H _ _ x with h | h
            · exact Or.inl ⟨h, y⟩
            · omega
          · rcases H _ _ x with h | h
            · exact Or.inr ⟨h, y⟩
            · omega
      · rw [if_neg c1]
        exact Nat.zero_le _
    have hade : ∀ u, u < 12 → sumTo (fun v => ad (dF cp' c) cp' u v) u ≤ sumTo (fun v => ad (dF cp c) cp u v) u := fun u hu => sumTo_le (fun v hv => hadp u hu v hv)
    have hadm : adm (dF cp' c) cp' ≤ adm (dF cp c) cp := sumTo_le hade
    have hgp : ∀ v, v < 12 → (if st' v = 0 then 0 else 1) ≤ (if st v = 0 then 0 else 1) := by
      intro v _
      by_cases e : st' v = 0
      · rw [if_pos e]; exact Nat.zero_le _
      · rw [if_neg e, if_neg (hst v e)]; exact Nat.le_refl _
    have hgiv : giv st' ≤ giv st := sumTo_le hgp
    rcases pr with ⟨v, hv, x1, x2⟩ | ⟨a, b, ha, hb, x1, x2, x3⟩
    · have : giv st' < giv st := sumTo_lt hgp hv (by rw [if_pos x2, if_neg x1]; omega)
      omega
    · have : adm (dF cp' c) cp' < adm (dF cp c) cp := by
        by_cases e : b < a
        · refine sumTo_lt hade ha (sumTo_lt (fun v hv => hadp a ha v hv) e ?_)
          unfold ad
          rw [hd a ha, hd b hb, if_neg, if_pos]
          · omega
          · exact Or.inl ⟨x2, x1⟩
          · rintro (⟨y, _⟩ | ⟨_, y⟩)
            · exact y x3
            · omega
        · have e2 : a < b := by
            by_cases z : a = b
            · rw [z] at x1; omega
            · omega
          refine sumTo_lt hade hb (sumTo_lt (fun v hv => hadp b hb v hv) e2 ?_)
          unfold ad
          rw [hd a ha, hd b hb, if_neg, if_pos]
          · omega
          · exact Or.inr ⟨x2, x1⟩
          · rintro (⟨_, y⟩ | ⟨y, _⟩)
            · omega
            · exact y x3
      omega
  · omega
/-! handing on along a path -/
def stp (nx : Nat → Nat) (m : Nat) (cp : Nat → Nat → Nat) (v : Nat) : Nat → Nat → Nat := fun a b => if a = v ∧ b = nx v then cp a b - m else if a = nx v ∧ b = v then cp a b + m else cp a b
def upP (nx : Nat → Nat) (m : Nat) : Nat → Nat → (Nat → Nat → Nat) → Nat → Nat → Nat
  | 0, _, cp => cp
  | L + 1, v, cp => upP nx m L (nx v) (stp nx m cp v)
def mnP (nx : Nat → Nat) (cp : Nat → Nat → Nat) : Nat → Nat → Nat → Nat
  | 0, _, m => m
  | L + 1, v, m => mnP nx cp L (nx v) (if cp v (nx v) < m then cp v (nx v) else m)
def alP (nx : Nat → Nat) (P : Nat → Prop) (cp : Nat → Nat → Nat) : Nat → Nat → Prop
  | 0, _ => True
  | L + 1, v => P (cp v (nx v)) ∧ alP nx P cp L (nx v)
def exP (nx : Nat → Nat) (m : Nat) (cp : Nat → Nat → Nat) : Nat → Nat → Prop
  | 0, _ => False
  | L + 1, v => cp v (nx v) = m ∨ exP nx m cp L (nx v)
theorem mnP_ok (nx : Nat → Nat) (cp : Nat → Nat → Nat) : ∀ L v m0, mnP nx cp L v m0 ≤ m0 ∧ alP nx (fun x => mnP nx cp L v m0 ≤ x) cp L v ∧ (mnP nx cp L v m0 = m0 ∨ exP nx (mnP nx cp L v m0) cp L v) := by
  intro L
  induction L with
  | zero => intro v m0; exact ⟨Nat.le_refl _, trivial, Or.inl rfl⟩
  | succ L ih =>
    intro v m0
    obtain ⟨h1, h2, h3⟩ := ih (nx v) (if cp v (nx v) < m0 then cp v (nx v) else m0)
    have e : mnP nx cp (L + 1) v m0 = mnP nx cp L (nx v) (if cp v (nx v) < m0 then cp v (nx v) else m0) := rfl
    rw [e]
    by_cases q : cp v (nx v) < m0
    · rw [if_pos q] at h1 h2 h3 ⊢
      refine ⟨by omega, ⟨h1, h2⟩, ?_⟩
      rcases h3 with h | h
      · exact Or.inr (Or.inl h.symm)
      · exact Or.inr (Or.inr h)
    · rw [if_neg q] at h1 h2 h3 ⊢
      refine ⟨h1, ⟨by omega, h2⟩, ?_⟩
      rcases h3 with h | h
      · exact Or.inl h
      · exact Or.inr (Or.inr h)
section
variable {nx d : Nat → Nat} {n c m : Nat}
theorem pth {L v : Nat} (hd0 : d c = 0) (hd : ∀ v, v ≠ c → d v < 12 → d (nx v) + 1 = d v ∧ nx v < n) (hv : d v = L + 1) (hL : L + 1 < 12) : v ≠ c ∧ d (nx v) = L ∧ nx v < n ∧ v ≠ nx v := by
  have h1 : v ≠ c := fun z => by rw [z, hd0] at hv; omega
  obtain ⟨h2, h3⟩ := hd v h1 (by omega)
  exact ⟨h1, by omega, h3, fun z => by rw [← z] at h2; omega⟩
theorem stp_i {cp : Nat → Nat → Nat} {v a b : Nat} (hv : d (nx v) + 1 = d v) (h : stp nx m cp v a b ≠ 0) : cp a b ≠ 0 ∨ d b = d a + 1 := by
  unfold stp at h
  by_cases q1 : a = v ∧ b = nx v
  · rw [if_pos q1] at h
    exact Or.inl (by omega)
  · rw [if_neg q1] at h
    by_cases q2 : a = nx v ∧ b = v
    · right
      rw [q2.1, q2.2]
      omega
    · rw [if_neg q2] at h
      exact Or.inl h
theorem up_i (hd0 : d c = 0) (hd : ∀ v, v ≠ c → d v < 12 → d (nx v) + 1 = d v ∧ nx v < n) : ∀ L v cp, d v = L → L < 12 → ∀ a b, upP nx m L v cp a b ≠ 0 → cp a b ≠ 0 ∨ d b = d a + 1 := by
  intro L
  induction L with
  | zero => intro v cp _ _ a b h; exact Or.inl h
  | succ L ih =>
    intro v cp hv hL a b h
    obtain ⟨p1, p2, p3, p4⟩ := pth hd0 hd hv hL
    rcases ih (nx v) (stp nx m cp v) p2 (by omega) a b h with h | h
    · exact stp_i (by omega) h
    · exact Or.inr h
theorem stp_far {cp : Nat → Nat → Nat} {v a b : Nat} (h : ¬ (a = v ∧ b = nx v)) (h2 : ¬ (a = nx v ∧ b = v)) : stp nx m cp v a b = cp a b := by
  unfold stp
  rw [if_neg h, if_neg h2]
theorem up_far (hd0 : d c = 0) (hd : ∀ v, v ≠ c → d v < 12 → d (nx v) + 1 = d v ∧ nx v < n) : ∀ L v cp, d v = L → L < 12 → ∀ a b, L < d a ∨ L < d b → upP nx m L v cp a b = cp a b := by
  intro L
  induction L with
  | zero => intro v cp _ _ a b _; rfl
  | succ L ih =>
    intro v cp hv hL a b h
    obtain ⟨p1, p2, p3, p4⟩ := pth hd0 hd hv hL
    have e := ih (nx v) (stp nx m cp v) p2 (by omega) a b (by omega)
    show upP nx m L (nx v) (stp nx m cp v) a b = cp a b
    rw [e]
    refine stp_far (fun z => ?_) (fun z => ?_)
    · rw [z.1, z.2] at h; omega
    · rw [z.1, z.2] at h; omega
theorem alP_congr (hd0 : d c = 0) (hd : ∀ v, v ≠ c → d v < 12 → d (nx v) + 1 = d v ∧ nx v < n) {P : Nat → Prop} {cp cp' : Nat → Nat → Nat} : ∀ L v, d v = L → L < 12 → (∀ a b, d a ≤ L → d b ≤ L → cp' a b = cp a b) → alP nx P cp L v → alP nx P cp' L v := by
  intro L
  induction L with
  | zero => intro v _ _ _ _; trivial
  | succ L ih =>
    intro v hv hL he h
    obtain ⟨p1, p2, p3, p4⟩ := pth hd0 hd hv hL
    refine ⟨?_, ih (nx v) p2 (by omega) (fun a b ha hb => he a b (by omega) (by omega)) h.2⟩
    rw [he v (nx v) (by omega) (by omega)]
    exact h.1
theorem exP_congr (hd0 : d c = 0) (hd : ∀ v, v ≠ c → d v < 12 → d (nx v) + 1 = d v ∧ nx v < n) {cp cp' : Nat → Nat → Nat} : ∀ L v, d v = L → L < 12 → (∀ a b, d a ≤ L → d b ≤ L → cp' a b = cp a b) → exP nx m cp L v → exP nx m cp' L v := by
  intro L
  induction L with
  | zero => intro v _ _ _ h; exact h
  | succ L ih =>
    intro v hv hL he h
    obtain ⟨p1, p2, p3, p4⟩ := pth hd0 hd hv hL
    rcases h with h | h
    · left
      rw [he v (nx v) (by omega) (by omega)]
      exact h
    · exact Or.inr (ih (nx v) p2 (by omega) (fun a b ha hb => he a b (by omega) (by omega)) h)
theorem stp_low {cp : Nat → Nat → Nat} {v L : Nat} (hv : d v = L + 1) : ∀ a b, d a ≤ L → d b ≤ L → stp nx m cp v a b = cp a b := fun a b ha hb => stp_far (fun z => by rw [z.1] at ha; omega) (fun z => by rw [z.2] at hb; omega)
theorem up_ii (hd0 : d c = 0) (hd : ∀ v, v ≠ c → d v < 12 → d (nx v) + 1 = d v ∧ nx v < n) (hn : n ≤ 12) : ∀ L v cp, d v = L → L < 12 → v < 12 → alP nx (fun x => x ≠ 0) cp L v → exP nx m cp L v → ∃ a b, a < 12 ∧ b < 12 ∧ d a = d b + 1 ∧ cp a b ≠ 0 ∧ upP nx m L v cp a b = 0 := by
  intro L
  induction L with
  | zero => intro v cp _ _ _ _ h; exact absurd h id
  | succ L ih =>
    intro v cp hv hL hv12 hN hE
    obtain ⟨p1, p2, p3, p4⟩ := pth hd0 hd hv hL
    rcases hE with hE | hE
    · refine ⟨v, nx v, hv12, by omega, by omega, hN.1, ?_⟩
      show upP nx m L (nx v) (stp nx m cp v) v (nx v) = 0
      rw [up_far hd0 hd L (nx v) _ p2 (by omega) v (nx v) (by omega)]
      unfold stp
      rw [if_pos ⟨rfl, rfl⟩, hE]
      omega
    · obtain ⟨a, b, x1, x2, x3, x4, x5⟩ := ih (nx v) (stp nx m cp v) p2 (by omega) (by omega) (alP_congr hd0 hd L (nx v) p2 (by omega) (stp_low hv) hN.2) (exP_congr hd0 hd L (nx v) p2 (by omega) (stp_low hv) hE)
      refine ⟨a, b, x1, x2, x3, ?_, x5⟩
      rcases stp_i (show d (nx v) + 1 = d v by omega) x4 with h | h
      · exact h
      · omega
theorem up_iii (hd0 : d c = 0) (hd : ∀ v, v ≠ c → d v < 12 → d (nx v) + 1 = d v ∧ nx v < n) : ∀ L v cp, d v = L → L < 12 → alP nx (fun x => m ≤ x) cp L v → ∀ a b, upP nx m L v cp a b + upP nx m L v cp b a = cp a b + cp b a := by
  intro L
  induction L with
  | zero => intro v cp _ _ _ a b; rfl
  | succ L ih =>
    intro v cp hv hL hA a b
    obtain ⟨p1, p2, p3, p4⟩ := pth hd0 hd hv hL
    have h := ih (nx v) (stp nx m cp v) p2 (by omega) (alP_congr hd0 hd L (nx v) p2 (by omega) (stp_low hv) hA.2) a b
    have hm : m ≤ cp v (nx v) := hA.1
    show upP nx m L (nx v) (stp nx m cp v) a b + upP nx m L (nx v) (stp nx m cp v) b a = cp a b + cp b a
    rw [h]
    unfold stp
    by_cases q1 : a = v ∧ b = nx v
    · have q3 : ¬ (b = v ∧ a = nx v) := fun z => p4 (z.1.symm.trans q1.2)
      have q4 : b = nx v ∧ a = v := ⟨q1.2, q1.1⟩
      rw [if_pos q1, if_neg q3, if_pos q4, q1.1, q1.2]
      omega
    · rw [if_neg q1]
      by_cases q2 : a = nx v ∧ b = v
      · have q3 : b = v ∧ a = nx v := ⟨q2.2, q2.1⟩
        rw [if_pos q2, if_pos q3, q2.1, q2.2]
        omega
      · have q3 : ¬ (b = v ∧ a = nx v) := fun z => q2 ⟨z.2, z.1⟩
        have q4 : ¬ (b = nx v ∧ a = v) := fun z => q1 ⟨z.2, z.1⟩
        rw [if_neg q2, if_neg q3, if_neg q4]
theorem up_iv (hd0 : d c = 0) (hd : ∀ v, v ≠ c → d v < 12 → d (nx v) + 1 = d v ∧ nx v < n) : ∀ L v cp, d v = L → L < 12 → v < n → (∀ a b, n ≤ a ∨ n ≤ b → cp a b = 0) → ∀ a b, n ≤ a ∨ n ≤ b → upP nx m L v cp a b = 0 := by
  intro L
  induction L with
  | zero => intro v cp _ _ _ h a b hab; exact h a b hab
  | succ L ih =>
    intro v cp hv hL hvn hz
    obtain ⟨p1, p2, p3, p4⟩ := pth hd0 hd hv hL
    refine ih (nx v) (stp nx m cp v) p2 (by omega) p3 (fun a b hab => ?_)
    rw [stp_far (fun z => by rw [z.1, z.2] at hab; omega) (fun z => by rw [z.1, z.2] at hab; omega)]
    exact hz a b hab
end
