/-! reading a text: u j is its byte j, as a number below 256 -/
def bX (b : Int32) (v : Nat) : Prop := (v < 128 ∧ b = nI v) ∨ (128 ≤ v ∧ v < 256 ∧ b < 0)
theorem byte_e : ∀ n, n < 256 → ((n < 128 ∧ (nI n).toInt8.toInt32 = nI n) ∨ (128 ≤ n ∧ (nI n).toInt8.toInt32 < 0)) := by decide +kernel
theorem byte_ok {b : Int32} (h : fits .byte (.int b) = true) : ∃ v, v < 256 ∧ bX b v ∧ b &&& 255 = nI v := by
  have h2 : (decide (-128 ≤ b) && decide (b ≤ 127)) = true := h
  rw [Bool.and_eq_true, decide_eq_true_iff, decide_eq_true_iff] at h2
  have h3 := Int32.le_iff_toInt_le.mp h2.1
  have h4 := Int32.le_iff_toInt_le.mp h2.2
  have e3 : (-128 : Int32).toInt = -128 := by decide
  have e4 : (127 : Int32).toInt = 127 := by decide
  have hb : b.toInt8.toInt32 = b := by
    apply Int32.toInt_inj.mp
    rw [Int8.toInt_toInt32, Int32.toInt_toInt8, Int.bmod_eq_of_le (by omega) (by omega)]
  obtain ⟨v, hv, e⟩ := pk_andE b (m := 255) 8 (by decide)
  have hv2 : v < 256 := hv
  have e2 := (sc_eq hb hv2).mpr e
  refine ⟨v, hv2, ?_, e⟩
  rcases byte_e v hv2 with ⟨h1, h2⟩ | ⟨h1, h2⟩
  · exact Or.inl ⟨h1, e2.trans h2⟩
  · exact Or.inr ⟨h1, hv2, by rw [e2]; exact h2⟩
theorem bX_eq {b : Int32} {v ch : Nat} (h : bX b v) (hc : ch < 128) : b = nI ch ↔ v = ch := by
  rcases h with ⟨h1, rfl⟩ | ⟨h1, h2, h3⟩
  · exact q_eq (by omega) (by omega)
  · constructor
    · intro e
      rw [e] at h3
      exact absurd h3 (q_neg (by omega))
    · intro e; omega
theorem bX_lt {b : Int32} {v ch : Nat} (h : bX b v) (hc : ch < 128) : b < nI ch ↔ v < ch ∨ 128 ≤ v := by
  rcases h with ⟨h1, rfl⟩ | ⟨h1, h2, h3⟩
  · rw [q_lt (by omega) (by omega)]
    omega
  · constructor
    · intro _; omega
    · intro _
      exact Int32.lt_of_lt_of_le h3 (q_0le (by omega))
theorem bX_gt {b : Int32} {v ch : Nat} (h : bX b v) (hc : ch < 128) : nI ch < b ↔ ch < v ∧ v < 128 := by
  rcases h with ⟨h1, rfl⟩ | ⟨h1, h2, h3⟩
  · rw [q_lt (by omega) (by omega)]
    omega
  · constructor
    · intro e
      exact absurd (Int32.lt_trans e h3) (q_neg (by omega))
    · intro _; omega
def isB (v : Nat) : Bool := decide (v = 32)
def isL (v : Nat) : Bool := decide (97 ≤ v ∧ v ≤ 122)
def isD (v : Nat) : Bool := decide (48 ≤ v ∧ v ≤ 57)
theorem isB_t (v : Nat) : isB v = true ↔ v = 32 := decide_eq_true_iff
theorem isL_t (v : Nat) : isL v = true ↔ (97 ≤ v ∧ v ≤ 122) := decide_eq_true_iff
theorem isD_t (v : Nat) : isD v = true ↔ (48 ≤ v ∧ v ≤ 57) := decide_eq_true_iff
def skp (P : Nat → Bool) (u : Nat → Nat) : Nat → Nat → Nat
  | 0, p => p
  | m + 1, p => if P (u p) = true then skp P u m (p + 1) else p
def sk (P : Nat → Bool) (u : Nat → Nat) (n p : Nat) : Nat := skp P u (n - p) p
theorem skp_ok (P : Nat → Bool) (u : Nat → Nat) : ∀ m p, p ≤ skp P u m p ∧ skp P u m p ≤ p + m ∧ (∀ j, p ≤ j → j < skp P u m p → P (u j) = true) ∧ (skp P u m p < p + m → ¬ P (u (skp P u m p)) = true) := by
  intro m
  induction m with
  | zero => intro p; exact ⟨Nat.le_refl _, Nat.le_refl _, fun j h1 h2 => absurd h2 (by show ¬ j < p; omega), fun h => absurd h (by show ¬ p < p + 0; omega)⟩
  | succ m ih =>
    intro p
    have e : skp P u (m + 1) p = if P (u p) = true then skp P u m (p + 1) else p := rfl
    rw [e]
    by_cases c : P (u p) = true
    · rw [if_pos c]
      obtain ⟨i1, i2, i3, i4⟩ := ih (p + 1)
      refine ⟨by omega, by omega, fun j h1 h2 => ?_, fun h => i4 (by omega)⟩
      by_cases ej : j = p
      · rw [ej]; exact c
      · exact i3 j (by omega) h2
    · rw [if_neg c]
      exact ⟨Nat.le_refl _, by omega, fun j h1 h2 => absurd h2 (by omega), fun _ => c⟩
theorem sk_ok {P : Nat → Bool} {u : Nat → Nat} {n p : Nat} (hp : p ≤ n) : p ≤ sk P u n p ∧ sk P u n p ≤ n ∧ (∀ j, p ≤ j → j < sk P u n p → P (u j) = true) ∧ (sk P u n p < n → ¬ P (u (sk P u n p)) = true) := by
  obtain ⟨h1, h2, h3, h4⟩ := skp_ok P u (n - p) p
  unfold sk
  exact ⟨h1, by omega, h3, fun h => h4 (by omega)⟩
def TX (n : Nat) (u : Nat → Nat) (σ : SS) (p : Nat) : Prop := σ.1 3 = nI n ∧ σ.1 4 = nI p ∧ p ≤ n ∧ n ≤ 200 ∧ ∀ j, j < n → bX (σ.2.1 11 j) (u j)
def TM (n : Nat) (u : Nat → Nat) (τ : SS) (p : Nat) : Prop := τ.1 8 = nI n ∧ τ.1 9 = nI p ∧ p ≤ n ∧ n ≤ 200 ∧ ∀ j, j < n → u j < 256 ∧ τ.2.1 6 j &&& 255 = nI (u j)
theorem sI_idem (σ : SS) (k : Nat) (v w : Int32) : sI (sI σ k v) k w = sI σ k w := by
  refine Prod.ext ?_ rfl
  funext j
  simp only [sI_1]
  split <;> rfl
theorem sI_self {σ : SS} {k : Nat} {v : Int32} (h : σ.1 k = v) : sI σ k v = σ := by
  refine Prod.ext ?_ rfl
  funext j
  simp only [sI_1]
  split
  · rename_i e
    rw [e, h]
  · rfl
theorem sI_ne {σ : SS} {k j : Nat} {v : Int32} (h : j ≠ k) : (sI σ k v).1 j = σ.1 j := by rw [sI_1, if_neg h]
theorem sI_eq {σ : SS} {k : Nat} {v : Int32} : (sI σ k v).1 k = v := by rw [sI_1, if_pos rfl]
section
variable {n : Nat} {u : Nat → Nat} {fu : Nat}
theorem TX_at {σ : SS} {p q : Nat} (h : TX n u σ p) (hq : q ≤ n) : TX n u (sI σ 4 (nI q)) q := ⟨h.1, rfl, hq, h.2.2.2⟩
theorem TX_I {σ : SS} {p k : Nat} {v : Int32} (h : TX n u σ p) (h3 : k ≠ 3) (h4 : k ≠ 4) : TX n u (sI σ k v) p := ⟨by rw [sI_ne (fun z => h3 z.symm)]; exact h.1, by rw [sI_ne (fun z => h4 z.symm)]; exact h.2.1, h.2.2⟩
theorem TM_at {τ : SS} {p q : Nat} (h : TM n u τ p) (hq : q ≤ n) : TM n u (sI τ 9 (nI q)) q := ⟨h.1, rfl, hq, h.2.2.2⟩
theorem TM_I {τ : SS} {p k : Nat} {v : Int32} (h : TM n u τ p) (h3 : k ≠ 8) (h4 : k ≠ 9) : TM n u (sI τ k v) p := ⟨by rw [sI_ne (fun z => h3 z.symm)]; exact h.1, by rw [sI_ne (fun z => h4 z.symm)]; exact h.2.1, h.2.2⟩
theorem TM_A {τ : SS} {p r j : Nat} {v : Int32} (h : TM n u τ p) (hr : r ≠ 6) : TM n u (sA τ r j v) p := by
  refine ⟨h.1, h.2.1, h.2.2.1, h.2.2.2.1, fun i hi => ?_⟩
  rw [sA_2, if_neg (fun z => hr z.1.symm)]
  exact h.2.2.2.2 i hi
theorem X_skB : ∀ (m p fuel : Nat) (σ : SS), TX n u σ p → p + m = n → m < fuel → loopN (fun k0 σ (_ : Unit) => f_X6_skipBlanks_0 fu k0 σ) fuel σ () = some ((), sI σ 4 (nI (skp isB u m p))) := by
  intro m
  induction m with
  | zero =>
    intro p fuel σ h hp hf
    obtain ⟨f, rfl⟩ : ∃ f, fuel = f + 1 := ⟨fuel - 1, by omega⟩
    have hn := h.2.2.2.1
    show f_X6_skipBlanks_0 fu _ σ = some ((), sI σ 4 (nI p))
    rw [f_X6_skipBlanks_0, h.1, h.2.1, if_pos ((q_le (by omega) (by omega)).mpr (by omega)), sI_self h.2.1]
  | succ m ih =>
    intro p fuel σ h hp hf
    obtain ⟨f, rfl⟩ : ∃ f, fuel = f + 1 := ⟨fuel - 1, by omega⟩
    have hn := h.2.2.2.1
    have hb := h.2.2.2.2 p (by omega)
    show f_X6_skipBlanks_0 fu (loopN _ f) σ = some ((), sI σ 4 (nI (if isB (u p) = true then skp isB u m (p + 1) else p)))
    rw [f_X6_skipBlanks_0, h.1, h.2.1, if_neg (fun z => by have := (q_le (by omega) (by omega)).mp z; omega), if_pos ((q_in (by omega)).mpr (by omega)), q_cl (by omega), q_inc]
    by_cases c : u p = 32
    · rw [if_pos (show σ.2.1 11 p = (32 : Int32) from (bX_eq hb (ch := 32) (by omega)).mpr c), if_pos ((isB_t _).mpr c)]
      have := ih (p + 1) f _ (TX_at h (q := p + 1) (by omega)) (by omega) (by omega)
      rw [sI_idem] at this
      exact this
    · rw [if_neg (show ¬ σ.2.1 11 p = (32 : Int32) from fun z => c ((bX_eq hb (ch := 32) (by omega)).mp z)), if_neg (fun z => c ((isB_t _).mp z)), sI_self h.2.1]
theorem X_blanks {σ : SS} {p : Nat} (hfu : 1000 ≤ fu) (h : TX n u σ p) : f_X6_skipBlanks fu σ = some ((), sI σ 4 (nI (sk isB u n p))) := by
  have h1 := h.2.2.1
  have h2 := h.2.2.2.1
  exact X_skB (n - p) p fu σ h (by omega) (by omega)
theorem X_skL : ∀ (m p fuel : Nat) (σ : SS), TX n u σ p → p + m = n → m < fuel → loopN (fun k0 σ (_ : Unit) => f_X6_skipLetters_0 fu k0 σ) fuel σ () = some ((), sI σ 4 (nI (skp isL u m p))) := by
  intro m
  induction m with
  | zero =>
    intro p fuel σ h hp hf
    obtain ⟨f, rfl⟩ : ∃ f, fuel = f + 1 := ⟨fuel - 1, by omega⟩
    have hn := h.2.2.2.1
    show f_X6_skipLetters_0 fu _ σ = some ((), sI σ 4 (nI p))
    rw [f_X6_skipLetters_0, h.1, h.2.1, if_pos ((q_le (by omega) (by omega)).mpr (by omega)), sI_self h.2.1]
  | succ m ih =>
    intro p fuel σ h hp hf
    obtain ⟨f, rfl⟩ : ∃ f, fuel = f + 1 := ⟨fuel - 1, by omega⟩
    have hn := h.2.2.2.1
    have hb := h.2.2.2.2 p (by omega)
    have l1 : σ.2.1 11 p < (97 : Int32) ↔ u p < 97 ∨ 128 ≤ u p := bX_lt hb (ch := 97) (by omega)
    have l2 : (122 : Int32) < σ.2.1 11 p ↔ 122 < u p ∧ u p < 128 := bX_gt hb (ch := 122) (by omega)
    show f_X6_skipLetters_0 fu (loopN _ f) σ = some ((), sI σ 4 (nI (if isL (u p) = true then skp isL u m (p + 1) else p)))
    rw [f_X6_skipLetters_0, h.1, h.2.1, if_neg (fun z => by have := (q_le (by omega) (by omega)).mp z; omega), if_pos ((q_in (by omega)).mpr (by omega)), q_cl (by omega), q_inc]
    by_cases c : 97 ≤ u p ∧ u p ≤ 122
    · rw [if_neg (fun z => by have := l1.mp z; omega), if_neg (fun z => by have := l2.mp z; omega), if_pos ((isL_t _).mpr c)]
      have := ih (p + 1) f _ (TX_at h (q := p + 1) (by omega)) (by omega) (by omega)
      rw [sI_idem] at this
      exact this
    · rw [if_neg (fun z => c ((isL_t _).mp z)), sI_self h.2.1]
      by_cases d : u p < 97 ∨ 128 ≤ u p
      · rw [if_pos (l1.mpr d)]
      · rw [if_neg (fun z => d (l1.mp z)), if_pos (l2.mpr (by omega))]
theorem X_letters {σ : SS} {p : Nat} (hfu : 1000 ≤ fu) (h : TX n u σ p) : f_X6_skipLetters fu σ = some ((), sI σ 4 (nI (sk isL u n p))) := by
  have h1 := h.2.2.1
  have h2 := h.2.2.2.1
  exact X_skL (n - p) p fu σ h (by omega) (by omega)
def bt0 (n : Nat) (u : Nat → Nat) (q : Nat) : Nat := if q < n then u q else 0
theorem M_byte {τ : SS} {p q : Nat} (h : TM n u τ p) (hq : q < 1000) : f_X8_byteAt fu τ (nI q) = some (nI (bt0 n u q)) := by
  have hn := h.2.2.2.1
  unfold bt0
  rw [f_X8_byteAt, h.1]
  by_cases c : q < n
  · rw [if_neg (fun z => by have := (q_le (by omega) (by omega)).mp z; omega), if_pos ((q_in (by omega)).mpr (by omega)), q_cl (by omega), (h.2.2.2.2 q c).2, if_pos c]
  · rw [if_pos ((q_le (by omega) (by omega)).mpr (by omega)), if_neg c]
    rfl
theorem bt0_lt {τ : SS} {p q : Nat} (h : TM n u τ p) : bt0 n u q < 256 := by
  unfold bt0
  split
  · rename_i c
    exact (h.2.2.2.2 q c).1
  · omega
theorem M_skB : ∀ (m p fuel : Nat) (τ : SS), TM n u τ p → p + m = n → m < fuel → loopN (fun k0 σ (_ : Unit) => f_X8_blanks_0 fu k0 σ) fuel τ () = some ((), sI τ 9 (nI (skp isB u m p))) := by
  intro m
  induction m with
  | zero =>
    intro p fuel τ h hp hf
    obtain ⟨f, rfl⟩ : ∃ f, fuel = f + 1 := ⟨fuel - 1, by omega⟩
    have hn := h.2.2.2.1
    show f_X8_blanks_0 fu _ τ = some ((), sI τ 9 (nI p))
    rw [f_X8_blanks_0, h.1, h.2.1, if_pos ((q_le (by omega) (by omega)).mpr (by omega)), sI_self h.2.1]
  | succ m ih =>
    intro p fuel τ h hp hf
    obtain ⟨f, rfl⟩ : ∃ f, fuel = f + 1 := ⟨fuel - 1, by omega⟩
    have hn := h.2.2.2.1
    have hu := (h.2.2.2.2 p (by omega)).1
    have eb : bt0 n u p = u p := if_pos (by omega)
    show f_X8_blanks_0 fu (loopN _ f) τ = some ((), sI τ 9 (nI (if isB (u p) = true then skp isB u m (p + 1) else p)))
    rw [f_X8_blanks_0, h.1, h.2.1, if_neg (fun z => by have := (q_le (by omega) (by omega)).mp z; omega), M_byte h (by omega), bnd1_some, eb, q_inc]
    by_cases c : u p = 32
    · rw [if_pos (show nI (u p) = (32 : Int32) by rw [c]; rfl), if_pos ((isB_t _).mpr c)]
      have := ih (p + 1) f _ (TM_at h (q := p + 1) (by omega)) (by omega) (by omega)
      rw [sI_idem] at this
      exact this
    · rw [if_neg (show ¬ nI (u p) = (32 : Int32) from fun z => c ((q_eq (b := 32) (by omega) (by omega)).mp z)), if_neg (fun z => c ((isB_t _).mp z)), sI_self h.2.1]
theorem M_blanks {τ : SS} {p : Nat} (hfu : 1000 ≤ fu) (h : TM n u τ p) : f_X8_blanks fu τ = some ((), sI τ 9 (nI (sk isB u n p))) := by
  have h1 := h.2.2.1
  have h2 := h.2.2.2.1
  exact M_skB (n - p) p fu τ h (by omega) (by omega)
theorem M_small {σ : SS} {v : Nat} (hv : v < 256) : f_X8_isSmall fu σ (nI v) = some (if 97 ≤ v ∧ v ≤ 122 then 1 else 0) := by
  have l1 : nI v < (97 : Int32) ↔ v < 97 := q_lt (b := 97) (by omega) (by omega)
  have l2 : (122 : Int32) < nI v ↔ 122 < v := q_lt (a := 122) (by omega) (by omega)
  unfold f_X8_isSmall
  by_cases c1 : v < 97
  · rw [if_pos (l1.mpr c1), if_neg (by omega)]
  · rw [if_neg (fun z => c1 (l1.mp z))]
    by_cases c2 : 122 < v
    · rw [if_pos (l2.mpr c2), if_neg (by omega)]
    · rw [if_neg (fun z => c2 (l2.mp z)), if_pos (by omega)]
theorem M_digit {σ : SS} {v : Nat} (hv : v < 256) : f_X8_isDigit fu σ (nI v) = some (if 48 ≤ v ∧ v ≤ 57 then 1 else 0) := by
  have l1 : nI v < (48 : Int32) ↔ v < 48 := q_lt (b := 48) (by omega) (by omega)
  have l2 : (57 : Int32) < nI v ↔ 57 < v := q_lt (a := 57) (by omega) (by omega)
  unfold f_X8_isDigit
  by_cases c1 : v < 48
  · rw [if_pos (l1.mpr c1), if_neg (by omega)]
  · rw [if_neg (fun z => c1 (l1.mp z))]
    by_cases c2 : 57 < v
    · rw [if_pos (l2.mpr c2), if_neg (by omega)]
    · rw [if_neg (fun z => c2 (l2.mp z)), if_pos (by omega)]
/-! words -/
def chr (w i : Nat) : Nat := (chJ w (nI i)).toNatClampNeg
theorem chr_ok : ∀ w, w < 4 → ∀ i, i < lenJ.getD w 0 → chJ w (nI i) = nI (chr w i) ∧ 97 ≤ chr w i ∧ chr w i ≤ 122 := by decide +kernel
theorem len_ok : ∀ w, w < 4 → 1 ≤ lenJ.getD w 0 ∧ lenJ.getD w 0 ≤ 7 := by decide +kernel
def wordAt (n : Nat) (u : Nat → Nat) (w s : Nat) : Prop := sk isL u n s = s + lenJ.getD w 0 ∧ ∀ i, i < lenJ.getD w 0 → u (s + i) = chr w i
theorem X_spells {σ : SS} {s w : Nat} (hfu : 1000 ≤ fu) (hw : w < 4) (hs : s ≤ n) (h : TX n u σ (sk isL u n s)) : (wordAt n u w s ∧ f_X6_spells fu σ (nI s) w = some 1) ∨ (¬ wordAt n u w s ∧ f_X6_spells fu σ (nI s) w = some 0) := by
  have hn := h.2.2.2.1
  obtain ⟨k1, k2, k3, k4⟩ := sk_ok (P := isL) (u := u) hs
  have hl := len_ok w hw
  have eL : (σ.1 4) - nI s = nI (sk isL u n s - s) := by rw [h.2.1, q_sub k1]
  rw [f_X6_spells, if_pos hw, eL]
  by_cases c : sk isL u n s - s = lenJ.getD w 0
  · rw [if_pos (by rw [c])]
    have key : ∀ m i fuel, i + m = lenJ.getD w 0 → m < fuel → (∀ k, k < i → u (s + k) = chr w k) → (wordAt n u w s ∧ loopN (fun k17 σ x => f_X6_spells_17 fu k17 σ x.1 x.2.1 x.2.2) fuel σ (nI s, w, nI i) = some 1) ∨ (¬ wordAt n u w s ∧ loopN (fun k17 σ x => f_X6_spells_17 fu k17 σ x.1 x.2.1 x.2.2) fuel σ (nI s, w, nI i) = some 0) := by
      intro m
      induction m with
      | zero =>
        intro i fuel hi hf hk
        obtain ⟨f, rfl⟩ : ∃ f, fuel = f + 1 := ⟨fuel - 1, by omega⟩
        have hi2 : i = lenJ.getD w 0 := by omega
        refine Or.inl ⟨⟨by omega, fun k hk2 => hk k (by omega)⟩, ?_⟩
        show f_X6_spells_17 fu _ σ (nI s) w (nI i) = _
        rw [f_X6_spells_17, if_pos hw, ← hi2, if_pos ((q_le (by omega) (by omega)).mpr (Nat.le_refl _))]
      | succ m ih =>
        intro i fuel hi hf hk
        obtain ⟨f, rfl⟩ : ∃ f, fuel = f + 1 := ⟨fuel - 1, by omega⟩
        obtain ⟨c1, c2, c3⟩ := chr_ok w hw i (by omega)
        have hb := h.2.2.2.2 (s + i) (by omega)
        have e1 : f_X6_spells_17 fu (loopN (fun k17 σ x => f_X6_spells_17 fu k17 σ x.1 x.2.1 x.2.2) f) σ (nI s) w (nI i) = if u (s + i) = chr w i then loopN (fun k17 σ x => f_X6_spells_17 fu k17 σ x.1 x.2.1 x.2.2) f σ (nI s, w, nI (i + 1)) else some 0 := by
          rw [f_X6_spells_17, if_pos hw, if_neg (fun z => by have := (q_le (by omega) (by omega)).mp z; omega), q_add, if_pos ((q_in (by omega)).mpr (by omega)), if_pos ((q_in (by omega)).mpr (by omega)), q_cl (by omega), c1, q_inc]
          by_cases d : u (s + i) = chr w i
          · rw [if_pos ((bX_eq hb (by omega)).mpr d), if_pos d]
          · rw [if_neg (fun z => d ((bX_eq hb (by omega)).mp z)), if_neg d]
        show (_ ∧ f_X6_spells_17 fu (loopN (fun k17 σ x => f_X6_spells_17 fu k17 σ x.1 x.2.1 x.2.2) f) σ (nI s) w (nI i) = _) ∨ (_ ∧ f_X6_spells_17 fu (loopN (fun k17 σ x => f_X6_spells_17 fu k17 σ x.1 x.2.1 x.2.2) f) σ (nI s) w (nI i) = _)
        rw [e1]
        by_cases d : u (s + i) = chr w i
        · rw [if_pos d]
          refine ih (i + 1) f (by omega) (by omega) (fun k hk2 => ?_)
          by_cases e : k = i
          · rw [e]; exact d
          · exact hk k (by omega)
        · rw [if_neg d]
          exact Or.inr ⟨fun z => d (z.2 i (by omega)), rfl⟩
    exact key (lenJ.getD w 0) 0 fu (by omega) (by omega) (fun k hk => by omega)
  · rw [if_neg (fun z => c ((q_eq (by omega) (by omega)).mp z))]
    exact Or.inr ⟨fun z => c (by rw [z.1]; omega), rfl⟩
theorem M_word {τ : SS} {p w : Nat} (hfu : 1000 ≤ fu) (hw : w < 4) (h : TM n u τ p) : (wordAt n u w (sk isB u n p) ∧ f_X8_isWord fu τ w = some (1, sI τ 9 (nI (sk isB u n p)))) ∨ (¬ wordAt n u w (sk isB u n p) ∧ f_X8_isWord fu τ w = some (0, sI τ 9 (nI (sk isB u n p)))) := by
  have hn := h.2.2.2.1
  obtain ⟨b1, b2, b3, b4⟩ := sk_ok (P := isB) (u := u) h.2.2.1
  have hT := TM_at h b2
  rw [f_X8_isWord, M_blanks hfu h, bnd_some, f_X8_isWord_L6]
  generalize sk isB u n p = s at *
  obtain ⟨k1, k2, k3, k4⟩ := sk_ok (P := isL) (u := u) b2
  have hl := len_ok w hw
  generalize sI τ 9 (nI s) = t at *
  have key : ∀ m i fuel, i + m = lenJ.getD w 0 → m < fuel → (∀ k, k < i → s + k < n ∧ u (s + k) = chr w k) → (wordAt n u w s ∧ loopN (fun k6 σ x => f_X8_isWord_6 fu k6 σ x.1 x.2) fuel t (w, nI i) = some (1, t)) ∨ (¬ wordAt n u w s ∧ loopN (fun k6 σ x => f_X8_isWord_6 fu k6 σ x.1 x.2) fuel t (w, nI i) = some (0, t)) := by
    intro m
    induction m with
    | zero =>
      intro i fuel hi hf hk
      obtain ⟨f, rfl⟩ : ∃ f, fuel = f + 1 := ⟨fuel - 1, by omega⟩
      have hi2 : i = lenJ.getD w 0 := by omega
      have hge : s + i ≤ sk isL u n s := by
        by_cases z : s + i ≤ sk isL u n s
        · exact z
        · have hlt : sk isL u n s - s < i := by omega
          obtain ⟨y1, y2⟩ := hk _ hlt
          rw [show s + (sk isL u n s - s) = sk isL u n s by omega] at y1 y2
          have := chr_ok w hw (sk isL u n s - s) (by omega)
          exact absurd ((isL_t _).mpr (by omega)) (k4 y1)
      have e1 : f_X8_isWord_6 fu (loopN (fun k6 σ x => f_X8_isWord_6 fu k6 σ x.1 x.2) f) t w (nI i) = if 97 ≤ bt0 n u (s + i) ∧ bt0 n u (s + i) ≤ 122 then some (0, t) else some (1, t) := by
        rw [f_X8_isWord_6, if_pos hw, ← hi2, if_pos ((q_le (by omega) (by omega)).mpr (Nat.le_refl _)), hT.2.1, q_add, M_byte hT (by omega), bnd1_some, M_small (bt0_lt hT), bnd1_some]
        by_cases d : 97 ≤ bt0 n u (s + i) ∧ bt0 n u (s + i) ≤ 122
        · rw [if_pos d, if_pos d, if_neg i10]
        · rw [if_neg d, if_neg d, if_pos rfl]
      show (_ ∧ f_X8_isWord_6 fu (loopN (fun k6 σ x => f_X8_isWord_6 fu k6 σ x.1 x.2) f) t w (nI i) = _) ∨ (_ ∧ f_X8_isWord_6 fu (loopN (fun k6 σ x => f_X8_isWord_6 fu k6 σ x.1 x.2) f) t w (nI i) = _)
      rw [e1]
      by_cases d : 97 ≤ bt0 n u (s + i) ∧ bt0 n u (s + i) ≤ 122
      · rw [if_pos d]
        refine Or.inr ⟨fun z => ?_, rfl⟩
        have hlt : s + i < n := by
          by_cases y : s + i < n
          · exact y
          · have : bt0 n u (s + i) = 0 := if_neg y
            omega
        have eb : bt0 n u (s + i) = u (s + i) := if_pos hlt
        have e3 : sk isL u n s = s + i := by rw [z.1, hi2]
        have := k4 (by omega)
        rw [e3] at this
        exact this ((isL_t _).mpr (by omega))
      · rw [if_neg d]
        refine Or.inl ⟨⟨?_, fun k hk2 => (hk k (by omega)).2⟩, rfl⟩
        by_cases y : sk isL u n s = s + i
        · omega
        · have hL := (isL_t _).mp (k3 (s + i) (by omega) (by omega))
          have eb : bt0 n u (s + i) = u (s + i) := if_pos (by omega)
          omega
    | succ m ih =>
      intro i fuel hi hf hk
      obtain ⟨f, rfl⟩ : ∃ f, fuel = f + 1 := ⟨fuel - 1, by omega⟩
      obtain ⟨c1, c2, c3⟩ := chr_ok w hw i (by omega)
      have hbl := bt0_lt (q := s + i) hT
      have e1 : f_X8_isWord_6 fu (loopN (fun k6 σ x => f_X8_isWord_6 fu k6 σ x.1 x.2) f) t w (nI i) = if bt0 n u (s + i) = chr w i then loopN (fun k6 σ x => f_X8_isWord_6 fu k6 σ x.1 x.2) f t (w, nI (i + 1)) else some (0, t) := by
        rw [f_X8_isWord_6, if_pos hw, if_neg (fun z => by have := (q_le (by omega) (by omega)).mp z; omega), hT.2.1, q_add, M_byte hT (by omega), bnd1_some, if_pos ((q_in (by omega)).mpr (by omega)), c1, q_inc]
        by_cases d : bt0 n u (s + i) = chr w i
        · rw [if_pos ((q_eq (by omega) (by omega)).mpr d), if_pos d]
        · rw [if_neg (fun z => d ((q_eq (by omega) (by omega)).mp z)), if_neg d]
      show (_ ∧ f_X8_isWord_6 fu (loopN (fun k6 σ x => f_X8_isWord_6 fu k6 σ x.1 x.2) f) t w (nI i) = _) ∨ (_ ∧ f_X8_isWord_6 fu (loopN (fun k6 σ x => f_X8_isWord_6 fu k6 σ x.1 x.2) f) t w (nI i) = _)
      rw [e1]
      by_cases d : bt0 n u (s + i) = chr w i
      · rw [if_pos d]
        have hlt : s + i < n := by
          by_cases y : s + i < n
          · exact y
          · have : bt0 n u (s + i) = 0 := if_neg y
            omega
        have eb : bt0 n u (s + i) = u (s + i) := if_pos hlt
        refine ih (i + 1) f (by omega) (by omega) (fun k hk2 => ?_)
        by_cases e : k = i
        · rw [e]; exact ⟨hlt, by omega⟩
        · exact hk k (by omega)
      · rw [if_neg d]
        refine Or.inr ⟨fun z => d ?_, rfl⟩
        have z1 := z.1
        have eb : bt0 n u (s + i) = u (s + i) := if_pos (by omega)
        rw [eb]
        exact z.2 i (by omega)
  exact key (lenJ.getD w 0) 0 fu (by omega) (by omega) (fun k hk => by omega)
end
