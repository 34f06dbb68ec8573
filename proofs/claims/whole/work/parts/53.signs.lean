/-! signs, numbers and words, both at once -/
def badX (σ : SS) (q k pl : Nat) : SS := sI (sI (sI σ 4 (nI q)) 5 (nI k)) 6 (nI pl)
def badM (τ : SS) (q k pl : Nat) : SS := sI (sI (sI τ 9 (nI q)) 10 (nI k)) 11 (nI pl)
theorem X_mark0 {fu : Nat} {σ : SS} {x y : Int32} (h : σ.1 5 = 0) : f_X6_mark fu σ x y = some ((), sI (sI σ 5 x) 6 y) := by rw [f_X6_mark, if_pos h]
theorem M_wrong0 {fu : Nat} {τ : SS} {x y : Int32} (h : τ.1 10 = 0) : f_X8_wrong fu τ x y = some ((), sI (sI τ 10 x) 11 y) := by rw [f_X8_wrong, h, if_pos (by decide)]
def vX (u : Nat → Nat) : Nat → Nat → Nat → Nat
  | 0, _, v => v
  | m + 1, p, v => if isD (u p) = true then vX u m (p + 1) (if 1001 < v * 10 + u p - 48 then 1001 else v * 10 + u p - 48) else v
def vM (u : Nat → Nat) : Nat → Nat → Nat → Nat
  | 0, _, v => v
  | m + 1, p, v => if isD (u p) = true then vM u m (p + 1) (if v ≤ 10000 then 10 * v + u p - 48 else v) else v
theorem v_rel (u : Nat → Nat) : ∀ m p c r, ((r ≤ 1000 ∧ c = r) ∨ (1000 < r ∧ c = 1001)) → r ≤ 100009 → ((vM u m p r ≤ 1000 ∧ vX u m p c = vM u m p r) ∨ (1000 < vM u m p r ∧ vX u m p c = 1001)) ∧ vM u m p r ≤ 100009 := by
  intro m
  induction m with
  | zero => intro p c r h hr; exact ⟨h, hr⟩
  | succ m ih =>
    intro p c r h hr
    have e1 : vX u (m + 1) p c = if isD (u p) = true then vX u m (p + 1) (if 1001 < c * 10 + u p - 48 then 1001 else c * 10 + u p - 48) else c := rfl
    have e2 : vM u (m + 1) p r = if isD (u p) = true then vM u m (p + 1) (if r ≤ 10000 then 10 * r + u p - 48 else r) else r := rfl
    rw [e1, e2]
    by_cases d : isD (u p) = true
    · have hd := (isD_t _).mp d
      rw [if_pos d, if_pos d]
      refine ih _ _ _ ?_ ?_
      · by_cases c1 : 1001 < c * 10 + u p - 48
        · rw [if_pos c1]
          by_cases c2 : r ≤ 10000
          · rw [if_pos c2]; omega
          · rw [if_neg c2]; omega
        · rw [if_neg c1]
          by_cases c2 : r ≤ 10000
          · rw [if_pos c2]; omega
          · rw [if_neg c2]; omega
      · split <;> omega
    · rw [if_neg d, if_neg d]
      exact ⟨h, hr⟩
section
variable {n : Nat} {u : Nat → Nat} {fu : Nat}
theorem X_dig (l x2 : Int32) : ∀ (m p v fuel : Nat) (σ : SS), TX n u σ p → p + m = n → m < fuel → v ≤ 1001 → loopN (fun k11 σ x => f_X6_readNumber_11 fu k11 σ x.1 x.2.1 x.2.2) fuel σ (l, x2, nI v) = f_X6_readNumber_87 fu (sI σ 4 (nI (skp isD u m p))) l x2 (nI (vX u m p v)) := by
  intro m
  induction m with
  | zero =>
    intro p v fuel σ h hp hf hv
    obtain ⟨f, rfl⟩ : ∃ f, fuel = f + 1 := ⟨fuel - 1, by omega⟩
    have hn := h.2.2.2.1
    show f_X6_readNumber_11 fu _ σ l x2 (nI v) = f_X6_readNumber_87 fu (sI σ 4 (nI p)) l x2 (nI v)
    rw [f_X6_readNumber_11, h.1, h.2.1, if_pos ((q_le (by omega) (by omega)).mpr (by omega)), sI_self h.2.1]
  | succ m ih =>
    intro p v fuel σ h hp hf hv
    obtain ⟨f, rfl⟩ : ∃ f, fuel = f + 1 := ⟨fuel - 1, by omega⟩
    have hn := h.2.2.2.1
    have hb := h.2.2.2.2 p (by omega)
    have l1 : σ.2.1 11 p < (48 : Int32) ↔ u p < 48 ∨ 128 ≤ u p := bX_lt hb (ch := 48) (by omega)
    have l2 : (57 : Int32) < σ.2.1 11 p ↔ 57 < u p ∧ u p < 128 := bX_gt hb (ch := 57) (by omega)
    show f_X6_readNumber_11 fu (loopN _ f) σ l x2 (nI v) = f_X6_readNumber_87 fu (sI σ 4 (nI (if isD (u p) = true then skp isD u m (p + 1) else p))) l x2 (nI (if isD (u p) = true then vX u m (p + 1) (if 1001 < v * 10 + u p - 48 then 1001 else v * 10 + u p - 48) else v))
    rw [f_X6_readNumber_11, h.1, h.2.1, if_neg (fun z => by have := (q_le (by omega) (by omega)).mp z; omega), if_pos ((q_in (by omega)).mpr (by omega)), q_cl (by omega), q_inc]
    by_cases c : 48 ≤ u p ∧ u p ≤ 57
    · have eb : σ.2.1 11 p = nI (u p) := (bX_eq hb (by omega)).mpr rfl
      have ev : nI v * (10 : Int32) + nI (u p) - (48 : Int32) = nI (v * 10 + u p - 48) := by
        rw [show (10 : Int32) = nI 10 from rfl, show (48 : Int32) = nI 48 from rfl, q_mul, q_add, q_sub (by omega)]
      have ec : (if (1001 : Int32) < nI (v * 10 + u p - 48) then (1001 : Int32) else nI (v * 10 + u p - 48)) = nI (if 1001 < v * 10 + u p - 48 then 1001 else v * 10 + u p - 48) := by
        by_cases d : 1001 < v * 10 + u p - 48
        · rw [if_pos d, if_pos (show (1001 : Int32) < nI (v * 10 + u p - 48) from (q_lt (a := 1001) (by omega) (by omega)).mpr d)]
          rfl
        · rw [if_neg d, if_neg (show ¬ (1001 : Int32) < nI (v * 10 + u p - 48) from fun z => d ((q_lt (a := 1001) (by omega) (by omega)).mp z))]
      rw [if_neg (fun z => by have := l1.mp z; omega), if_neg (fun z => by have := l2.mp z; omega), if_pos ((isD_t _).mpr c), if_pos ((isD_t _).mpr c), eb, ev, ec]
      have := ih (p + 1) (if 1001 < v * 10 + u p - 48 then 1001 else v * 10 + u p - 48) f _ (TX_at h (q := p + 1) (by omega)) (by omega) (by omega) (by split <;> omega)
      rw [sI_idem] at this
      exact this
    · rw [if_neg (fun z => c ((isD_t _).mp z)), if_neg (fun z => c ((isD_t _).mp z)), sI_self h.2.1]
      by_cases d : u p < 48 ∨ 128 ≤ u p
      · rw [if_pos (l1.mpr d)]
      · rw [if_neg (fun z => d (l1.mp z)), if_pos (l2.mpr (by omega))]
theorem X_num {σ : SS} {p : Nat} (hfu : 1000 ≤ fu) (h : TX n u σ p) (l : Int32) : f_X6_readNumber fu σ l = f_X6_readNumber_87 fu (sI σ 4 (nI (sk isD u n (sk isB u n p)))) l (nI (sk isB u n p)) (nI (vX u (n - sk isB u n p) (sk isB u n p) 0)) := by
  obtain ⟨b1, b2, b3, b4⟩ := sk_ok (P := isB) (u := u) h.2.2.1
  have hn := h.2.2.2.1
  have hT := TX_at h b2
  have e := X_dig (fu := fu) l (nI (sk isB u n p)) (n - sk isB u n p) (sk isB u n p) 0 fu _ hT (by omega) (by omega) (by omega)
  rw [sI_idem] at e
  rw [f_X6_readNumber, X_blanks hfu h, bnd_some, hT.2.1, f_X6_readNumber_L11]
  exact e
def finM (fu : Nat) (τ : SS) (l x2 x3 : Int32) : Option (Int32 × SS) := if x3 < l then f_X8_number_112 fu τ x2 x3 else (if x3 ≤ (1000 : Int32) then some (x3, τ) else f_X8_number_112 fu τ x2 x3)
theorem M_dig (l x2 : Int32) : ∀ (m p v fuel : Nat) (τ : SS), TM n u τ p → p + m = n → m < fuel → v ≤ 100009 → loopN (fun k45 σ x => f_X8_number_45 fu k45 σ x.1 x.2.1 x.2.2) fuel τ (l, x2, nI v) = finM fu (sI τ 9 (nI (skp isD u m p))) l x2 (nI (vM u m p v)) := by
  intro m
  induction m with
  | zero =>
    intro p v fuel τ h hp hf hv
    obtain ⟨f, rfl⟩ : ∃ f, fuel = f + 1 := ⟨fuel - 1, by omega⟩
    have hn := h.2.2.2.1
    have eb : bt0 n u p = 0 := if_neg (by omega)
    show f_X8_number_45 fu _ τ l x2 (nI v) = finM fu (sI τ 9 (nI p)) l x2 (nI v)
    rw [f_X8_number_45, h.2.1, M_byte h (by omega), bnd1_some, M_digit (bt0_lt h), bnd1_some, eb, if_pos (by rfl), sI_self h.2.1]
    rfl
  | succ m ih =>
    intro p v fuel τ h hp hf hv
    obtain ⟨f, rfl⟩ : ∃ f, fuel = f + 1 := ⟨fuel - 1, by omega⟩
    have hn := h.2.2.2.1
    have eb : bt0 n u p = u p := if_pos (by omega)
    have hu := (h.2.2.2.2 p (by omega)).1
    show f_X8_number_45 fu (loopN _ f) τ l x2 (nI v) = finM fu (sI τ 9 (nI (if isD (u p) = true then skp isD u m (p + 1) else p))) l x2 (nI (if isD (u p) = true then vM u m (p + 1) (if v ≤ 10000 then 10 * v + u p - 48 else v) else v))
    rw [f_X8_number_45, h.2.1, M_byte h (by omega), bnd1_some, M_digit (bt0_lt h), bnd1_some, bnd1_some, eb, f_X8_number_86, f_X8_number_86, h.2.1, q_inc]
    by_cases c : 48 ≤ u p ∧ u p ≤ 57
    · have ed : (if 48 ≤ u p ∧ u p ≤ 57 then (1 : Int32) else 0) = 1 := if_pos c
      rw [ed, if_neg i10, if_pos ((isD_t _).mpr c), if_pos ((isD_t _).mpr c)]
      have := ih (p + 1) (if v ≤ 10000 then 10 * v + u p - 48 else v) f _ (TM_at h (q := p + 1) (by omega)) (by omega) (by omega) (by split <;> omega)
      rw [sI_idem] at this
      rw [← this]
      by_cases d : v ≤ 10000
      · have ev : (10 : Int32) * nI v + nI (u p) - (48 : Int32) = nI (10 * v + u p - 48) := by
          rw [show (10 : Int32) = nI 10 from rfl, show (48 : Int32) = nI 48 from rfl, q_mul, q_add, q_sub (by omega)]
        rw [if_pos d, if_pos (show nI v ≤ (10000 : Int32) from (q_le (b := 10000) (by omega) (by omega)).mpr d), ev]
      · rw [if_neg d, if_neg (show ¬ nI v ≤ (10000 : Int32) from fun z => d ((q_le (b := 10000) (by omega) (by omega)).mp z))]
    · have ed : (if 48 ≤ u p ∧ u p ≤ 57 then (1 : Int32) else 0) = 0 := if_neg c
      rw [ed, if_pos rfl, if_neg (fun z => c ((isD_t _).mp z)), if_neg (fun z => c ((isD_t _).mp z)), sI_self h.2.1]
      rfl
theorem sign_both {σ τ : SS} {p ch : Nat} (hfu : 1000 ≤ fu) (hX : TX n u σ p) (hM : TM n u τ p) (f1 : σ.1 5 = 0) (f2 : τ.1 10 = 0) (hch : ch < 128) : (∃ q, q ≤ n ∧ f_X6_readSign fu σ (nI ch) = some ((), sI σ 4 (nI q)) ∧ f_X8_sign fu τ (nI ch) = some ((), sI τ 9 (nI q))) ∨ (∃ q, q ≤ n ∧ f_X6_readSign fu σ (nI ch) = some ((), badX σ q 1 q) ∧ f_X8_sign fu τ (nI ch) = some ((), badM τ q 1 q)) := by
  obtain ⟨b1, b2, b3, b4⟩ := sk_ok (P := isB) (u := u) hX.2.2.1
  have hn := hX.2.2.2.1
  have hTX := TX_at hX b2
  have hTM := TM_at hM b2
  have eX41 : f_X6_readSign_41 fu (sI σ 4 (nI (sk isB u n p))) = some ((), badX σ (sk isB u n p) 1 (sk isB u n p)) := by
    rw [f_X6_readSign_41, hTX.2.1, X_mark0 (show (sI σ 4 (nI (sk isB u n p))).1 5 = 0 from f1), bnd_some]
    rfl
  have eM48 : f_X8_sign_48 fu (sI τ 9 (nI (sk isB u n p))) = some ((), badM τ (sk isB u n p) 1 (sk isB u n p)) := by
    rw [f_X8_sign_48, hTM.2.1, M_wrong0 (show (sI τ 9 (nI (sk isB u n p))).1 10 = 0 from f2), bnd_some]
    rfl
  rw [f_X6_readSign, X_blanks hfu hX, bnd_some, hTX.1, hTX.2.1, eX41, f_X8_sign, f2, if_pos (show (0 : Int32) ≤ 0 by decide), M_blanks hfu hM, bnd_some, hTM.1, hTM.2.1, eM48]
  by_cases c : sk isB u n p = n
  · have hle : nI n ≤ nI (sk isB u n p) := (q_le (by omega) (by omega)).mpr (by omega)
    rw [if_pos hle, if_pos hle]
    exact Or.inr ⟨_, b2, rfl, rfl⟩
  · have hle : ¬ nI n ≤ nI (sk isB u n p) := fun z => by have := (q_le (by omega) (by omega)).mp z; omega
    have hb := hTX.2.2.2.2 (sk isB u n p) (by omega)
    have eb : bt0 n u (sk isB u n p) = u (sk isB u n p) := if_pos (by omega)
    have hu := (hM.2.2.2.2 (sk isB u n p) (by omega)).1
    rw [if_neg hle, if_neg hle, if_pos ((q_in (by omega)).mpr (by omega)), q_cl (by omega), M_byte hTM (by omega), bnd1_some, eb, q_inc, sI_idem, sI_idem]
    by_cases d : u (sk isB u n p) = ch
    · rw [if_pos ((bX_eq hb hch).mpr d), if_pos ((q_eq (by omega) (by omega)).mpr d)]
      exact Or.inl ⟨sk isB u n p + 1, by omega, rfl, rfl⟩
    · rw [if_neg (fun z => d ((bX_eq hb hch).mp z)), if_neg (fun z => d ((q_eq (by omega) (by omega)).mp z))]
      exact Or.inr ⟨_, b2, rfl, rfl⟩
theorem num_both {σ τ : SS} {p least : Nat} (hfu : 1000 ≤ fu) (hX : TX n u σ p) (hM : TM n u τ p) (f1 : σ.1 5 = 0) (f2 : τ.1 10 = 0) (hl : least ≤ 1) : (∃ q V, q ≤ n ∧ V ≤ 1000 ∧ least ≤ V ∧ f_X6_readNumber fu σ (nI least) = some (nI V, sI σ 4 (nI q)) ∧ f_X8_number fu τ (nI least) = some (nI V, sI τ 9 (nI q))) ∨ (∃ (q k pl : Nat) (vx vm : Int32), q ≤ n ∧ 1 ≤ k ∧ k ≤ 3 ∧ f_X6_readNumber fu σ (nI least) = some (vx, badX σ q k pl) ∧ f_X8_number fu τ (nI least) = some (vm, badM τ q k pl)) := by
  obtain ⟨b1, b2, b3, b4⟩ := sk_ok (P := isB) (u := u) hX.2.2.1
  obtain ⟨d1, d2, d3, d4⟩ := sk_ok (P := isD) (u := u) b2
  have hn := hX.2.2.2.1
  have hTM := TM_at hM b2
  obtain ⟨vr, vb⟩ := v_rel u (n - sk isB u n p) (sk isB u n p) 0 0 (Or.inl ⟨by omega, rfl⟩) (by omega)
  have hbt := bt0_lt (q := sk isB u n p) hTM
  have eX := X_num hfu hX (nI least)
  have eM : f_X8_number fu τ (nI least) = if 48 ≤ bt0 n u (sk isB u n p) ∧ bt0 n u (sk isB u n p) ≤ 57 then finM fu (sI τ 9 (nI (sk isD u n (sk isB u n p)))) (nI least) (nI (sk isB u n p)) (nI (vM u (n - sk isB u n p) (sk isB u n p) 0)) else some (0, badM τ (sk isB u n p) 1 (sk isB u n p)) := by
    have e := M_dig (fu := fu) (nI least) (nI (sk isB u n p)) (n - sk isB u n p) (sk isB u n p) 0 fu _ hTM (by omega) (by omega) (by omega)
    rw [sI_idem] at e
    rw [f_X8_number, f2, if_pos (show (0 : Int32) ≤ 0 by decide), M_blanks hfu hM, bnd_some, hTM.2.1, M_byte hTM (by omega), bnd1_some, M_digit hbt, bnd1_some, M_wrong0 (show (sI τ 9 (nI (sk isB u n p))).1 10 = 0 from f2), bnd_some, f_X8_number_L45]
    by_cases c : 48 ≤ bt0 n u (sk isB u n p) ∧ bt0 n u (sk isB u n p) ≤ 57
    · rw [if_pos c, if_pos c, if_neg i10]
      exact e
    · rw [if_neg c, if_neg c, if_pos rfl]
      rfl
  rw [eX, eM]
  generalize hs : sk isB u n p = s at *
  generalize hq : sk isD u n s = q at *
  generalize hVX : vX u (n - s) s 0 = VX at *
  generalize hVM : vM u (n - s) s 0 = VM at *
  by_cases c : 48 ≤ bt0 n u s ∧ bt0 n u s ≤ 57
  · have hsn : s < n := by
      by_cases y : s < n
      · exact y
      · have : bt0 n u s = 0 := if_neg y
        omega
    have eb : bt0 n u s = u s := if_pos hsn
    have hqs : q ≠ s := by
      intro z
      have := d4 (by omega)
      rw [z] at this
      exact this ((isD_t _).mpr (by omega))
    have e4 : (sI σ 4 (nI q)).1 4 = nI q := sI_eq
    have f1' : (sI σ 4 (nI q)).1 5 = 0 := f1
    have f2' : (sI τ 9 (nI q)).1 10 = 0 := f2
    rw [if_pos c, f_X6_readNumber_87, e4, if_neg (fun z => hqs ((q_eq (by omega) (by omega)).mp z)), finM, f_X6_readNumber_116, X_mark0 f1', bnd_some, f_X8_number_112, M_wrong0 f2', bnd_some]
    have bad : ∀ vx vm : Int32, ∃ (q' k pl : Nat) (vx' vm' : Int32), q' ≤ n ∧ 1 ≤ k ∧ k ≤ 3 ∧ (some (vx, sI (sI (sI σ 4 (nI q)) 5 2) 6 (nI s)) : Option (Int32 × SS)) = some (vx', badX σ q' k pl) ∧ (some (vm, sI (sI (sI τ 9 (nI q)) 10 2) 11 (nI s)) : Option (Int32 × SS)) = some (vm', badM τ q' k pl) := fun vx vm => ⟨q, 2, s, vx, vm, d2, by omega, by omega, rfl, rfl⟩
    by_cases w : VM < least
    · have hlX : nI VX < nI least := (q_lt (by omega) (by omega)).mpr (by omega)
      have hlM : nI VM < nI least := (q_lt (by omega) (by omega)).mpr w
      rw [if_pos hlX, if_pos hlM]
      exact Or.inr (bad _ _)
    · have hlX : ¬ nI VX < nI least := fun z => by have := (q_lt (by omega) (by omega)).mp z; omega
      have hlM : ¬ nI VM < nI least := fun z => by have := (q_lt (by omega) (by omega)).mp z; omega
      rw [if_neg hlX, if_neg hlM]
      by_cases w2 : VM ≤ 1000
      · rw [if_pos (show nI VX ≤ (1000 : Int32) from (q_le (b := 1000) (by omega) (by omega)).mpr (by omega)), if_pos (show nI VM ≤ (1000 : Int32) from (q_le (b := 1000) (by omega) (by omega)).mpr w2)]
        exact Or.inl ⟨q, VM, d2, w2, by omega, by rw [show VX = VM by omega], rfl⟩
      · rw [if_neg (show ¬ nI VX ≤ (1000 : Int32) from fun z => by have := (q_le (b := 1000) (by omega) (by omega)).mp z; omega), if_neg (show ¬ nI VM ≤ (1000 : Int32) from fun z => w2 ((q_le (b := 1000) (by omega) (by omega)).mp z))]
        exact Or.inr (bad _ _)
  · have hqs : q = s := by
      by_cases y : q = s
      · exact y
      · have := (isD_t _).mp (d3 s (Nat.le_refl _) (by omega))
        have eb : bt0 n u s = u s := if_pos (by omega)
        omega
    have f1' : (sI σ 4 (nI s)).1 5 = 0 := f1
    have e4 : (sI σ 4 (nI s)).1 4 = nI s := sI_eq
    rw [if_neg c, hqs, f_X6_readNumber_87, e4, if_pos rfl, X_mark0 f1', bnd_some]
    exact Or.inr ⟨s, 1, s, _, _, b2, by omega, by omega, rfl, rfl⟩
theorem M_need {τ : SS} {p w : Nat} (hfu : 1000 ≤ fu) (hw : w < 4) (h : TM n u τ p) (f2 : τ.1 10 = 0) : (wordAt n u w (sk isB u n p) ∧ f_X8_need fu τ w = some ((), sI τ 9 (nI (sk isB u n p + lenJ.getD w 0)))) ∨ (¬ wordAt n u w (sk isB u n p) ∧ f_X8_need fu τ w = some ((), badM τ (sk isB u n p) 1 (sk isB u n p))) := by
  have e9 : (sI τ 9 (nI (sk isB u n p))).1 9 = nI (sk isB u n p) := sI_eq
  have f2' : (sI τ 9 (nI (sk isB u n p))).1 10 = 0 := f2
  rw [f_X8_need, f2, if_pos (show (0 : Int32) ≤ 0 by decide)]
  rcases M_word hfu hw h with ⟨h1, h2⟩ | ⟨h1, h2⟩
  · left
    refine ⟨h1, ?_⟩
    rw [h2, bnd_some, if_neg i10, if_pos hw, e9, q_add, sI_idem]
  · right
    refine ⟨h1, ?_⟩
    rw [h2, bnd_some, if_pos rfl, e9, M_wrong0 f2', bnd_some]
    rfl
theorem within_both {σ τ : SS} {p : Nat} (hfu : 1000 ≤ fu) (hX : TX n u σ p) (hM : TM n u τ p) (f1 : σ.1 5 = 0) (f2 : τ.1 10 = 0) : (∃ q, q ≤ n ∧ f_X6_readWithin fu σ = some ((), sI σ 4 (nI q)) ∧ f_X8_need fu τ 3 = some ((), sI τ 9 (nI q))) ∨ (∃ q q' pl, q ≤ n ∧ q' ≤ n ∧ f_X6_readWithin fu σ = some ((), badX σ q 1 pl) ∧ f_X8_need fu τ 3 = some ((), badM τ q' 1 pl)) := by
  obtain ⟨b1, b2, b3, b4⟩ := sk_ok (P := isB) (u := u) hX.2.2.1
  obtain ⟨d1, d2, d3, d4⟩ := sk_ok (P := isL) (u := u) b2
  have hTX := TX_at hX b2
  have hTX2 := TX_at hX d2
  have e := X_letters hfu hTX
  rw [sI_idem] at e
  rw [f_X6_readWithin, X_blanks hfu hX, bnd_some, e, bnd_some, hTX.2.1]
  have hN := M_need (w := 3) hfu (by omega) hM f2
  have f1' : (sI σ 4 (nI (sk isL u n (sk isB u n p)))).1 5 = 0 := f1
  rcases X_spells (w := 3) hfu (by omega) b2 hTX2 with ⟨h1, h2⟩ | ⟨h1, h2⟩
  · rcases hN with ⟨g1, g2⟩ | ⟨g1, g2⟩
    · rw [h2, bnd1_some, if_neg i10, g2, g1.1]
      exact Or.inl ⟨_, by rw [← g1.1]; exact d2, rfl, rfl⟩
    · exact absurd h1 g1
  · rcases hN with ⟨g1, g2⟩ | ⟨g1, g2⟩
    · exact absurd g1 h1
    · rw [h2, bnd1_some, if_pos rfl, X_mark0 f1', bnd_some, g2]
      exact Or.inr ⟨_, _, _, d2, b2, rfl, rfl⟩
end
