/-! loops of pure words; tests of ranges -/
theorem lp_step {S R : Type} {step : S → Option (S ⊕ R)} {n : Nat} {s s' : S} (h : step s = some (.inl s')) : lp step (n + 1) s = lp step n s' := by rw [lp, h]
theorem lp_done {S R : Type} {step : S → Option (S ⊕ R)} {n : Nat} {s : S} {r : R} (h : step s = some (.inr r)) : lp step (n + 1) s = some r := by rw [lp, h]
/-- a loop that counts: st i is its state with i rounds done; it leaves at e -/
theorem lp_for {S R : Type} {step : S → Option (S ⊕ R)} (st : Nat → S) {r : R} (e : Nat) (h : ∀ i, i < e → step (st i) = some (.inl (st (i + 1)))) (hx : step (st e) = some (.inr r)) : ∀ n, e < n → lp step n (st 0) = some r := by
  have key : ∀ d i n, i + d = e → d < n → lp step n (st i) = some r := by
    intro d
    induction d with
    | zero =>
      intro i n hi hn
      obtain ⟨n', rfl⟩ : ∃ n', n = n' + 1 := ⟨n - 1, by omega⟩
      rw [show i = e by omega]
      exact lp_done hx
    | succ d ih =>
      intro i n hi hn
      obtain ⟨n', rfl⟩ : ∃ n', n = n' + 1 := ⟨n - 1, by omega⟩
      rw [lp_step (h i (by omega))]
      exact ih (i + 1) n' (by omega) (by omega)
  intro n hn
  exact key e 0 n (by omega) hn
/-- a loop by an invariant and a measure -/
theorem lp_inv {S R : Type} {step : S → Option (S ⊕ R)} (I : Nat → S → Prop) (Q : R → Prop) (h : ∀ i s, I i s → (∃ r, step s = some (.inr r) ∧ Q r) ∨ ∃ j s', j < i ∧ step s = some (.inl s') ∧ I j s') : ∀ i s, I i s → ∀ n, i < n → ∃ r, lp step n s = some r ∧ Q r := by
  intro i
  induction i using Nat.strongRecOn with
  | ind i ih =>
    intro s hi n hn
    obtain ⟨n', rfl⟩ : ∃ n', n = n' + 1 := ⟨n - 1, by omega⟩
    rcases h i s hi with ⟨r, h1, h2⟩ | ⟨j, s', hj, h1, h2⟩
    · exact ⟨r, lp_done h1, h2⟩
    · rw [lp_step h1]
      exact ih j hj s' h2 n' (by omega)
/-- two loops side by side -/
theorem lp_two {S1 R1 S2 R2 : Type} {step1 : S1 → Option (S1 ⊕ R1)} {step2 : S2 → Option (S2 ⊕ R2)} (I : Nat → S1 → S2 → Prop) (Q : R1 → R2 → Prop) (h : ∀ i s1 s2, I i s1 s2 → (∃ r1 r2, step1 s1 = some (.inr r1) ∧ step2 s2 = some (.inr r2) ∧ Q r1 r2) ∨ ∃ j s1' s2', j < i ∧ step1 s1 = some (.inl s1') ∧ step2 s2 = some (.inl s2') ∧ I j s1' s2') : ∀ i s1 s2, I i s1 s2 → ∀ n, i < n → ∃ r1 r2, lp step1 n s1 = some r1 ∧ lp step2 n s2 = some r2 ∧ Q r1 r2 := by
  intro i
  induction i using Nat.strongRecOn with
  | ind i ih =>
    intro s1 s2 hi n hn
    obtain ⟨n', rfl⟩ : ∃ n', n = n' + 1 := ⟨n - 1, by omega⟩
    rcases h i s1 s2 hi with ⟨r1, r2, h1, h2, h3⟩ | ⟨j, s1', s2', hj, h1, h2, h3⟩
    · exact ⟨r1, r2, lp_done h1, lp_done h2, h3⟩
    · rw [lp_step h1, lp_step h2]
      exact ih j hj s1' s2' h3 n' (by omega)
theorem isBelow_yes {j b : Nat} (h : j < b) (hb : b < 2 ^ 31) : fX5_isBelow (nI j) (nI b) = some 1 := by
  unfold fX5_isBelow
  rw [if_neg (nI_pos (by omega)), if_neg (nI_ge h hb)]
theorem isBelow_no {x : Int32} {b : Nat} (h : x < 0 ∨ nI b ≤ x) : fX5_isBelow x (nI b) = some 0 := by
  unfold fX5_isBelow
  by_cases q : x < 0
  · rw [if_pos q]
  · rw [if_neg q, if_pos (h.resolve_left q)]
theorem one_ne : ¬ (1 : Int32) = 0 := by decide
theorem ifn {α : Type} {q : Prop} [Decidable q] {a b : α} (h : ¬ q) : (if q then a else b) = b := if_neg h
theorem has2_yes {j k : Nat} (h : j < k) (hk : k ≤ 20) : fX2_has (nI j) (nI k) = some 1 := by
  have e : fX5_isBelow (nI j) (20 : Int32) = some 1 := isBelow_yes (b := 20) (by omega) (by omega)
  unfold fX2_has
  rw [isBelow_yes h (by omega)]
  simp only [bd1]
  rw [if_neg one_ne, e]
  simp only
  rw [if_neg one_ne]
theorem has2_no {x : Int32} {k : Nat} (h : x < 0 ∨ nI k ≤ x) : fX2_has x (nI k) = some 0 := by
  unfold fX2_has
  rw [isBelow_no h]
  simp only [bd1, if_true]
theorem has3_yes {j k : Nat} (h : j < k) (hk : k ≤ 100) : fX3_has (nI j) (nI k) = some 1 := by
  have e : fX5_isBelow (nI j) (100 : Int32) = some 1 := isBelow_yes (b := 100) (by omega) (by omega)
  unfold fX3_has
  rw [isBelow_yes h (by omega)]
  simp only [bd1]
  rw [if_neg one_ne, e]
  simp only
  rw [if_neg one_ne]
theorem has3_no {x : Int32} {k : Nat} (h : x < 0 ∨ nI k ≤ x) : fX3_has x (nI k) = some 0 := by
  unfold fX3_has
  rw [isBelow_no h]
  simp only [bd1, if_true]
theorem m1_lt {x : Int32} (h : ¬ x < 0) : (-1 : Int32) < x := by
  rw [Int32.lt_iff_toInt_lt] at h ⊢
  have e : (0 : Int32).toInt = 0 := by decide
  have e2 : (-1 : Int32).toInt = -1 := by decide
  omega
theorem nI_m1 {k : Nat} (h : 0 < k) : nI k - (1 : Int32) = nI (k - 1) := by
  obtain ⟨n, rfl⟩ : ∃ n, k = n + 1 := ⟨k - 1, by omega⟩
  exact nI_pred n
theorem le_lt {x : Int32} {k : Nat} (hk : 0 < k) (hk2 : k < 2 ^ 31) (h : nI k ≤ x) : nI (k - 1) < x := by
  rw [Int32.le_iff_toInt_le, nI_toInt hk2] at h
  rw [Int32.lt_iff_toInt_lt, nI_toInt (by omega)]
  omega
theorem within_yes {j k : Nat} (h : j < k) (hk : k < 2 ^ 31) : fX6_within (nI j) 0 (nI k - 1) = some 1 := by
  unfold fX6_within
  rw [nI_m1 (by omega), if_neg (nI_pos (by omega)), if_neg (nI_nlt (by omega) (by omega))]
theorem within_no {x : Int32} {k : Nat} (hk : k < 2 ^ 31) (h : x < 0 ∨ nI k ≤ x) : fX6_within x 0 (nI k - 1) = some 0 := by
  unfold fX6_within
  by_cases q : x < 0
  · rw [if_pos q]
  · rw [if_neg q]
    rcases Nat.eq_zero_or_pos k with e | e
    · subst e
      rw [if_pos]
      have : nI 0 - (1 : Int32) = -1 := by decide
      rw [this]
      exact m1_lt q
    · rw [nI_m1 e, if_pos (le_lt e hk (h.resolve_left q))]
theorem isRouter_yes {j k : Nat} (h : j < k) (hk : k < 2 ^ 31) : fX6_isRouter (nI j) (nI k) = some 1 := by
  unfold fX6_isRouter
  rw [within_yes h hk]
  rfl
theorem isRouter_no {x : Int32} {k : Nat} (hk : k < 2 ^ 31) (h : x < 0 ∨ nI k ≤ x) : fX6_isRouter x (nI k) = some 0 := by
  unfold fX6_isRouter
  rw [within_no hk h]
  rfl
theorem isNode_yes {j k : Nat} (h : j < k) (hk : k < 2 ^ 31) : fX6_isNode (nI j) (nI k) = some 1 := by
  unfold fX6_isNode
  rw [within_yes h hk]
  rfl
theorem isNode_no {x : Int32} {k : Nat} (hk : k < 2 ^ 31) (h : x < 0 ∨ nI k ≤ x) : fX6_isNode x (nI k) = some 0 := by
  unfold fX6_isNode
  rw [within_no hk h]
  rfl
/-- where a number lies -/
theorem ix (x : Int32) {k : Nat} (hk : k < 2 ^ 31) : (x < 0 ∨ nI k ≤ x) ∨ ∃ j, j < k ∧ x = nI j := by
  rcases pk_ix x hk with h | h | h
  · exact Or.inl (Or.inl h)
  · exact Or.inl (Or.inr h)
  · exact Or.inr h
theorem RelM.up {k : Nat} {unm mrk : Int32} {C F mk : Nat → Int32} {rec unk : Int32} (h : RelM (500 * k) unm mrk C F mk rec unk) : RelM (500 * (k + 1)) unm mrk C F mk rec unk := by
  obtain ⟨cn, fs, a, b, c, d⟩ := h
  exact ⟨cn, fs, a, b, fun i hi => ⟨(c i hi).1, (c i hi).2.1, Nat.le_trans (c i hi).2.2 (by omega)⟩, d⟩
/-- an argument in a range that begins at 0, both ways of asking -/
theorem rng0 (x : Int32) (b : Nat) (hb : b < 2 ^ 31) : (∃ j, j < b + 1 ∧ x = nI j ∧ fX5_isBelow x (nI (b + 1)) = some 1 ∧ fX6_within x 0 (nI b) = some 1) ∨ (fX5_isBelow x (nI (b + 1)) = some 0 ∧ fX6_within x 0 (nI b) = some 0 ∨ 2 ^ 31 ≤ b + 1) := by
  by_cases hb2 : b + 1 < 2 ^ 31
  · have e : nI (b + 1) - 1 = nI b := nI_pred b
    rcases ix x hb2 with h | ⟨j, hj, rfl⟩
    · exact Or.inr (Or.inl ⟨isBelow_no h, by rw [← e]; exact within_no hb2 h⟩)
    · exact Or.inl ⟨j, hj, rfl, isBelow_yes hj hb2, by rw [← e]; exact within_yes hj hb2⟩
  · exact Or.inr (Or.inr (by omega))
theorem below_within (x : Int32) (b : Nat) (hb : b + 1 < 2 ^ 31) : (∃ j, j < b + 1 ∧ x = nI j ∧ fX5_isBelow x (nI (b + 1)) = some 1 ∧ fX6_within x 0 (nI b) = some 1) ∨ (fX5_isBelow x (nI (b + 1)) = some 0 ∧ fX6_within x 0 (nI b) = some 0) := by
  rcases rng0 x b (by omega) with h | h | h
  · exact Or.inl h
  · exact Or.inr h
  · omega
/-- an argument from 1 on, both ways -/
theorem one_within (x : Int32) (b : Nat) (hb : b < 2 ^ 31) : (∃ j, 1 ≤ j ∧ j ≤ b ∧ x = nI j ∧ fX5_isFromOneTo x (nI b) = some 1 ∧ fX6_within x 1 (nI b) = some 1) ∨ (fX5_isFromOneTo x (nI b) = some 0 ∧ fX6_within x 1 (nI b) = some 0) := by
  have e1 : (1 : Int32).toInt = 1 := by decide
  unfold fX5_isFromOneTo fX6_within
  by_cases q : x < 1
  · rw [if_pos q]
    exact Or.inr ⟨rfl, rfl⟩
  · rw [if_neg q]
    by_cases q2 : nI b < x
    · rw [if_pos q2]
      exact Or.inr ⟨rfl, rfl⟩
    · rw [if_neg q2]
      rw [Int32.lt_iff_toInt_lt, e1] at q
      rw [Int32.lt_iff_toInt_lt, nI_toInt hb] at q2
      refine Or.inl ⟨x.toInt.toNat, by omega, by omega, ?_, rfl, rfl⟩
      apply Int32.toInt_inj.mp
      rw [nI_toInt (by omega)]
      omega
