/-! the nodes of a distance with one parent: both ways to find them -/
def PA (cn : Nat → Nat) (d M : Nat) : Nat → Bool := fun a => (pF cn (4 * d + 0) (frag (wd a ^^^ M) 0) && pF cn (4 * d + 1) (frag (wd a ^^^ M) 1)) && (pF cn (4 * d + 2) (frag (wd a ^^^ M) 2) && pF cn (4 * d + 3) (frag (wd a ^^^ M) 3))
theorem pF_iff {cn : Nat → Nat} {q f : Nat} : pF cn q f = true ↔ 0 < cn (32 * q + f) := by unfold pF; simp
theorem PA_iff {cn : Nat → Nat} {d M a : Nat} : PA cn d M a = true ↔ ∀ o, o < 4 → 0 < cn (32 * (4 * d + o) + frag (wd a ^^^ M) o) := by
  unfold PA
  rw [Bool.and_eq_true, Bool.and_eq_true, Bool.and_eq_true, pF_iff, pF_iff, pF_iff, pF_iff]
  constructor
  · rintro ⟨⟨h0, h1⟩, h2, h3⟩ o ho
    rcases (show o = 0 ∨ o = 1 ∨ o = 2 ∨ o = 3 by omega) with rfl | rfl | rfl | rfl
    · exact h0
    · exact h1
    · exact h2
    · exact h3
  · intro h
    exact ⟨⟨h 0 (by omega), h 1 (by omega)⟩, h 2 (by omega), h 3 (by omega)⟩
theorem xor_cc (x M : Nat) : (x ^^^ M) ^^^ M = x := by
  apply Nat.eq_of_testBit_eq
  intro i
  rw [Nat.testBit_xor, Nat.testBit_xor]
  cases x.testBit i <;> cases M.testBit i <;> rfl
theorem wd_div (a : Nat) : wd a / 256 = a := by have := dg_lt a; unfold wd; omega
theorem isWord_n {v : Nat} (hv : v < 2 ^ 20) : fX6_isWord (nI v) = some (if v = wd (v / 256) then 1 else 0) := by
  have e6 : ∀ x, fX6_digestOf x = fX5_digestOf x := fun _ => rfl
  have hg := dg_lt (v / 256)
  have e1 : nI v / (256 : Int32) = nI (v / 256) := pk_div (d := 256) (by omega) (by omega) (by omega)
  have e2 : nI v - nI v / (256 : Int32) * (256 : Int32) = nI (v % 256) := pk_rem (d := 256) (by omega) (by omega) (by omega)
  unfold fX6_isWord
  rw [e2, e1, e6, digestOf_n (by omega), bd1_s]
  by_cases q : v = wd (v / 256)
  · have : dg (v / 256) = v % 256 := by unfold wd at q; omega
    rw [if_pos q, this, if_pos rfl]
  · rw [if_neg q, if_neg (fun z => q (by have := (nI_eq (by omega) (by omega)).mp z; unfold wd; omega))]
/-- which addresses the first k words gave -/
def Qf (w : Nat → Nat) (M : Nat) : Nat → Nat → Bool
  | 0, _ => false
  | k + 1, a => Qf w M k a || decide (w k = wd a ^^^ M)
theorem Qf_iff {w : Nat → Nat} {M a : Nat} : ∀ k, Qf w M k a = true ↔ ∃ j, j < k ∧ w j = wd a ^^^ M
  | 0 => by
    constructor
    · intro h; cases h
    · rintro ⟨j, hj, -⟩; omega
  | k + 1 => by
    show (Qf w M k a || decide (w k = wd a ^^^ M)) = true ↔ _
    rw [Bool.or_eq_true, Qf_iff k, decide_eq_true_iff]
    constructor
    · rintro (⟨j, hj, e⟩ | e)
      · exact ⟨j, by omega, e⟩
      · exact ⟨k, by omega, e⟩
    · rintro ⟨j, hj, e⟩
      rcases Nat.lt_or_ge j k with q | q
      · exact Or.inl ⟨j, q, e⟩
      · have : j = k := by omega
        subst this
        exact Or.inr e
theorem nodes6 {N d M t0 : Nat} {cn : Nat → Nat} {wa fA fD fP : Nat → Int32} {par : Int32} (hN : 5000 ≤ N) (hW : prd cn d 4 ≤ 4096) (hM : M < 2 ^ 20) (hwa : ∀ k, k < prd cn d 4 → wa k = nI (wA cn d k)) (ht : t0 ≤ 100) (hb : t0 = 0 ∨ ¬ (fD (t0 - 1) = nI d ∧ fP (t0 - 1) = par)) :
    (t0 + fb_ct (PA cn d M) 4096 ≤ 100 ∧ ∃ fA' fD' fP', lp (fun s => bX6_findNodes_23 N (nI d) par (nI (prd cn d 4)) wa (nI M) s.1 s.2.1 s.2.2.1 s.2.2.2.1 s.2.2.2.2) N ((0 : Int32), nI t0, fA, fD, fP) = some (1, nI (t0 + fb_ct (PA cn d M) 4096), fA', fD', fP') ∧ (∀ i, i < t0 → fA' i = fA i ∧ fD' i = fD i ∧ fP' i = fP i) ∧ (∀ a, a < 4096 → PA cn d M a = true → fA' (t0 + fb_ct (PA cn d M) a) = nI a) ∧ ∀ j, j < fb_ct (PA cn d M) 4096 → fD' (t0 + j) = nI d ∧ fP' (t0 + j) = par) ∨
    (100 < t0 + fb_ct (PA cn d M) 4096 ∧ ∃ x, lp (fun s => bX6_findNodes_23 N (nI d) par (nI (prd cn d 4)) wa (nI M) s.1 s.2.1 s.2.2.1 s.2.2.2.1 s.2.2.2.2) N ((0 : Int32), nI t0, fA, fD, fP) = some (0, x)) := by
  have hQP : ∀ a, a < 4096 → Qf (wA cn d) M (prd cn d 4) a = PA cn d M a := by
    intro a ha
    have hv : wd a ^^^ M < 2 ^ 20 := xor_lt20 (wd_lt ha) hM
    have hiff : Qf (wA cn d) M (prd cn d 4) a = true ↔ PA cn d M a = true := by
      rw [Qf_iff, PA_iff]
      constructor
      · rintro ⟨j, hj, e⟩ o ho
        rw [← e]
        exact (wA_in hj).2 o ho
      · intro h
        exact wA_onto hv h
    cases h1 : Qf (wA cn d) M (prd cn d 4) a <;> cases h2 : PA cn d M a
    · rfl
    · exact absurd (hiff.mpr h2) (by rw [h1]; simp)
    · exact absurd (hiff.mp h1) (by rw [h2]; simp)
    · rfl
  have hct : ∀ n, n ≤ 4096 → fb_ct (Qf (wA cn d) M (prd cn d 4)) n = fb_ct (PA cn d M) n := fun n hn => fb_ct_cong (fun a ha => hQP a (by omega))
  obtain ⟨r, e, hr⟩ := lp_inv (step := fun s : Int32 × Int32 × (Nat → Int32) × (Nat → Int32) × (Nat → Int32) => bX6_findNodes_23 N (nI d) par (nI (prd cn d 4)) wa (nI M) s.1 s.2.1 s.2.2.1 s.2.2.2.1 s.2.2.2.2)
    (fun i s => ∃ (k c : Nat) (fA' fD' fP' : Nat → Int32), k ≤ prd cn d 4 ∧ i = prd cn d 4 - k ∧ s = (nI k, nI (t0 + c), fA', fD', fP') ∧ fb_ct (Qf (wA cn d) M k) 4096 = c ∧ t0 + c ≤ 100 ∧ (∀ i, i < t0 → fA' i = fA i ∧ fD' i = fD i ∧ fP' i = fP i) ∧ (∀ a, a < 4096 → Qf (wA cn d) M k a = true → fA' (t0 + fb_ct (Qf (wA cn d) M k) a) = nI a) ∧ ∀ j, j < c → fD' (t0 + j) = nI d ∧ fP' (t0 + j) = par)
    (fun r => (t0 + fb_ct (PA cn d M) 4096 ≤ 100 ∧ ∃ fA' fD' fP', r = (1, nI (t0 + fb_ct (PA cn d M) 4096), fA', fD', fP') ∧ (∀ i, i < t0 → fA' i = fA i ∧ fD' i = fD i ∧ fP' i = fP i) ∧ (∀ a, a < 4096 → PA cn d M a = true → fA' (t0 + fb_ct (PA cn d M) a) = nI a) ∧ ∀ j, j < fb_ct (PA cn d M) 4096 → fD' (t0 + j) = nI d ∧ fP' (t0 + j) = par) ∨ (100 < t0 + fb_ct (PA cn d M) 4096 ∧ ∃ x, r = (0, x))) (by
    rintro i s ⟨k, c, fA', fD', fP', hk, rfl, rfl, hc, htc, hun, hA, hD⟩
    show (∃ r, bX6_findNodes_23 N (nI d) par (nI (prd cn d 4)) wa (nI M) (nI k) (nI (t0 + c)) fA' fD' fP' = _ ∧ _) ∨ ∃ j s', j < _ ∧ bX6_findNodes_23 N (nI d) par (nI (prd cn d 4)) wa (nI M) (nI k) (nI (t0 + c)) fA' fD' fP' = _ ∧ _
    unfold bX6_findNodes_23
    by_cases hkW : k = prd cn d 4
    · subst hkW
      rw [if_pos (Int32.le_refl _)]
      rw [hct 4096 (Nat.le_refl _)] at hc
      refine Or.inl ⟨_, rfl, Or.inl ⟨by omega, fA', fD', fP', by rw [hc], hun, fun a ha h => ?_, fun j hj => hD j (by omega)⟩⟩
      rw [← hct a (by omega)]
      exact hA a ha (by rw [hQP a ha]; exact h)
    · have hk2 : k < prd cn d 4 := by omega
      have hv : wA cn d k ^^^ M < 2 ^ 20 := xor_lt20 (wA_in hk2).1 hM
      rw [if_neg (nI_ge hk2 (by omega)), gt_in (by omega) (by omega), nI_clamp (by omega), hwa k hk2, fb_xorI, nm_eq, isWord_n hv, bd1_s]
      by_cases q : wA cn d k ^^^ M = wd ((wA cn d k ^^^ M) / 256)
      · rw [if_pos q, if_neg one_ne]
        generalize hae : (wA cn d k ^^^ M) / 256 = a at *
        have ha : a < 4096 := by omega
        have e256 : nI (wA cn d k ^^^ M) / (256 : Int32) = nI a := by
          rw [← hae]; exact pk_div (d := 256) (by omega) (by omega) (by omega)
        have hw : wA cn d k = wd a ^^^ M := by rw [← q, xor_cc]
        have hQa : Qf (wA cn d) M k a = false := by
          cases h : Qf (wA cn d) M k a
          · rfl
          · obtain ⟨j, hj, ej⟩ := (Qf_iff k).mp h
            have := wA_one (show j < prd cn d 4 by omega) hk2 (ej.trans hw.symm)
            omega
        have hQn : Qf (wA cn d) M (k + 1) = fun b => if b = a then true else Qf (wA cn d) M k b := by
          funext b
          show (Qf (wA cn d) M k b || decide (wA cn d k = wd b ^^^ M)) = _
          by_cases e : b = a
          · subst e
            rw [if_pos rfl, decide_eq_true hw, Bool.or_true]
          · rw [if_neg e, decide_eq_false (fun z => e ?_), Bool.or_false]
            have h2 : wd b = wd a := by rw [← xor_cc (wd b) M, ← z, hw, xor_cc]
            rw [← wd_div b, h2, wd_div]
        rw [e256]
        rcases Nat.lt_or_ge (t0 + c) 100 with hlt | hge
        · have hb' : t0 = 0 ∨ ¬ (fD' (t0 - 1) = nI d ∧ fP' (t0 - 1) = par) := by
            rcases Nat.eq_zero_or_pos t0 with z | z
            · exact Or.inl z
            · obtain ⟨-, u2, u3⟩ := hun (t0 - 1) (by omega)
              rw [u2, u3]
              exact hb
          obtain ⟨gA, gD, gP, w1, w2, w3, w4, w5⟩ := adds_n hN hA hc hD hb' ha hQa hlt
          rw [w1, bd5_s, if_neg one_ne, nI_1]
          refine Or.inr ⟨prd cn d 4 - (k + 1), _, by omega, rfl, k + 1, c + 1, gA, gD, gP, by omega, rfl, rfl, by rw [hQn]; exact w5, by omega, fun i hi => ?_, fun b hb2 h => ?_, w4⟩
          · obtain ⟨x1, x2, x3⟩ := w2 i hi
            obtain ⟨y1, y2, y3⟩ := hun i hi
            exact ⟨x1.trans y1, x2.trans y2, x3.trans y3⟩
          · rw [hQn] at h ⊢
            exact w3 b hb2 h
        · have e100 : t0 + c = 100 := by omega
          rw [e100, adds_full, bd5_s, if_pos rfl]
          refine Or.inl ⟨_, rfl, Or.inr ⟨?_, _, rfl⟩⟩
          have s1 : fb_ct (Qf (wA cn d) M (k + 1)) 4096 = c + 1 := by rw [hQn, rank_add hQa, hc, if_pos ha]
          have s2 : fb_ct (Qf (wA cn d) M (k + 1)) 4096 ≤ fb_ct (Qf (wA cn d) M (prd cn d 4)) 4096 := fb_ct_sub (fun b _ h => by
            obtain ⟨j, hj, ej⟩ := (Qf_iff (k + 1)).mp h
            exact (Qf_iff _).mpr ⟨j, by omega, ej⟩)
          rw [hct 4096 (Nat.le_refl _)] at s2
          omega
      · rw [if_neg q, if_pos rfl, nI_1]
        have hQn : Qf (wA cn d) M (k + 1) = Qf (wA cn d) M k := by
          funext b
          show (Qf (wA cn d) M k b || decide (wA cn d k = wd b ^^^ M)) = _
          rw [decide_eq_false (fun z => q ?_), Bool.or_false]
          rw [z, xor_cc, wd_div]
        exact Or.inr ⟨prd cn d 4 - (k + 1), _, by omega, rfl, k + 1, c, fA', fD', fP', by omega, rfl, rfl, by rw [hQn]; exact hc, htc, hun, by rw [hQn]; exact hA, hD⟩) (prd cn d 4) ((0 : Int32), nI t0, fA, fD, fP) ⟨0, 0, fA, fD, fP, by omega, by omega, rfl, by
        have z : ∀ n, fb_ct (Qf (wA cn d) M 0) n = 0 := by
          intro n
          rw [fb_ct_zero]
          intro k hk
          rfl
        exact z 4096, by omega, fun i hi => ⟨rfl, rfl, rfl⟩, fun a ha h => (by cases h), fun j hj => absurd hj (by omega)⟩ N (by omega)
  rcases hr with ⟨h1, fA', fD', fP', rfl, h2⟩ | ⟨h1, x, rfl⟩
  · exact Or.inl ⟨h1, fA', fD', fP', e, h2⟩
  · exact Or.inr ⟨h1, x, e⟩
