/-! the reference puts a node at its place -/
def shf (f : Nat → Int32) (lo hi : Nat) : Nat → Int32 := fun x => if lo < x ∧ x ≤ hi then f (x - 1) else f x
def cst (f : Nat → Int32) (v : Int32) (lo hi : Nat) : Nat → Int32 := fun x => if lo < x ∧ x ≤ hi then v else f x
theorem shf_0 (f : Nat → Int32) (t : Nat) : shf f t t = f := by
  funext x
  unfold shf
  rw [if_neg (by omega)]
theorem cst_0 (f : Nat → Int32) (v : Int32) (t : Nat) : cst f v t t = f := by
  funext x
  unfold cst
  rw [if_neg (by omega)]
theorem shf_lo {f : Nat → Int32} {lo hi x : Nat} (h : x ≤ lo) : shf f lo hi x = f x := by
  unfold shf
  rw [if_neg (by omega)]
theorem cst_lo {f : Nat → Int32} {v : Int32} {lo hi x : Nat} (h : x ≤ lo) : cst f v lo hi x = f x := by
  unfold cst
  rw [if_neg (by omega)]
theorem shf_up {f : Nat → Int32} {lo hi : Nat} (h : lo + 1 ≤ hi) : upd (shf f (lo + 1) hi) (lo + 1) (f lo) = shf f lo hi := by
  funext x
  by_cases e : x = lo + 1
  · subst e
    rw [pk_us]
    unfold shf
    rw [if_pos (by omega)]
    rfl
  · rw [pk_un e]
    unfold shf
    by_cases q : lo + 1 < x ∧ x ≤ hi
    · rw [if_pos q, if_pos (by omega)]
    · rw [if_neg q, if_neg (by omega)]
theorem cst_up {f : Nat → Int32} {v : Int32} {lo hi : Nat} (h : lo + 1 ≤ hi) : upd (cst f v (lo + 1) hi) (lo + 1) v = cst f v lo hi := by
  funext x
  by_cases e : x = lo + 1
  · subst e
    rw [pk_us]
    unfold cst
    rw [if_pos (by omega)]
  · rw [pk_un e]
    unfold cst
    by_cases q : lo + 1 < x ∧ x ≤ hi
    · rw [if_pos q, if_pos (by omega)]
    · rw [if_neg q, if_neg (by omega)]
/-- ranks with one more element -/
theorem rank_add {Q : Nat → Bool} {a : Nat} (hQ : Q a = false) (n : Nat) : fb_ct (fun b => if b = a then true else Q b) n = fb_ct Q n + if a < n then 1 else 0 := by
  by_cases h : a < n
  · have := fb_ct_upd Q true h
    rw [hQ] at this
    rw [if_pos h]
    simpa using this
  · rw [if_neg h, fb_ct_out Q true (by omega), Nat.add_zero]
theorem rank_lt {Q : Nat → Bool} {b a : Nat} (hb : Q b = true) (h : b < a) : fb_ct Q b < fb_ct Q a := by
  have c1 := fb_ct_succ Q b
  rw [if_pos hb] at c1
  have c2 := fb_ct_mono Q (show b + 1 ≤ a by omega)
  omega
theorem adds_full {N : Nat} {p1 p2 p3 : Int32} {A D P : Nat → Int32} : fX6_adds N p1 p2 p3 (nI 100) A D P = some (0, nI 100, A, D, P) := by
  unfold fX6_adds
  rw [if_pos (show nI 100 = (100 : Int32) from rfl)]
theorem adds_n {N t0 c d a : Nat} {Q : Nat → Bool} {fA fD fP : Nat → Int32} {par : Int32} (hN : 5000 ≤ N) (hA : ∀ b, b < 4096 → Q b = true → fA (t0 + fb_ct Q b) = nI b) (hc : fb_ct Q 4096 = c) (hD : ∀ j, j < c → fD (t0 + j) = nI d ∧ fP (t0 + j) = par) (hb : t0 = 0 ∨ ¬ (fD (t0 - 1) = nI d ∧ fP (t0 - 1) = par)) (ha : a < 4096) (hQ : Q a = false) (ht : t0 + c < 100) :
    ∃ fA' fD' fP', fX6_adds N (nI a) (nI d) par (nI (t0 + c)) fA fD fP = some (1, nI (t0 + c + 1), fA', fD', fP') ∧ (∀ i, i < t0 → fA' i = fA i ∧ fD' i = fD i ∧ fP' i = fP i) ∧ (∀ b, b < 4096 → (fun b => if b = a then true else Q b) b = true → fA' (t0 + fb_ct (fun b => if b = a then true else Q b) b) = nI b) ∧ (∀ j, j < c + 1 → fD' (t0 + j) = nI d ∧ fP' (t0 + j) = par) ∧ fb_ct (fun b => if b = a then true else Q b) 4096 = c + 1 := by
  have hr : fb_ct Q a ≤ c := by rw [← hc]; exact fb_ct_mono Q (by omega)
  have big : ∀ j, fb_ct Q a ≤ j → j < c → ∃ b, b < 4096 ∧ a < b ∧ fA (t0 + j) = nI b := by
    intro j h1 h2
    obtain ⟨b, b1, b2, b3⟩ := fb_ct_kth (p := Q) (k := j) (n := 4096) (by omega)
    refine ⟨b, b1, ?_, by rw [← b3]; exact hA b b1 b2⟩
    rcases Nat.lt_trichotomy a b with q | q | q
    · exact q
    · subst q; rw [hQ] at b2; cases b2
    · have := rank_lt b2 q; omega
  have small : ∀ j, j < fb_ct Q a → ∃ b, b < a ∧ fA (t0 + j) = nI b := by
    intro j h1
    obtain ⟨b, b1, b2, b3⟩ := fb_ct_kth (p := Q) (k := j) (n := 4096) (by omega)
    refine ⟨b, ?_, by rw [← b3]; exact hA b b1 b2⟩
    rcases Nat.lt_or_ge b a with q | q
    · exact q
    · have := fb_ct_mono Q q; omega
  generalize hρ : fb_ct Q a = ρ at *
  have hL := lp_for (step := fun s : Int32 × (Nat → Int32) × (Nat → Int32) × (Nat → Int32) => bX6_adds_17 (nI a) (nI d) par (nI (t0 + c)) s.1 s.2.1 s.2.2.1 s.2.2.2) (fun i => (nI (t0 + c - i), shf fA (t0 + c - i) (t0 + c), cst fD (nI d) (t0 + c - i) (t0 + c), cst fP par (t0 + c - i) (t0 + c))) (c - ρ) (r := (1, nI (t0 + c + 1), upd (shf fA (t0 + ρ) (t0 + c)) (t0 + ρ) (nI a), upd (cst fD (nI d) (t0 + ρ) (t0 + c)) (t0 + ρ) (nI d), upd (cst fP par (t0 + ρ) (t0 + c)) (t0 + ρ) par)) (fun i hi => by
    obtain ⟨lo, hlo⟩ : ∃ lo, t0 + c - i = lo + 1 := ⟨t0 + c - i - 1, by omega⟩
    have hlo2 : t0 + c - (i + 1) = lo := by omega
    obtain ⟨b, b1, b2, b3⟩ := big (c - i - 1) (by omega) (by omega)
    obtain ⟨d1, d2⟩ := hD (c - i - 1) (by omega)
    rw [show t0 + (c - i - 1) = lo by omega] at b3 d1 d2
    show bX6_adds_17 (nI a) (nI d) par (nI (t0 + c)) (nI (t0 + c - i)) (shf fA (t0 + c - i) (t0 + c)) (cst fD (nI d) (t0 + c - i) (t0 + c)) (cst fP par (t0 + c - i) (t0 + c)) = some (.inl (nI (t0 + c - (i + 1)), shf fA (t0 + c - (i + 1)) (t0 + c), cst fD (nI d) (t0 + c - (i + 1)) (t0 + c), cst fP par (t0 + c - (i + 1)) (t0 + c)))
    rw [hlo, hlo2]
    unfold bX6_adds_17
    rw [if_neg (nI_nle (by omega) (by omega)), nI_pred, gt_in (show lo < 101 by omega) (by omega), nI_clamp (show lo < 2 ^ 31 by omega), cst_lo (Nat.le_succ _), d1, if_pos rfl, cst_lo (Nat.le_succ _), d2, if_pos rfl, shf_lo (Nat.le_succ _), b3, if_neg (nI_ge b2 (by omega)), gt_in (show lo + 1 < 101 by omega) (by omega), nI_clamp (show lo + 1 < 2 ^ 31 by omega), pk_m1, ← b3, shf_up (by omega), cst_up (by omega), cst_up (by omega)]) (by
    show bX6_adds_17 (nI a) (nI d) par (nI (t0 + c)) (nI (t0 + c - (c - ρ))) (shf fA (t0 + c - (c - ρ)) (t0 + c)) (cst fD (nI d) (t0 + c - (c - ρ)) (t0 + c)) (cst fP par (t0 + c - (c - ρ)) (t0 + c)) = _
    rw [show t0 + c - (c - ρ) = t0 + ρ by omega]
    unfold bX6_adds_17
    rw [gt_in (show t0 + ρ < 101 by omega) (by omega), nI_clamp (show t0 + ρ < 2 ^ 31 by omega), nI_1]
    rcases Nat.eq_zero_or_pos (t0 + ρ) with z | z
    · rw [if_pos (by rw [z]; decide)]
    · obtain ⟨lo, hlo⟩ : ∃ lo, t0 + ρ = lo + 1 := ⟨t0 + ρ - 1, by omega⟩
      rw [if_neg (nI_nle z (by omega)), hlo, nI_pred, gt_in (show lo < 101 by omega) (by omega), nI_clamp (show lo < 2 ^ 31 by omega), cst_lo (Nat.le_succ _), cst_lo (Nat.le_succ _), shf_lo (Nat.le_succ _)]
      rcases Nat.eq_zero_or_pos ρ with w | w
      · have hh := hb.resolve_left (by omega)
        rw [show t0 - 1 = lo by omega] at hh
        by_cases u1 : fD lo = nI d
        · have u2 : ¬ fP lo = par := fun u2 => hh ⟨u1, u2⟩
          rw [if_pos u1, if_neg u2]
        · rw [if_neg u1]
      · obtain ⟨b, b1, b2⟩ := small (ρ - 1) (by omega)
        obtain ⟨d1, d2⟩ := hD (ρ - 1) (by omega)
        rw [show t0 + (ρ - 1) = lo by omega] at b2 d1 d2
        rw [d1, if_pos rfl, d2, if_pos rfl, b2, if_pos (nI_le (by omega) (by omega))]) N (by omega)
  rw [Nat.sub_zero, shf_0, cst_0, cst_0] at hL
  refine ⟨upd (shf fA (t0 + ρ) (t0 + c)) (t0 + ρ) (nI a), upd (cst fD (nI d) (t0 + ρ) (t0 + c)) (t0 + ρ) (nI d), upd (cst fP par (t0 + ρ) (t0 + c)) (t0 + ρ) par, ?_, fun i hi => ?_, fun b hb2 hQ2 => ?_, fun j hj => ?_, ?_⟩
  · unfold fX6_adds
    rw [if_neg (fun q => by have := (nI_eq (b := 100) (by omega) (by omega)).mp q; omega)]
    exact hL
  · rw [pk_un (by omega), pk_un (by omega), pk_un (by omega), shf_lo (by omega), cst_lo (by omega), cst_lo (by omega)]
    exact ⟨rfl, rfl, rfl⟩
  · rw [rank_add hQ]
    by_cases e : b = a
    · subst e
      rw [if_neg (by omega), Nat.add_zero, hρ, pk_us]
    · have hQb : Q b = true := by simpa [e] using hQ2
      have hb3 := hA b hb2 hQb
      rcases Nat.lt_or_ge a b with q | q
      · have h1 := fb_ct_mono Q (show a ≤ b by omega)
        have h2 := rank_lt hQb hb2
        rw [if_pos q, pk_un (by omega)]
        unfold shf
        rw [if_pos (by omega), show t0 + (fb_ct Q b + 1) - 1 = t0 + fb_ct Q b by omega, hb3]
      · have h1 := rank_lt hQb (show b < a by omega)
        rw [if_neg (by omega), Nat.add_zero, pk_un (by omega), shf_lo (by omega), hb3]
  · by_cases e : j = ρ
    · subst e
      rw [pk_us, pk_us]
      exact ⟨rfl, rfl⟩
    · rw [pk_un (by omega), pk_un (by omega)]
      unfold cst
      by_cases q : t0 + ρ < t0 + j ∧ t0 + j ≤ t0 + c
      · rw [if_pos q, if_pos q]; exact ⟨rfl, rfl⟩
      · rw [if_neg q, if_neg q]; exact hD j (by omega)
  · rw [rank_add hQ, hc, if_pos ha]
