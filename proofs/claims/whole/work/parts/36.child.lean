/-! the class goes through the addresses -/
theorem frag3 {a : Nat} (M : Nat) : frag (wd a ^^^ M) 3 = (a / 128 % 32) ^^^ frag M 3 := by
  rw [frag_xor]
  congr 1
  have := dg_lt a
  show wd a / 32768 % 32 = _
  unfold wd
  omega
theorem frag2 {a : Nat} (M : Nat) : frag (wd a ^^^ M) 2 = (a / 4 % 32) ^^^ frag M 2 := by
  rw [frag_xor]
  congr 1
  have := dg_lt a
  show wd a / 1024 % 32 = _
  unfold wd
  omega
/-- the table behind the addresses below A0 -/
def C5 (P : Nat → Bool) (t0 d : Nat) (par : Int32) (SA SD SP : Nat → Int32) (A0 : Nat) (s : Int32 × (Nat → Int32) × (Nat → Int32) × (Nat → Int32)) : Prop :=
  s.1 = nI (t0 + fb_ct P A0) ∧ (∀ i, i < t0 → s.2.1 i = SA i ∧ s.2.2.1 i = SD i ∧ s.2.2.2 i = SP i) ∧ (∀ a, a < A0 → P a = true → s.2.1 (t0 + fb_ct P a) = nI a) ∧ ∀ j, j < fb_ct P A0 → s.2.2.1 (t0 + j) = nI d ∧ s.2.2.2 (t0 + j) = par
theorem ct_skip {P : Nat → Bool} {A0 : Nat} : ∀ n, (∀ a, A0 ≤ a → a < A0 + n → P a = false) → fb_ct P (A0 + n) = fb_ct P A0
  | 0, _ => rfl
  | n + 1, h => by
    have c := fb_ct_succ P (A0 + n)
    rw [if_neg (by rw [h (A0 + n) (by omega) (by omega)]; simp)] at c
    show fb_ct P (A0 + n + 1) = _
    rw [c, ct_skip n (fun a h1 h2 => h a h1 (by omega)), Nat.add_zero]
theorem C5.skip {P : Nat → Bool} {t0 d : Nat} {par : Int32} {SA SD SP : Nat → Int32} {A0 : Nat} {s : Int32 × (Nat → Int32) × (Nat → Int32) × (Nat → Int32)} (h : C5 P t0 d par SA SD SP A0 s) (n : Nat) (hn : ∀ a, A0 ≤ a → a < A0 + n → P a = false) : C5 P t0 d par SA SD SP (A0 + n) s := by
  have e := ct_skip n hn
  obtain ⟨h1, h2, h3, h4⟩ := h
  refine ⟨by rw [e]; exact h1, h2, fun a ha hP => ?_, by rw [e]; exact h4⟩
  rcases Nat.lt_or_ge a A0 with q | q
  · exact h3 a q hP
  · rw [hn a q ha] at hP; cases hP
theorem append_full {x y z : Int32} {A D P : Nat → Int32} : fX3_append x y z (nI 100) A D P = some (0, nI 100, A, D, P) := by
  have e : fX5_isBelow (nI 100) (100 : Int32) = some 0 := isBelow_no (b := 100) (Or.inr (Int32.le_refl _))
  unfold fX3_append
  rw [e]
  rfl
theorem append_n {t : Nat} {x y z : Int32} {A D P : Nat → Int32} (h : t < 100) : fX3_append x y z (nI t) A D P = some (1, nI (t + 1), upd A t x, upd D t y, upd P t z) := by
  have e : fX5_isBelow (nI t) (100 : Int32) = some 1 := isBelow_yes (b := 100) h (by omega)
  unfold fX3_append
  rw [e, bd1_s, if_neg one_ne, gt_in h (by omega), nI_clamp (by omega), nI_1]
theorem C5.add {P : Nat → Bool} {t0 d : Nat} {par : Int32} {SA SD SP : Nat → Int32} {A0 : Nat} {c : Int32} {A D Pp : Nat → Int32} (h : C5 P t0 d par SA SD SP A0 (c, A, D, Pp)) (hP : P A0 = true) : C5 P t0 d par SA SD SP (A0 + 1) (nI (t0 + fb_ct P A0 + 1), upd A (t0 + fb_ct P A0) (nI A0), upd D (t0 + fb_ct P A0) (nI d), upd Pp (t0 + fb_ct P A0) par) := by
  have e := fb_ct_succ P A0
  rw [if_pos hP] at e
  obtain ⟨h1, h2, h3, h4⟩ := h
  dsimp only at h1 h2 h3 h4
  refine ⟨by rw [e]; rfl, fun i hi => ?_, fun a ha hPa => ?_, fun j hj => ?_⟩
  · dsimp only
    rw [pk_un (by omega), pk_un (by omega), pk_un (by omega)]
    exact h2 i hi
  · dsimp only
    rcases Nat.lt_or_ge a A0 with q | q
    · have := rank_lt hPa q
      rw [pk_un (by omega)]
      exact h3 a q hPa
    · have : a = A0 := by omega
      subst this
      rw [pk_us]
  · dsimp only
    by_cases q : j = fb_ct P A0
    · subst q
      rw [pk_us, pk_us]
      exact ⟨rfl, rfl⟩
    · rw [pk_un (by omega), pk_un (by omega)]
      exact h4 j (by omega)
theorem nI_ad4 (n : Nat) : nI n + (4 : Int32) = nI (n + 4) := nI_add n 4
theorem nI_ad128 (n : Nat) : nI n + (128 : Int32) = nI (n + 128) := nI_add n 128
/-- four addresses -/
theorem child_in {N d M t0 blk part : Nat} {cn fs : Nat → Nat} {F SA SD SP : Nat → Int32} {par : Int32} {s : Int32 × (Nat → Int32) × (Nat → Int32) × (Nat → Int32)} (hN : 5000 ≤ N) (hd : d < 32) (hM : M < 2 ^ 20) (hF : ∀ q, q < 128 → F q = nI (fs q) ∧ fs q < 2 ^ 32 ∧ ∀ f, f < 32 → (fs q).testBit f = decide (0 < cn (32 * q + f))) (hp : part + 4 ≤ 4096) (ht : t0 + fb_ct (PA cn d M) part ≤ 100) (h : C5 (PA cn d M) t0 d par SA SD SP part s) :
    ∃ r, lp (fun s => bX5_findChildren_74 N (nI d) par (nI M) F (nI blk) (nI part) s.1 s.2.1 s.2.2.1 s.2.2.2.1 s.2.2.2.2) N (nI part, s) = some r ∧ ((t0 + fb_ct (PA cn d M) (part + 4) ≤ 100 ∧ ∃ s', C5 (PA cn d M) t0 d par SA SD SP (part + 4) s' ∧ r = .inl (nI blk, nI (part + 4), s')) ∨ (100 < t0 + fb_ct (PA cn d M) (part + 4) ∧ ∃ x, r = .inr (.inr (0, x)))) := by
  refine lp_inv (step := fun s : Int32 × Int32 × (Nat → Int32) × (Nat → Int32) × (Nat → Int32) => bX5_findChildren_74 N (nI d) par (nI M) F (nI blk) (nI part) s.1 s.2.1 s.2.2.1 s.2.2.2.1 s.2.2.2.2) (fun i s => ∃ x s0, part ≤ x ∧ x ≤ part + 4 ∧ i = part + 4 - x ∧ s = (nI x, s0) ∧ t0 + fb_ct (PA cn d M) x ≤ 100 ∧ C5 (PA cn d M) t0 d par SA SD SP x s0) (fun r => (t0 + fb_ct (PA cn d M) (part + 4) ≤ 100 ∧ ∃ s', C5 (PA cn d M) t0 d par SA SD SP (part + 4) s' ∧ r = .inl (nI blk, nI (part + 4), s')) ∨ (100 < t0 + fb_ct (PA cn d M) (part + 4) ∧ ∃ x, r = .inr (.inr (0, x)))) ?_ 4 (nI part, s) ⟨part, s, Nat.le_refl _, by omega, by omega, rfl, ht, h⟩ N (by omega)
  rintro i s ⟨x, ⟨c, A, D, Pp⟩, h1, h2, rfl, rfl, h3, h4⟩
  dsimp only
  unfold bX5_findChildren_74
  rw [nI_ad4]
  by_cases q : x = part + 4
  · subst q
    rw [if_pos (Int32.le_refl _)]
    exact Or.inl ⟨_, rfl, Or.inl ⟨h3, _, h4, rfl⟩⟩
  · have hx : x < 4096 := by omega
    rw [if_neg (nI_ge (by omega) (by omega)), wordOf_n hx, bd1_s, fb_xorI, nI_1]
    rcases holdsWord_n (w := wd x ^^^ M) (d := d) hN hd (by have := xor_lt20 (wd_lt hx) hM; omega) hF with ⟨w1, w2⟩ | ⟨⟨o, ho, w1⟩, w2⟩
    · have hPx : PA cn d M x = true := PA_iff.mpr w1
      have hc : c = nI (t0 + fb_ct (PA cn d M) x) := h4.1
      subst hc
      rw [w2, bd1_s, if_neg one_ne]
      have e := fb_ct_succ (PA cn d M) x
      rw [if_pos hPx] at e
      rcases Nat.lt_or_ge (t0 + fb_ct (PA cn d M) x) 100 with hlt | hge
      · rw [append_n hlt, bd5_s, if_neg one_ne]
        exact Or.inr ⟨part + 4 - (x + 1), _, by omega, rfl, x + 1, _, by omega, by omega, rfl, rfl, by omega, h4.add hPx⟩
      · rw [show t0 + fb_ct (PA cn d M) x = 100 by omega, append_full, bd5_s, if_pos rfl]
        have := fb_ct_mono (PA cn d M) (show x + 1 ≤ part + 4 by omega)
        exact Or.inl ⟨_, rfl, Or.inr ⟨by omega, _, rfl⟩⟩
    · have hPx : PA cn d M x = false := by
        cases hh : PA cn d M x
        · rfl
        · have := PA_iff.mp hh o ho
          omega
      have e := fb_ct_succ (PA cn d M) x
      rw [if_neg (by rw [hPx]; simp)] at e
      rw [w2, bd1_s, if_pos rfl]
      exact Or.inr ⟨part + 4 - (x + 1), _, by omega, rfl, x + 1, _, by omega, by omega, rfl, rfl, by omega, h4.skip 1 (fun a a1 a2 => by rw [show a = x by omega]; exact hPx)⟩
/-- 128 addresses -/
theorem child_mid {N d M t0 blk : Nat} {cn fs : Nat → Nat} {F SA SD SP : Nat → Int32} {par : Int32} {s : Int32 × (Nat → Int32) × (Nat → Int32) × (Nat → Int32)} (hN : 5000 ≤ N) (hd : d < 32) (hM : M < 2 ^ 20) (hF : ∀ q, q < 128 → F q = nI (fs q) ∧ fs q < 2 ^ 32 ∧ ∀ f, f < 32 → (fs q).testBit f = decide (0 < cn (32 * q + f))) (hp : blk + 128 ≤ 4096) (h4 : blk % 4 = 0) (ht : t0 + fb_ct (PA cn d M) blk ≤ 100) (h : C5 (PA cn d M) t0 d par SA SD SP blk s) :
    ∃ r, lp (fun s => bX5_findChildren_37 N (nI d) par (nI M) F s.1 s.2.1 s.2.2.1 s.2.2.2.1 s.2.2.2.2.1 s.2.2.2.2.2) N (nI blk, nI blk, s) = some r ∧ ((t0 + fb_ct (PA cn d M) (blk + 128) ≤ 100 ∧ ∃ s', C5 (PA cn d M) t0 d par SA SD SP (blk + 128) s' ∧ r = .inl (nI (blk + 128), s')) ∨ (100 < t0 + fb_ct (PA cn d M) (blk + 128) ∧ ∃ x, r = .inr (0, x))) := by
  refine lp_inv (step := fun s : Int32 × Int32 × Int32 × (Nat → Int32) × (Nat → Int32) × (Nat → Int32) => bX5_findChildren_37 N (nI d) par (nI M) F s.1 s.2.1 s.2.2.1 s.2.2.2.1 s.2.2.2.2.1 s.2.2.2.2.2) (fun i s => ∃ m s0, m ≤ 32 ∧ i = 32 - m ∧ s = (nI blk, nI (blk + 4 * m), s0) ∧ t0 + fb_ct (PA cn d M) (blk + 4 * m) ≤ 100 ∧ C5 (PA cn d M) t0 d par SA SD SP (blk + 4 * m) s0) (fun r => (t0 + fb_ct (PA cn d M) (blk + 128) ≤ 100 ∧ ∃ s', C5 (PA cn d M) t0 d par SA SD SP (blk + 128) s' ∧ r = .inl (nI (blk + 128), s')) ∨ (100 < t0 + fb_ct (PA cn d M) (blk + 128) ∧ ∃ x, r = .inr (0, x))) ?_ 32 (nI blk, nI blk, s) ⟨0, s, by omega, by omega, rfl, ht, h⟩ N (by omega)
  rintro i s ⟨m, ⟨c, A, D, Pp⟩, h1, rfl, rfl, h3, hC⟩
  dsimp only
  unfold bX5_findChildren_37
  rw [nI_ad128]
  by_cases q : m = 32
  · subst q
    rw [if_pos (show nI (blk + 128) ≤ nI (blk + 4 * 32) from Int32.le_refl _)]
    exact Or.inl ⟨_, rfl, Or.inl ⟨h3, _, hC, rfl⟩⟩
  · have hx : blk + 4 * m < 4096 := by omega
    rw [if_neg (nI_ge (by omega) (by omega)), wordOf_n hx, bd1_s, fb_xorI, show (2 : Int32) = nI 2 from rfl, holdsPart_n hd (by omega) (by have := xor_lt20 (wd_lt hx) hM; omega) hF, bd1_s, nI_ad4, show blk + 4 * m + 4 = blk + 4 * (m + 1) by omega]
    by_cases z : 0 < cn (32 * (4 * d + 2) + frag (wd (blk + 4 * m) ^^^ M) 2)
    · rw [if_pos z, if_neg one_ne]
      obtain ⟨r, e1, e2⟩ := child_in (blk := blk) hN hd hM hF (show blk + 4 * m + 4 ≤ 4096 by omega) h3 hC
      rw [show lp (fun s : Int32 × Int32 × (Nat → Int32) × (Nat → Int32) × (Nat → Int32) => bX5_findChildren_74 N (nI d) par (nI M) F (nI blk) (nI (blk + 4 * m)) s.1 s.2.1 s.2.2.1 s.2.2.2.1 s.2.2.2.2) N (nI (blk + 4 * m), c, A, D, Pp) = some r from e1]
      rcases e2 with ⟨u1, s', u2, rfl⟩ | ⟨u1, x, rfl⟩
      · exact Or.inr ⟨32 - (m + 1), _, by omega, rfl, m + 1, s', by omega, rfl, rfl, u1, u2⟩
      · have := fb_ct_mono (PA cn d M) (show blk + 4 * m + 4 ≤ blk + 128 by omega)
        exact Or.inl ⟨_, rfl, Or.inr ⟨by omega, x, rfl⟩⟩
    · rw [if_neg z, if_pos rfl]
      have hsk : ∀ a, blk + 4 * m ≤ a → a < blk + 4 * m + 4 → PA cn d M a = false := by
        intro a a1 a2
        cases hh : PA cn d M a
        · rfl
        · have := PA_iff.mp hh 2 (by omega)
          rw [frag2, show a / 4 = (blk + 4 * m) / 4 by omega, ← frag2] at this
          omega
      have e := ct_skip 4 hsk
      exact Or.inr ⟨32 - (m + 1), _, by omega, rfl, m + 1, _, by omega, rfl, rfl, by rw [show blk + 4 * (m + 1) = blk + 4 * m + 4 by omega]; omega, by rw [show blk + 4 * (m + 1) = blk + 4 * m + 4 by omega]; exact hC.skip 4 hsk⟩
theorem children5 {N d M t0 : Nat} {cn fs : Nat → Nat} {F SA SD SP : Nat → Int32} {par : Int32} (hN : 5000 ≤ N) (hd : d < 32) (hM : M < 2 ^ 20) (hF : ∀ q, q < 128 → F q = nI (fs q) ∧ fs q < 2 ^ 32 ∧ ∀ f, f < 32 → (fs q).testBit f = decide (0 < cn (32 * q + f))) (ht : t0 ≤ 100) :
    (t0 + fb_ct (PA cn d M) 4096 ≤ 100 ∧ ∃ s', C5 (PA cn d M) t0 d par SA SD SP 4096 s' ∧ fX5_findChildren N (nI d) par (nI M) F (nI t0) SA SD SP = some (1, s')) ∨ (100 < t0 + fb_ct (PA cn d M) 4096 ∧ ∃ x, fX5_findChildren N (nI d) par (nI M) F (nI t0) SA SD SP = some (0, x)) := by
  unfold fX5_findChildren
  obtain ⟨r, e, hr⟩ := lp_inv (step := fun s : Int32 × Int32 × (Nat → Int32) × (Nat → Int32) × (Nat → Int32) => bX5_findChildren_3 N (nI d) par (nI M) F s.1 s.2.1 s.2.2.1 s.2.2.2.1 s.2.2.2.2) (fun i s => ∃ b s0, b ≤ 32 ∧ i = 32 - b ∧ s = (nI (128 * b), s0) ∧ t0 + fb_ct (PA cn d M) (128 * b) ≤ 100 ∧ C5 (PA cn d M) t0 d par SA SD SP (128 * b) s0) (fun r => (t0 + fb_ct (PA cn d M) 4096 ≤ 100 ∧ ∃ s', C5 (PA cn d M) t0 d par SA SD SP 4096 s' ∧ r = (1, s')) ∨ (100 < t0 + fb_ct (PA cn d M) 4096 ∧ ∃ x, r = (0, x))) (by
    rintro i s ⟨b, ⟨c, A, D, Pp⟩, h1, rfl, rfl, h3, hC⟩
    dsimp only
    unfold bX5_findChildren_3
    by_cases q : b = 32
    · subst q
      rw [if_pos (show (4096 : Int32) ≤ nI (128 * 32) from Int32.le_refl _)]
      exact Or.inl ⟨_, rfl, Or.inl ⟨h3, _, hC, rfl⟩⟩
    · have hx : 128 * b < 4096 := by omega
      rw [if_neg (show ¬ (4096 : Int32) ≤ nI (128 * b) from nI_ge (b := 4096) hx (by omega)), wordOf_n hx, bd1_s, fb_xorI, show (3 : Int32) = nI 3 from rfl, holdsPart_n hd (by omega) (by have := xor_lt20 (wd_lt hx) hM; omega) hF, bd1_s, nI_ad128, show 128 * b + 128 = 128 * (b + 1) by omega]
      by_cases z : 0 < cn (32 * (4 * d + 3) + frag (wd (128 * b) ^^^ M) 3)
      · rw [if_pos z, if_neg one_ne]
        obtain ⟨r, e1, e2⟩ := child_mid (blk := 128 * b) hN hd hM hF (by omega) (by omega) h3 hC
        rw [show lp (fun s : Int32 × Int32 × Int32 × (Nat → Int32) × (Nat → Int32) × (Nat → Int32) => bX5_findChildren_37 N (nI d) par (nI M) F s.1 s.2.1 s.2.2.1 s.2.2.2.1 s.2.2.2.2.1 s.2.2.2.2.2) N (nI (128 * b), nI (128 * b), c, A, D, Pp) = some r from e1]
        rcases e2 with ⟨u1, s', u2, rfl⟩ | ⟨u1, x, rfl⟩
        · exact Or.inr ⟨32 - (b + 1), _, by omega, rfl, b + 1, s', by omega, rfl, rfl, u1, u2⟩
        · have := fb_ct_mono (PA cn d M) (show 128 * b + 128 ≤ 4096 by omega)
          exact Or.inl ⟨_, rfl, Or.inr ⟨by omega, x, rfl⟩⟩
      · rw [if_neg z, if_pos rfl]
        have hsk : ∀ a, 128 * b ≤ a → a < 128 * b + 128 → PA cn d M a = false := by
          intro a a1 a2
          cases hh : PA cn d M a
          · rfl
          · have := PA_iff.mp hh 3 (by omega)
            rw [frag3, show a / 128 = 128 * b / 128 by omega, ← frag3] at this
            omega
        have e := ct_skip 128 hsk
        exact Or.inr ⟨32 - (b + 1), _, by omega, rfl, b + 1, _, by omega, rfl, rfl, by rw [show 128 * (b + 1) = 128 * b + 128 by omega]; omega, by rw [show 128 * (b + 1) = 128 * b + 128 by omega]; exact hC.skip 128 hsk⟩) 32 ((0 : Int32), nI t0, SA, SD, SP) ⟨0, (nI t0, SA, SD, SP), by omega, by omega, rfl, ht, rfl, fun i hi => ⟨rfl, rfl, rfl⟩, fun a ha => absurd ha (by omega), fun j hj => absurd hj (Nat.not_lt_zero j)⟩ N (by omega)
  rcases hr with ⟨h1, s', h2, rfl⟩ | ⟨h1, x, rfl⟩
  · exact Or.inl ⟨h1, s', h2, e⟩
  · exact Or.inr ⟨h1, x, e⟩
