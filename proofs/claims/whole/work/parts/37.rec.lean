/-! levels, the tree, reconstruct -/
theorem b23 : bX6_findNodes_23b = bX6_findNodes_23 := rfl
theorem lp_skip {S R : Type} {step : S → Option (S ⊕ R)} (st : Nat → S) : ∀ (e : Nat), (∀ i, i < e → step (st i) = some (.inl (st (i + 1)))) → ∀ n, lp step (n + e) (st 0) = lp step n (st e)
  | 0, _, _ => rfl
  | e + 1, h, n => by
    rw [show n + (e + 1) = (n + 1) + e by omega, lp_skip st e (fun i hi => h i (by omega)) (n + 1), lp_step (h e (by omega))]
theorem lp_mono {S R : Type} {step : S → Option (S ⊕ R)} {r : R} : ∀ (n : Nat) (s : S), lp step n s = some r → ∀ k, lp step (n + k) s = some r
  | 0, s, h, k => (lp_0 h).elim
  | n + 1, s, h, k => by
    obtain ⟨o, h1, h2⟩ := lp_s h
    rw [show n + 1 + k = (n + k) + 1 by omega]
    cases o with
    | inl s' => rw [lp_step h1]; exact lp_mono n s' (un_l h2) k
    | inr r' => rw [lp_done h1, un_r h2]
/-- one parent's children, in both -/
theorem kids_two {N d M t p : Nat} {cn fs na nd np : Nat → Nat} {F SA SD SP fA fD fP wa : Nat → Int32} {par : Int32} (hN : 5000 ≤ N) (hd : d ≤ 20) (hM : M < 2 ^ 20) (hF : ∀ q, q < 128 → F q = nI (fs q) ∧ fs q < 2 ^ 32 ∧ ∀ f, f < 32 → (fs q).testBit f = decide (0 < cn (32 * q + f))) (hW : prd cn d 4 ≤ 4096) (hwa : ∀ k, k < prd cn d 4 → wa k = nI (wA cn d k)) (hb : t = 0 ∨ ¬ (fD (t - 1) = nI d ∧ fP (t - 1) = par)) (hpar : (d = 0 ∧ par = -7) ∨ (0 < d ∧ p < t ∧ par = nI p)) (h : TreeOk t na nd np (nI t) SA SD SP (nI t) fA fD fP) :
    (∃ (t' : Nat) (na' nd' np' : Nat → Nat) (SA' SD' SP' fA' fD' fP' : Nat → Int32), t ≤ t' ∧ fX5_findChildren N (nI d) par (nI M) F (nI t) SA SD SP = some (1, nI t', SA', SD', SP') ∧ lp (fun s => bX6_findNodes_23 N (nI d) par (nI (prd cn d 4)) wa (nI M) s.1 s.2.1 s.2.2.1 s.2.2.2.1 s.2.2.2.2) N ((0 : Int32), nI t, fA, fD, fP) = some (1, nI t', fA', fD', fP') ∧ TreeOk t' na' nd' np' (nI t') SA' SD' SP' (nI t') fA' fD' fP' ∧ (∀ i, i < t → na' i = na i ∧ nd' i = nd i ∧ np' i = np i) ∧ ∀ i, t ≤ i → i < t' → nd' i = d ∧ np' i = p) ∨
    (∃ x y, fX5_findChildren N (nI d) par (nI M) F (nI t) SA SD SP = some (0, x) ∧ lp (fun s => bX6_findNodes_23 N (nI d) par (nI (prd cn d 4)) wa (nI M) s.1 s.2.1 s.2.2.1 s.2.2.2.1 s.2.2.2.2) N ((0 : Int32), nI t, fA, fD, fP) = some (0, y)) := by
  have ht := h.1
  rcases children5 (cn := cn) (fs := fs) (F := F) (SA := SA) (SD := SD) (SP := SP) (par := par) hN (show d < 32 by omega) hM hF ht with ⟨a1, ⟨c, SA', SD', SP'⟩, ⟨c1, c2, c3, c4'⟩, a3⟩ | ⟨a1, x, a2⟩
  · rcases nodes6 (cn := cn) (wa := wa) (fA := fA) (fD := fD) (fP := fP) (par := par) hN hW hM hwa ht hb with ⟨b1, fA', fD', fP', b2, b3, b4, b5⟩ | ⟨b1, -⟩
    · dsimp only at c1 c2 c3 c4'
      subst c1
      refine Or.inl ⟨t + fb_ct (PA cn d M) 4096, fun i => if i < t then na i else (SA' i).toNatClampNeg, fun i => if i < t then nd i else d, fun i => if i < t then np i else p, SA', SD', SP', fA', fD', fP', by omega, a3, b2, ⟨a1, rfl, rfl, fun i hi => ?_⟩, fun i hi => ?_, fun i h1 h2 => ?_⟩
      · by_cases q : i < t
        · obtain ⟨g1, g2, g3, g4, g5, g6, g7, g8⟩ := h.2.2.2 i q
          obtain ⟨u1, u2, u3⟩ := c2 i q
          obtain ⟨v1, v2, v3⟩ := b3 i q
          simp only [if_pos q]
          rw [u1, u2, u3, v1, v2, v3]
          exact ⟨g1, g2, g3, g4, g5, g6, g7, g8⟩
        · obtain ⟨a, e1, e2, e3⟩ := fb_ct_kth (p := PA cn d M) (k := i - t) (n := 4096) (by omega)
          have s1 := c3 a e1 e2
          have s2 := b4 a e1 e2
          rw [e3, show t + (i - t) = i by omega] at s1 s2
          obtain ⟨w1, w2⟩ := c4' (i - t) (by omega)
          obtain ⟨z1, z2⟩ := b5 (i - t) (by omega)
          rw [show t + (i - t) = i by omega] at w1 w2 z1 z2
          simp only [if_neg q]
          rw [s1, s2, w1, w2, z1, z2, nI_clamp (by omega)]
          refine ⟨rfl, rfl, e1, rfl, rfl, hd, fun e => ?_, fun e => ?_⟩
          · rcases hpar with ⟨-, e7⟩ | ⟨e7, -⟩
            · exact ⟨e7, e7⟩
            · omega
          · rcases hpar with ⟨e7, -⟩ | ⟨-, e7, e8⟩
            · omega
            · exact ⟨by omega, e8, e8⟩
      · simp only [if_pos hi]
        exact ⟨trivial, trivial, trivial⟩
      · simp only [if_neg (show ¬ i < t by omega)]
        exact ⟨trivial, trivial⟩
    · omega
  · rcases nodes6 (cn := cn) (wa := wa) (fA := fA) (fD := fD) (fP := fP) (par := par) hN hW hM hwa ht hb with ⟨b1, -⟩ | ⟨-, y, b2⟩
    · omega
    · exact Or.inr ⟨x, y, a2, b2⟩
theorem bd7_s {a1 a2 a3 a4 a5 a6 a7 β : Type} {u1 : a1} {u2 : a2} {u3 : a3} {u4 : a4} {u5 : a5} {u6 : a6} {u7 : a7} {k : a1 → a2 → a3 → a4 → a5 → a6 → a7 → Option β} : bd7 (some (u1, u2, u3, u4, u5, u6, u7)) k = k u1 u2 u3 u4 u5 u6 u7 := rfl
/-- all nodes of one distance, in both -/
theorem level_two {N d t ls : Nat} {cn fs na nd np : Nat → Nat} {F SA SD SP fA fD fP wo mk : Nat → Int32} {w : Int32} (hN : 5000 ≤ N) (hd : d ≤ 20) (hmk : ∀ i, i < 4096 → mk i = nI (cn i) ∧ cn i < 2 ^ 31) (hF : ∀ q, q < 128 → F q = nI (fs q) ∧ fs q < 2 ^ 32 ∧ ∀ f, f < 32 → (fs q).testBit f = decide (0 < cn (32 * q + f))) (hW : prd cn d 4 ≤ 4096) (hlv : (d = 0 ∧ t = 0) ∨ (0 < d ∧ ls ≤ t ∧ (∀ i, i < ls → nd i + 1 < d) ∧ ∀ i, ls ≤ i → i < t → nd i + 1 = d)) (h : TreeOk t na nd np (nI t) SA SD SP (nI t) fA fD fP) :
    (∃ (t' : Nat) (na' nd' np' : Nat → Nat) (SA' SD' SP' fA' fD' fP' wo' : Nat → Int32) (w' : Int32), t ≤ t' ∧ fX5_findLevel N (nI d) (nI ls) (nI t) F (nI t) SA SD SP = some (1, nI t', SA', SD', SP') ∧ fX6_findDistance N (nI d) (nI t) w mk fA fD fP wo = some (1, nI t', w', fA', fD', fP', wo') ∧ TreeOk t' na' nd' np' (nI t') SA' SD' SP' (nI t') fA' fD' fP' ∧ (∀ i, i < t → nd' i = nd i) ∧ ∀ i, t ≤ i → i < t' → nd' i = d) ∨
    (∃ x y, fX5_findLevel N (nI d) (nI ls) (nI t) F (nI t) SA SD SP = some (0, x) ∧ fX6_findDistance N (nI d) (nI t) w mk fA fD fP wo = some (0, y)) := by
  have ht := h.1
  have hd32 : d < 32 := by omega
  have hp20 : prd cn d 4 < 2 ^ 31 := by omega
  unfold fX5_findLevel fX6_findDistance
  rw [comb6_n hN hd32 hmk, bd1_s, if_pos (show nI (prd cn d 4) ≤ (4096 : Int32) from nI_le (b := 4096) hW (by omega)), findWords_n hN hd32 hmk hW, bd2_s]
  have hwa : ∀ k, k < prd cn d 4 → fa_fill (fun k => nI (wA cn d k)) wo (prd cn d 4) k = nI (wA cn d k) := fun k hk => fa_fill_in hk
  generalize fa_fill (fun k => nI (wA cn d k)) wo (prd cn d 4) = wa at hwa ⊢
  rcases hlv with ⟨rfl, rfl⟩ | ⟨hd0, hls, hlo, hhi⟩
  · rw [if_pos nI_0, if_pos nI_0]
    unfold fX6_findNodes
    rw [if_pos rfl, b23]
    rcases kids_two (M := 0) (p := 0) (par := -7) hN hd (by omega) hF hW hwa (Or.inl rfl) (Or.inl ⟨rfl, rfl⟩) h with ⟨t', na', nd', np', SA', SD', SP', fA', fD', fP', a1, a2, a3, a4, a5, a6⟩ | ⟨x, y, a2, a3⟩
    · refine Or.inl ⟨t', na', nd', np', SA', SD', SP', fA', fD', fP', wa, nI (prd cn 0 4), a1, ?_, ?_, a4, fun i hi => (a5 i hi).2.1, fun i h1 h2 => (a6 i h1 h2).1⟩
      · rw [show fX5_findChildren N (0 : Int32) (-7 : Int32) (0 : Int32) F (nI 0) SA SD SP = some (1, nI t', SA', SD', SP') from a2, bd5_s]
      · rw [show lp (fun s : Int32 × Int32 × (Nat → Int32) × (Nat → Int32) × (Nat → Int32) => bX6_findNodes_23 N (0 : Int32) (-7 : Int32) (nI (prd cn 0 4)) wa (0 : Int32) s.1 s.2.1 s.2.2.1 s.2.2.2.1 s.2.2.2.2) N ((0 : Int32), nI 0, fA, fD, fP) = some (1, nI t', fA', fD', fP') from a3, bd5_s]
    · obtain ⟨x1, x2, x3, x4⟩ := x
      obtain ⟨y1, y2, y3, y4⟩ := y
      refine Or.inr ⟨(x1, x2, x3, x4), (y1, nI (prd cn 0 4), y2, y3, y4, wa), ?_, ?_⟩
      · rw [show fX5_findChildren N (0 : Int32) (-7 : Int32) (0 : Int32) F (nI 0) SA SD SP = some (0, x1, x2, x3, x4) from a2, bd5_s]
      · rw [show lp (fun s : Int32 × Int32 × (Nat → Int32) × (Nat → Int32) × (Nat → Int32) => bX6_findNodes_23 N (0 : Int32) (-7 : Int32) (nI (prd cn 0 4)) wa (0 : Int32) s.1 s.2.1 s.2.2.1 s.2.2.2.1 s.2.2.2.2) N ((0 : Int32), nI 0, fA, fD, fP) = some (0, y1, y2, y3, y4) from a3, bd5_s]
  · have nd0 : ¬ nI d = 0 := nI_ne0 hd0 (by omega)
    rw [if_neg nd0, if_neg nd0]
    have hdm : nI d - (1 : Int32) = nI (d - 1) := nI_m1 hd0
    -- the reference passes over the nodes of lesser distances
    have hskip := lp_skip (step := fun s : Int32 × Int32 × (Nat → Int32) × (Nat → Int32) × (Nat → Int32) => bX6_findDistance_37 N (nI d) (nI (prd cn d 4)) wa (nI t) s.1 s.2.1 s.2.2.1 s.2.2.2.1 s.2.2.2.2) (fun i => (nI i, nI t, fA, fD, fP)) ls (fun i hi => by
      show bX6_findDistance_37 N (nI d) (nI (prd cn d 4)) wa (nI t) (nI i) (nI t) fA fD fP = _
      obtain ⟨-, -, -, -, g5, -⟩ := h.2.2.2 i (by omega)
      have := hlo i hi
      unfold bX6_findDistance_37
      rw [if_neg (nI_ge (by omega) (by omega)), gt_in (by omega) (by omega), nI_clamp (by omega), g5, hdm, if_neg (fun z => by have := (nI_eq (by omega) (by omega)).mp z; omega), nI_1]) (N - ls)
    rw [show N - ls + ls = N by omega] at hskip
    have hskip2 : lp (fun s : Int32 × Int32 × (Nat → Int32) × (Nat → Int32) × (Nat → Int32) => bX6_findDistance_37 N (nI d) (nI (prd cn d 4)) wa (nI t) s.1 s.2.1 s.2.2.1 s.2.2.2.1 s.2.2.2.2) N ((0 : Int32), nI t, fA, fD, fP) = lp (fun s : Int32 × Int32 × (Nat → Int32) × (Nat → Int32) × (Nat → Int32) => bX6_findDistance_37 N (nI d) (nI (prd cn d 4)) wa (nI t) s.1 s.2.1 s.2.2.1 s.2.2.2.1 s.2.2.2.2) (N - ls) (nI ls, nI t, fA, fD, fP) := hskip
    obtain ⟨r1, r2, e1, e2, hq⟩ := lp_two (step1 := fun s : Int32 × Int32 × (Nat → Int32) × (Nat → Int32) × (Nat → Int32) => bX5_findLevel_16 N (nI d) (nI t) F s.1 s.2.1 s.2.2.1 s.2.2.2.1 s.2.2.2.2) (step2 := fun s : Int32 × Int32 × (Nat → Int32) × (Nat → Int32) × (Nat → Int32) => bX6_findDistance_37 N (nI d) (nI (prd cn d 4)) wa (nI t) s.1 s.2.1 s.2.2.1 s.2.2.2.1 s.2.2.2.2)
      (fun x s1 s2 => ∃ (p t1 : Nat) (na1 nd1 np1 : Nat → Nat) (SA1 SD1 SP1 fA1 fD1 fP1 : Nat → Int32), ls ≤ p ∧ p ≤ t ∧ x = t - p ∧ t ≤ t1 ∧ s1 = (nI p, nI t1, SA1, SD1, SP1) ∧ s2 = (nI p, nI t1, fA1, fD1, fP1) ∧ TreeOk t1 na1 nd1 np1 (nI t1) SA1 SD1 SP1 (nI t1) fA1 fD1 fP1 ∧ (∀ i, i < t → nd1 i = nd i) ∧ ∀ i, t ≤ i → i < t1 → nd1 i = d ∧ np1 i < p)
      (fun r1 r2 => (∃ (t' : Nat) (na' nd' np' : Nat → Nat) (SA' SD' SP' fA' fD' fP' : Nat → Int32), t ≤ t' ∧ r1 = (1, nI t', SA', SD', SP') ∧ r2 = (1, nI t', nI (prd cn d 4), fA', fD', fP', wa) ∧ TreeOk t' na' nd' np' (nI t') SA' SD' SP' (nI t') fA' fD' fP' ∧ (∀ i, i < t → nd' i = nd i) ∧ ∀ i, t ≤ i → i < t' → nd' i = d) ∨ (∃ x y, r1 = (0, x) ∧ r2 = (0, y))) (by
      rintro x s1 s2 ⟨p, t1, na1, nd1, np1, SA1, SD1, SP1, fA1, fD1, fP1, hp1, hp2, rfl, ht1, rfl, rfl, hT, hnd, hnew⟩
      dsimp only
      unfold bX5_findLevel_16 bX6_findDistance_37
      by_cases q : p = t
      · subst q
        rw [if_pos (Int32.le_refl _), if_pos (Int32.le_refl _)]
        exact Or.inl ⟨_, _, rfl, rfl, Or.inl ⟨t1, na1, nd1, np1, SA1, SD1, SP1, fA1, fD1, fP1, ht1, rfl, rfl, hT, hnd, fun i a b => (hnew i a b).1⟩⟩
      · have ht100 := hT.1
        obtain ⟨g1, g2, g3, g4, g5, -⟩ := hT.2.2.2 p (by omega)
        have hndp : nd1 p + 1 = d := by rw [hnd p (by omega)]; exact hhi p hp1 (by omega)
        have hside : t1 = 0 ∨ ¬ (fD1 (t1 - 1) = nI d ∧ fP1 (t1 - 1) = nI p) := by
          refine Or.inr ?_
          rintro ⟨z1, z2⟩
          obtain ⟨-, -, -, -, k5, k6, -, k8⟩ := hT.2.2.2 (t1 - 1) (by omega)
          rw [k5] at z1
          have z3 := (nI_eq (by omega) (by omega)).mp z1
          rcases Nat.lt_or_ge (t1 - 1) t with y | y
          · rw [hnd _ y] at z3
            rcases Nat.lt_or_ge (t1 - 1) ls with v | v
            · have := hlo _ v; omega
            · have := hhi _ v y; omega
          · obtain ⟨m1, m2⟩ := hnew (t1 - 1) y (by omega)
            obtain ⟨n1, n2, n3⟩ := k8 (by omega)
            rw [n3] at z2
            have := (nI_eq (by omega) (by omega)).mp z2
            omega
        rw [if_neg (nI_ge (by omega) (by omega)), if_neg (nI_ge (by omega) (by omega)), addressOf3_yes (show p < t1 by omega) ht100, bd1_s, g1, wordOf_n g3, bd1_s, gt_in (show p < 101 by omega) (by omega), nI_clamp (by omega), g5, hdm, if_pos (by rw [show d - 1 = nd1 p by omega])]
        unfold fX6_findNodes
        rw [if_neg (nI_ne7 (by omega)), gt_in (show p < 101 by omega) (by omega), nI_clamp (by omega), g2, wordOf6_n g3, bd1_s]
        rcases kids_two (M := wd (na1 p)) (p := p) (par := nI p) hN hd (wd_lt g3) hF hW hwa hside (Or.inr ⟨hd0, by omega, rfl⟩) hT with ⟨t', na', nd', np', SA', SD', SP', fA', fD', fP', a1, a2, a3, a4, a5, a6⟩ | ⟨⟨x1, x2, x3, x4⟩, ⟨y1, y2, y3, y4⟩, a2, a3⟩
        · rw [a2, bd5_s, if_neg one_ne, a3, bd5_s, if_neg one_ne, nI_1]
          refine Or.inr ⟨t - (p + 1), _, _, by omega, rfl, rfl, p + 1, t', na', nd', np', SA', SD', SP', fA', fD', fP', by omega, by omega, rfl, by omega, rfl, rfl, a4, fun i hi => ?_, fun i h1 h2 => ?_⟩
          · rw [(a5 i (by omega)).2.1]; exact hnd i hi
          · rcases Nat.lt_or_ge i t1 with y | y
            · obtain ⟨m1, m2⟩ := hnew i h1 y
              obtain ⟨-, m4, m5⟩ := a5 i y
              rw [m4, m5]
              exact ⟨m1, by omega⟩
            · obtain ⟨m1, m2⟩ := a6 i y h2
              exact ⟨m1, by omega⟩
        · rw [a2, bd5_s, if_pos rfl, a3, bd5_s, if_pos rfl]
          exact Or.inl ⟨_, _, rfl, rfl, Or.inr ⟨_, _, rfl, rfl⟩⟩) (t - ls) (nI ls, nI t, SA, SD, SP) (nI ls, nI t, fA, fD, fP) ⟨ls, t, na, nd, np, SA, SD, SP, fA, fD, fP, Nat.le_refl _, hls, rfl, Nat.le_refl _, rfl, rfl, h, fun i _ => rfl, fun i a b => absurd b (by omega)⟩ (N - ls) (by omega)
    have e1 := lp_mono _ _ e1 ls
    rw [show N - ls + ls = N by omega] at e1
    rw [← hskip2] at e2
    rcases hq with ⟨t', na', nd', np', SA', SD', SP', fA', fD', fP', a1, rfl, rfl, a4, a5, a6⟩ | ⟨x, y, rfl, rfl⟩
    · exact Or.inl ⟨t', na', nd', np', SA', SD', SP', fA', fD', fP', wa, nI (prd cn d 4), a1, e1, e2, a4, a5, a6⟩
    · exact Or.inr ⟨x, y, e1, e2⟩
theorem copy_n {N t : Nat} {w : Int32} {fA fD fP wo nA nD nP : Nat → Int32} (hN : 5000 ≤ N) (ht : t ≤ 100) : lp (fun s => bX6_reconstruct_55 (nI t) w fA fD fP wo s.1 s.2.1 s.2.2.1 s.2.2.2) N ((0 : Int32), nA, nD, nP) = some (nI t, nI t, nI t, w, fa_fill fA nA t, fa_fill fD nD t, fa_fill fP nP t, fA, fD, fP, wo) := by
  have h := lp_for (step := fun s : Int32 × (Nat → Int32) × (Nat → Int32) × (Nat → Int32) => bX6_reconstruct_55 (nI t) w fA fD fP wo s.1 s.2.1 s.2.2.1 s.2.2.2) (fun i => (nI i, fa_fill fA nA i, fa_fill fD nD i, fa_fill fP nP i)) t (r := (nI t, nI t, nI t, w, fa_fill fA nA t, fa_fill fD nD t, fa_fill fP nP t, fA, fD, fP, wo)) (fun i hi => by
    show bX6_reconstruct_55 (nI t) w fA fD fP wo (nI i) (fa_fill fA nA i) (fa_fill fD nD i) (fa_fill fP nP i) = _
    unfold bX6_reconstruct_55
    rw [if_neg (nI_ge hi (by omega)), gt_in (show i < 101 by omega) (by omega), gt_in (show i < 100 by omega) (by omega), nI_clamp (by omega), nI_1, fa_fill_succ, fa_fill_succ, fa_fill_succ]) (by
    show bX6_reconstruct_55 (nI t) w fA fD fP wo (nI t) _ _ _ = _
    unfold bX6_reconstruct_55
    rw [if_pos (Int32.le_refl _)]) N (by omega)
  rw [fa_fill_0, fa_fill_0, fa_fill_0] at h
  exact h
theorem TreeOk.copy {t : Nat} {na nd np : Nat → Nat} {SA SD SP fA fD fP : Nat → Int32} (h : TreeOk t na nd np (nI t) SA SD SP (nI t) fA fD fP) (nA nD nP : Nat → Int32) : RelT (nI t) SA SD SP (nI t) (fa_fill fA nA t) (fa_fill fD nD t) (fa_fill fP nP t) := by
  obtain ⟨h1, h2, h3, h4⟩ := h
  refine ⟨t, na, nd, np, h1, rfl, rfl, fun i hi => ?_⟩
  rw [fa_fill_in hi, fa_fill_in hi, fa_fill_in hi]
  exact h4 i hi
