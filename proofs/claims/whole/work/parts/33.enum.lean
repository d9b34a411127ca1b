/-! the words that recorded fragments form -/
def pF (cn : Nat → Nat) (q : Nat) : Nat → Bool := fun f => decide (0 < cn (32 * q + f))
theorem kf_ex {cn : Nat → Nat} {q i : Nat} (h : i < nFr cn q) : ∃ f, f < 32 ∧ pF cn q f = true ∧ fb_ct (pF cn q) f = i := fb_ct_kth h
/-- the recorded fragment with number i -/
noncomputable def kf (cn : Nat → Nat) (q i : Nat) : Nat := if h : i < nFr cn q then Classical.choose (kf_ex h) else 0
theorem kf_sp {cn : Nat → Nat} {q i : Nat} (h : i < nFr cn q) : kf cn q i < 32 ∧ pF cn q (kf cn q i) = true ∧ fb_ct (pF cn q) (kf cn q i) = i := by
  unfold kf
  rw [dif_pos h]
  exact Classical.choose_spec (kf_ex h)
theorem fragmentAt_n {N d o i : Nat} {cn : Nat → Nat} {mk : Nat → Int32} (hN : 5000 ≤ N) (hd : d < 32) (ho : o < 4) (hmk : ∀ i, i < 4096 → mk i = nI (cn i) ∧ cn i < 2 ^ 31) (hi : i < nFr cn (4 * d + o)) : fX6_fragmentAt N (nI d) (nI o) (nI i) mk = some (nI (kf cn (4 * d + o) i)) := by
  obtain ⟨f1, f2, f3⟩ := kf_sp hi
  have hle := nFr_le cn (4 * d + o)
  unfold fX6_fragmentAt
  have st : ∀ j, j < 32 → ∀ l, bX6_fragmentAt_6 (nI d) (nI o) mk (nI l) (nI j) = if pF cn (4 * d + o) j = true then (if nI l = 0 then some (.inr (nI j)) else some (.inl (nI l + (-1 : Int32), nI (j + 1)))) else some (.inl (nI l, nI (j + 1))) := by
    intro j hj l
    obtain ⟨e1, e2⟩ := hmk (32 * (4 * d + o) + j) (by omega)
    unfold bX6_fragmentAt_6
    rw [if_neg (show ¬ (32 : Int32) ≤ nI j from nI_ge (b := 32) hj (by omega)), placeOf_nI, bd1_s, gt_in (by omega) (by omega), nI_clamp (by omega), e1, nI_1]
    by_cases q : cn (32 * (4 * d + o) + j) = 0
    · rw [if_pos ((nI_le0 e2).mpr q), if_neg (by unfold pF; simp [q])]
    · have hpF : pF cn (4 * d + o) j = true := by unfold pF; simp; omega
      rw [if_neg (fun z => q ((nI_le0 e2).mp z)), if_pos hpF]
  have h := lp_for (step := fun s : Int32 × Int32 => bX6_fragmentAt_6 (nI d) (nI o) mk s.1 s.2) (fun j => (nI (i - fb_ct (pF cn (4 * d + o)) j), nI j)) (kf cn (4 * d + o) i) (r := nI (kf cn (4 * d + o) i)) (fun j hj => by
    show bX6_fragmentAt_6 (nI d) (nI o) mk (nI _) (nI j) = _
    rw [st j (by omega)]
    by_cases q : pF cn (4 * d + o) j = true
    · have c1 := fb_ct_succ (pF cn (4 * d + o)) j
      rw [if_pos q] at c1
      have c2 := fb_ct_mono (pF cn (4 * d + o)) (show j + 1 ≤ kf cn (4 * d + o) i by omega)
      rw [if_pos q, if_neg (nI_ne0 (by omega) (by omega)), sb_m1 (by omega)]
      show some (Sum.inl (nI _, nI (j + 1))) = some (Sum.inl (nI _, nI (j + 1)))
      rw [show i - fb_ct (pF cn (4 * d + o)) j - 1 = i - fb_ct (pF cn (4 * d + o)) (j + 1) by omega]
    · have c1 := fb_ct_succ (pF cn (4 * d + o)) j
      rw [if_neg q] at c1
      rw [if_neg q]
      show some (Sum.inl (nI _, nI (j + 1))) = some (Sum.inl (nI _, nI (j + 1)))
      rw [show fb_ct (pF cn (4 * d + o)) j = fb_ct (pF cn (4 * d + o)) (j + 1) by omega]) (by
    show bX6_fragmentAt_6 (nI d) (nI o) mk (nI _) (nI _) = _
    rw [st _ f1, if_pos f2, f3, Nat.sub_self, if_pos nI_0]) N (by omega)
  exact h
/-- the product of the numbers of fragments -/
def prd (cn : Nat → Nat) (d : Nat) : Nat → Nat
  | 0 => 1
  | o + 1 => prd cn d o * nFr cn (4 * d + o)
theorem prd_le (cn : Nat → Nat) (d : Nat) : ∀ o, prd cn d o ≤ 32 ^ o
  | 0 => Nat.le_refl _
  | o + 1 => Nat.mul_le_mul (prd_le cn d o) (nFr_le cn _)
theorem prd4 (cn : Nat → Nat) (d : Nat) : prd cn d 4 = nFr cn (4 * d + 0) * (nFr cn (4 * d + 1) * (nFr cn (4 * d + 2) * nFr cn (4 * d + 3))) := by
  show 1 * nFr cn (4 * d + 0) * nFr cn (4 * d + 1) * nFr cn (4 * d + 2) * nFr cn (4 * d + 3) = _
  rw [Nat.one_mul, Nat.mul_assoc, Nat.mul_assoc]
theorem comb6_n {N d : Nat} {cn : Nat → Nat} {mk : Nat → Int32} (hN : 5000 ≤ N) (hd : d < 32) (hmk : ∀ i, i < 4096 → mk i = nI (cn i) ∧ cn i < 2 ^ 31) : fX6_combinations N (nI d) mk = some (nI (prd cn d 4)) := by
  unfold fX6_combinations
  exact lp_for (step := fun s : Int32 × Int32 => bX6_combinations_4 N (nI d) mk s.1 s.2) (fun o => (nI (prd cn d o), nI o)) 4 (fun o ho => by
    show bX6_combinations_4 N (nI d) mk (nI _) (nI o) = _
    unfold bX6_combinations_4
    rw [if_neg (show ¬ (4 : Int32) ≤ nI o from nI_ge (b := 4) ho (by omega)), different_n hN hd ho hmk, bd1_s, nm_eq, pk_mul, nI_1]
    rfl) (by
    show bX6_combinations_4 N (nI d) mk (nI _) (nI 4) = _
    unfold bX6_combinations_4
    rw [if_pos (show (4 : Int32) ≤ nI 4 from Int32.le_refl _)]) N (by omega)
theorem comb5_n {N d : Nat} {cn fs : Nat → Nat} {F : Nat → Int32} (hN : 5000 ≤ N) (hd : d < 32) (hF : ∀ q, q < 128 → F q = nI (fs q) ∧ fs q < 2 ^ 32 ∧ ∀ f, f < 32 → (fs q).testBit f = decide (0 < cn (32 * q + f))) : fX1_combinations N (nI d) F = some (nI (prd cn d 4)) := by
  unfold fX1_combinations
  exact lp_for (step := fun s : Int32 × Int32 => bX1_combinations_4 (nI d) F s.1 s.2) (fun o => (nI (prd cn d o), nI o)) 4 (fun o ho => by
    show bX1_combinations_4 (nI d) F (nI _) (nI o) = _
    unfold bX1_combinations_4
    rw [if_neg (show ¬ (4 : Int32) ≤ nI o from nI_ge (b := 4) ho (by omega)), differentFragments_n hd ho hF, bd1_s, nm_eq, pk_mul, nI_1]
    rfl) (by
    show bX1_combinations_4 (nI d) F (nI _) (nI 4) = _
    unfold bX1_combinations_4
    rw [if_pos (show (4 : Int32) ≤ nI 4 from Int32.le_refl _)]) N (by omega)
/-- the word with number k -/
noncomputable def wA (cn : Nat → Nat) (d k : Nat) : Nat := kf cn (4 * d + 0) (k % nFr cn (4 * d + 0)) + 32 * kf cn (4 * d + 1) (k / nFr cn (4 * d + 0) % nFr cn (4 * d + 1)) + 1024 * kf cn (4 * d + 2) (k / nFr cn (4 * d + 0) / nFr cn (4 * d + 1) % nFr cn (4 * d + 2)) + 32768 * kf cn (4 * d + 3) (k / nFr cn (4 * d + 0) / nFr cn (4 * d + 1) / nFr cn (4 * d + 2) % nFr cn (4 * d + 3))
theorem or_cm (a b : Nat) : nI a ||| nI b = nI b ||| nI a := by
  rw [fa_or, fa_or]
  congr 1
  apply Nat.eq_of_testBit_eq
  intro i
  rw [Nat.testBit_or, Nat.testBit_or, Bool.or_comm]
theorem fw_step {N d o k l w : Nat} {cn : Nat → Nat} {mk wa : Nat → Int32} (hN : 5000 ≤ N) (hd : d < 32) (ho : o < 4) (hmk : ∀ i, i < 4096 → mk i = nI (cn i) ∧ cn i < 2 ^ 31) (hn : 0 < nFr cn (4 * d + o)) (hl : l < 2 ^ 31) (hw : w < 2 ^ (5 * o)) : bX6_findWords_27 N (nI d) mk wa (nI k) (nI l) (nI w) (nI o) = some (.inl (nI (l / nFr cn (4 * d + o)), nI (2 ^ (5 * o) * kf cn (4 * d + o) (l % nFr cn (4 * d + o)) + w), nI (o + 1))) := by
  have hle := nFr_le cn (4 * d + o)
  have hs : ∀ o, o < 4 → (((5 : Int32) * nI o &&& 31).toBitVec.smod 32).toNat = 5 * o := by decide +kernel
  have hm : l % nFr cn (4 * d + o) < nFr cn (4 * d + o) := Nat.mod_lt _ hn
  obtain ⟨f1, -, -⟩ := kf_sp hm
  have hp : 2 ^ (5 * o) ≤ 2 ^ 15 := Nat.pow_le_pow_right (by omega) (by omega)
  have hb : kf cn (4 * d + o) (l % nFr cn (4 * d + o)) * 2 ^ (5 * o) < 2 ^ 32 := by
    have : kf cn (4 * d + o) (l % nFr cn (4 * d + o)) * 2 ^ (5 * o) ≤ 32 * 2 ^ 15 := Nat.mul_le_mul (by omega) hp
    omega
  unfold bX6_findWords_27
  rw [if_neg (show ¬ (4 : Int32) ≤ nI o from nI_ge (b := 4) ho (by omega)), different_n hN hd ho hmk, bd1_s, if_pos (nI_ne0 hn (by omega)), pk_rem hl hn (by omega), fragmentAt_n hN hd ho hmk hm, bd1_s, pk_shlN _ (5 * o) (hs o ho) hb, nm_eq, pk_div hl hn (by omega), nm_eq, nI_1, or_cm, Nat.mul_comm (kf cn (4 * d + o) (l % nFr cn (4 * d + o))), fa_or_sum _ hw]
theorem prd_pos {cn : Nat → Nat} {d : Nat} (h : 0 < prd cn d 4) : 0 < nFr cn (4 * d + 0) ∧ 0 < nFr cn (4 * d + 1) ∧ 0 < nFr cn (4 * d + 2) ∧ 0 < nFr cn (4 * d + 3) := by
  have pz : ∀ a b : Nat, 0 < a * b → 0 < a ∧ 0 < b := by
    intro a b h
    constructor
    · rcases Nat.eq_zero_or_pos a with e | e
      · subst e; simp at h
      · exact e
    · rcases Nat.eq_zero_or_pos b with e | e
      · subst e; simp at h
      · exact e
  rw [prd4] at h
  obtain ⟨h1, h2⟩ := pz _ _ h
  obtain ⟨h3, h4⟩ := pz _ _ h2
  obtain ⟨h5, h6⟩ := pz _ _ h4
  exact ⟨h1, h3, h5, h6⟩
/-- all words are written down -/
theorem findWords_n {N d : Nat} {cn : Nat → Nat} {mk : Nat → Int32} (hN : 5000 ≤ N) (hd : d < 32) (hmk : ∀ i, i < 4096 → mk i = nI (cn i) ∧ cn i < 2 ^ 31) (hW : prd cn d 4 ≤ 4096) (wa : Nat → Int32) : fX6_findWords N (nI d) mk wa = some (nI (prd cn d 4), fa_fill (fun k => nI (wA cn d k)) wa (prd cn d 4)) := by
  unfold fX6_findWords
  rw [comb6_n hN hd hmk, bd1_s]
  have h := lp_for (step := fun s : Int32 × (Nat → Int32) => bX6_findWords_11 N (nI d) mk (nI (prd cn d 4)) s.1 s.2) (fun k => (nI k, fa_fill (fun k => nI (wA cn d k)) wa k)) (prd cn d 4) (r := (nI (prd cn d 4), fa_fill (fun k => nI (wA cn d k)) wa (prd cn d 4))) (fun k hk => by
    show bX6_findWords_11 N (nI d) mk (nI (prd cn d 4)) (nI k) _ = _
    unfold bX6_findWords_11
    rw [if_neg (nI_ge hk (by omega))]
    obtain ⟨n0, n1, n2, n3⟩ := prd_pos (show 0 < prd cn d 4 by omega)
    obtain ⟨N', rfl⟩ : ∃ N', N = N' + 5 := ⟨N - 5, by omega⟩
    have b0 : kf cn (4 * d + 0) (k % nFr cn (4 * d + 0)) < 32 := (kf_sp (Nat.mod_lt _ n0)).1
    have b1 : kf cn (4 * d + 1) (k / nFr cn (4 * d + 0) % nFr cn (4 * d + 1)) < 32 := (kf_sp (Nat.mod_lt _ n1)).1
    have b2 : kf cn (4 * d + 2) (k / nFr cn (4 * d + 0) / nFr cn (4 * d + 1) % nFr cn (4 * d + 2)) < 32 := (kf_sp (Nat.mod_lt _ n2)).1
    have l1 : k / nFr cn (4 * d + 0) ≤ k := Nat.div_le_self _ _
    have l2 : k / nFr cn (4 * d + 0) / nFr cn (4 * d + 1) ≤ k / nFr cn (4 * d + 0) := Nat.div_le_self _ _
    have l3 : k / nFr cn (4 * d + 0) / nFr cn (4 * d + 1) / nFr cn (4 * d + 2) ≤ k / nFr cn (4 * d + 0) / nFr cn (4 * d + 1) := Nat.div_le_self _ _
    have e0 := fw_step (N := N' + 5) (o := 0) (k := k) (l := k) (w := 0) (wa := fa_fill (fun k => nI (wA cn d k)) wa k) hN hd (by omega) hmk n0 (by omega) (by omega)
    have e1 := fw_step (N := N' + 5) (o := 1) (k := k) (l := k / nFr cn (4 * d + 0)) (w := 2 ^ (5 * 0) * kf cn (4 * d + 0) (k % nFr cn (4 * d + 0)) + 0) (wa := fa_fill (fun k => nI (wA cn d k)) wa k) hN hd (by omega) hmk n1 (by omega) (by omega)
    have e2 := fw_step (N := N' + 5) (o := 2) (k := k) (l := k / nFr cn (4 * d + 0) / nFr cn (4 * d + 1)) (w := 2 ^ (5 * 1) * kf cn (4 * d + 1) (k / nFr cn (4 * d + 0) % nFr cn (4 * d + 1)) + (2 ^ (5 * 0) * kf cn (4 * d + 0) (k % nFr cn (4 * d + 0)) + 0)) (wa := fa_fill (fun k => nI (wA cn d k)) wa k) hN hd (by omega) hmk n2 (by omega) (by omega)
    have e3 := fw_step (N := N' + 5) (o := 3) (k := k) (l := k / nFr cn (4 * d + 0) / nFr cn (4 * d + 1) / nFr cn (4 * d + 2)) (w := 2 ^ (5 * 2) * kf cn (4 * d + 2) (k / nFr cn (4 * d + 0) / nFr cn (4 * d + 1) % nFr cn (4 * d + 2)) + (2 ^ (5 * 1) * kf cn (4 * d + 1) (k / nFr cn (4 * d + 0) % nFr cn (4 * d + 1)) + (2 ^ (5 * 0) * kf cn (4 * d + 0) (k % nFr cn (4 * d + 0)) + 0))) (wa := fa_fill (fun k => nI (wA cn d k)) wa k) hN hd (by omega) hmk n3 (by omega) (by omega)
    have ew : 2 ^ (5 * 3) * kf cn (4 * d + 3) (k / nFr cn (4 * d + 0) / nFr cn (4 * d + 1) / nFr cn (4 * d + 2) % nFr cn (4 * d + 3)) + (2 ^ (5 * 2) * kf cn (4 * d + 2) (k / nFr cn (4 * d + 0) / nFr cn (4 * d + 1) % nFr cn (4 * d + 2)) + (2 ^ (5 * 1) * kf cn (4 * d + 1) (k / nFr cn (4 * d + 0) % nFr cn (4 * d + 1)) + (2 ^ (5 * 0) * kf cn (4 * d + 0) (k % nFr cn (4 * d + 0)) + 0))) = wA cn d k := by unfold wA; omega
    have es : upd (fa_fill (fun k => nI (wA cn d k)) wa k) k (nI (wA cn d k)) = fa_fill (fun k => nI (wA cn d k)) wa (k + 1) := fa_fill_succ _ _ _
    refine (lp_step (step := fun s : Int32 × Int32 × Int32 => bX6_findWords_27 (N' + 5) (nI d) mk (fa_fill (fun k => nI (wA cn d k)) wa k) (nI k) s.1 s.2.1 s.2.2) (s := (nI k, nI 0, nI 0)) e0).trans ?_
    refine (lp_step e1).trans ?_
    refine (lp_step e2).trans ?_
    refine (lp_step e3).trans ?_
    refine lp_done ?_
    show bX6_findWords_27 (N' + 5) (nI d) mk (fa_fill (fun k => nI (wA cn d k)) wa k) (nI k) _ _ (nI (3 + 1)) = _
    unfold bX6_findWords_27
    rw [if_pos (show (4 : Int32) ≤ nI (3 + 1) from Int32.le_refl _), gt_in (by omega) (by omega), nI_clamp (by omega), nI_1, ew, es]) (by
    show bX6_findWords_11 N (nI d) mk (nI (prd cn d 4)) (nI (prd cn d 4)) _ = _
    unfold bX6_findWords_11
    rw [if_pos (Int32.le_refl _)]) N (by omega)
  rw [fa_fill_0] at h
  exact h
theorem digs {f0 f1 f2 f3 : Nat} (h0 : f0 < 32) (h1 : f1 < 32) (h2 : f2 < 32) (h3 : f3 < 32) : frag (f0 + 32 * f1 + 1024 * f2 + 32768 * f3) 0 = f0 ∧ frag (f0 + 32 * f1 + 1024 * f2 + 32768 * f3) 1 = f1 ∧ frag (f0 + 32 * f1 + 1024 * f2 + 32768 * f3) 2 = f2 ∧ frag (f0 + 32 * f1 + 1024 * f2 + 32768 * f3) 3 = f3 := by
  unfold frag
  refine ⟨?_, ?_, ?_, ?_⟩
  · show (f0 + 32 * f1 + 1024 * f2 + 32768 * f3) / 1 % 32 = f0
    omega
  · show (f0 + 32 * f1 + 1024 * f2 + 32768 * f3) / 32 % 32 = f1
    omega
  · show (f0 + 32 * f1 + 1024 * f2 + 32768 * f3) / 1024 % 32 = f2
    omega
  · show (f0 + 32 * f1 + 1024 * f2 + 32768 * f3) / 32768 % 32 = f3
    omega
theorem undig {v : Nat} (h : v < 2 ^ 20) : v = frag v 0 + 32 * frag v 1 + 1024 * frag v 2 + 32768 * frag v 3 := by
  have e0 : frag v 0 = v / 1 % 32 := rfl
  have e1 : frag v 1 = v / 32 % 32 := rfl
  have e2 : frag v 2 = v / 1024 % 32 := rfl
  have e3 : frag v 3 = v / 32768 % 32 := rfl
  omega
/-- the words are those of recorded fragments, each once -/
theorem wA_in {cn : Nat → Nat} {d k : Nat} (hk : k < prd cn d 4) : wA cn d k < 2 ^ 20 ∧ ∀ o, o < 4 → 0 < cn (32 * (4 * d + o) + frag (wA cn d k) o) := by
  obtain ⟨n0, n1, n2, n3⟩ := prd_pos (show 0 < prd cn d 4 by omega)
  obtain ⟨a0, p0, -⟩ := kf_sp (Nat.mod_lt k n0)
  obtain ⟨a1, p1, -⟩ := kf_sp (Nat.mod_lt (k / nFr cn (4 * d + 0)) n1)
  obtain ⟨a2, p2, -⟩ := kf_sp (Nat.mod_lt (k / nFr cn (4 * d + 0) / nFr cn (4 * d + 1)) n2)
  obtain ⟨a3, p3, -⟩ := kf_sp (Nat.mod_lt (k / nFr cn (4 * d + 0) / nFr cn (4 * d + 1) / nFr cn (4 * d + 2)) n3)
  obtain ⟨q0, q1, q2, q3⟩ := digs a0 a1 a2 a3
  have c : ∀ q f, pF cn q f = true → 0 < cn (32 * q + f) := fun q f h => by unfold pF at h; simpa using h
  refine ⟨by unfold wA; omega, fun o ho => ?_⟩
  unfold wA
  rcases (show o = 0 ∨ o = 1 ∨ o = 2 ∨ o = 3 by omega) with rfl | rfl | rfl | rfl
  · rw [q0]; exact c _ _ p0
  · rw [q1]; exact c _ _ p1
  · rw [q2]; exact c _ _ p2
  · rw [q3]; exact c _ _ p3
theorem nest_lt {a n x m : Nat} (ha : a < n) (hx : x < m) : a + n * x < n * m := by
  have : n * (x + 1) ≤ n * m := Nat.mul_le_mul_left n hx
  rw [Nat.mul_add, Nat.mul_one] at this
  omega
theorem nest_md {a n x : Nat} (ha : a < n) : (a + n * x) % n = a ∧ (a + n * x) / n = x := by
  constructor
  · rw [Nat.add_mul_mod_self_left, Nat.mod_eq_of_lt ha]
  · rw [Nat.add_mul_div_left _ _ (by omega), Nat.div_eq_of_lt ha, Nat.zero_add]
theorem wA_onto {cn : Nat → Nat} {d v : Nat} (hv : v < 2 ^ 20) (h : ∀ o, o < 4 → 0 < cn (32 * (4 * d + o) + frag v o)) : ∃ k, k < prd cn d 4 ∧ wA cn d k = v := by
  have c : ∀ o, o < 4 → ∃ i, i < nFr cn (4 * d + o) ∧ kf cn (4 * d + o) i = frag v o := by
    intro o ho
    have hp : pF cn (4 * d + o) (frag v o) = true := by unfold pF; simpa using h o ho
    have hl : fb_ct (pF cn (4 * d + o)) (frag v o) < nFr cn (4 * d + o) := by
      have c1 := fb_ct_succ (pF cn (4 * d + o)) (frag v o)
      rw [if_pos hp] at c1
      have c2 := fb_ct_mono (pF cn (4 * d + o)) (show frag v o + 1 ≤ 32 by have := frag_lt v o; omega)
      show _ < fb_ct (pF cn (4 * d + o)) 32
      omega
    obtain ⟨-, s2, s3⟩ := kf_sp hl
    exact ⟨_, hl, fb_ct_kth_one s2 hp s3⟩
  obtain ⟨i0, a0, e0⟩ := c 0 (by omega)
  obtain ⟨i1, a1, e1⟩ := c 1 (by omega)
  obtain ⟨i2, a2, e2⟩ := c 2 (by omega)
  obtain ⟨i3, a3, e3⟩ := c 3 (by omega)
  refine ⟨i0 + nFr cn (4 * d + 0) * (i1 + nFr cn (4 * d + 1) * (i2 + nFr cn (4 * d + 2) * i3)), ?_, ?_⟩
  · rw [prd4]
    exact nest_lt a0 (nest_lt a1 (nest_lt a2 a3))
  · unfold wA
    obtain ⟨m0, d0⟩ := nest_md (x := i1 + nFr cn (4 * d + 1) * (i2 + nFr cn (4 * d + 2) * i3)) a0
    obtain ⟨m1, d1⟩ := nest_md (x := i2 + nFr cn (4 * d + 2) * i3) a1
    obtain ⟨m2, d2⟩ := nest_md (x := i3) a2
    rw [d0, m0, d1, m1, d2, m2, Nat.mod_eq_of_lt a3, e0, e1, e2, e3]
    exact (undig hv).symm
theorem wA_one {cn : Nat → Nat} {d k k' : Nat} (hk : k < prd cn d 4) (hk' : k' < prd cn d 4) (e : wA cn d k = wA cn d k') : k = k' := by
  obtain ⟨n0, n1, n2, n3⟩ := prd_pos (show 0 < prd cn d 4 by omega)
  obtain ⟨a0, -, t0⟩ := kf_sp (Nat.mod_lt k n0)
  obtain ⟨a1, -, t1⟩ := kf_sp (Nat.mod_lt (k / nFr cn (4 * d + 0)) n1)
  obtain ⟨a2, -, t2⟩ := kf_sp (Nat.mod_lt (k / nFr cn (4 * d + 0) / nFr cn (4 * d + 1)) n2)
  obtain ⟨a3, -, t3⟩ := kf_sp (Nat.mod_lt (k / nFr cn (4 * d + 0) / nFr cn (4 * d + 1) / nFr cn (4 * d + 2)) n3)
  obtain ⟨b0, -, u0⟩ := kf_sp (Nat.mod_lt k' n0)
  obtain ⟨b1, -, u1⟩ := kf_sp (Nat.mod_lt (k' / nFr cn (4 * d + 0)) n1)
  obtain ⟨b2, -, u2⟩ := kf_sp (Nat.mod_lt (k' / nFr cn (4 * d + 0) / nFr cn (4 * d + 1)) n2)
  obtain ⟨b3, -, u3⟩ := kf_sp (Nat.mod_lt (k' / nFr cn (4 * d + 0) / nFr cn (4 * d + 1) / nFr cn (4 * d + 2)) n3)
  obtain ⟨q0, q1, q2, q3⟩ := digs a0 a1 a2 a3
  obtain ⟨r0, r1, r2, r3⟩ := digs b0 b1 b2 b3
  unfold wA at e
  rw [e] at q0 q1 q2 q3
  have x0 := q0.symm.trans r0
  have x1 := q1.symm.trans r1
  have x2 := q2.symm.trans r2
  have x3 := q3.symm.trans r3
  rw [x0, u0] at t0
  rw [x1, u1] at t1
  rw [x2, u2] at t2
  rw [x3, u3] at t3
  have top : ∀ k, k < prd cn d 4 → k / nFr cn (4 * d + 0) / nFr cn (4 * d + 1) / nFr cn (4 * d + 2) < nFr cn (4 * d + 3) := by
    intro k hk
    rw [prd4] at hk
    exact Nat.div_lt_of_lt_mul (Nat.div_lt_of_lt_mul (Nat.div_lt_of_lt_mul hk))
  rw [Nat.mod_eq_of_lt (top k hk), Nat.mod_eq_of_lt (top k' hk')] at t3
  have z2 : k / nFr cn (4 * d + 0) / nFr cn (4 * d + 1) = k' / nFr cn (4 * d + 0) / nFr cn (4 * d + 1) := by
    rw [← Nat.div_add_mod (k / nFr cn (4 * d + 0) / nFr cn (4 * d + 1)) (nFr cn (4 * d + 2)), ← Nat.div_add_mod (k' / nFr cn (4 * d + 0) / nFr cn (4 * d + 1)) (nFr cn (4 * d + 2)), t3, t2]
  have z1 : k / nFr cn (4 * d + 0) = k' / nFr cn (4 * d + 0) := by
    rw [← Nat.div_add_mod (k / nFr cn (4 * d + 0)) (nFr cn (4 * d + 1)), ← Nat.div_add_mod (k' / nFr cn (4 * d + 0)) (nFr cn (4 * d + 1)), z2, t1]
  rw [← Nat.div_add_mod k (nFr cn (4 * d + 0)), ← Nat.div_add_mod k' (nFr cn (4 * d + 0)), z1, t0]
