/-! words of addresses; isPathComplete -/
def dg (a : Nat) : Nat := (((a * 167 + 29) / 8) ^^^ a) % 256
def wd (a : Nat) : Nat := 256 * a + dg a
theorem dg_lt (a : Nat) : dg a < 256 := Nat.mod_lt _ (by omega)
theorem wd_lt {a : Nat} (h : a < 4096) : wd a < 2 ^ 20 := by have := dg_lt a; unfold wd; omega
theorem digestOf_n {a : Nat} (h : a < 4096) : fX5_digestOf (nI a) = some (nI (dg a)) := by
  unfold fX5_digestOf dg
  rw [show (167 : Int32) = nI 167 from rfl, show (29 : Int32) = nI 29 from rfl, pk_mul, nI_add, pk_shrN (by omega) _ 3 (by decide), fb_xorI, show (255 : Int32) = nI (2 ^ 8 - 1) from rfl, fa_mask]
theorem wordOf_n {a : Nat} (h : a < 4096) : fX5_wordOf (nI a) = some (nI (wd a)) := by
  unfold fX5_wordOf wd
  rw [digestOf_n h, bd1_s, show (256 : Int32) = nI 256 from rfl, pk_mul, nI_add, Nat.mul_comm]
theorem wordOf6_n {a : Nat} (h : a < 4096) : fX6_wordOf (nI a) = some (nI (wd a)) := by rw [wordOf_same, wordOf_n h]
theorem fragmentOf6_n {w o : Nat} (hw : w < 2 ^ 31) (ho : o < 4) : fX6_fragmentOf (nI w) (nI o) = some (nI (frag w o)) := by rw [fragmentOf_same, fragmentOf_n hw ho]
theorem frag_xor (a b o : Nat) : frag (a ^^^ b) o = frag a o ^^^ frag b o := by
  unfold frag
  rw [show (32 : Nat) = 2 ^ 5 from rfl, ← Nat.xor_mod_two_pow, Nat.xor_div_two_pow]
theorem xor_lt20 {a b : Nat} (ha : a < 2 ^ 20) (hb : b < 2 ^ 20) : a ^^^ b < 2 ^ 20 := Nat.xor_lt_two_pow ha hb
theorem holdsPart_n {d o w : Nat} {cn fs : Nat → Nat} {F : Nat → Int32} (hd : d < 32) (ho : o < 4) (hw : w < 2 ^ 31) (hF : ∀ q, q < 128 → F q = nI (fs q) ∧ fs q < 2 ^ 32 ∧ ∀ f, f < 32 → (fs q).testBit f = decide (0 < cn (32 * q + f))) : fX1_holdsPart (nI d) (nI o) (nI w) F = some (if 0 < cn (32 * (4 * d + o) + frag w o) then 1 else 0) := by
  obtain ⟨e1, e2, e3⟩ := hF (4 * d + o) (by omega)
  unfold fX1_holdsPart
  rw [setPlace_nI hd ho, bd1_s, gt_in (by omega) (by omega), nI_clamp (by omega), e1, nm_eq, fragmentOf_n hw ho, bd1_s, bit_n e2 (frag_lt _ _), e3 _ (frag_lt _ _)]
  by_cases q : 0 < cn (32 * (4 * d + o) + frag w o)
  · rw [if_pos q]; simp [q]
  · rw [if_neg q]; simp [q]
theorem holdsWord_n {N d w : Nat} {cn fs : Nat → Nat} {F : Nat → Int32} (hN : 5000 ≤ N) (hd : d < 32) (hw : w < 2 ^ 31) (hF : ∀ q, q < 128 → F q = nI (fs q) ∧ fs q < 2 ^ 32 ∧ ∀ f, f < 32 → (fs q).testBit f = decide (0 < cn (32 * q + f))) : ((∀ o, o < 4 → 0 < cn (32 * (4 * d + o) + frag w o)) ∧ fX1_holdsWord N (nI d) (nI w) F = some 1) ∨ ((∃ o, o < 4 ∧ cn (32 * (4 * d + o) + frag w o) = 0) ∧ fX1_holdsWord N (nI d) (nI w) F = some 0) := by
  have st : ∀ o, o < 4 → bX1_holdsWord_2 (nI d) (nI w) F (nI o) = if 0 < cn (32 * (4 * d + o) + frag w o) then some (.inl (nI (o + 1))) else some (.inr 0) := by
    intro o ho
    unfold bX1_holdsWord_2
    rw [if_neg (show ¬ (4 : Int32) ≤ nI o from nI_ge (b := 4) (by omega) (by omega)), holdsPart_n hd ho hw hF, bd1_s, nI_1]
    by_cases q : 0 < cn (32 * (4 * d + o) + frag w o)
    · rw [if_pos q, if_pos q, if_neg one_ne]
    · rw [if_neg q, if_neg q, if_pos rfl]
  unfold fX1_holdsWord
  by_cases hx : ∃ o, o < 4 ∧ cn (32 * (4 * d + o) + frag w o) = 0
  · obtain ⟨o, ho, hp, hno⟩ := fb_first hx
    refine Or.inr ⟨hx, lp_for nI o (fun i hi => ?_) ?_ N (by omega)⟩
    · show bX1_holdsWord_2 (nI d) (nI w) F (nI i) = _
      rw [st i (by omega), if_pos (by have := hno i hi; omega)]
    · show bX1_holdsWord_2 (nI d) (nI w) F (nI o) = _
      rw [st o ho, if_neg (by omega)]
  · have ha : ∀ o, o < 4 → 0 < cn (32 * (4 * d + o) + frag w o) := fun o ho => by
      rcases Nat.eq_zero_or_pos (cn (32 * (4 * d + o) + frag w o)) with q | q
      · exact absurd ⟨o, ho, q⟩ hx
      · exact q
    refine Or.inl ⟨ha, lp_for nI 4 (fun i hi => ?_) ?_ N (by omega)⟩
    · show bX1_holdsWord_2 (nI d) (nI w) F (nI i) = _
      rw [st i hi, if_pos (ha i hi)]
    · show bX1_holdsWord_2 (nI d) (nI w) F (nI 4) = _
      unfold bX1_holdsWord_2
      rw [if_pos (show (4 : Int32) ≤ nI 4 from Int32.le_refl _)]
theorem NetOk.de_le {k : Nat} {pa ad de : Nat → Nat} {cnt : Int32} {P A D : Nat → Int32} {ro : Int32} {po ao dO : Nat → Int32} (h : NetOk k pa ad de cnt P A D ro po ao dO) : ∀ i, i < k → de i ≤ i := by
  intro i
  induction i using Nat.strongRecOn with
  | ind i ih =>
    intro hi
    obtain ⟨-, -, -, -, -, g6, g7⟩ := h.2.2.2 i hi
    rcases Nat.eq_zero_or_pos i with e | e
    · rw [(g6 e).2.2]; omega
    · obtain ⟨q1, -, -, q4⟩ := g7 e
      have := ih (pa i) q1 (by omega)
      omega
theorem nI_ne7 {j : Nat} (h : j < 2 ^ 31) : ¬ nI j = -7 := by
  intro q
  have := congrArg Int32.toInt q
  rw [nI_toInt h] at this
  have e : (-7 : Int32).toInt = -7 := by decide
  omega
theorem lt_m1 : (-1 : Int32) < 0 := by decide
theorem lt_m7 : (-7 : Int32) < 0 := by decide
/-- the word of a router's marks -/
def tw (pa ad : Nat → Nat) (i : Nat) : Nat := if i = 0 then wd (ad i) else wd (ad i) ^^^ wd (ad (pa i))
theorem wordAt_n {j k : Nat} {ad : Nat → Nat} {A : Nat → Int32} (h : j < k) (hk : k ≤ 20) (hA : A j = nI (ad j)) (ha : ad j < 4096) : fX2_wordAt (nI j) (nI k) A = some (nI (wd (ad j))) := by
  unfold fX2_wordAt
  rw [addressOf2_yes h hk, bd1_s, hA, wordOf_n ha, bd1_s]
theorem trueMarks_n {k i : Nat} {pa ad de : Nat → Nat} {cnt : Int32} {P A D : Nat → Int32} {ro : Int32} {po ao dO : Nat → Int32} (h : NetOk k pa ad de cnt P A D ro po ao dO) (hi : i < k) : fX2_trueMarksOf (nI i) cnt P A = some (nI (tw pa ad i)) ∧ tw pa ad i < 2 ^ 20 ∧ ∀ o, o < 4 → fX6_trueFragment (nI i) (nI o) po ao = some (nI (frag (tw pa ad i) o)) := by
  obtain ⟨h1, rfl, rfl, h4⟩ := h
  obtain ⟨g1, g2, g3, g4, g5, g6, g7⟩ := h4 i hi
  unfold fX2_trueMarksOf fX6_trueFragment tw
  rcases Nat.eq_zero_or_pos i with e | e
  · obtain ⟨q1, q2, q3⟩ := g6 e
    refine ⟨?_, ?_, fun o ho => ?_⟩
    · rw [parentOf2_yes hi h1, bd1_s, q1, has2_m1, bd1_s, if_pos rfl, wordAt_n hi h1 g1 g3, bd1_s, if_pos e]
    · rw [if_pos e]; exact wd_lt g3
    · rw [gt_in (by omega) (by omega), nI_clamp (by omega), g2, wordOf6_n g3, bd1_s, fragmentOf6_n (by have := wd_lt g3; omega) ho, bd1_s, q2, if_pos rfl, if_pos e]
  · obtain ⟨q1, q2, q3, q4⟩ := g7 e
    obtain ⟨k1, k2, k3, -⟩ := h4 (pa i) (by omega)
    refine ⟨?_, ?_, fun o ho => ?_⟩
    · rw [parentOf2_yes hi h1, bd1_s, q2, has2_yes (by omega) h1, bd1_s, if_neg one_ne, wordAt_n hi h1 g1 g3, bd1_s, wordAt_n (by omega) h1 k1 k3, bd1_s, fb_xorI, if_neg (by omega)]
    · rw [if_neg (by omega)]; exact xor_lt20 (wd_lt g3) (wd_lt k3)
    · rw [gt_in (by omega) (by omega), nI_clamp (by omega), g2, wordOf6_n g3, bd1_s, fragmentOf6_n (by have := wd_lt g3; omega) ho, bd1_s, q3, if_neg (nI_ne7 (by omega)), gt_in (by omega) (by omega), nI_clamp (by omega), k2, wordOf6_n k3, bd1_s, fragmentOf6_n (by have := wd_lt k3; omega) ho, bd1_s, fb_xorI, if_neg (by omega), frag_xor]
theorem nI_eq0 {n : Nat} (h : n < 2 ^ 31) : nI n = 0 ↔ n = 0 := nI_eq (b := 0) h (by omega)
/-- the reference's round over the four offsets -/
theorem path6_n {N k i T : Nat} {pa ad de cn : Nat → Nat} {cnt : Int32} {P A D : Nat → Int32} {ro : Int32} {po ao dO mk : Nat → Int32} (hN : 5000 ≤ N) (h : NetOk k pa ad de cnt P A D ro po ao dO) (hi : i < k) (hmk : ∀ j, j < 4096 → mk j = nI (cn j) ∧ cn j < 2 ^ 31) :
    ((∀ o, o < 4 → 0 < cn (32 * (4 * de i + o) + frag (tw pa ad i) o)) → lp (fun s => bX6_isPathComplete_20 po ao dO mk (nI i) s) N (0 : Int32) = some (.inl (po i))) ∧ ((∃ o, o < 4 ∧ cn (32 * (4 * de i + o) + frag (tw pa ad i) o) = 0) → lp (fun s => bX6_isPathComplete_20 po ao dO mk (nI i) s) N (0 : Int32) = some (.inr 0)) := by
  have hde := h.de_le i hi
  have h20 := h.1
  obtain ⟨-, -, tf⟩ := trueMarks_n h hi
  obtain ⟨g1, g2, g3, g4, g5, g6, g7⟩ := h.2.2.2 i hi
  have st : ∀ o, o < 4 → bX6_isPathComplete_20 po ao dO mk (nI i) (nI o) = if cn (32 * (4 * de i + o) + frag (tw pa ad i) o) = 0 then some (.inr (.inr 0)) else some (.inl (nI (o + 1))) := by
    intro o ho
    have fl := frag_lt (tw pa ad i) o
    obtain ⟨m1, m2⟩ := hmk (32 * (4 * de i + o) + frag (tw pa ad i) o) (by omega)
    unfold bX6_isPathComplete_20
    rw [if_neg (show ¬ (4 : Int32) ≤ nI o from nI_ge (b := 4) (by omega) (by omega)), gt_in (by omega) (by omega), tf o ho, bd1_s, nI_clamp (by omega), g5, placeOf_nI, bd1_s, gt_in (by omega) (by omega), nI_clamp (by omega), m1, nI_1]
    by_cases q : cn (32 * (4 * de i + o) + frag (tw pa ad i) o) = 0
    · rw [if_pos ((nI_eq0 m2).mpr q), if_pos q]
    · rw [if_neg (fun z => q ((nI_eq0 m2).mp z)), if_neg q]
  constructor
  · intro ha
    refine lp_for nI 4 (fun o ho => ?_) ?_ N (by omega)
    · show bX6_isPathComplete_20 po ao dO mk (nI i) (nI o) = _
      rw [st o ho, if_neg (by have := ha o ho; omega)]
    · show bX6_isPathComplete_20 po ao dO mk (nI i) (nI 4) = _
      unfold bX6_isPathComplete_20
      rw [if_pos (show (4 : Int32) ≤ nI 4 from Int32.le_refl _), gt_in (by omega) (by omega), nI_clamp (by omega), nm_eq]
  · intro hx
    obtain ⟨o, ho, hp, hno⟩ := fb_first hx
    refine lp_for nI o (fun j hj => ?_) ?_ N (by omega)
    · show bX6_isPathComplete_20 po ao dO mk (nI i) (nI j) = _
      rw [st j (by omega), if_neg (hno j hj)]
    · show bX6_isPathComplete_20 po ao dO mk (nI i) (nI o) = _
      rw [st o ho, if_pos hp]
set_option maxHeartbeats 1000000 in
theorem eq_isPathComplete (N : Nat) (hN : 5000 ≤ N) (k : Nat) (hk : k < 512) (xv_markingPercent : Int32) (xv_network_count : Int32) (xa_network_parents : Nat → Int32) (xa_network_addresses : Nat → Int32) (xa_network_depths : Nat → Int32) (xv_generator_state : Int32) (xv_marks_unmarkedPackets : Int32) (xv_marks_markedPackets : Int32) (xa_marks_counts : Nat → Int32) (xa_marks_fragmentSets : Nat → Int32) (xv_nodes_count : Int32) (xa_nodes_addresses : Nat → Int32) (xa_nodes_distances : Nat → Int32) (xa_nodes_parents : Nat → Int32) (mv_routers : Int32) (ma_parentOf : Nat → Int32) (ma_addressOf : Nat → Int32) (ma_depthOf : Nat → Int32) (mv_percent : Int32) (mv_random : Int32) (ma_marks : Nat → Int32) (mv_received : Int32) (mv_unmarked : Int32) (mv_nodes : Int32) (ma_nodeAddresses : Nat → Int32) (ma_nodeDistances : Nat → Int32) (ma_nodeParents : Nat → Int32) (hR : Rel k xv_markingPercent xv_network_count xa_network_parents xa_network_addresses xa_network_depths xv_generator_state xv_marks_unmarkedPackets xv_marks_markedPackets xa_marks_counts xa_marks_fragmentSets xv_nodes_count xa_nodes_addresses xa_nodes_distances xa_nodes_parents mv_routers ma_parentOf ma_addressOf ma_depthOf mv_percent mv_random ma_marks mv_received mv_unmarked mv_nodes ma_nodeAddresses ma_nodeDistances ma_nodeParents)  (p1 : Int32) : ∃ (r : Int32) , fX5_isPathComplete N p1 xv_network_count xa_network_parents xa_network_addresses xa_network_depths xa_marks_fragmentSets = some r ∧ fX6_isPathComplete N p1 mv_routers ma_parentOf ma_addressOf ma_depthOf ma_marks = some r ∧ Rel (k + 1) xv_markingPercent xv_network_count xa_network_parents xa_network_addresses xa_network_depths xv_generator_state xv_marks_unmarkedPackets xv_marks_markedPackets xa_marks_counts xa_marks_fragmentSets xv_nodes_count xa_nodes_addresses xa_nodes_distances xa_nodes_parents mv_routers ma_parentOf ma_addressOf ma_depthOf mv_percent mv_random ma_marks mv_received mv_unmarked mv_nodes ma_nodeAddresses ma_nodeDistances ma_nodeParents := by
  obtain ⟨h1, hn, hm, ht⟩ := hR
  obtain ⟨n, pa, ad, de, hok⟩ := id hn
  obtain ⟨a, b, c, d⟩ := id hok
  obtain ⟨cn, fs, a2, b2, c2, d2⟩ := id hm
  have hmk : ∀ j, j < 4096 → ma_marks j = nI (cn j) ∧ cn j < 2 ^ 31 := fun j hj => ⟨(c2 j hj).2.1, by have := (c2 j hj).2.2; omega⟩
  unfold fX5_isPathComplete fX6_isPathComplete
  rcases ix p1 (k := n) (by omega) with h | ⟨j, hj, rfl⟩
  · refine ⟨-1, ?_, ?_, h1, hn, hm.up, ht⟩
    · rw [b, has2_no h]; rfl
    · rw [c, isRouter_no (by omega) h]; rfl
  · rw [show fX2_has (nI j) xv_network_count = some 1 by rw [b]; exact has2_yes hj a, show fX6_isRouter (nI j) mv_routers = some 1 by rw [c]; exact isRouter_yes hj (by omega), bd1_s, bd1_s, if_neg one_ne, if_neg one_ne]
    obtain ⟨r1, r2, e1, e2, rfl⟩ := lp_two (step1 := fun s : Int32 × Int32 => bX5_isPathComplete_17 N xv_network_count xa_network_parents xa_network_addresses xa_network_depths xa_marks_fragmentSets s.1 s.2) (step2 := fun s : Int32 => bX6_isPathComplete_12 N ma_parentOf ma_addressOf ma_depthOf ma_marks s) (fun x s1 s2 => (∃ i h, i < n ∧ h + de i ≤ 19 ∧ x = de i + 2 ∧ s1 = (nI i, nI h) ∧ s2 = nI i) ∨ ∃ h, h ≤ 20 ∧ x = 1 ∧ s1 = (-1, nI h) ∧ s2 = -7) (fun r1 r2 => r1 = r2) (by
      rintro x s1 s2 (⟨i, h, hi, hh, rfl, rfl, rfl⟩ | ⟨h, hh, rfl, rfl, rfl⟩)
      · obtain ⟨g1, g2, g3, g4, g5, g6, g7⟩ := d i hi
        obtain ⟨t1, t2, t3⟩ := trueMarks_n hok hi
        obtain ⟨y1, y2⟩ := path6_n (T := 0) hN hok hi hmk
        show (∃ r1 r2, bX5_isPathComplete_17 N xv_network_count xa_network_parents xa_network_addresses xa_network_depths xa_marks_fragmentSets (nI i) (nI h) = _ ∧ bX6_isPathComplete_12 N ma_parentOf ma_addressOf ma_depthOf ma_marks (nI i) = _ ∧ _) ∨ ∃ j s1' s2', j < _ ∧ bX5_isPathComplete_17 N xv_network_count xa_network_parents xa_network_addresses xa_network_depths xa_marks_fragmentSets (nI i) (nI h) = _ ∧ bX6_isPathComplete_12 N ma_parentOf ma_addressOf ma_depthOf ma_marks (nI i) = _ ∧ _
        unfold bX5_isPathComplete_17 bX6_isPathComplete_12
        rw [if_neg (show ¬ (20 : Int32) ≤ nI h from nI_ge (b := 20) (by omega) (by omega)), show fX2_has (nI i) xv_network_count = some 1 by rw [b]; exact has2_yes hi a, bd1_s, if_neg one_ne, show fX2_depthOf (nI i) xv_network_count xa_network_depths = some (nI (de i)) by rw [b, depthOf_yes hi a, g4], bd1_s, t1, bd1_s, if_neg (nI_ne7 (by omega))]
        rcases holdsWord_n (w := tw pa ad i) (d := de i) hN (by have := hok.de_le i hi; omega) (by omega) d2 with ⟨q1, q2⟩ | ⟨q1, q2⟩
        · rw [q2, bd1_s, if_neg one_ne, y1 q1, show fX2_parentOf (nI i) xv_network_count xa_network_parents = some (xa_network_parents i) by rw [b, parentOf2_yes hi a], bd1_s, nI_1]
          rcases Nat.eq_zero_or_pos i with e | e
          · obtain ⟨z1, z2, z3⟩ := g6 e
            exact Or.inr ⟨1, _, _, by omega, rfl, rfl, Or.inr ⟨h + 1, by omega, rfl, by rw [z1], z2⟩⟩
          · obtain ⟨z1, z2, z3, z4⟩ := g7 e
            exact Or.inr ⟨de (pa i) + 2, _, _, by omega, rfl, rfl, Or.inl ⟨pa i, h + 1, by omega, by omega, rfl, by rw [z2], z3⟩⟩
        · rw [q2, bd1_s, if_pos rfl, y2 q1]
          exact Or.inl ⟨0, 0, rfl, rfl, rfl⟩
      · refine Or.inl ⟨1, 1, ?_, rfl, rfl⟩
        show bX5_isPathComplete_17 N xv_network_count xa_network_parents xa_network_addresses xa_network_depths xa_marks_fragmentSets (-1) (nI h) = _
        unfold bX5_isPathComplete_17
        by_cases q : (20 : Int32) ≤ nI h
        · rw [if_pos q]
        · rw [if_neg q, b, has2_m1, bd1_s, if_pos rfl]) (de j + 2) (nI j, nI 0) (nI j) (Or.inl ⟨j, 0, hj, by have := hok.de_le j hj; omega, rfl, rfl, rfl⟩) N (by have := hok.de_le j hj; omega)
    exact ⟨r1, e1, e2, h1, hn, hm.up, ht⟩
