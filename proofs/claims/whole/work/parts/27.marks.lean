/-! the recorded marks: clearing, counting -/
theorem fill_n {N n : Nat} (hN : 5000 ≤ N) (hn : n ≤ 4096) (x : Int32) (a : Nat → Int32) : fJ7_fill_53178 N n x a = some (fa_fill (fun _ => x) a n) := by
  unfold fJ7_fill_53178
  rw [nm_eq]
  have h := lp_for (step := fun s : Int32 × (Nat → Int32) => bJ7_fill_53178_5 n x (Int32.ofNat n) s.1 s.2) (fun i => (nI i, fa_fill (fun _ => x) a i)) n (fun i hi => by
    show bJ7_fill_53178_5 n x (nI n) (nI i) (fa_fill (fun _ => x) a i) = _
    unfold bJ7_fill_53178_5
    rw [if_neg (nI_ge hi (by omega)), gt_in hi (by omega), nI_clamp (by omega), nI_1, fa_fill_succ]) (by
    show bJ7_fill_53178_5 n x (nI n) (nI n) _ = _
    unfold bJ7_fill_53178_5
    rw [if_pos (Int32.le_refl _)]) N (by omega)
  rw [fa_fill_0] at h
  exact h
theorem clear6_n {N : Nat} (hN : 5000 ≤ N) (r : Int32) (a : Nat → Int32) : fX6_clearMarks N r a = some (r, 0, 0, fa_fill (fun _ => 0) a 4096) := by
  unfold fX6_clearMarks
  have h := lp_for (step := fun s : Int32 × (Nat → Int32) => bX6_clearMarks_7 r s.1 s.2) (fun i => (nI i, fa_fill (fun _ => 0) a i)) 4096 (fun i hi => by
    show bX6_clearMarks_7 r (nI i) (fa_fill (fun _ => 0) a i) = _
    unfold bX6_clearMarks_7
    rw [if_neg (show ¬ (4096 : Int32) ≤ nI i from nI_ge (b := 4096) hi (by omega)), gt_in hi (by omega), nI_clamp (by omega), nI_1, fa_fill_succ]) (by
    show bX6_clearMarks_7 r (nI 4096) _ = _
    unfold bX6_clearMarks_7
    rw [if_pos (show (4096 : Int32) ≤ nI 4096 from Int32.le_refl _)]) N (by omega)
  rw [fa_fill_0] at h
  exact h
set_option maxHeartbeats 1000000 in
theorem eq_clearMarks (N : Nat) (hN : 5000 ≤ N) (k : Nat) (hk : k < 512) (xv_markingPercent : Int32) (xv_network_count : Int32) (xa_network_parents : Nat → Int32) (xa_network_addresses : Nat → Int32) (xa_network_depths : Nat → Int32) (xv_generator_state : Int32) (xv_marks_unmarkedPackets : Int32) (xv_marks_markedPackets : Int32) (xa_marks_counts : Nat → Int32) (xa_marks_fragmentSets : Nat → Int32) (xv_nodes_count : Int32) (xa_nodes_addresses : Nat → Int32) (xa_nodes_distances : Nat → Int32) (xa_nodes_parents : Nat → Int32) (mv_routers : Int32) (ma_parentOf : Nat → Int32) (ma_addressOf : Nat → Int32) (ma_depthOf : Nat → Int32) (mv_percent : Int32) (mv_random : Int32) (ma_marks : Nat → Int32) (mv_received : Int32) (mv_unmarked : Int32) (mv_nodes : Int32) (ma_nodeAddresses : Nat → Int32) (ma_nodeDistances : Nat → Int32) (ma_nodeParents : Nat → Int32) (hR : Rel k xv_markingPercent xv_network_count xa_network_parents xa_network_addresses xa_network_depths xv_generator_state xv_marks_unmarkedPackets xv_marks_markedPackets xa_marks_counts xa_marks_fragmentSets xv_nodes_count xa_nodes_addresses xa_nodes_distances xa_nodes_parents mv_routers ma_parentOf ma_addressOf ma_depthOf mv_percent mv_random ma_marks mv_received mv_unmarked mv_nodes ma_nodeAddresses ma_nodeDistances ma_nodeParents)   : ∃ (r : Int32) (xo_marks_unmarkedPackets : Int32) (xo_marks_markedPackets : Int32) (xo_marks_counts : Nat → Int32) (xo_marks_fragmentSets : Nat → Int32) (mo_received : Int32) (mo_unmarked : Int32) (mo_marks : Nat → Int32), fX5_clearMarks N xv_marks_unmarkedPackets xv_marks_markedPackets xa_marks_counts xa_marks_fragmentSets = some (r, xo_marks_unmarkedPackets, xo_marks_markedPackets, xo_marks_counts, xo_marks_fragmentSets) ∧ fX6_clearMarks N mv_received ma_marks = some (r, mo_received, mo_unmarked, mo_marks) ∧ Rel (k + 1) xv_markingPercent xv_network_count xa_network_parents xa_network_addresses xa_network_depths xv_generator_state xo_marks_unmarkedPackets xo_marks_markedPackets xo_marks_counts xo_marks_fragmentSets xv_nodes_count xa_nodes_addresses xa_nodes_distances xa_nodes_parents mv_routers ma_parentOf ma_addressOf ma_depthOf mv_percent mv_random mo_marks mo_received mo_unmarked mv_nodes ma_nodeAddresses ma_nodeDistances ma_nodeParents := by
  obtain ⟨h1, hn, hm, ht⟩ := hR
  obtain ⟨cn, fs, a, b, c, d⟩ := id hm
  refine ⟨mv_received, 0, 0, fa_fill (fun _ => 0) xa_marks_counts 4096, fa_fill (fun _ => 0) xa_marks_fragmentSets 128, 0, 0, fa_fill (fun _ => 0) ma_marks 4096, ?_, ?_, h1, hn, ⟨fun _ => 0, fun _ => 0, by decide, rfl, fun i hi => ?_, fun q hq => ?_⟩, ht⟩
  · unfold fX5_clearMarks fX1_received fX1_clear
    rw [bd1_s, fill_n hN (by omega), bd1_s, fill_n hN (by omega), bd1_s, a]
    rfl
  · exact clear6_n hN _ _
  · rw [fa_fill_in hi, fa_fill_in hi]; exact ⟨rfl, rfl, Nat.zero_le _⟩
  · rw [fa_fill_in hq]; exact ⟨rfl, (by show (0 : Nat) < 2 ^ 32; decide), fun f hf => by simp⟩
/-- how many fragments are recorded with a distance and an offset (q is 4 d + o) -/
def nFr (cn : Nat → Nat) (q : Nat) : Nat := fb_ct (fun f => decide (0 < cn (32 * q + f))) 32
theorem nFr_le (cn : Nat → Nat) (q : Nat) : nFr cn q ≤ 32 := fb_ct_le _ _
theorem nI_le0 {n : Nat} (h : n < 2 ^ 31) : nI n ≤ 0 ↔ n = 0 := by
  constructor
  · intro q
    rcases Nat.eq_zero_or_pos n with e | e
    · exact e
    · exact absurd q (nI_nle e h)
  · rintro rfl; decide
theorem different_n {N d o : Nat} {cn : Nat → Nat} {mk : Nat → Int32} (hN : 5000 ≤ N) (hd : d < 32) (ho : o < 4) (hmk : ∀ i, i < 4096 → mk i = nI (cn i) ∧ cn i < 2 ^ 31) : fX6_different N (nI d) (nI o) mk = some (nI (nFr cn (4 * d + o))) := by
  unfold fX6_different
  have h := lp_for (step := fun s : Int32 × Int32 => bX6_different_5 (nI d) (nI o) mk s.1 s.2) (fun i => (nI (fb_ct (fun f => decide (0 < cn (32 * (4 * d + o) + f))) i), nI i)) 32 (fun i hi => by
    show bX6_different_5 (nI d) (nI o) mk (nI _) (nI i) = _
    unfold bX6_different_5
    obtain ⟨e1, e2⟩ := hmk (32 * (4 * d + o) + i) (by omega)
    rw [if_neg (show ¬ (32 : Int32) ≤ nI i from nI_ge (b := 32) hi (by omega)), placeOf_nI, bd1_s, gt_in (by omega) (by omega), nI_clamp (by omega), e1, nI_1, fb_ct_succ]
    by_cases q : cn (32 * (4 * d + o) + i) = 0
    · rw [if_pos ((nI_le0 e2).mpr q), nm_eq, if_neg (by simp [q]), Int32.add_zero]; rfl
    · rw [if_neg (fun z => q ((nI_le0 e2).mp z)), nm_eq, if_pos (by simp; omega), nI_1]) (by
    show bX6_different_5 (nI d) (nI o) mk (nI _) (nI 32) = _
    unfold bX6_different_5
    rw [if_pos (show (32 : Int32) ≤ nI 32 from Int32.le_refl _)]) N (by omega)
  exact h
theorem differentFragments_n {d o : Nat} {cn fs : Nat → Nat} {F : Nat → Int32} (hd : d < 32) (ho : o < 4) (hF : ∀ q, q < 128 → F q = nI (fs q) ∧ fs q < 2 ^ 32 ∧ ∀ f, f < 32 → (fs q).testBit f = decide (0 < cn (32 * q + f))) : fX1_differentFragments (nI d) (nI o) F = some (nI (nFr cn (4 * d + o))) := by
  unfold fX1_differentFragments
  obtain ⟨e1, e2, e3⟩ := hF (4 * d + o) (by omega)
  rw [setPlace_nI hd ho, bd1_s, gt_in (by omega) (by omega), nI_clamp (by omega), e1, bitCount_n e2, bd1_s]
  congr 2
  unfold nFr
  exact fb_ct_cong (fun f hf => e3 f hf)
set_option maxHeartbeats 1000000 in
theorem eq_fragmentCount (N : Nat) (hN : 5000 ≤ N) (k : Nat) (hk : k < 512) (xv_markingPercent : Int32) (xv_network_count : Int32) (xa_network_parents : Nat → Int32) (xa_network_addresses : Nat → Int32) (xa_network_depths : Nat → Int32) (xv_generator_state : Int32) (xv_marks_unmarkedPackets : Int32) (xv_marks_markedPackets : Int32) (xa_marks_counts : Nat → Int32) (xa_marks_fragmentSets : Nat → Int32) (xv_nodes_count : Int32) (xa_nodes_addresses : Nat → Int32) (xa_nodes_distances : Nat → Int32) (xa_nodes_parents : Nat → Int32) (mv_routers : Int32) (ma_parentOf : Nat → Int32) (ma_addressOf : Nat → Int32) (ma_depthOf : Nat → Int32) (mv_percent : Int32) (mv_random : Int32) (ma_marks : Nat → Int32) (mv_received : Int32) (mv_unmarked : Int32) (mv_nodes : Int32) (ma_nodeAddresses : Nat → Int32) (ma_nodeDistances : Nat → Int32) (ma_nodeParents : Nat → Int32) (hR : Rel k xv_markingPercent xv_network_count xa_network_parents xa_network_addresses xa_network_depths xv_generator_state xv_marks_unmarkedPackets xv_marks_markedPackets xa_marks_counts xa_marks_fragmentSets xv_nodes_count xa_nodes_addresses xa_nodes_distances xa_nodes_parents mv_routers ma_parentOf ma_addressOf ma_depthOf mv_percent mv_random ma_marks mv_received mv_unmarked mv_nodes ma_nodeAddresses ma_nodeDistances ma_nodeParents)  (p1 : Int32) (p2 : Int32) : ∃ (r : Int32) , fX5_fragmentCount p1 p2 xa_marks_fragmentSets = some r ∧ fX6_fragmentCount N p1 p2 ma_marks = some r ∧ Rel (k + 1) xv_markingPercent xv_network_count xa_network_parents xa_network_addresses xa_network_depths xv_generator_state xv_marks_unmarkedPackets xv_marks_markedPackets xa_marks_counts xa_marks_fragmentSets xv_nodes_count xa_nodes_addresses xa_nodes_distances xa_nodes_parents mv_routers ma_parentOf ma_addressOf ma_depthOf mv_percent mv_random ma_marks mv_received mv_unmarked mv_nodes ma_nodeAddresses ma_nodeDistances ma_nodeParents := by
  obtain ⟨h1, hn, hm, ht⟩ := hR
  obtain ⟨cn, fs, a, b, c, d⟩ := id hm
  unfold fX5_fragmentCount fX6_fragmentCount fX6_isMark
  rcases below_within p1 31 (by omega) with ⟨x, hx, rfl, a1, a2⟩ | ⟨a1, a2⟩
  · have a1 : fX5_isBelow (nI x) (32 : Int32) = some 1 := a1
    have a2 : fX6_within (nI x) (0 : Int32) (31 : Int32) = some 1 := a2
    rcases below_within p2 3 (by omega) with ⟨o, ho, rfl, b1, b2⟩ | ⟨b1, b2⟩
    · have b1 : fX5_isBelow (nI o) (4 : Int32) = some 1 := b1
      have b2 : fX6_within (nI o) (0 : Int32) (3 : Int32) = some 1 := b2
      refine ⟨nI (nFr cn (4 * x + o)), ?_, ?_, h1, hn, hm.up, ht⟩
      · rw [a1, bd1_s, if_neg one_ne, b1, bd1_s, if_neg one_ne, differentFragments_n hx ho d]; rfl
      · rw [a2, bd1_s, if_neg one_ne, b2, bd1_s, if_neg one_ne]
        have e : fX6_within (0 : Int32) (0 : Int32) (31 : Int32) = some 1 := rfl
        rw [e, bd1_s, if_neg one_ne, bd1_s, if_neg one_ne, different_n hN hx ho (fun i hi => ⟨(c i hi).2.1, by have := (c i hi).2.2; omega⟩)]
        rfl
    · have b1 : fX5_isBelow p2 (4 : Int32) = some 0 := b1
      have b2 : fX6_within p2 (0 : Int32) (3 : Int32) = some 0 := b2
      refine ⟨-2, ?_, ?_, h1, hn, hm.up, ht⟩
      · rw [a1, bd1_s, if_neg one_ne, b1]; rfl
      · rw [a2, bd1_s, if_neg one_ne, b2]; rfl
  · have a1 : fX5_isBelow p1 (32 : Int32) = some 0 := a1
    have a2 : fX6_within p1 (0 : Int32) (31 : Int32) = some 0 := a2
    refine ⟨-2, ?_, ?_, h1, hn, hm.up, ht⟩
    · rw [a1]; rfl
    · rw [a2]; rfl
/-- all packets of a distance -/
def nAt (cn : Nat → Nat) (d : Nat) : Nat := fb_sm (fun j => cn (128 * d + j)) 128
theorem packetsAt_n {N d : Nat} {cn : Nat → Nat} {mk : Nat → Int32} (hN : 5000 ≤ N) (hd : d < 32) (hmk : ∀ i, i < 4096 → mk i = nI (cn i)) : fX6_packetsAt N (nI d) mk = some (nI (nAt cn d)) := by
  unfold fX6_packetsAt
  rw [nm_eq, show (128 : Int32) = nI 128 from rfl, pk_mul]
  have h := lp_for (step := fun s : Int32 × Int32 => bX6_packetsAt_8 (nI d) mk s.1 s.2) (fun i => (nI (fb_sm (fun j => cn (128 * d + j)) i), nI (128 * d + i))) 128 (fun i hi => by
    show bX6_packetsAt_8 (nI d) mk (nI _) (nI (128 * d + i)) = _
    unfold bX6_packetsAt_8
    rw [show (128 : Int32) = nI 128 from rfl, pk_mul, nI_add, if_neg (nI_ge (by omega) (by omega)), gt_in (by omega) (by omega), nI_clamp (by omega), hmk _ (by omega), nI_1, nI_add, nm_eq]
    rfl) (by
    show bX6_packetsAt_8 (nI d) mk (nI _) (nI (128 * d + 128)) = _
    unfold bX6_packetsAt_8
    rw [show (128 : Int32) = nI 128 from rfl, pk_mul, nI_add, if_pos (Int32.le_refl _)]) N (by omega)
  exact h
theorem countAt_n {N d : Nat} {cn : Nat → Nat} {C : Nat → Int32} (hN : 5000 ≤ N) (hd : d < 32) (hC : ∀ i, i < 4096 → C i = nI (cn i)) : fX1_countAt N (nI d) C = some (nI (nAt cn d)) := by
  unfold fX1_countAt
  have inner : ∀ o, o < 4 → lp (fun s : Int32 × Int32 => bX1_countAt_12 (nI d) C (nI o) s.1 s.2) N (nI (fb_sm (fun j => cn (128 * d + j)) (32 * o)), (0 : Int32)) = some (.inl (nI (fb_sm (fun j => cn (128 * d + j)) (32 * (o + 1))), nI (o + 1))) := by
    intro o ho
    have h := lp_for (step := fun s : Int32 × Int32 => bX1_countAt_12 (nI d) C (nI o) s.1 s.2) (fun i => (nI (fb_sm (fun j => cn (128 * d + j)) (32 * o + i)), nI i)) 32 (fun i hi => by
      show bX1_countAt_12 (nI d) C (nI o) (nI _) (nI i) = _
      unfold bX1_countAt_12 fX1_countOf
      rw [if_neg (show ¬ (32 : Int32) ≤ nI i from nI_ge (b := 32) hi (by omega)), countPlace_nI hd ho hi, bd1_s, gt_in (by omega) (by omega), nI_clamp (by omega), hC _ (by omega), bd1_s, nI_1, nI_add, nm_eq, show 32 * (4 * d + o) + i = 128 * d + (32 * o + i) by omega]
      rfl) (by
      show bX1_countAt_12 (nI d) C (nI o) (nI _) (nI 32) = _
      unfold bX1_countAt_12
      rw [if_pos (show (32 : Int32) ≤ nI 32 from Int32.le_refl _), nI_1]) N (by omega)
    rw [show 32 * o + 32 = 32 * (o + 1) by omega] at h
    exact h
  have h := lp_for (step := fun s : Int32 × Int32 => bX1_countAt_4 N (nI d) C s.1 s.2) (fun o => (nI (fb_sm (fun j => cn (128 * d + j)) (32 * o)), nI o)) 4 (fun o ho => by
    show bX1_countAt_4 N (nI d) C (nI _) (nI o) = _
    unfold bX1_countAt_4
    rw [if_neg (show ¬ (4 : Int32) ≤ nI o from nI_ge (b := 4) ho (by omega))]
    exact inner o ho) (by
    show bX1_countAt_4 N (nI d) C (nI _) (nI 4) = _
    unfold bX1_countAt_4
    rw [if_pos (show (4 : Int32) ≤ nI 4 from Int32.le_refl _)]) N (by omega)
  exact h
set_option maxHeartbeats 1000000 in
theorem eq_packetsAtDistance (N : Nat) (hN : 5000 ≤ N) (k : Nat) (hk : k < 512) (xv_markingPercent : Int32) (xv_network_count : Int32) (xa_network_parents : Nat → Int32) (xa_network_addresses : Nat → Int32) (xa_network_depths : Nat → Int32) (xv_generator_state : Int32) (xv_marks_unmarkedPackets : Int32) (xv_marks_markedPackets : Int32) (xa_marks_counts : Nat → Int32) (xa_marks_fragmentSets : Nat → Int32) (xv_nodes_count : Int32) (xa_nodes_addresses : Nat → Int32) (xa_nodes_distances : Nat → Int32) (xa_nodes_parents : Nat → Int32) (mv_routers : Int32) (ma_parentOf : Nat → Int32) (ma_addressOf : Nat → Int32) (ma_depthOf : Nat → Int32) (mv_percent : Int32) (mv_random : Int32) (ma_marks : Nat → Int32) (mv_received : Int32) (mv_unmarked : Int32) (mv_nodes : Int32) (ma_nodeAddresses : Nat → Int32) (ma_nodeDistances : Nat → Int32) (ma_nodeParents : Nat → Int32) (hR : Rel k xv_markingPercent xv_network_count xa_network_parents xa_network_addresses xa_network_depths xv_generator_state xv_marks_unmarkedPackets xv_marks_markedPackets xa_marks_counts xa_marks_fragmentSets xv_nodes_count xa_nodes_addresses xa_nodes_distances xa_nodes_parents mv_routers ma_parentOf ma_addressOf ma_depthOf mv_percent mv_random ma_marks mv_received mv_unmarked mv_nodes ma_nodeAddresses ma_nodeDistances ma_nodeParents)  (p1 : Int32) : ∃ (r : Int32) , fX5_packetsAtDistance N p1 xa_marks_counts = some r ∧ fX6_packetsAtDistance N p1 ma_marks = some r ∧ Rel (k + 1) xv_markingPercent xv_network_count xa_network_parents xa_network_addresses xa_network_depths xv_generator_state xv_marks_unmarkedPackets xv_marks_markedPackets xa_marks_counts xa_marks_fragmentSets xv_nodes_count xa_nodes_addresses xa_nodes_distances xa_nodes_parents mv_routers ma_parentOf ma_addressOf ma_depthOf mv_percent mv_random ma_marks mv_received mv_unmarked mv_nodes ma_nodeAddresses ma_nodeDistances ma_nodeParents := by
  obtain ⟨h1, hn, hm, ht⟩ := hR
  obtain ⟨cn, fs, a, b, c, d⟩ := id hm
  unfold fX5_packetsAtDistance fX6_packetsAtDistance
  rcases below_within p1 31 (by omega) with ⟨x, hx, rfl, a1, a2⟩ | ⟨a1, a2⟩
  · have a1 : fX5_isBelow (nI x) (32 : Int32) = some 1 := a1
    have a2 : fX6_within (nI x) (0 : Int32) (31 : Int32) = some 1 := a2
    refine ⟨nI (nAt cn x), ?_, ?_, h1, hn, hm.up, ht⟩
    · rw [a1, bd1_s, if_neg one_ne, countAt_n hN hx (fun i hi => (c i hi).1)]; rfl
    · rw [a2, bd1_s, if_neg one_ne, packetsAt_n hN hx (fun i hi => (c i hi).2.1)]; rfl
  · have a1 : fX5_isBelow p1 (32 : Int32) = some 0 := a1
    have a2 : fX6_within p1 (0 : Int32) (31 : Int32) = some 0 := a2
    refine ⟨-2, ?_, ?_, h1, hn, hm.up, ht⟩
    · rw [a1]; rfl
    · rw [a2]; rfl
theorem set_zero {x : Nat} (hx : x < 2 ^ 32) : x = 0 ↔ ∀ f, f < 32 → x.testBit f = false := by
  constructor
  · rintro rfl f _; simp
  · intro h
    apply Nat.eq_of_testBit_eq
    intro i
    rw [Nat.zero_testBit]
    rcases Nat.lt_or_ge i 32 with q | q
    · exact h i q
    · exact Nat.testBit_lt_two_pow (Nat.lt_of_lt_of_le hx (Nat.pow_le_pow_right (by omega) q))
theorem hasDistance_n {N d : Nat} {cn fs : Nat → Nat} {F : Nat → Int32} (hN : 5000 ≤ N) (hd : d < 32) (hF : ∀ q, q < 128 → F q = nI (fs q) ∧ fs q < 2 ^ 32 ∧ ∀ f, f < 32 → (fs q).testBit f = decide (0 < cn (32 * q + f))) : fX1_hasDistance N (nI d) F = some (if 0 < nAt cn d then 1 else 0) := by
  have e0 : ∀ q, q < 128 → (F q = 0 ↔ fs q = 0) := by
    intro q hq
    obtain ⟨e1, e2, -⟩ := hF q hq
    rw [e1]
    constructor
    · intro h
      have := congrArg (fun z : Int32 => z.toBitVec.toNat) h
      simpa [pk_tn e2] using this
    · intro h; rw [h]; rfl
  have pos : 0 < nAt cn d ↔ ∃ o, o < 4 ∧ fs (4 * d + o) ≠ 0 := by
    constructor
    · intro h
      apply Classical.byContradiction
      intro hx
      have z : ∀ j, j < 128 → cn (128 * d + j) = 0 := by
        intro j hj
        apply Classical.byContradiction
        intro q
        apply hx
        refine ⟨j / 32, by omega, fun w => ?_⟩
        obtain ⟨e1, e2, e3⟩ := hF (4 * d + j / 32) (by omega)
        have b := (set_zero e2).mp w (j % 32) (by omega)
        rw [e3 _ (by omega), show 32 * (4 * d + j / 32) + j % 32 = 128 * d + j by omega] at b
        simp at b
        omega
      have s : nAt cn d = 0 := by
        unfold nAt
        rw [fb_sm_cong (g := fun _ => 0) z, fb_sm_const]
      omega
    · rintro ⟨o, ho, hne⟩
      obtain ⟨e1, e2, e3⟩ := hF (4 * d + o) (by omega)
      have : ∃ f, f < 32 ∧ (fs (4 * d + o)).testBit f = true := by
        apply Classical.byContradiction
        intro hx
        apply hne
        rw [set_zero e2]
        intro f hf
        cases hb : (fs (4 * d + o)).testBit f with
        | false => rfl
        | true => exact absurd ⟨f, hf, hb⟩ hx
      obtain ⟨f, hf, hb⟩ := this
      rw [e3 f hf] at hb
      have hp : 0 < cn (32 * (4 * d + o) + f) := by simpa using hb
      have := fb_sm_part (fun j => cn (128 * d + j)) (i := 32 * o + f) (n := 128) (by omega)
      simp only [show 128 * d + (32 * o + f) = 32 * (4 * d + o) + f by omega] at this
      unfold nAt
      omega
  unfold fX1_hasDistance
  by_cases hx : ∃ o, o < 4 ∧ fs (4 * d + o) ≠ 0
  · rw [if_pos (pos.mpr hx)]
    obtain ⟨o, ho, hp, hno⟩ := fb_first hx
    exact lp_for nI o (fun i hi => by
      show bX1_hasDistance_2 (nI d) F (nI i) = _
      unfold bX1_hasDistance_2
      rw [if_neg (show ¬ (4 : Int32) ≤ nI i from nI_ge (b := 4) (by omega) (by omega)), setPlace_nI hd (by omega), bd1_s, gt_in (by omega) (by omega), nI_clamp (by omega), if_pos ((e0 _ (by omega)).mpr (Classical.not_not.mp (hno i hi))), nI_1]) (by
      show bX1_hasDistance_2 (nI d) F (nI o) = _
      unfold bX1_hasDistance_2
      rw [if_neg (show ¬ (4 : Int32) ≤ nI o from nI_ge (b := 4) (by omega) (by omega)), setPlace_nI hd (by omega), bd1_s, gt_in (by omega) (by omega), nI_clamp (by omega), if_neg (fun z => hp ((e0 _ (by omega)).mp z))]) N (by omega)
  · rw [if_neg (fun z => hx (pos.mp z))]
    have hz : ∀ o, o < 4 → fs (4 * d + o) = 0 := fun o ho => Classical.not_not.mp (fun q => hx ⟨o, ho, q⟩)
    exact lp_for nI 4 (fun i hi => by
      show bX1_hasDistance_2 (nI d) F (nI i) = _
      unfold bX1_hasDistance_2
      rw [if_neg (show ¬ (4 : Int32) ≤ nI i from nI_ge (b := 4) (by omega) (by omega)), setPlace_nI hd (by omega), bd1_s, gt_in (by omega) (by omega), nI_clamp (by omega), if_pos ((e0 _ (by omega)).mpr (hz i hi)), nI_1]) (by
      show bX1_hasDistance_2 (nI d) F (nI 4) = _
      unfold bX1_hasDistance_2
      rw [if_pos (show (4 : Int32) ≤ nI 4 from Int32.le_refl _)]) N (by omega)
set_option maxHeartbeats 1000000 in
theorem eq_greatestDistance (N : Nat) (hN : 5000 ≤ N) (k : Nat) (hk : k < 512) (xv_markingPercent : Int32) (xv_network_count : Int32) (xa_network_parents : Nat → Int32) (xa_network_addresses : Nat → Int32) (xa_network_depths : Nat → Int32) (xv_generator_state : Int32) (xv_marks_unmarkedPackets : Int32) (xv_marks_markedPackets : Int32) (xa_marks_counts : Nat → Int32) (xa_marks_fragmentSets : Nat → Int32) (xv_nodes_count : Int32) (xa_nodes_addresses : Nat → Int32) (xa_nodes_distances : Nat → Int32) (xa_nodes_parents : Nat → Int32) (mv_routers : Int32) (ma_parentOf : Nat → Int32) (ma_addressOf : Nat → Int32) (ma_depthOf : Nat → Int32) (mv_percent : Int32) (mv_random : Int32) (ma_marks : Nat → Int32) (mv_received : Int32) (mv_unmarked : Int32) (mv_nodes : Int32) (ma_nodeAddresses : Nat → Int32) (ma_nodeDistances : Nat → Int32) (ma_nodeParents : Nat → Int32) (hR : Rel k xv_markingPercent xv_network_count xa_network_parents xa_network_addresses xa_network_depths xv_generator_state xv_marks_unmarkedPackets xv_marks_markedPackets xa_marks_counts xa_marks_fragmentSets xv_nodes_count xa_nodes_addresses xa_nodes_distances xa_nodes_parents mv_routers ma_parentOf ma_addressOf ma_depthOf mv_percent mv_random ma_marks mv_received mv_unmarked mv_nodes ma_nodeAddresses ma_nodeDistances ma_nodeParents)   : ∃ (r : Int32) , fX5_greatestDistance N xa_marks_fragmentSets = some r ∧ fX6_greatestDistance N ma_marks = some r ∧ Rel (k + 1) xv_markingPercent xv_network_count xa_network_parents xa_network_addresses xa_network_depths xv_generator_state xv_marks_unmarkedPackets xv_marks_markedPackets xa_marks_counts xa_marks_fragmentSets xv_nodes_count xa_nodes_addresses xa_nodes_distances xa_nodes_parents mv_routers ma_parentOf ma_addressOf ma_depthOf mv_percent mv_random ma_marks mv_received mv_unmarked mv_nodes ma_nodeAddresses ma_nodeDistances ma_nodeParents := by
  obtain ⟨h1, hn, hm, ht⟩ := hR
  obtain ⟨cn, fs, a, b, c, d⟩ := id hm
  have hb : ∀ x, x < 32 → nAt cn x < 2 ^ 31 := by
    intro x hx
    have : nAt cn x ≤ 128 * 256000 := fb_sm_bound (fun j hj => by have := (c (128 * x + j) (by omega)).2.2; omega)
    omega
  unfold fX5_greatestDistance fX6_greatestDistance
  obtain ⟨r1, r2, e1, e2, rfl⟩ := lp_two (step1 := fun s : Int32 => bX5_greatestDistance_3 N xa_marks_fragmentSets s) (step2 := fun s : Int32 => bX6_greatestDistance_3 N ma_marks s) (fun i s1 s2 => s1 = s2 ∧ ((i = 0 ∧ s1 = -1) ∨ ∃ x, x < 32 ∧ i = x + 1 ∧ s1 = nI x)) (fun r1 r2 => r1 = r2) (by
    rintro i s1 s2 ⟨rfl, ⟨hi, rfl⟩ | ⟨x, hx, hi, rfl⟩⟩
    · exact Or.inl ⟨-7, -7, rfl, rfl, rfl⟩
    · show (∃ r1 r2, bX5_greatestDistance_3 N xa_marks_fragmentSets (nI x) = _ ∧ bX6_greatestDistance_3 N ma_marks (nI x) = _ ∧ _) ∨ ∃ j s1' s2', j < i ∧ bX5_greatestDistance_3 N xa_marks_fragmentSets (nI x) = _ ∧ bX6_greatestDistance_3 N ma_marks (nI x) = _ ∧ _
      unfold bX5_greatestDistance_3 bX6_greatestDistance_3
      rw [if_neg (nI_pos (by omega)), if_neg (nI_pos (by omega)), hasDistance_n hN hx d, packetsAt_n hN hx (fun i hi => (c i hi).2.1), bd1_s, bd1_s]
      by_cases q : 0 < nAt cn x
      · rw [if_pos q, if_neg one_ne, if_neg (nI_nle q (hb x hx))]
        exact Or.inl ⟨nI x, nI x, rfl, rfl, rfl⟩
      · rw [if_neg q, if_pos rfl, if_pos ((nI_le0 (hb x hx)).mpr (by omega))]
        refine Or.inr ⟨x, nI x + (-1), nI x + (-1), by omega, rfl, rfl, rfl, ?_⟩
        rcases Nat.eq_zero_or_pos x with e | e
        · subst e; exact Or.inl ⟨rfl, by decide⟩
        · exact Or.inr ⟨x - 1, by omega, by omega, sb_m1 e⟩) 32 (nI 31) (nI 31) ⟨rfl, Or.inr ⟨31, by omega, rfl, rfl⟩⟩ N (by omega)
  exact ⟨r1, e1, e2, h1, hn, hm.up, ht⟩
