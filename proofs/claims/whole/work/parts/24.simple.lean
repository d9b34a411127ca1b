/-! reads of rows; the simple methods -/
theorem bd1_s {a β : Type} {u : a} {k : a → Option β} : bd1 (some u) k = k u := rfl
theorem gt_in {α : Type} {j n : Nat} {a b : α} (h : j < n) (hn : n < 2 ^ 31) : (if ¬ (nI j < 0 ∨ n ≤ (nI j).toNatClampNeg) then a else b) = a := if_pos (nI_in h hn)
theorem depthOf_yes {j k : Nat} {D : Nat → Int32} (h : j < k) (hk : k ≤ 20) : fX2_depthOf (nI j) (nI k) D = some (D j) := by
  unfold fX2_depthOf
  rw [has2_yes h hk, bd1_s, if_neg one_ne, gt_in (by omega) (by omega), nI_clamp (by omega)]
theorem addressOf2_yes {j k : Nat} {D : Nat → Int32} (h : j < k) (hk : k ≤ 20) : fX2_addressOf (nI j) (nI k) D = some (D j) := by
  unfold fX2_addressOf
  rw [has2_yes h hk, bd1_s, if_neg one_ne, gt_in (by omega) (by omega), nI_clamp (by omega)]
theorem parentOf2_yes {j k : Nat} {D : Nat → Int32} (h : j < k) (hk : k ≤ 20) : fX2_parentOf (nI j) (nI k) D = some (D j) := by
  unfold fX2_parentOf
  rw [has2_yes h hk, bd1_s, if_neg one_ne, gt_in (by omega) (by omega), nI_clamp (by omega)]
theorem addressOf3_yes {j k : Nat} {D : Nat → Int32} (h : j < k) (hk : k ≤ 100) : fX3_addressOf (nI j) (nI k) D = some (D j) := by
  unfold fX3_addressOf
  rw [has3_yes h hk, bd1_s, if_neg one_ne, gt_in (by omega) (by omega), nI_clamp (by omega)]
theorem distanceOf3_yes {j k : Nat} {D : Nat → Int32} (h : j < k) (hk : k ≤ 100) : fX3_distanceOf (nI j) (nI k) D = some (D j) := by
  unfold fX3_distanceOf
  rw [has3_yes h hk, bd1_s, if_neg one_ne, gt_in (by omega) (by omega), nI_clamp (by omega)]
theorem parentOf3_yes {j k : Nat} {D : Nat → Int32} (h : j < k) (hk : k ≤ 100) : fX3_parentOf (nI j) (nI k) D = some (D j) := by
  unfold fX3_parentOf
  rw [has3_yes h hk, bd1_s, if_neg one_ne, gt_in (by omega) (by omega), nI_clamp (by omega)]
set_option maxHeartbeats 1000000 in
theorem eq_routerCount (N : Nat) (hN : 5000 ≤ N) (k : Nat) (hk : k < 512) (xv_markingPercent : Int32) (xv_network_count : Int32) (xa_network_parents : Nat → Int32) (xa_network_addresses : Nat → Int32) (xa_network_depths : Nat → Int32) (xv_generator_state : Int32) (xv_marks_unmarkedPackets : Int32) (xv_marks_markedPackets : Int32) (xa_marks_counts : Nat → Int32) (xa_marks_fragmentSets : Nat → Int32) (xv_nodes_count : Int32) (xa_nodes_addresses : Nat → Int32) (xa_nodes_distances : Nat → Int32) (xa_nodes_parents : Nat → Int32) (mv_routers : Int32) (ma_parentOf : Nat → Int32) (ma_addressOf : Nat → Int32) (ma_depthOf : Nat → Int32) (mv_percent : Int32) (mv_random : Int32) (ma_marks : Nat → Int32) (mv_received : Int32) (mv_unmarked : Int32) (mv_nodes : Int32) (ma_nodeAddresses : Nat → Int32) (ma_nodeDistances : Nat → Int32) (ma_nodeParents : Nat → Int32) (hR : Rel k xv_markingPercent xv_network_count xa_network_parents xa_network_addresses xa_network_depths xv_generator_state xv_marks_unmarkedPackets xv_marks_markedPackets xa_marks_counts xa_marks_fragmentSets xv_nodes_count xa_nodes_addresses xa_nodes_distances xa_nodes_parents mv_routers ma_parentOf ma_addressOf ma_depthOf mv_percent mv_random ma_marks mv_received mv_unmarked mv_nodes ma_nodeAddresses ma_nodeDistances ma_nodeParents)   : ∃ (r : Int32) , fX5_routerCount xv_network_count = some r ∧ fX6_routerCount mv_routers = some r ∧ Rel (k + 1) xv_markingPercent xv_network_count xa_network_parents xa_network_addresses xa_network_depths xv_generator_state xv_marks_unmarkedPackets xv_marks_markedPackets xa_marks_counts xa_marks_fragmentSets xv_nodes_count xa_nodes_addresses xa_nodes_distances xa_nodes_parents mv_routers ma_parentOf ma_addressOf ma_depthOf mv_percent mv_random ma_marks mv_received mv_unmarked mv_nodes ma_nodeAddresses ma_nodeDistances ma_nodeParents := by
  obtain ⟨h1, hn, hm, ht⟩ := hR
  obtain ⟨n, pa, ad, de, a, b, c, d⟩ := id hn
  exact ⟨nI n, by rw [b]; rfl, by rw [c]; rfl, h1, hn, hm.up, ht⟩
set_option maxHeartbeats 1000000 in
theorem eq_depth (N : Nat) (hN : 5000 ≤ N) (k : Nat) (hk : k < 512) (xv_markingPercent : Int32) (xv_network_count : Int32) (xa_network_parents : Nat → Int32) (xa_network_addresses : Nat → Int32) (xa_network_depths : Nat → Int32) (xv_generator_state : Int32) (xv_marks_unmarkedPackets : Int32) (xv_marks_markedPackets : Int32) (xa_marks_counts : Nat → Int32) (xa_marks_fragmentSets : Nat → Int32) (xv_nodes_count : Int32) (xa_nodes_addresses : Nat → Int32) (xa_nodes_distances : Nat → Int32) (xa_nodes_parents : Nat → Int32) (mv_routers : Int32) (ma_parentOf : Nat → Int32) (ma_addressOf : Nat → Int32) (ma_depthOf : Nat → Int32) (mv_percent : Int32) (mv_random : Int32) (ma_marks : Nat → Int32) (mv_received : Int32) (mv_unmarked : Int32) (mv_nodes : Int32) (ma_nodeAddresses : Nat → Int32) (ma_nodeDistances : Nat → Int32) (ma_nodeParents : Nat → Int32) (hR : Rel k xv_markingPercent xv_network_count xa_network_parents xa_network_addresses xa_network_depths xv_generator_state xv_marks_unmarkedPackets xv_marks_markedPackets xa_marks_counts xa_marks_fragmentSets xv_nodes_count xa_nodes_addresses xa_nodes_distances xa_nodes_parents mv_routers ma_parentOf ma_addressOf ma_depthOf mv_percent mv_random ma_marks mv_received mv_unmarked mv_nodes ma_nodeAddresses ma_nodeDistances ma_nodeParents)  (p1 : Int32) : ∃ (r : Int32) , fX5_depth p1 xv_network_count xa_network_depths = some r ∧ fX6_depth p1 mv_routers ma_depthOf = some r ∧ Rel (k + 1) xv_markingPercent xv_network_count xa_network_parents xa_network_addresses xa_network_depths xv_generator_state xv_marks_unmarkedPackets xv_marks_markedPackets xa_marks_counts xa_marks_fragmentSets xv_nodes_count xa_nodes_addresses xa_nodes_distances xa_nodes_parents mv_routers ma_parentOf ma_addressOf ma_depthOf mv_percent mv_random ma_marks mv_received mv_unmarked mv_nodes ma_nodeAddresses ma_nodeDistances ma_nodeParents := by
  obtain ⟨h1, hn, hm, ht⟩ := hR
  obtain ⟨n, pa, ad, de, a, b, c, d⟩ := id hn
  rcases ix p1 (k := n) (by omega) with h | ⟨j, hj, rfl⟩
  · refine ⟨-1, ?_, ?_, h1, hn, hm.up, ht⟩
    · unfold fX5_depth; rw [b, has2_no h]; rfl
    · unfold fX6_depth; rw [c, isRouter_no (by omega) h]; rfl
  · obtain ⟨d1, d2, d3, d4, d5, -⟩ := d j hj
    refine ⟨nI (de j), ?_, ?_, h1, hn, hm.up, ht⟩
    · unfold fX5_depth; rw [b, has2_yes hj a, bd1_s, if_neg one_ne, depthOf_yes hj a, d4]; rfl
    · unfold fX6_depth; rw [c, isRouter_yes hj (by omega), bd1_s, if_neg one_ne, gt_in (by omega) (by omega), nI_clamp (by omega), d5]
theorem addr_two (x : Int32) : (∃ j, j < 4096 ∧ x = nI j ∧ fX5_isBelow x 4096 = some 1 ∧ fX6_isAddress x = some 1) ∨ (fX5_isBelow x 4096 = some 0 ∧ fX6_isAddress x = some 0) := by
  rcases below_within x 4095 (by omega) with ⟨j, hj, e, h1, h2⟩ | ⟨h1, h2⟩
  · exact Or.inl ⟨j, hj, e, h1, by unfold fX6_isAddress; rw [show (4095 : Int32) = nI 4095 from rfl, h2]; rfl⟩
  · exact Or.inr ⟨h1, by unfold fX6_isAddress; rw [show (4095 : Int32) = nI 4095 from rfl, h2]; rfl⟩
set_option maxHeartbeats 1000000 in
theorem eq_digest (N : Nat) (hN : 5000 ≤ N) (k : Nat) (hk : k < 512) (xv_markingPercent : Int32) (xv_network_count : Int32) (xa_network_parents : Nat → Int32) (xa_network_addresses : Nat → Int32) (xa_network_depths : Nat → Int32) (xv_generator_state : Int32) (xv_marks_unmarkedPackets : Int32) (xv_marks_markedPackets : Int32) (xa_marks_counts : Nat → Int32) (xa_marks_fragmentSets : Nat → Int32) (xv_nodes_count : Int32) (xa_nodes_addresses : Nat → Int32) (xa_nodes_distances : Nat → Int32) (xa_nodes_parents : Nat → Int32) (mv_routers : Int32) (ma_parentOf : Nat → Int32) (ma_addressOf : Nat → Int32) (ma_depthOf : Nat → Int32) (mv_percent : Int32) (mv_random : Int32) (ma_marks : Nat → Int32) (mv_received : Int32) (mv_unmarked : Int32) (mv_nodes : Int32) (ma_nodeAddresses : Nat → Int32) (ma_nodeDistances : Nat → Int32) (ma_nodeParents : Nat → Int32) (hR : Rel k xv_markingPercent xv_network_count xa_network_parents xa_network_addresses xa_network_depths xv_generator_state xv_marks_unmarkedPackets xv_marks_markedPackets xa_marks_counts xa_marks_fragmentSets xv_nodes_count xa_nodes_addresses xa_nodes_distances xa_nodes_parents mv_routers ma_parentOf ma_addressOf ma_depthOf mv_percent mv_random ma_marks mv_received mv_unmarked mv_nodes ma_nodeAddresses ma_nodeDistances ma_nodeParents)  (p1 : Int32) : ∃ (r : Int32) , fX5_digest p1 = some r ∧ fX6_digest p1 = some r ∧ Rel (k + 1) xv_markingPercent xv_network_count xa_network_parents xa_network_addresses xa_network_depths xv_generator_state xv_marks_unmarkedPackets xv_marks_markedPackets xa_marks_counts xa_marks_fragmentSets xv_nodes_count xa_nodes_addresses xa_nodes_distances xa_nodes_parents mv_routers ma_parentOf ma_addressOf ma_depthOf mv_percent mv_random ma_marks mv_received mv_unmarked mv_nodes ma_nodeAddresses ma_nodeDistances ma_nodeParents := by
  obtain ⟨h1, hn, hm, ht⟩ := hR
  rcases addr_two p1 with ⟨j, hj, rfl, q1, q2⟩ | ⟨q1, q2⟩
  · unfold fX5_digest fX6_digest
    rw [q1, q2]
    simp only [bd1_s]
    rw [if_neg one_ne, if_neg one_ne]
    exact ⟨_, rfl, rfl, h1, hn, hm.up, ht⟩
  · refine ⟨-2, ?_, ?_, h1, hn, hm.up, ht⟩
    · unfold fX5_digest; rw [q1]; rfl
    · unfold fX6_digest; rw [q2]; rfl
theorem wordOf_same (x : Int32) : fX6_wordOf x = fX5_wordOf x := by
  unfold fX6_wordOf fX5_wordOf fX6_digestOf fX5_digestOf
  simp only [bd1]
  rw [Int32.mul_comm]
theorem fragmentOf_same (x y : Int32) : fX6_fragmentOf x y = fX5_fragmentOf x y := by
  unfold fX6_fragmentOf fX5_fragmentOf
  rw [Int32.mul_comm]
set_option maxHeartbeats 1000000 in
theorem eq_fragment (N : Nat) (hN : 5000 ≤ N) (k : Nat) (hk : k < 512) (xv_markingPercent : Int32) (xv_network_count : Int32) (xa_network_parents : Nat → Int32) (xa_network_addresses : Nat → Int32) (xa_network_depths : Nat → Int32) (xv_generator_state : Int32) (xv_marks_unmarkedPackets : Int32) (xv_marks_markedPackets : Int32) (xa_marks_counts : Nat → Int32) (xa_marks_fragmentSets : Nat → Int32) (xv_nodes_count : Int32) (xa_nodes_addresses : Nat → Int32) (xa_nodes_distances : Nat → Int32) (xa_nodes_parents : Nat → Int32) (mv_routers : Int32) (ma_parentOf : Nat → Int32) (ma_addressOf : Nat → Int32) (ma_depthOf : Nat → Int32) (mv_percent : Int32) (mv_random : Int32) (ma_marks : Nat → Int32) (mv_received : Int32) (mv_unmarked : Int32) (mv_nodes : Int32) (ma_nodeAddresses : Nat → Int32) (ma_nodeDistances : Nat → Int32) (ma_nodeParents : Nat → Int32) (hR : Rel k xv_markingPercent xv_network_count xa_network_parents xa_network_addresses xa_network_depths xv_generator_state xv_marks_unmarkedPackets xv_marks_markedPackets xa_marks_counts xa_marks_fragmentSets xv_nodes_count xa_nodes_addresses xa_nodes_distances xa_nodes_parents mv_routers ma_parentOf ma_addressOf ma_depthOf mv_percent mv_random ma_marks mv_received mv_unmarked mv_nodes ma_nodeAddresses ma_nodeDistances ma_nodeParents)  (p1 : Int32) (p2 : Int32) : ∃ (r : Int32) , fX5_fragment p1 p2 = some r ∧ fX6_fragment p1 p2 = some r ∧ Rel (k + 1) xv_markingPercent xv_network_count xa_network_parents xa_network_addresses xa_network_depths xv_generator_state xv_marks_unmarkedPackets xv_marks_markedPackets xa_marks_counts xa_marks_fragmentSets xv_nodes_count xa_nodes_addresses xa_nodes_distances xa_nodes_parents mv_routers ma_parentOf ma_addressOf ma_depthOf mv_percent mv_random ma_marks mv_received mv_unmarked mv_nodes ma_nodeAddresses ma_nodeDistances ma_nodeParents := by
  obtain ⟨h1, hn, hm, ht⟩ := hR
  rcases addr_two p1 with ⟨j, hj, e1, q1, q2⟩ | ⟨q1, q2⟩
  · rcases below_within p2 3 (by omega) with ⟨o, ho, e2, w1, w2⟩ | ⟨w1, w2⟩
    · have w1 : fX5_isBelow p2 (4 : Int32) = some 1 := w1
      have w2 : fX6_within p2 (0 : Int32) (3 : Int32) = some 1 := w2
      unfold fX5_fragment fX6_fragment
      rw [q1, q2]
      simp only [bd1_s]
      rw [if_neg one_ne, if_neg one_ne, w1, w2]
      simp only [bd1_s]
      rw [if_neg one_ne, if_neg one_ne, wordOf_same]
      simp only [fragmentOf_same]
      exact ⟨_, rfl, rfl, h1, hn, hm.up, ht⟩
    · have w1 : fX5_isBelow p2 (4 : Int32) = some 0 := w1
      have w2 : fX6_within p2 (0 : Int32) (3 : Int32) = some 0 := w2
      refine ⟨-2, ?_, ?_, h1, hn, hm.up, ht⟩
      · unfold fX5_fragment; rw [q1, bd1_s, if_neg one_ne, w1]; rfl
      · unfold fX6_fragment; rw [q2, bd1_s, if_neg one_ne, w2]; rfl
  · refine ⟨-2, ?_, ?_, h1, hn, hm.up, ht⟩
    · unfold fX5_fragment; rw [q1]; rfl
    · unfold fX6_fragment; rw [q2]; rfl
set_option maxHeartbeats 1000000 in
theorem eq_setMarkingPercent (N : Nat) (hN : 5000 ≤ N) (k : Nat) (hk : k < 512) (xv_markingPercent : Int32) (xv_network_count : Int32) (xa_network_parents : Nat → Int32) (xa_network_addresses : Nat → Int32) (xa_network_depths : Nat → Int32) (xv_generator_state : Int32) (xv_marks_unmarkedPackets : Int32) (xv_marks_markedPackets : Int32) (xa_marks_counts : Nat → Int32) (xa_marks_fragmentSets : Nat → Int32) (xv_nodes_count : Int32) (xa_nodes_addresses : Nat → Int32) (xa_nodes_distances : Nat → Int32) (xa_nodes_parents : Nat → Int32) (mv_routers : Int32) (ma_parentOf : Nat → Int32) (ma_addressOf : Nat → Int32) (ma_depthOf : Nat → Int32) (mv_percent : Int32) (mv_random : Int32) (ma_marks : Nat → Int32) (mv_received : Int32) (mv_unmarked : Int32) (mv_nodes : Int32) (ma_nodeAddresses : Nat → Int32) (ma_nodeDistances : Nat → Int32) (ma_nodeParents : Nat → Int32) (hR : Rel k xv_markingPercent xv_network_count xa_network_parents xa_network_addresses xa_network_depths xv_generator_state xv_marks_unmarkedPackets xv_marks_markedPackets xa_marks_counts xa_marks_fragmentSets xv_nodes_count xa_nodes_addresses xa_nodes_distances xa_nodes_parents mv_routers ma_parentOf ma_addressOf ma_depthOf mv_percent mv_random ma_marks mv_received mv_unmarked mv_nodes ma_nodeAddresses ma_nodeDistances ma_nodeParents)  (p1 : Int32) : ∃ (r : Int32) (xo_markingPercent : Int32) (mo_percent : Int32), fX5_setMarkingPercent p1 xv_markingPercent = some (r, xo_markingPercent) ∧ fX6_setMarkingPercent p1 mv_percent = some (r, mo_percent) ∧ Rel (k + 1) xo_markingPercent xv_network_count xa_network_parents xa_network_addresses xa_network_depths xv_generator_state xv_marks_unmarkedPackets xv_marks_markedPackets xa_marks_counts xa_marks_fragmentSets xv_nodes_count xa_nodes_addresses xa_nodes_distances xa_nodes_parents mv_routers ma_parentOf ma_addressOf ma_depthOf mo_percent mv_random ma_marks mv_received mv_unmarked mv_nodes ma_nodeAddresses ma_nodeDistances ma_nodeParents := by
  obtain ⟨⟨rfl, h2⟩, hn, hm, ht⟩ := hR
  rcases one_within p1 100 (by omega) with ⟨j, h3, h4, e, q1, q2⟩ | ⟨q1, q2⟩
  · have q1 : fX5_isFromOneTo p1 (100 : Int32) = some 1 := q1
    have q2 : fX6_within p1 (1 : Int32) (100 : Int32) = some 1 := q2
    refine ⟨xv_markingPercent, p1, p1, ?_, ?_, ⟨rfl, h2⟩, hn, hm.up, ht⟩
    · unfold fX5_setMarkingPercent; rw [q1]; rfl
    · unfold fX6_setMarkingPercent; rw [q2]; rfl
  · have q1 : fX5_isFromOneTo p1 (100 : Int32) = some 0 := q1
    have q2 : fX6_within p1 (1 : Int32) (100 : Int32) = some 0 := q2
    refine ⟨-2, xv_markingPercent, xv_markingPercent, ?_, ?_, ⟨rfl, h2⟩, hn, hm.up, ht⟩
    · unfold fX5_setMarkingPercent; rw [q1]; rfl
    · unfold fX6_setMarkingPercent; rw [q2]; rfl
set_option maxHeartbeats 1000000 in
theorem eq_setSeed (N : Nat) (hN : 5000 ≤ N) (k : Nat) (hk : k < 512) (xv_markingPercent : Int32) (xv_network_count : Int32) (xa_network_parents : Nat → Int32) (xa_network_addresses : Nat → Int32) (xa_network_depths : Nat → Int32) (xv_generator_state : Int32) (xv_marks_unmarkedPackets : Int32) (xv_marks_markedPackets : Int32) (xa_marks_counts : Nat → Int32) (xa_marks_fragmentSets : Nat → Int32) (xv_nodes_count : Int32) (xa_nodes_addresses : Nat → Int32) (xa_nodes_distances : Nat → Int32) (xa_nodes_parents : Nat → Int32) (mv_routers : Int32) (ma_parentOf : Nat → Int32) (ma_addressOf : Nat → Int32) (ma_depthOf : Nat → Int32) (mv_percent : Int32) (mv_random : Int32) (ma_marks : Nat → Int32) (mv_received : Int32) (mv_unmarked : Int32) (mv_nodes : Int32) (ma_nodeAddresses : Nat → Int32) (ma_nodeDistances : Nat → Int32) (ma_nodeParents : Nat → Int32) (hR : Rel k xv_markingPercent xv_network_count xa_network_parents xa_network_addresses xa_network_depths xv_generator_state xv_marks_unmarkedPackets xv_marks_markedPackets xa_marks_counts xa_marks_fragmentSets xv_nodes_count xa_nodes_addresses xa_nodes_distances xa_nodes_parents mv_routers ma_parentOf ma_addressOf ma_depthOf mv_percent mv_random ma_marks mv_received mv_unmarked mv_nodes ma_nodeAddresses ma_nodeDistances ma_nodeParents)  (p1 : Int32) : ∃ (r : Int32) (xo_generator_state : Int32) (mo_random : Int32), fX5_setSeed p1 xv_generator_state = some (r, xo_generator_state) ∧ fX6_setSeed p1 mv_random = some (r, mo_random) ∧ Rel (k + 1) xv_markingPercent xv_network_count xa_network_parents xa_network_addresses xa_network_depths xo_generator_state xv_marks_unmarkedPackets xv_marks_markedPackets xa_marks_counts xa_marks_fragmentSets xv_nodes_count xa_nodes_addresses xa_nodes_distances xa_nodes_parents mv_routers ma_parentOf ma_addressOf ma_depthOf mv_percent mo_random ma_marks mv_received mv_unmarked mv_nodes ma_nodeAddresses ma_nodeDistances ma_nodeParents := by
  obtain ⟨⟨h1, rfl⟩, hn, hm, ht⟩ := hR
  exact ⟨xv_generator_state, p1, p1, rfl, rfl, ⟨h1, rfl⟩, hn, hm.up, ht⟩
set_option maxHeartbeats 1000000 in
theorem eq_unmarkedCount (N : Nat) (hN : 5000 ≤ N) (k : Nat) (hk : k < 512) (xv_markingPercent : Int32) (xv_network_count : Int32) (xa_network_parents : Nat → Int32) (xa_network_addresses : Nat → Int32) (xa_network_depths : Nat → Int32) (xv_generator_state : Int32) (xv_marks_unmarkedPackets : Int32) (xv_marks_markedPackets : Int32) (xa_marks_counts : Nat → Int32) (xa_marks_fragmentSets : Nat → Int32) (xv_nodes_count : Int32) (xa_nodes_addresses : Nat → Int32) (xa_nodes_distances : Nat → Int32) (xa_nodes_parents : Nat → Int32) (mv_routers : Int32) (ma_parentOf : Nat → Int32) (ma_addressOf : Nat → Int32) (ma_depthOf : Nat → Int32) (mv_percent : Int32) (mv_random : Int32) (ma_marks : Nat → Int32) (mv_received : Int32) (mv_unmarked : Int32) (mv_nodes : Int32) (ma_nodeAddresses : Nat → Int32) (ma_nodeDistances : Nat → Int32) (ma_nodeParents : Nat → Int32) (hR : Rel k xv_markingPercent xv_network_count xa_network_parents xa_network_addresses xa_network_depths xv_generator_state xv_marks_unmarkedPackets xv_marks_markedPackets xa_marks_counts xa_marks_fragmentSets xv_nodes_count xa_nodes_addresses xa_nodes_distances xa_nodes_parents mv_routers ma_parentOf ma_addressOf ma_depthOf mv_percent mv_random ma_marks mv_received mv_unmarked mv_nodes ma_nodeAddresses ma_nodeDistances ma_nodeParents)   : ∃ (r : Int32) , fX5_unmarkedCount xv_marks_unmarkedPackets = some r ∧ fX6_unmarkedCount mv_unmarked = some r ∧ Rel (k + 1) xv_markingPercent xv_network_count xa_network_parents xa_network_addresses xa_network_depths xv_generator_state xv_marks_unmarkedPackets xv_marks_markedPackets xa_marks_counts xa_marks_fragmentSets xv_nodes_count xa_nodes_addresses xa_nodes_distances xa_nodes_parents mv_routers ma_parentOf ma_addressOf ma_depthOf mv_percent mv_random ma_marks mv_received mv_unmarked mv_nodes ma_nodeAddresses ma_nodeDistances ma_nodeParents := by
  obtain ⟨h1, hn, hm, ht⟩ := hR
  obtain ⟨cn, fs, a, b, c, d⟩ := id hm
  exact ⟨mv_unmarked, by rw [b]; rfl, rfl, h1, hn, hm.up, ht⟩
/-- a mark's place in the row of counts -/
theorem countPlace_nI {d o f : Nat} (hd : d < 32) (ho : o < 4) (hf : f < 32) : fX1_countPlace (nI d) (nI o) (nI f) = some (nI (32 * (4 * d + o) + f)) := by
  unfold fX1_countPlace fX1_setPlace
  simp only [bd1_s]
  rw [pk_andN (by omega) 5 (by decide), pk_andN (by omega) 2 (by decide), pk_andN (by omega) 5 (by decide)]
  rw [show (4 : Int32) = nI 4 from rfl, show (32 : Int32) = nI 32 from rfl, pk_mul, nI_add, pk_mul, nI_add]
  congr 2
  rw [Nat.mod_eq_of_lt (by omega), Nat.mod_eq_of_lt (by omega), Nat.mod_eq_of_lt (by omega)]
  omega
theorem setPlace_nI {d o : Nat} (hd : d < 32) (ho : o < 4) : fX1_setPlace (nI d) (nI o) = some (nI (4 * d + o)) := by
  unfold fX1_setPlace
  rw [pk_andN (by omega) 5 (by decide), pk_andN (by omega) 2 (by decide)]
  rw [show (4 : Int32) = nI 4 from rfl, pk_mul, nI_add]
  congr 2
  rw [Nat.mod_eq_of_lt (by omega), Nat.mod_eq_of_lt (by omega)]
  omega
theorem placeOf_nI (d o f : Nat) : fX6_placeOf (nI d) (nI o) (nI f) = some (nI (32 * (4 * d + o) + f)) := by
  unfold fX6_placeOf
  rw [show (128 : Int32) = nI 128 from rfl, show (32 : Int32) = nI 32 from rfl, pk_mul, pk_mul, nI_add, nI_add]
  congr 2
  omega
theorem mark_two (x y z : Int32) : (∃ d o f, d < 32 ∧ o < 4 ∧ f < 32 ∧ x = nI d ∧ y = nI o ∧ z = nI f ∧ fX5_isMark x y z = some 1 ∧ fX6_isMark x y z = some 1) ∨ (fX5_isMark x y z = some 0 ∧ fX6_isMark x y z = some 0) := by
  unfold fX5_isMark fX6_isMark
  rcases below_within x 31 (by omega) with ⟨d, hd, e1, a1, a2⟩ | ⟨a1, a2⟩
  · have a1 : fX5_isBelow x (32 : Int32) = some 1 := a1
    have a2 : fX6_within x (0 : Int32) (31 : Int32) = some 1 := a2
    rcases below_within y 3 (by omega) with ⟨o, ho, e2, b1, b2⟩ | ⟨b1, b2⟩
    · have b1 : fX5_isBelow y (4 : Int32) = some 1 := b1
      have b2 : fX6_within y (0 : Int32) (3 : Int32) = some 1 := b2
      rcases below_within z 31 (by omega) with ⟨f, hf, e3, c1, c2⟩ | ⟨c1, c2⟩
      · have c1 : fX5_isBelow z (32 : Int32) = some 1 := c1
        have c2 : fX6_within z (0 : Int32) (31 : Int32) = some 1 := c2
        refine Or.inl ⟨d, o, f, hd, ho, hf, e1, e2, e3, ?_, ?_⟩
        · rw [a1, bd1_s, if_neg one_ne, b1, bd1_s, if_neg one_ne, c1]; rfl
        · rw [a2, bd1_s, if_neg one_ne, b2, bd1_s, if_neg one_ne, c2]; rfl
      · have c1 : fX5_isBelow z (32 : Int32) = some 0 := c1
        have c2 : fX6_within z (0 : Int32) (31 : Int32) = some 0 := c2
        refine Or.inr ⟨?_, ?_⟩
        · rw [a1, bd1_s, if_neg one_ne, b1, bd1_s, if_neg one_ne, c1]; rfl
        · rw [a2, bd1_s, if_neg one_ne, b2, bd1_s, if_neg one_ne, c2]; rfl
    · have b1 : fX5_isBelow y (4 : Int32) = some 0 := b1
      have b2 : fX6_within y (0 : Int32) (3 : Int32) = some 0 := b2
      refine Or.inr ⟨?_, ?_⟩
      · rw [a1, bd1_s, if_neg one_ne, b1]; rfl
      · rw [a2, bd1_s, if_neg one_ne, b2]; rfl
  · have a1 : fX5_isBelow x (32 : Int32) = some 0 := a1
    have a2 : fX6_within x (0 : Int32) (31 : Int32) = some 0 := a2
    refine Or.inr ⟨?_, ?_⟩
    · rw [a1]; rfl
    · rw [a2]; rfl
set_option maxHeartbeats 1000000 in
theorem eq_markCount (N : Nat) (hN : 5000 ≤ N) (k : Nat) (hk : k < 512) (xv_markingPercent : Int32) (xv_network_count : Int32) (xa_network_parents : Nat → Int32) (xa_network_addresses : Nat → Int32) (xa_network_depths : Nat → Int32) (xv_generator_state : Int32) (xv_marks_unmarkedPackets : Int32) (xv_marks_markedPackets : Int32) (xa_marks_counts : Nat → Int32) (xa_marks_fragmentSets : Nat → Int32) (xv_nodes_count : Int32) (xa_nodes_addresses : Nat → Int32) (xa_nodes_distances : Nat → Int32) (xa_nodes_parents : Nat → Int32) (mv_routers : Int32) (ma_parentOf : Nat → Int32) (ma_addressOf : Nat → Int32) (ma_depthOf : Nat → Int32) (mv_percent : Int32) (mv_random : Int32) (ma_marks : Nat → Int32) (mv_received : Int32) (mv_unmarked : Int32) (mv_nodes : Int32) (ma_nodeAddresses : Nat → Int32) (ma_nodeDistances : Nat → Int32) (ma_nodeParents : Nat → Int32) (hR : Rel k xv_markingPercent xv_network_count xa_network_parents xa_network_addresses xa_network_depths xv_generator_state xv_marks_unmarkedPackets xv_marks_markedPackets xa_marks_counts xa_marks_fragmentSets xv_nodes_count xa_nodes_addresses xa_nodes_distances xa_nodes_parents mv_routers ma_parentOf ma_addressOf ma_depthOf mv_percent mv_random ma_marks mv_received mv_unmarked mv_nodes ma_nodeAddresses ma_nodeDistances ma_nodeParents)  (p1 : Int32) (p2 : Int32) (p3 : Int32) : ∃ (r : Int32) , fX5_markCount p1 p2 p3 xa_marks_counts = some r ∧ fX6_markCount p1 p2 p3 ma_marks = some r ∧ Rel (k + 1) xv_markingPercent xv_network_count xa_network_parents xa_network_addresses xa_network_depths xv_generator_state xv_marks_unmarkedPackets xv_marks_markedPackets xa_marks_counts xa_marks_fragmentSets xv_nodes_count xa_nodes_addresses xa_nodes_distances xa_nodes_parents mv_routers ma_parentOf ma_addressOf ma_depthOf mv_percent mv_random ma_marks mv_received mv_unmarked mv_nodes ma_nodeAddresses ma_nodeDistances ma_nodeParents := by
  obtain ⟨h1, hn, hm, ht⟩ := hR
  obtain ⟨cn, fs, a, b, c, d⟩ := id hm
  rcases mark_two p1 p2 p3 with ⟨x, y, z, hx, hy, hz, rfl, rfl, rfl, q1, q2⟩ | ⟨q1, q2⟩
  · obtain ⟨c1, c2, -⟩ := c (32 * (4 * x + y) + z) (by omega)
    refine ⟨nI (cn (32 * (4 * x + y) + z)), ?_, ?_, h1, hn, hm.up, ht⟩
    · unfold fX5_markCount fX1_countOf
      rw [q1, bd1_s, if_neg one_ne, countPlace_nI hx hy hz, bd1_s, gt_in (by omega) (by omega), nI_clamp (by omega), c1]
      rfl
    · unfold fX6_markCount
      rw [q2, bd1_s, if_neg one_ne, placeOf_nI, bd1_s, gt_in (by omega) (by omega), nI_clamp (by omega), c2]
  · refine ⟨-2, ?_, ?_, h1, hn, hm.up, ht⟩
    · unfold fX5_markCount; rw [q1]; rfl
    · unfold fX6_markCount; rw [q2]; rfl
set_option maxHeartbeats 1000000 in
theorem eq_nodeCount (N : Nat) (hN : 5000 ≤ N) (k : Nat) (hk : k < 512) (xv_markingPercent : Int32) (xv_network_count : Int32) (xa_network_parents : Nat → Int32) (xa_network_addresses : Nat → Int32) (xa_network_depths : Nat → Int32) (xv_generator_state : Int32) (xv_marks_unmarkedPackets : Int32) (xv_marks_markedPackets : Int32) (xa_marks_counts : Nat → Int32) (xa_marks_fragmentSets : Nat → Int32) (xv_nodes_count : Int32) (xa_nodes_addresses : Nat → Int32) (xa_nodes_distances : Nat → Int32) (xa_nodes_parents : Nat → Int32) (mv_routers : Int32) (ma_parentOf : Nat → Int32) (ma_addressOf : Nat → Int32) (ma_depthOf : Nat → Int32) (mv_percent : Int32) (mv_random : Int32) (ma_marks : Nat → Int32) (mv_received : Int32) (mv_unmarked : Int32) (mv_nodes : Int32) (ma_nodeAddresses : Nat → Int32) (ma_nodeDistances : Nat → Int32) (ma_nodeParents : Nat → Int32) (hR : Rel k xv_markingPercent xv_network_count xa_network_parents xa_network_addresses xa_network_depths xv_generator_state xv_marks_unmarkedPackets xv_marks_markedPackets xa_marks_counts xa_marks_fragmentSets xv_nodes_count xa_nodes_addresses xa_nodes_distances xa_nodes_parents mv_routers ma_parentOf ma_addressOf ma_depthOf mv_percent mv_random ma_marks mv_received mv_unmarked mv_nodes ma_nodeAddresses ma_nodeDistances ma_nodeParents)   : ∃ (r : Int32) , fX5_nodeCount xv_nodes_count = some r ∧ fX6_nodeCount mv_nodes = some r ∧ Rel (k + 1) xv_markingPercent xv_network_count xa_network_parents xa_network_addresses xa_network_depths xv_generator_state xv_marks_unmarkedPackets xv_marks_markedPackets xa_marks_counts xa_marks_fragmentSets xv_nodes_count xa_nodes_addresses xa_nodes_distances xa_nodes_parents mv_routers ma_parentOf ma_addressOf ma_depthOf mv_percent mv_random ma_marks mv_received mv_unmarked mv_nodes ma_nodeAddresses ma_nodeDistances ma_nodeParents := by
  obtain ⟨h1, hn, hm, ht⟩ := hR
  obtain ⟨n, na, nd, np, a, b, c, d⟩ := id ht
  exact ⟨nI n, by rw [b]; rfl, by rw [c]; rfl, h1, hn, hm.up, ht⟩
set_option maxHeartbeats 1000000 in
theorem eq_nodeAddress (N : Nat) (hN : 5000 ≤ N) (k : Nat) (hk : k < 512) (xv_markingPercent : Int32) (xv_network_count : Int32) (xa_network_parents : Nat → Int32) (xa_network_addresses : Nat → Int32) (xa_network_depths : Nat → Int32) (xv_generator_state : Int32) (xv_marks_unmarkedPackets : Int32) (xv_marks_markedPackets : Int32) (xa_marks_counts : Nat → Int32) (xa_marks_fragmentSets : Nat → Int32) (xv_nodes_count : Int32) (xa_nodes_addresses : Nat → Int32) (xa_nodes_distances : Nat → Int32) (xa_nodes_parents : Nat → Int32) (mv_routers : Int32) (ma_parentOf : Nat → Int32) (ma_addressOf : Nat → Int32) (ma_depthOf : Nat → Int32) (mv_percent : Int32) (mv_random : Int32) (ma_marks : Nat → Int32) (mv_received : Int32) (mv_unmarked : Int32) (mv_nodes : Int32) (ma_nodeAddresses : Nat → Int32) (ma_nodeDistances : Nat → Int32) (ma_nodeParents : Nat → Int32) (hR : Rel k xv_markingPercent xv_network_count xa_network_parents xa_network_addresses xa_network_depths xv_generator_state xv_marks_unmarkedPackets xv_marks_markedPackets xa_marks_counts xa_marks_fragmentSets xv_nodes_count xa_nodes_addresses xa_nodes_distances xa_nodes_parents mv_routers ma_parentOf ma_addressOf ma_depthOf mv_percent mv_random ma_marks mv_received mv_unmarked mv_nodes ma_nodeAddresses ma_nodeDistances ma_nodeParents)  (p1 : Int32) : ∃ (r : Int32) , fX5_nodeAddress p1 xv_nodes_count xa_nodes_addresses = some r ∧ fX6_nodeAddress p1 mv_nodes ma_nodeAddresses = some r ∧ Rel (k + 1) xv_markingPercent xv_network_count xa_network_parents xa_network_addresses xa_network_depths xv_generator_state xv_marks_unmarkedPackets xv_marks_markedPackets xa_marks_counts xa_marks_fragmentSets xv_nodes_count xa_nodes_addresses xa_nodes_distances xa_nodes_parents mv_routers ma_parentOf ma_addressOf ma_depthOf mv_percent mv_random ma_marks mv_received mv_unmarked mv_nodes ma_nodeAddresses ma_nodeDistances ma_nodeParents := by
  obtain ⟨h1, hn, hm, ht⟩ := hR
  obtain ⟨n, na, nd, np, a, b, c, d⟩ := id ht
  rcases ix p1 (k := n) (by omega) with h | ⟨j, hj, rfl⟩
  · refine ⟨-5, ?_, ?_, h1, hn, hm.up, ht⟩
    · unfold fX5_nodeAddress; rw [b, has3_no h]; rfl
    · unfold fX6_nodeAddress; rw [c, isNode_no (by omega) h]; rfl
  · obtain ⟨d1, d2, -⟩ := d j hj
    refine ⟨nI (na j), ?_, ?_, h1, hn, hm.up, ht⟩
    · unfold fX5_nodeAddress; rw [b, has3_yes hj a, bd1_s, if_neg one_ne, addressOf3_yes hj a, d1]; rfl
    · unfold fX6_nodeAddress; rw [c, isNode_yes hj (by omega), bd1_s, if_neg one_ne, gt_in (by omega) (by omega), nI_clamp (by omega), d2]
set_option maxHeartbeats 1000000 in
theorem eq_nodeDistance (N : Nat) (hN : 5000 ≤ N) (k : Nat) (hk : k < 512) (xv_markingPercent : Int32) (xv_network_count : Int32) (xa_network_parents : Nat → Int32) (xa_network_addresses : Nat → Int32) (xa_network_depths : Nat → Int32) (xv_generator_state : Int32) (xv_marks_unmarkedPackets : Int32) (xv_marks_markedPackets : Int32) (xa_marks_counts : Nat → Int32) (xa_marks_fragmentSets : Nat → Int32) (xv_nodes_count : Int32) (xa_nodes_addresses : Nat → Int32) (xa_nodes_distances : Nat → Int32) (xa_nodes_parents : Nat → Int32) (mv_routers : Int32) (ma_parentOf : Nat → Int32) (ma_addressOf : Nat → Int32) (ma_depthOf : Nat → Int32) (mv_percent : Int32) (mv_random : Int32) (ma_marks : Nat → Int32) (mv_received : Int32) (mv_unmarked : Int32) (mv_nodes : Int32) (ma_nodeAddresses : Nat → Int32) (ma_nodeDistances : Nat → Int32) (ma_nodeParents : Nat → Int32) (hR : Rel k xv_markingPercent xv_network_count xa_network_parents xa_network_addresses xa_network_depths xv_generator_state xv_marks_unmarkedPackets xv_marks_markedPackets xa_marks_counts xa_marks_fragmentSets xv_nodes_count xa_nodes_addresses xa_nodes_distances xa_nodes_parents mv_routers ma_parentOf ma_addressOf ma_depthOf mv_percent mv_random ma_marks mv_received mv_unmarked mv_nodes ma_nodeAddresses ma_nodeDistances ma_nodeParents)  (p1 : Int32) : ∃ (r : Int32) , fX5_nodeDistance p1 xv_nodes_count xa_nodes_distances = some r ∧ fX6_nodeDistance p1 mv_nodes ma_nodeDistances = some r ∧ Rel (k + 1) xv_markingPercent xv_network_count xa_network_parents xa_network_addresses xa_network_depths xv_generator_state xv_marks_unmarkedPackets xv_marks_markedPackets xa_marks_counts xa_marks_fragmentSets xv_nodes_count xa_nodes_addresses xa_nodes_distances xa_nodes_parents mv_routers ma_parentOf ma_addressOf ma_depthOf mv_percent mv_random ma_marks mv_received mv_unmarked mv_nodes ma_nodeAddresses ma_nodeDistances ma_nodeParents := by
  obtain ⟨h1, hn, hm, ht⟩ := hR
  obtain ⟨n, na, nd, np, a, b, c, d⟩ := id ht
  rcases ix p1 (k := n) (by omega) with h | ⟨j, hj, rfl⟩
  · refine ⟨-5, ?_, ?_, h1, hn, hm.up, ht⟩
    · unfold fX5_nodeDistance; rw [b, has3_no h]; rfl
    · unfold fX6_nodeDistance; rw [c, isNode_no (by omega) h]; rfl
  · obtain ⟨d1, d2, d3, d4, d5, -⟩ := d j hj
    refine ⟨nI (nd j), ?_, ?_, h1, hn, hm.up, ht⟩
    · unfold fX5_nodeDistance; rw [b, has3_yes hj a, bd1_s, if_neg one_ne, distanceOf3_yes hj a, d4]; rfl
    · unfold fX6_nodeDistance; rw [c, isNode_yes hj (by omega), bd1_s, if_neg one_ne, gt_in (by omega) (by omega), nI_clamp (by omega), d5]
set_option maxHeartbeats 1000000 in
theorem eq_nodeParent (N : Nat) (hN : 5000 ≤ N) (k : Nat) (hk : k < 512) (xv_markingPercent : Int32) (xv_network_count : Int32) (xa_network_parents : Nat → Int32) (xa_network_addresses : Nat → Int32) (xa_network_depths : Nat → Int32) (xv_generator_state : Int32) (xv_marks_unmarkedPackets : Int32) (xv_marks_markedPackets : Int32) (xa_marks_counts : Nat → Int32) (xa_marks_fragmentSets : Nat → Int32) (xv_nodes_count : Int32) (xa_nodes_addresses : Nat → Int32) (xa_nodes_distances : Nat → Int32) (xa_nodes_parents : Nat → Int32) (mv_routers : Int32) (ma_parentOf : Nat → Int32) (ma_addressOf : Nat → Int32) (ma_depthOf : Nat → Int32) (mv_percent : Int32) (mv_random : Int32) (ma_marks : Nat → Int32) (mv_received : Int32) (mv_unmarked : Int32) (mv_nodes : Int32) (ma_nodeAddresses : Nat → Int32) (ma_nodeDistances : Nat → Int32) (ma_nodeParents : Nat → Int32) (hR : Rel k xv_markingPercent xv_network_count xa_network_parents xa_network_addresses xa_network_depths xv_generator_state xv_marks_unmarkedPackets xv_marks_markedPackets xa_marks_counts xa_marks_fragmentSets xv_nodes_count xa_nodes_addresses xa_nodes_distances xa_nodes_parents mv_routers ma_parentOf ma_addressOf ma_depthOf mv_percent mv_random ma_marks mv_received mv_unmarked mv_nodes ma_nodeAddresses ma_nodeDistances ma_nodeParents)  (p1 : Int32) : ∃ (r : Int32) , fX5_nodeParent p1 xv_nodes_count xa_nodes_parents = some r ∧ fX6_nodeParent p1 mv_nodes ma_nodeParents = some r ∧ Rel (k + 1) xv_markingPercent xv_network_count xa_network_parents xa_network_addresses xa_network_depths xv_generator_state xv_marks_unmarkedPackets xv_marks_markedPackets xa_marks_counts xa_marks_fragmentSets xv_nodes_count xa_nodes_addresses xa_nodes_distances xa_nodes_parents mv_routers ma_parentOf ma_addressOf ma_depthOf mv_percent mv_random ma_marks mv_received mv_unmarked mv_nodes ma_nodeAddresses ma_nodeDistances ma_nodeParents := by
  obtain ⟨h1, hn, hm, ht⟩ := hR
  obtain ⟨n, na, nd, np, a, b, c, d⟩ := id ht
  rcases ix p1 (k := n) (by omega) with h | ⟨j, hj, rfl⟩
  · refine ⟨-5, ?_, ?_, h1, hn, hm.up, ht⟩
    · unfold fX5_nodeParent; rw [b, has3_no h]; rfl
    · unfold fX6_nodeParent; rw [c, isNode_no (by omega) h]; rfl
  · obtain ⟨d1, d2, d3, d4, d5, d6, d7, d8⟩ := d j hj
    have e : xa_nodes_parents j = ma_nodeParents j := by
      rcases Nat.eq_zero_or_pos (nd j) with q | q
      · rw [(d7 q).1, (d7 q).2]
      · rw [(d8 q).2.1, (d8 q).2.2]
    refine ⟨ma_nodeParents j, ?_, ?_, h1, hn, hm.up, ht⟩
    · unfold fX5_nodeParent; rw [b, has3_yes hj a, bd1_s, if_neg one_ne, parentOf3_yes hj a, e]; rfl
    · unfold fX6_nodeParent; rw [c, isNode_yes hj (by omega), bd1_s, if_neg one_ne, gt_in (by omega) (by omega), nI_clamp (by omega)]
