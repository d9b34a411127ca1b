/-! nodes and the routers behind them -/
theorem has3_m7 {k : Nat} : fX3_has (-7) (nI k) = some 0 := has3_no (Or.inl (by decide))
theorem behind_n {N k t j : Nat} {pa ad de na nd np : Nat → Nat} {cnt : Int32} {P A D : Nat → Int32} {ro : Int32} {po ao dO : Nat → Int32} {tc : Int32} {TA TD TP : Nat → Int32} {no : Int32} {nA nD nP : Nat → Int32} (hN : 5000 ≤ N) (h : NetOk k pa ad de cnt P A D ro po ao dO) (ht : TreeOk t na nd np tc TA TD TP no nA nD nP) (hj : j < t) :
    ∃ r, fX5_routerBehind N (nI j) cnt P A tc TA TP = some r ∧ fX6_routerOf N (nI j) ro po ao nA nP = some r := by
  obtain ⟨h1, rfl, rfl, h4⟩ := id h
  obtain ⟨t1, rfl, rfl, t4⟩ := id ht
  obtain ⟨j1, j2, j3, j4, j5, j6, j7, j8⟩ := t4 j hj
  have hAB : ∀ i, i < k → A i = ao i := fun i hi => (h4 i hi).1.trans (h4 i hi).2.1.symm
  unfold fX5_routerBehind fX6_routerOf
  rw [addressOf3_yes hj t1, bd1_s, j1, gt_in (by omega) (by omega), nI_clamp (by omega), j2]
  -- from two states that stand for the same
  have key : ∀ (y0 : Int32) (x : Nat) (s1 : Int32 × Int32 × Int32) (s2 : Int32 × Int32), (∃ h, s1.2.2 = nI h ∧ ((∃ i, i < k ∧ h + de i ≤ 19 ∧ x = de i + 2 ∧ s1.1 = nI i ∧ s2.1 = nI i) ∨ (h ≤ 20 ∧ x = 1 ∧ s1.1 = -1 ∧ s2.1 = -7)) ∧ ((∃ q, q < t ∧ s1.2.1 = nI q ∧ s2.2 = nI q) ∨ (s1.2.1 = -7 ∧ s2.2 = -7))) → ∀ n, x < n → ∃ r1 r2, lp (fun s : Int32 × Int32 × Int32 => bX5_routerBehind_24 (nI k) P A (nI t) TA TP y0 s.1 s.2.1 s.2.2) n s1 = some r1 ∧ lp (fun s : Int32 × Int32 => bX6_routerOf_16 po ao nA nP y0 s.1 s.2) n s2 = some r2 ∧ r1 = r2 := by
    intro y0
    refine lp_two _ (fun r1 r2 => r1 = r2) ?_
    rintro x ⟨a1, a2, a3⟩ ⟨b1, b2⟩ ⟨hh, e3, hr, hnode⟩
    dsimp only at e3 hr hnode ⊢
    subst e3
    rcases hr with ⟨i, hi, hde, rfl, rfl, rfl⟩ | ⟨hh20, rfl, rfl, rfl⟩
    · obtain ⟨g1, g2, g3, g4, g5, g6, g7⟩ := h4 i hi
      unfold bX5_routerBehind_24 bX6_routerOf_16
      rw [if_neg (show ¬ (20 : Int32) ≤ nI hh from nI_ge (b := 20) (by omega) (by omega)), has2_yes hi h1, bd1_s, if_neg one_ne, if_neg (nI_ne7 (by omega))]
      rcases hnode with ⟨q, hq, rfl, rfl⟩ | ⟨rfl, rfl⟩
      · obtain ⟨k1, k2, k3, k4, k5, k6, k7, k8⟩ := t4 q hq
        rw [has3_yes hq t1, bd1_s, if_neg one_ne, if_neg (nI_ne7 (by omega)), addressOf2_yes hi h1, bd1_s, addressOf3_yes hq t1, bd1_s, gt_in (by omega) (by omega), gt_in (by omega) (by omega), nI_clamp (by omega), nI_clamp (by omega), g1, g2, k1, k2]
        by_cases e : nI (ad i) = nI (na q)
        · rw [if_pos e, if_pos e, parentOf2_yes hi h1, bd1_s, parentOf3_yes hq t1, bd1_s, nm_eq, nm_eq, nI_1]
          have hnode' : (∃ q', q' < t ∧ TP q = nI q' ∧ nP q = nI q') ∨ (TP q = -7 ∧ nP q = -7) := by
            rcases Nat.eq_zero_or_pos (nd q) with z | z
            · exact Or.inr (k7 z)
            · obtain ⟨z1, z2, z3⟩ := k8 z
              exact Or.inl ⟨np q, by omega, z2, z3⟩
          rcases Nat.eq_zero_or_pos i with z | z
          · obtain ⟨z1, z2, z3⟩ := g6 z
            exact Or.inr ⟨1, _, _, by omega, rfl, rfl, hh + 1, rfl, Or.inr ⟨by omega, rfl, z1, z2⟩, hnode'⟩
          · obtain ⟨z1, z2, z3, z4⟩ := g7 z
            exact Or.inr ⟨de (pa i) + 2, _, _, by omega, rfl, rfl, hh + 1, rfl, Or.inl ⟨pa i, by omega, by omega, rfl, z2, z3⟩, hnode'⟩
        · rw [if_neg e, if_neg e]
          exact Or.inl ⟨-7, -7, rfl, rfl, rfl⟩
      · rw [has3_m7, bd1_s, if_pos rfl, bd1_s, if_neg one_ne, if_pos rfl]
        exact Or.inl ⟨-7, -7, rfl, rfl, rfl⟩
    · unfold bX5_routerBehind_24 bX6_routerOf_16
      rw [has2_m1, bd1_s, if_pos rfl, if_pos rfl]
      rcases hnode with ⟨q, hq, rfl, rfl⟩ | ⟨rfl, rfl⟩
      · rw [has3_yes hq t1, bd1_s, if_neg one_ne, if_neg (nI_ne7 (by omega))]
        refine Or.inl ⟨-7, -7, ?_, rfl, rfl⟩
        by_cases z : (20 : Int32) ≤ nI hh
        · rw [if_pos z]
        · rw [if_neg z, bd1_s, if_pos rfl]
      · rw [has3_m7, bd1_s, if_pos rfl, if_pos rfl]
        refine Or.inl ⟨y0, y0, ?_, rfl, rfl⟩
        by_cases z : (20 : Int32) ≤ nI hh
        · rw [if_pos z]
        · rw [if_neg z, bd1_s, if_pos rfl]
  rcases find_all hN h1 (nI (na j)) A ao hAB with ⟨i, hi, -, f1, -, f2⟩ | ⟨-, f1, -, f2⟩
  · rw [f1, f2, bd1_s, bd1_s]
    have hd := h.de_le i hi
    obtain ⟨r1, r2, e1, e2, e3⟩ := key (nI i) (de i + 2) (nI i, nI j, 0) (nI i, nI j) ⟨0, rfl, Or.inl ⟨i, hi, by omega, rfl, rfl, rfl⟩, Or.inl ⟨j, hj, rfl, rfl⟩⟩ N (by omega)
    subst e3
    exact ⟨r1, e1, e2⟩
  · rw [f1, f2, bd1_s, bd1_s]
    refine ⟨-7, ?_, ?_⟩
    · obtain ⟨N', rfl⟩ : ∃ N', N = N' + 1 := ⟨N - 1, by omega⟩
      apply lp_done
      show bX5_routerBehind_24 (nI k) P A (nI t) TA TP (-1) (-1) (nI j) 0 = _
      unfold bX5_routerBehind_24
      rw [if_neg (by decide), has2_m1, bd1_s, if_pos rfl, bd1_s, if_pos rfl, has3_yes hj t1, bd1_s, if_neg one_ne]
    · obtain ⟨N', rfl⟩ : ∃ N', N = N' + 1 := ⟨N - 1, by omega⟩
      apply lp_done
      show bX6_routerOf_16 po ao nA nP (-7) (-7) (nI j) = _
      unfold bX6_routerOf_16
      rw [if_pos rfl, if_neg (nI_ne7 (by omega))]
set_option maxHeartbeats 1000000 in
theorem eq_nodeRouter (N : Nat) (hN : 5000 ≤ N) (k : Nat) (hk : k < 512) (xv_markingPercent : Int32) (xv_network_count : Int32) (xa_network_parents : Nat → Int32) (xa_network_addresses : Nat → Int32) (xa_network_depths : Nat → Int32) (xv_generator_state : Int32) (xv_marks_unmarkedPackets : Int32) (xv_marks_markedPackets : Int32) (xa_marks_counts : Nat → Int32) (xa_marks_fragmentSets : Nat → Int32) (xv_nodes_count : Int32) (xa_nodes_addresses : Nat → Int32) (xa_nodes_distances : Nat → Int32) (xa_nodes_parents : Nat → Int32) (mv_routers : Int32) (ma_parentOf : Nat → Int32) (ma_addressOf : Nat → Int32) (ma_depthOf : Nat → Int32) (mv_percent : Int32) (mv_random : Int32) (ma_marks : Nat → Int32) (mv_received : Int32) (mv_unmarked : Int32) (mv_nodes : Int32) (ma_nodeAddresses : Nat → Int32) (ma_nodeDistances : Nat → Int32) (ma_nodeParents : Nat → Int32) (hR : Rel k xv_markingPercent xv_network_count xa_network_parents xa_network_addresses xa_network_depths xv_generator_state xv_marks_unmarkedPackets xv_marks_markedPackets xa_marks_counts xa_marks_fragmentSets xv_nodes_count xa_nodes_addresses xa_nodes_distances xa_nodes_parents mv_routers ma_parentOf ma_addressOf ma_depthOf mv_percent mv_random ma_marks mv_received mv_unmarked mv_nodes ma_nodeAddresses ma_nodeDistances ma_nodeParents)  (p1 : Int32) : ∃ (r : Int32) , fX5_nodeRouter N p1 xv_network_count xa_network_parents xa_network_addresses xv_nodes_count xa_nodes_addresses xa_nodes_parents = some r ∧ fX6_nodeRouter N p1 mv_routers mv_nodes ma_parentOf ma_addressOf ma_nodeAddresses ma_nodeParents = some r ∧ Rel (k + 1) xv_markingPercent xv_network_count xa_network_parents xa_network_addresses xa_network_depths xv_generator_state xv_marks_unmarkedPackets xv_marks_markedPackets xa_marks_counts xa_marks_fragmentSets xv_nodes_count xa_nodes_addresses xa_nodes_distances xa_nodes_parents mv_routers ma_parentOf ma_addressOf ma_depthOf mv_percent mv_random ma_marks mv_received mv_unmarked mv_nodes ma_nodeAddresses ma_nodeDistances ma_nodeParents := by
  obtain ⟨h1, hn, hm, ht⟩ := hR
  obtain ⟨n, pa, ad, de, hok⟩ := id hn
  obtain ⟨t, na, nd, np, hto⟩ := id ht
  have t1 := hto.1
  have b := hto.2.1
  have c := hto.2.2.1
  unfold fX5_nodeRouter fX6_nodeRouter
  rcases ix p1 (k := t) (by omega) with h | ⟨j, hj, rfl⟩
  · refine ⟨-5, ?_, ?_, h1, hn, hm.up, ht⟩
    · rw [b, has3_no h]; rfl
    · rw [c, isNode_no (by omega) h]; rfl
  · obtain ⟨r, e1, e2⟩ := behind_n hN hok hto hj
    refine ⟨r, ?_, ?_, h1, hn, hm.up, ht⟩
    · rw [e1, b, has3_yes hj t1]; rfl
    · rw [e2, c, isNode_yes hj (by omega)]; rfl
set_option maxHeartbeats 1000000 in
theorem eq_falseNodeCount (N : Nat) (hN : 5000 ≤ N) (k : Nat) (hk : k < 512) (xv_markingPercent : Int32) (xv_network_count : Int32) (xa_network_parents : Nat → Int32) (xa_network_addresses : Nat → Int32) (xa_network_depths : Nat → Int32) (xv_generator_state : Int32) (xv_marks_unmarkedPackets : Int32) (xv_marks_markedPackets : Int32) (xa_marks_counts : Nat → Int32) (xa_marks_fragmentSets : Nat → Int32) (xv_nodes_count : Int32) (xa_nodes_addresses : Nat → Int32) (xa_nodes_distances : Nat → Int32) (xa_nodes_parents : Nat → Int32) (mv_routers : Int32) (ma_parentOf : Nat → Int32) (ma_addressOf : Nat → Int32) (ma_depthOf : Nat → Int32) (mv_percent : Int32) (mv_random : Int32) (ma_marks : Nat → Int32) (mv_received : Int32) (mv_unmarked : Int32) (mv_nodes : Int32) (ma_nodeAddresses : Nat → Int32) (ma_nodeDistances : Nat → Int32) (ma_nodeParents : Nat → Int32) (hR : Rel k xv_markingPercent xv_network_count xa_network_parents xa_network_addresses xa_network_depths xv_generator_state xv_marks_unmarkedPackets xv_marks_markedPackets xa_marks_counts xa_marks_fragmentSets xv_nodes_count xa_nodes_addresses xa_nodes_distances xa_nodes_parents mv_routers ma_parentOf ma_addressOf ma_depthOf mv_percent mv_random ma_marks mv_received mv_unmarked mv_nodes ma_nodeAddresses ma_nodeDistances ma_nodeParents)   : ∃ (r : Int32) , fX5_falseNodeCount N xv_network_count xa_network_parents xa_network_addresses xv_nodes_count xa_nodes_addresses xa_nodes_parents = some r ∧ fX6_falseNodeCount N mv_routers mv_nodes ma_parentOf ma_addressOf ma_nodeAddresses ma_nodeParents = some r ∧ Rel (k + 1) xv_markingPercent xv_network_count xa_network_parents xa_network_addresses xa_network_depths xv_generator_state xv_marks_unmarkedPackets xv_marks_markedPackets xa_marks_counts xa_marks_fragmentSets xv_nodes_count xa_nodes_addresses xa_nodes_distances xa_nodes_parents mv_routers ma_parentOf ma_addressOf ma_depthOf mv_percent mv_random ma_marks mv_received mv_unmarked mv_nodes ma_nodeAddresses ma_nodeDistances ma_nodeParents := by
  obtain ⟨h1, hn, hm, ht⟩ := hR
  obtain ⟨n, pa, ad, de, hok⟩ := id hn
  obtain ⟨t, na, nd, np, hto⟩ := id ht
  have t1 := hto.1
  have b := hto.2.1
  have c := hto.2.2.1
  unfold fX5_falseNodeCount fX6_falseNodeCount
  obtain ⟨r1, r2, e1, e2, rfl⟩ := lp_two (step1 := fun s : Int32 × Int32 => bX5_falseNodeCount_4 N xv_network_count xa_network_parents xa_network_addresses xv_nodes_count xa_nodes_addresses xa_nodes_parents s.1 s.2) (step2 := fun s : Int32 × Int32 => bX6_falseNodeCount_4 N mv_routers mv_nodes ma_parentOf ma_addressOf ma_nodeAddresses ma_nodeParents s.1 s.2) (fun x s1 s2 => s1 = s2 ∧ ∃ j, j ≤ t ∧ x = t - j ∧ s1.2 = nI j) (fun r1 r2 => r1 = r2) (by
    rintro x ⟨u, v⟩ s2 ⟨rfl, j, hj, rfl, hv⟩
    dsimp only at hv ⊢
    subst hv
    unfold bX5_falseNodeCount_4 bX6_falseNodeCount_4 fX3_size
    rw [bd1_s]
    by_cases q : j = t
    · subst q
      rw [if_pos (by rw [b]; exact Int32.le_refl _), if_pos (by rw [c]; exact Int32.le_refl _)]
      exact Or.inl ⟨u, u, rfl, rfl, rfl⟩
    · obtain ⟨r, e1, e2⟩ := behind_n hN hok hto (show j < t by omega)
      rw [if_neg (by rw [b]; exact nI_ge (by omega) (by omega)), if_neg (by rw [c]; exact nI_ge (by omega) (by omega)), e1, e2, bd1_s, bd1_s, nI_1]
      by_cases z : r = -7
      · rw [if_pos z, if_pos z, nm_eq]
        exact Or.inr ⟨t - (j + 1), _, _, by omega, rfl, rfl, rfl, j + 1, by omega, rfl, rfl⟩
      · rw [if_neg z, if_neg z, nm_eq, Int32.add_zero]
        exact Or.inr ⟨t - (j + 1), _, _, by omega, rfl, rfl, rfl, j + 1, by omega, rfl, rfl⟩) t ((0 : Int32), nI 0) ((0 : Int32), nI 0) ⟨rfl, 0, by omega, by omega, rfl⟩ N (by omega)
  exact ⟨r1, e1, e2, h1, hn, hm.up, ht⟩
set_option maxHeartbeats 1000000 in
theorem eq_nodeOf (N : Nat) (hN : 5000 ≤ N) (k : Nat) (hk : k < 512) (xv_markingPercent : Int32) (xv_network_count : Int32) (xa_network_parents : Nat → Int32) (xa_network_addresses : Nat → Int32) (xa_network_depths : Nat → Int32) (xv_generator_state : Int32) (xv_marks_unmarkedPackets : Int32) (xv_marks_markedPackets : Int32) (xa_marks_counts : Nat → Int32) (xa_marks_fragmentSets : Nat → Int32) (xv_nodes_count : Int32) (xa_nodes_addresses : Nat → Int32) (xa_nodes_distances : Nat → Int32) (xa_nodes_parents : Nat → Int32) (mv_routers : Int32) (ma_parentOf : Nat → Int32) (ma_addressOf : Nat → Int32) (ma_depthOf : Nat → Int32) (mv_percent : Int32) (mv_random : Int32) (ma_marks : Nat → Int32) (mv_received : Int32) (mv_unmarked : Int32) (mv_nodes : Int32) (ma_nodeAddresses : Nat → Int32) (ma_nodeDistances : Nat → Int32) (ma_nodeParents : Nat → Int32) (hR : Rel k xv_markingPercent xv_network_count xa_network_parents xa_network_addresses xa_network_depths xv_generator_state xv_marks_unmarkedPackets xv_marks_markedPackets xa_marks_counts xa_marks_fragmentSets xv_nodes_count xa_nodes_addresses xa_nodes_distances xa_nodes_parents mv_routers ma_parentOf ma_addressOf ma_depthOf mv_percent mv_random ma_marks mv_received mv_unmarked mv_nodes ma_nodeAddresses ma_nodeDistances ma_nodeParents)  (p1 : Int32) : ∃ (r : Int32) , fX5_nodeOf N p1 xv_network_count xa_network_parents xa_network_addresses xv_nodes_count xa_nodes_addresses xa_nodes_parents = some r ∧ fX6_nodeOf N p1 mv_routers mv_nodes ma_parentOf ma_addressOf ma_nodeAddresses ma_nodeParents = some r ∧ Rel (k + 1) xv_markingPercent xv_network_count xa_network_parents xa_network_addresses xa_network_depths xv_generator_state xv_marks_unmarkedPackets xv_marks_markedPackets xa_marks_counts xa_marks_fragmentSets xv_nodes_count xa_nodes_addresses xa_nodes_distances xa_nodes_parents mv_routers ma_parentOf ma_addressOf ma_depthOf mv_percent mv_random ma_marks mv_received mv_unmarked mv_nodes ma_nodeAddresses ma_nodeDistances ma_nodeParents := by
  obtain ⟨h1, hn, hm, ht⟩ := hR
  obtain ⟨n, pa, ad, de, hok⟩ := id hn
  obtain ⟨t, na, nd, np, hto⟩ := id ht
  have k1 := hok.1
  have kb := hok.2.1
  have kc := hok.2.2.1
  have t1 := hto.1
  have b := hto.2.1
  have c := hto.2.2.1
  unfold fX5_nodeOf fX6_nodeOf
  rcases ix p1 (k := n) (by omega) with h | ⟨i, hi, ei⟩
  · refine ⟨-1, ?_, ?_, h1, hn, hm.up, ht⟩
    · rw [kb, has2_no h]; rfl
    · rw [kc, isRouter_no (by omega) h]; rfl
  · rw [show fX2_has p1 xv_network_count = some 1 by rw [kb, ei]; exact has2_yes hi k1, show fX6_isRouter p1 mv_routers = some 1 by rw [kc, ei]; exact isRouter_yes hi (by omega), bd1_s, bd1_s, if_neg one_ne, if_neg one_ne]
    obtain ⟨r1, r2, e1, e2, rfl⟩ := lp_two (step1 := fun s : Int32 => bX5_nodeOf_15 N p1 xv_network_count xa_network_parents xa_network_addresses xv_nodes_count xa_nodes_addresses xa_nodes_parents s) (step2 := fun s : Int32 => bX6_nodeOf_12 N p1 mv_routers mv_nodes ma_parentOf ma_addressOf ma_nodeAddresses ma_nodeParents s) (fun x s1 s2 => s1 = s2 ∧ ∃ j, j ≤ t ∧ x = t - j ∧ s1 = nI j) (fun r1 r2 => r1 = r2) (by
      rintro x s1 s2 ⟨rfl, j, hj, rfl, rfl⟩
      unfold bX5_nodeOf_15 bX6_nodeOf_12 fX3_size
      rw [bd1_s]
      by_cases q : j = t
      · subst q
        rw [if_pos (by rw [b]; exact Int32.le_refl _), if_pos (by rw [c]; exact Int32.le_refl _)]
        exact Or.inl ⟨-7, -7, rfl, rfl, rfl⟩
      · obtain ⟨r, e1, e2⟩ := behind_n hN hok hto (show j < t by omega)
        rw [if_neg (by rw [b]; exact nI_ge (by omega) (by omega)), if_neg (by rw [c]; exact nI_ge (by omega) (by omega)), e1, e2]
        simp only [bd1_s, nI_1]
        by_cases z : r = p1
        · rw [if_pos z]
          exact Or.inl ⟨nI j, nI j, rfl, rfl, rfl⟩
        · rw [if_neg z]
          exact Or.inr ⟨t - (j + 1), _, _, by omega, rfl, rfl, rfl, j + 1, by omega, rfl, rfl⟩) t (nI 0) (nI 0) ⟨rfl, 0, by omega, by omega, rfl⟩ N (by omega)
    exact ⟨r1, e1, e2, h1, hn, hm.up, ht⟩
