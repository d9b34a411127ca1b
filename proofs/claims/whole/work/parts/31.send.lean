/-! sendPackets, sendForged -/
theorem bd11_s {a1 a2 a3 a4 a5 a6 a7 a8 a9 a10 a11 β : Type} {u1 : a1} {u2 : a2} {u3 : a3} {u4 : a4} {u5 : a5} {u6 : a6} {u7 : a7} {u8 : a8} {u9 : a9} {u10 : a10} {u11 : a11} {k : a1 → a2 → a3 → a4 → a5 → a6 → a7 → a8 → a9 → a10 → a11 → Option β} : bd11 (some (u1, u2, u3, u4, u5, u6, u7, u8, u9, u10, u11)) k = k u1 u2 u3 u4 u5 u6 u7 u8 u9 u10 u11 := rfl
theorem startUn : fX4_startUnmarked = some (0, 0, 0, 0, 0) := rfl
theorem startFo (a b c : Int32) : fX4_startForged a b c = some (1, 0, a, b, c) := rfl
set_option maxHeartbeats 1000000 in
theorem eq_sendPackets (N : Nat) (hN : 5000 ≤ N) (k : Nat) (hk : k < 512) (xv_markingPercent : Int32) (xv_network_count : Int32) (xa_network_parents : Nat → Int32) (xa_network_addresses : Nat → Int32) (xa_network_depths : Nat → Int32) (xv_generator_state : Int32) (xv_marks_unmarkedPackets : Int32) (xv_marks_markedPackets : Int32) (xa_marks_counts : Nat → Int32) (xa_marks_fragmentSets : Nat → Int32) (xv_nodes_count : Int32) (xa_nodes_addresses : Nat → Int32) (xa_nodes_distances : Nat → Int32) (xa_nodes_parents : Nat → Int32) (mv_routers : Int32) (ma_parentOf : Nat → Int32) (ma_addressOf : Nat → Int32) (ma_depthOf : Nat → Int32) (mv_percent : Int32) (mv_random : Int32) (ma_marks : Nat → Int32) (mv_received : Int32) (mv_unmarked : Int32) (mv_nodes : Int32) (ma_nodeAddresses : Nat → Int32) (ma_nodeDistances : Nat → Int32) (ma_nodeParents : Nat → Int32) (hR : Rel k xv_markingPercent xv_network_count xa_network_parents xa_network_addresses xa_network_depths xv_generator_state xv_marks_unmarkedPackets xv_marks_markedPackets xa_marks_counts xa_marks_fragmentSets xv_nodes_count xa_nodes_addresses xa_nodes_distances xa_nodes_parents mv_routers ma_parentOf ma_addressOf ma_depthOf mv_percent mv_random ma_marks mv_received mv_unmarked mv_nodes ma_nodeAddresses ma_nodeDistances ma_nodeParents) (xv_packet_marked : Int32) (xv_packet_markedByRouter : Int32) (xv_packet_distance : Int32) (xv_packet_offset : Int32) (xv_packet_fragment : Int32) (mv_distance : Int32) (mv_offset : Int32) (mv_value : Int32) (mv_isMade : Int32) (p1 : Int32) (p2 : Int32) : ∃ (r : Int32) (xo_generator_state : Int32) (xo_packet_marked : Int32) (xo_packet_markedByRouter : Int32) (xo_packet_distance : Int32) (xo_packet_offset : Int32) (xo_packet_fragment : Int32) (xo_marks_unmarkedPackets : Int32) (xo_marks_markedPackets : Int32) (xo_marks_counts : Nat → Int32) (xo_marks_fragmentSets : Nat → Int32) (mo_random : Int32) (mo_distance : Int32) (mo_offset : Int32) (mo_value : Int32) (mo_isMade : Int32) (mo_received : Int32) (mo_unmarked : Int32) (mo_marks : Nat → Int32), fX5_sendPackets N p1 p2 xv_markingPercent xv_network_count xa_network_parents xa_network_addresses xv_generator_state xv_packet_marked xv_packet_markedByRouter xv_packet_distance xv_packet_offset xv_packet_fragment xv_marks_unmarkedPackets xv_marks_markedPackets xa_marks_counts xa_marks_fragmentSets = some (r, xo_generator_state, xo_packet_marked, xo_packet_markedByRouter, xo_packet_distance, xo_packet_offset, xo_packet_fragment, xo_marks_unmarkedPackets, xo_marks_markedPackets, xo_marks_counts, xo_marks_fragmentSets) ∧ fX6_sendPackets N p1 p2 mv_routers mv_percent mv_random mv_distance mv_offset mv_value mv_isMade mv_received mv_unmarked ma_parentOf ma_addressOf ma_marks = some (r, mo_random, mo_distance, mo_offset, mo_value, mo_isMade, mo_received, mo_unmarked, mo_marks) ∧ Rel (k + 1) xv_markingPercent xv_network_count xa_network_parents xa_network_addresses xa_network_depths xo_generator_state xo_marks_unmarkedPackets xo_marks_markedPackets xo_marks_counts xo_marks_fragmentSets xv_nodes_count xa_nodes_addresses xa_nodes_distances xa_nodes_parents mv_routers ma_parentOf ma_addressOf ma_depthOf mv_percent mo_random mo_marks mo_received mo_unmarked mv_nodes ma_nodeAddresses ma_nodeDistances ma_nodeParents := by
  obtain ⟨⟨rfl, rfl⟩, hn, hm, ht⟩ := hR
  obtain ⟨n, pa, ad, de, hok⟩ := id hn
  have k1 := hok.1
  have kb := hok.2.1
  have kc := hok.2.2.1
  unfold fX5_sendPackets fX6_sendPackets
  rcases ix p1 (k := n) (by omega) with h | ⟨i, hi, rfl⟩
  · rw [show fX2_has p1 xv_network_count = some 0 by rw [kb]; exact has2_no h, show fX6_isRouter p1 mv_routers = some 0 by rw [kc]; exact isRouter_no (by omega) h, bd1_s, bd1_s, if_pos rfl, if_pos rfl]
    exact ⟨-1, _, _, _, _, _, _, _, _, _, _, _, _, _, _, _, _, _, _, rfl, rfl, ⟨rfl, rfl⟩, hn, hm.up, ht⟩
  · rw [show fX2_has (nI i) xv_network_count = some 1 by rw [kb]; exact has2_yes hi k1, show fX6_isRouter (nI i) mv_routers = some 1 by rw [kc]; exact isRouter_yes hi (by omega), bd1_s, bd1_s, if_neg one_ne, if_neg one_ne]
    rcases one_within p2 500 (by omega) with ⟨c, c1, c2, rfl, q1, q2⟩ | ⟨q1, q2⟩
    · have q1 : fX5_isFromOneTo (nI c) (500 : Int32) = some 1 := q1
      have q2 : fX6_within (nI c) (1 : Int32) (500 : Int32) = some 1 := q2
      rw [q1, q2, bd1_s, bd1_s, if_neg one_ne, if_neg one_ne]
      obtain ⟨⟨r1, g1, m1, b1, d1, o1, f1, un1, mr1, C1, F1⟩, ⟨r2, g2, d2, o2, v2, i2, re2, un2, mk2⟩, e1, e2, z1, z2, z3⟩ := lp_two (step1 := fun s : Int32 × Int32 × Int32 × Int32 × Int32 × Int32 × Int32 × Int32 × Int32 × Int32 × (Nat → Int32) × (Nat → Int32) => bX5_sendPackets_31 N (nI i) (nI c) xv_markingPercent xv_network_count xa_network_parents xa_network_addresses s.1 s.2.1 s.2.2.1 s.2.2.2.1 s.2.2.2.2.1 s.2.2.2.2.2.1 s.2.2.2.2.2.2.1 s.2.2.2.2.2.2.2.1 s.2.2.2.2.2.2.2.2.1 s.2.2.2.2.2.2.2.2.2.1 s.2.2.2.2.2.2.2.2.2.2.1 s.2.2.2.2.2.2.2.2.2.2.2) (step2 := fun s : Int32 × Int32 × Int32 × Int32 × Int32 × Int32 × Int32 × Int32 × Int32 × (Nat → Int32) => bX6_sendPackets_29 N (nI i) (nI c) xv_markingPercent ma_parentOf ma_addressOf s.1 s.2.1 s.2.2.1 s.2.2.2.1 s.2.2.2.2.1 s.2.2.2.2.2.1 s.2.2.2.2.2.2.1 s.2.2.2.2.2.2.2.1 s.2.2.2.2.2.2.2.2.1 s.2.2.2.2.2.2.2.2.2)
        (fun x s1 s2 => ∃ (s : Nat) (y g mk mb ds of fr unm mrk : Int32) (C F : Nat → Int32) (d6 o6 v6 im rec unk : Int32) (mks : Nat → Int32), s ≤ c ∧ x = c - s ∧ s1 = (y, nI s, g, mk, mb, ds, of, fr, unm, mrk, C, F) ∧ s2 = (y, nI s, g, d6, o6, v6, im, rec, unk, mks) ∧ RelM (500 * k + s) unm mrk C F mks rec unk)
        (fun r1 r2 => r1.1 = r2.1 ∧ r1.2.1 = r2.2.1 ∧ RelM (500 * k + c) r1.2.2.2.2.2.2.2.1 r1.2.2.2.2.2.2.2.2.1 r1.2.2.2.2.2.2.2.2.2.1 r1.2.2.2.2.2.2.2.2.2.2 r2.2.2.2.2.2.2.2.2 r2.2.2.2.2.2.2.1 r2.2.2.2.2.2.2.2.1) (by
        rintro x s1 s2 ⟨s, y, g, mk, mb, ds, of, fr, unm, mrk, C, F, d6, o6, v6, im, rec, unk, mks, hs, rfl, rfl, rfl, hM⟩
        dsimp only
        by_cases q : s = c
        · subst q
          refine Or.inl ⟨(y, g, mk, mb, ds, of, fr, unm, mrk, C, F), (y, g, d6, o6, v6, im, rec, unk, mks), ?_, ?_, rfl, rfl, hM⟩
          · unfold bX5_sendPackets_31; rw [if_pos (Int32.le_refl _)]
          · unfold bX6_sendPackets_29; rw [if_pos (Int32.le_refl _)]
        · have hnc : ¬ nI c ≤ nI s := nI_ge (by omega) (by omega)
          obtain ⟨r, g', mk', mb', ds', of', fr', unm', mrk', C', F', d6', o6', v6', im', rec', unk', mks', w1, w2, w3, w4, w5, w6⟩ := deliver_two (fo := false) (pct := xv_markingPercent) (g := g) (mk := 0) (mb := 0) (ds := 0) (of := 0) (fr := 0) (d6 := -7) (o6 := o6) (v6 := v6) (im := im) hN hok hi (Or.inl ⟨rfl, rfl, rfl, rfl⟩) hM
          unfold bX5_sendPackets_31 bX6_sendPackets_29
          rw [if_neg hnc, if_neg hnc, startUn, bd5_s, w1, bd11_s, nm_eq, w2, bd5_s, w3, bd3_s, nI_1]
          have fin : ∀ z : Int32, y + r = z → ((if d6' = (-7 : Int32) then nm (y + (0 : Int32)) fun x10 => some (Sum.inl (x10, nI (s + 1), g', d6', o6', v6', im', rec', unk', mks')) else nm (y + (1 : Int32)) fun x9 => some (Sum.inl (x9, nI (s + 1), g', d6', o6', v6', im', rec', unk', mks'))) : Option ((Int32 × Int32 × Int32 × Int32 × Int32 × Int32 × Int32 × Int32 × Int32 × (Nat → Int32)) ⊕ (Int32 × Int32 × Int32 × Int32 × Int32 × Int32 × Int32 × Int32 × (Nat → Int32)))) = some (Sum.inl (z, nI (s + 1), g', d6', o6', v6', im', rec', unk', mks')) := by
            rintro z rfl
            rcases w4 with ⟨-, -, rfl, rfl⟩ | ⟨d, o, f, hd, -, -, -, -, -, -, rfl, -, -, -, hb, -⟩
            · rw [if_pos rfl] at w6; rw [if_pos rfl, nm_eq, w6]
            · rw [(hb rfl).1, if_neg one_ne] at w6; rw [if_neg (nI_ne7 (by omega)), nm_eq, w6]
          refine Or.inr ⟨c - (s + 1), _, _, by omega, rfl, fin _ rfl, s + 1, y + r, g', mk', mb', ds', of', fr', unm', mrk', C', F', d6', o6', v6', im', rec', unk', mks', by omega, rfl, rfl, rfl, w5⟩) c (0, nI 0, xv_generator_state, xv_packet_marked, xv_packet_markedByRouter, xv_packet_distance, xv_packet_offset, xv_packet_fragment, xv_marks_unmarkedPackets, xv_marks_markedPackets, xa_marks_counts, xa_marks_fragmentSets) (0, nI 0, xv_generator_state, mv_distance, mv_offset, mv_value, mv_isMade, mv_received, mv_unmarked, ma_marks) ⟨0, 0, xv_generator_state, xv_packet_marked, xv_packet_markedByRouter, xv_packet_distance, xv_packet_offset, xv_packet_fragment, xv_marks_unmarkedPackets, xv_marks_markedPackets, xa_marks_counts, xa_marks_fragmentSets, mv_distance, mv_offset, mv_value, mv_isMade, mv_received, mv_unmarked, ma_marks, by omega, by omega, rfl, rfl, hm⟩ N (by omega)
      dsimp only at z1 z2 z3
      subst z1 z2
      exact ⟨r1, g1, m1, b1, d1, o1, f1, un1, mr1, C1, F1, g1, d2, o2, v2, i2, re2, un2, mk2, e1, e2, ⟨rfl, rfl⟩, hn, z3.mono (by omega), ht⟩
    · have q1 : fX5_isFromOneTo p2 (500 : Int32) = some 0 := q1
      have q2 : fX6_within p2 (1 : Int32) (500 : Int32) = some 0 := q2
      rw [q1, q2, bd1_s, bd1_s, if_pos rfl, if_pos rfl]
      exact ⟨-2, _, _, _, _, _, _, _, _, _, _, _, _, _, _, _, _, _, _, rfl, rfl, ⟨rfl, rfl⟩, hn, hm.up, ht⟩
set_option maxHeartbeats 1000000 in
theorem eq_sendForged (N : Nat) (hN : 5000 ≤ N) (k : Nat) (hk : k < 512) (xv_markingPercent : Int32) (xv_network_count : Int32) (xa_network_parents : Nat → Int32) (xa_network_addresses : Nat → Int32) (xa_network_depths : Nat → Int32) (xv_generator_state : Int32) (xv_marks_unmarkedPackets : Int32) (xv_marks_markedPackets : Int32) (xa_marks_counts : Nat → Int32) (xa_marks_fragmentSets : Nat → Int32) (xv_nodes_count : Int32) (xa_nodes_addresses : Nat → Int32) (xa_nodes_distances : Nat → Int32) (xa_nodes_parents : Nat → Int32) (mv_routers : Int32) (ma_parentOf : Nat → Int32) (ma_addressOf : Nat → Int32) (ma_depthOf : Nat → Int32) (mv_percent : Int32) (mv_random : Int32) (ma_marks : Nat → Int32) (mv_received : Int32) (mv_unmarked : Int32) (mv_nodes : Int32) (ma_nodeAddresses : Nat → Int32) (ma_nodeDistances : Nat → Int32) (ma_nodeParents : Nat → Int32) (hR : Rel k xv_markingPercent xv_network_count xa_network_parents xa_network_addresses xa_network_depths xv_generator_state xv_marks_unmarkedPackets xv_marks_markedPackets xa_marks_counts xa_marks_fragmentSets xv_nodes_count xa_nodes_addresses xa_nodes_distances xa_nodes_parents mv_routers ma_parentOf ma_addressOf ma_depthOf mv_percent mv_random ma_marks mv_received mv_unmarked mv_nodes ma_nodeAddresses ma_nodeDistances ma_nodeParents) (xv_packet_marked : Int32) (xv_packet_markedByRouter : Int32) (xv_packet_distance : Int32) (xv_packet_offset : Int32) (xv_packet_fragment : Int32) (mv_distance : Int32) (mv_offset : Int32) (mv_value : Int32) (mv_isMade : Int32) (p1 : Int32) (p2 : Int32) (p3 : Int32) (p4 : Int32) (p5 : Int32) : ∃ (r : Int32) (xo_generator_state : Int32) (xo_packet_marked : Int32) (xo_packet_markedByRouter : Int32) (xo_packet_distance : Int32) (xo_packet_offset : Int32) (xo_packet_fragment : Int32) (xo_marks_unmarkedPackets : Int32) (xo_marks_markedPackets : Int32) (xo_marks_counts : Nat → Int32) (xo_marks_fragmentSets : Nat → Int32) (mo_random : Int32) (mo_distance : Int32) (mo_offset : Int32) (mo_value : Int32) (mo_isMade : Int32) (mo_received : Int32) (mo_unmarked : Int32) (mo_marks : Nat → Int32), fX5_sendForged N p1 p2 p3 p4 p5 xv_markingPercent xv_network_count xa_network_parents xa_network_addresses xv_generator_state xv_packet_marked xv_packet_markedByRouter xv_packet_distance xv_packet_offset xv_packet_fragment xv_marks_unmarkedPackets xv_marks_markedPackets xa_marks_counts xa_marks_fragmentSets = some (r, xo_generator_state, xo_packet_marked, xo_packet_markedByRouter, xo_packet_distance, xo_packet_offset, xo_packet_fragment, xo_marks_unmarkedPackets, xo_marks_markedPackets, xo_marks_counts, xo_marks_fragmentSets) ∧ fX6_sendForged N p1 p2 p3 p4 p5 mv_routers mv_percent mv_random mv_distance mv_offset mv_value mv_isMade mv_received mv_unmarked ma_parentOf ma_addressOf ma_marks = some (r, mo_random, mo_distance, mo_offset, mo_value, mo_isMade, mo_received, mo_unmarked, mo_marks) ∧ Rel (k + 1) xv_markingPercent xv_network_count xa_network_parents xa_network_addresses xa_network_depths xo_generator_state xo_marks_unmarkedPackets xo_marks_markedPackets xo_marks_counts xo_marks_fragmentSets xv_nodes_count xa_nodes_addresses xa_nodes_distances xa_nodes_parents mv_routers ma_parentOf ma_addressOf ma_depthOf mv_percent mo_random mo_marks mo_received mo_unmarked mv_nodes ma_nodeAddresses ma_nodeDistances ma_nodeParents := by
  obtain ⟨⟨rfl, rfl⟩, hn, hm, ht⟩ := hR
  obtain ⟨n, pa, ad, de, hok⟩ := id hn
  have k1 := hok.1
  have kb := hok.2.1
  have kc := hok.2.2.1
  unfold fX5_sendForged fX6_sendForged
  rcases ix p1 (k := n) (by omega) with h | ⟨i, hi, rfl⟩
  · rw [show fX2_has p1 xv_network_count = some 0 by rw [kb]; exact has2_no h, show fX6_isRouter p1 mv_routers = some 0 by rw [kc]; exact isRouter_no (by omega) h, bd1_s, bd1_s, if_pos rfl, if_pos rfl]
    exact ⟨-1, _, _, _, _, _, _, _, _, _, _, _, _, _, _, _, _, _, _, rfl, rfl, ⟨rfl, rfl⟩, hn, hm.up, ht⟩
  · rw [show fX2_has (nI i) xv_network_count = some 1 by rw [kb]; exact has2_yes hi k1, show fX6_isRouter (nI i) mv_routers = some 1 by rw [kc]; exact isRouter_yes hi (by omega), bd1_s, bd1_s, if_neg one_ne, if_neg one_ne]
    rcases one_within p2 500 (by omega) with ⟨c, c1, c2, rfl, q1, q2⟩ | ⟨q1, q2⟩
    · have q1 : fX5_isFromOneTo (nI c) (500 : Int32) = some 1 := q1
      have q2 : fX6_within (nI c) (1 : Int32) (500 : Int32) = some 1 := q2
      rw [q1, q2, bd1_s, bd1_s, if_neg one_ne, if_neg one_ne]
      rcases mark_two p3 p4 p5 with ⟨xd, xo, xf, hxd, hxo, hxf, rfl, rfl, rfl, u1, u2⟩ | ⟨u1, u2⟩
      · rw [u1, u2, bd1_s, bd1_s, if_neg one_ne, if_neg one_ne]
        obtain ⟨⟨r1, g1, m1, b1, d1, o1, f1, un1, mr1, C1, F1⟩, ⟨r2, g2, d2, o2, v2, i2, re2, un2, mk2⟩, e1, e2, z1, z2, z3⟩ := lp_two (step1 := fun s : Int32 × Int32 × Int32 × Int32 × Int32 × Int32 × Int32 × Int32 × Int32 × Int32 × (Nat → Int32) × (Nat → Int32) => bX5_sendForged_43 N (nI i) (nI c) (nI xd) (nI xo) (nI xf) xv_markingPercent xv_network_count xa_network_parents xa_network_addresses s.1 s.2.1 s.2.2.1 s.2.2.2.1 s.2.2.2.2.1 s.2.2.2.2.2.1 s.2.2.2.2.2.2.1 s.2.2.2.2.2.2.2.1 s.2.2.2.2.2.2.2.2.1 s.2.2.2.2.2.2.2.2.2.1 s.2.2.2.2.2.2.2.2.2.2.1 s.2.2.2.2.2.2.2.2.2.2.2) (step2 := fun s : Int32 × Int32 × Int32 × Int32 × Int32 × Int32 × Int32 × Int32 × Int32 × (Nat → Int32) => bX6_sendForged_41 N (nI i) (nI c) (nI xd) (nI xo) (nI xf) xv_markingPercent ma_parentOf ma_addressOf s.1 s.2.1 s.2.2.1 s.2.2.2.1 s.2.2.2.2.1 s.2.2.2.2.2.1 s.2.2.2.2.2.2.1 s.2.2.2.2.2.2.2.1 s.2.2.2.2.2.2.2.2.1 s.2.2.2.2.2.2.2.2.2)
          (fun x s1 s2 => ∃ (s : Nat) (y g mk mb ds of fr unm mrk : Int32) (C F : Nat → Int32) (d6 o6 v6 im rec unk : Int32) (mks : Nat → Int32), s ≤ c ∧ x = c - s ∧ s1 = (y, nI s, g, mk, mb, ds, of, fr, unm, mrk, C, F) ∧ s2 = (y, nI s, g, d6, o6, v6, im, rec, unk, mks) ∧ RelM (500 * k + s) unm mrk C F mks rec unk)
          (fun r1 r2 => r1.1 = r2.1 ∧ r1.2.1 = r2.2.1 ∧ RelM (500 * k + c) r1.2.2.2.2.2.2.2.1 r1.2.2.2.2.2.2.2.2.1 r1.2.2.2.2.2.2.2.2.2.1 r1.2.2.2.2.2.2.2.2.2.2 r2.2.2.2.2.2.2.2.2 r2.2.2.2.2.2.2.1 r2.2.2.2.2.2.2.2.1) (by
          rintro x s1 s2 ⟨s, y, g, mk, mb, ds, of, fr, unm, mrk, C, F, d6, o6, v6, im, rec, unk, mks, hs, rfl, rfl, rfl, hM⟩
          dsimp only
          by_cases q : s = c
          · subst q
            refine Or.inl ⟨(y, g, mk, mb, ds, of, fr, unm, mrk, C, F), (y, g, d6, o6, v6, im, rec, unk, mks), ?_, ?_, rfl, rfl, hM⟩
            · unfold bX5_sendForged_43; rw [if_pos (Int32.le_refl _)]
            · unfold bX6_sendForged_41; rw [if_pos (Int32.le_refl _)]
          · have hnc : ¬ nI c ≤ nI s := nI_ge (by omega) (by omega)
            obtain ⟨r, g', mk', mb', ds', of', fr', unm', mrk', C', F', d6', o6', v6', im', rec', unk', mks', w1, w2, w3, w4, w5, w6⟩ := deliver_two (fo := true) (pct := xv_markingPercent) (g := g) (mk := 1) (mb := 0) (ds := nI xd) (of := nI xo) (fr := nI xf) (d6 := nI xd) (o6 := nI xo) (v6 := nI xf) (im := 0) hN hok hi (Or.inr ⟨xd, xo, xf, hxd, hxo, hxf, rfl, rfl, rfl, rfl, rfl, rfl, rfl, Or.inl rfl, fun z => (by cases z), fun _ => rfl⟩) hM
            unfold bX5_sendForged_43 bX6_sendForged_41
            rw [if_neg hnc, if_neg hnc, startFo, bd5_s, w1, bd11_s, nm_eq, w2, bd5_s, w3, bd3_s, nI_1]
            have fin : ∀ z : Int32, y + r = z → ((if im' = 0 then nm (y + (0 : Int32)) fun x10 => some (Sum.inl (x10, nI (s + 1), g', d6', o6', v6', im', rec', unk', mks')) else nm (y + (1 : Int32)) fun x9 => some (Sum.inl (x9, nI (s + 1), g', d6', o6', v6', im', rec', unk', mks'))) : Option ((Int32 × Int32 × Int32 × Int32 × Int32 × Int32 × Int32 × Int32 × Int32 × (Nat → Int32)) ⊕ (Int32 × Int32 × Int32 × Int32 × Int32 × Int32 × Int32 × Int32 × (Nat → Int32)))) = some (Sum.inl (z, nI (s + 1), g', d6', o6', v6', im', rec', unk', mks')) := by
              rintro z rfl
              rcases w4 with ⟨z0, -⟩ | ⟨d, o, f, -, -, -, -, -, -, -, -, -, -, -, -, hb⟩
              · cases z0
              · rw [hb rfl]
                by_cases z0 : mb' = 0
                · rw [if_pos z0] at w6; rw [if_pos z0, nm_eq, w6]
                · rw [if_neg z0] at w6; rw [if_neg z0, nm_eq, w6]
            refine Or.inr ⟨c - (s + 1), _, _, by omega, rfl, fin _ rfl, s + 1, y + r, g', mk', mb', ds', of', fr', unm', mrk', C', F', d6', o6', v6', im', rec', unk', mks', by omega, rfl, rfl, rfl, w5⟩) c (0, nI 0, xv_generator_state, xv_packet_marked, xv_packet_markedByRouter, xv_packet_distance, xv_packet_offset, xv_packet_fragment, xv_marks_unmarkedPackets, xv_marks_markedPackets, xa_marks_counts, xa_marks_fragmentSets) (0, nI 0, xv_generator_state, mv_distance, mv_offset, mv_value, mv_isMade, mv_received, mv_unmarked, ma_marks) ⟨0, 0, xv_generator_state, xv_packet_marked, xv_packet_markedByRouter, xv_packet_distance, xv_packet_offset, xv_packet_fragment, xv_marks_unmarkedPackets, xv_marks_markedPackets, xa_marks_counts, xa_marks_fragmentSets, mv_distance, mv_offset, mv_value, mv_isMade, mv_received, mv_unmarked, ma_marks, by omega, by omega, rfl, rfl, hm⟩ N (by omega)
        dsimp only at z1 z2 z3
        subst z1 z2
        exact ⟨r1, g1, m1, b1, d1, o1, f1, un1, mr1, C1, F1, g1, d2, o2, v2, i2, re2, un2, mk2, e1, e2, ⟨rfl, rfl⟩, hn, z3.mono (by omega), ht⟩
      · rw [u1, u2, bd1_s, bd1_s, if_pos rfl, if_pos rfl]
        exact ⟨-2, _, _, _, _, _, _, _, _, _, _, _, _, _, _, _, _, _, _, rfl, rfl, ⟨rfl, rfl⟩, hn, hm.up, ht⟩
    · have q1 : fX5_isFromOneTo p2 (500 : Int32) = some 0 := q1
      have q2 : fX6_within p2 (1 : Int32) (500 : Int32) = some 0 := q2
      rw [q1, q2, bd1_s, bd1_s, if_pos rfl, if_pos rfl]
      exact ⟨-2, _, _, _, _, _, _, _, _, _, _, _, _, _, _, _, _, _, _, rfl, rfl, ⟨rfl, rfl⟩, hn, hm.up, ht⟩
