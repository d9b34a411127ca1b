theorem law_cmp {k L : Nat} (hk : k ≤ 513) (hL : L ≤ 3072) (h : ¬ (Int32.ofNat L - (6 : Int32) < nI (6 * k))) : 6 * k + 6 ≤ L := by
  have e : (nI L - nI 6).toInt = (L : Int) - 6 := pk_sub_toInt (by omega) (by omega)
  have e2 : (nI (6 * k)).toInt = ((6 * k : Nat) : Int) := nI_toInt (by omega)
  have h2 : ¬ (nI L - nI 6 < nI (6 * k)) := h
  rw [Int32.lt_iff_toInt_lt, e, e2] at h2
  omega
set_option maxHeartbeats 4000000 in
set_option maxRecDepth 100000 in
theorem law_head {p : Program} {l : Launch} {e : Env} {s : State} {m : MethodId} {below : List Frame} {meth : Method} {c : Code} {b L : Nat} {xs : Nat → Int32} {dC : Nat → ClassId} {dI : Nat → Nat → Nat} {cI : ClassId} (hE : lwE p s m meth c b L xs dC dI cI) (hL : L ≤ 3072) (k : Nat) (hk : k ≤ 513) (hnext : 6 * k + 6 ≤ L → lwH p l e s m below meth c b dC dI cI (k + 1)) : lwH p l e s m below meth c b dC dI cI k := by
  intro xh0 xq_network xq_network_parents xq_network_addresses xq_network_depths xq_generator xq_packet xq_marks xq_marks_counts xq_marks_fragmentSets xq_offsetsSeen xq_nodes xq_nodes_addresses xq_nodes_distances xq_nodes_parents xq_spareNodes xq_spareNodes_addresses xq_spareNodes_distances xq_spareNodes_parents mh0 mq_parentOf mq_addressOf mq_depthOf mq_marks mq_missing mq_nodeAddresses mq_nodeDistances mq_nodeParents mq_foundAddress mq_foundDistance mq_foundParent mq_wordAt xv_markingPercent xv_network_count xa_network_parents xa_network_addresses xa_network_depths xv_generator_state xv_packet_marked xv_packet_markedByRouter xv_packet_distance xv_packet_offset xv_packet_fragment xv_marks_unmarkedPackets xv_marks_markedPackets xa_marks_counts xa_marks_fragmentSets xa_offsetsSeen xv_nodes_count xa_nodes_addresses xa_nodes_distances xa_nodes_parents xv_spareNodes_count xa_spareNodes_addresses xa_spareNodes_distances xa_spareNodes_parents mv_routers mv_percent mv_random mv_distance mv_offset mv_value mv_isMade mv_received mv_unmarked mv_nodes mv_found mv_words ma_parentOf ma_addressOf ma_depthOf ma_marks ma_missing ma_nodeAddresses ma_nodeDistances ma_nodeParents ma_foundAddress ma_foundDistance ma_foundParent ma_wordAt H locs ls hR hP hD hS hl
  obtain ⟨hx, hb, hr, hml, hown, hts, hX, hbl, hlocks, hK, hN⟩ := id hE
  have hbA : ¬ (fun q : Nat => s.heap.size ≤ q) b := Nat.not_le.mpr hbl
  refine lv_iload_n hx hb dL_law_18 rfl (lv_at hl 0 rfl) ?_
  refine lv_aload_n hx hb dL_law_19 rfl (lv_at hl 3 rfl) ?_
  refine va_slen hx hb hX hbl hbA hS dL_law_20 ?_
  refine lv_bipush (v := (6 : Int32)) hx hb dL_law_21 (by decide) ?_
  refine lv_isub hx hb dL_law_23 ?_
  refine lv_icmp_gt (tgt := 769) hx hb dL_law_24 (by decide) (fun q => ?_) (fun q => ?_)
  · refine lv_iconst (v := 1) hx hb dL_law_769 (by decide) ?_
    refine va_forget (fun q hq => hS.2.2 q hq) ?_
    exact lw_ret hx hb hr hlocks dL_law_770
  · have hkL := law_cmp hk hL q
    refine lv_aload_n hx hb dL_law_27 rfl (lv_at hl 3 rfl) ?_
    refine lv_iload_n hx hb dL_law_28 rfl (lv_at hl 0 rfl) ?_
    refine va_sld hx hb hX hbl hbA hS (law_in0 hkL hL) dL_law_29 ?_
    refine lv_bipush (v := (31 : Int32)) hx hb dL_law_30 (by decide) ?_
    refine lv_iand hx hb dL_law_32 ?_
    obtain ⟨j, hj, ej⟩ := pk_andE (xs (nI (6 * k)).toNatClampNeg) (m := (31 : Int32)) 5 (by decide)
    refine lv_topi (fun z ez => ?_)
    have ez : z = nI j := ez.trans ej
    have hj : j < 32 := hj
    subst ez
    rcases (show j = 0 ∨ j = 1 ∨ j = 2 ∨ j = 3 ∨ j = 4 ∨ j = 5 ∨ j = 6 ∨ j = 7 ∨ j = 8 ∨ j = 9 ∨ j = 10 ∨ j = 11 ∨ j = 12 ∨ j = 13 ∨ j = 14 ∨ j = 15 ∨ j = 16 ∨ j = 17 ∨ j = 18 ∨ j = 19 ∨ j = 20 ∨ j = 21 ∨ j = 22 ∨ j = 23 ∨ j = 24 ∨ 25 ≤ j by omega) with rfl | rfl | rfl | rfl | rfl | rfl | rfl | rfl | rfl | rfl | rfl | rfl | rfl | rfl | rfl | rfl | rfl | rfl | rfl | rfl | rfl | rfl | rfl | rfl | rfl | h25
    · refine lv_tableIn (off := 115) (tgt := 148) hx hb dL_law_33 (by decide) (by decide) (by decide) (by decide) ?_
      exact law_c0 hE hL k hkL (hnext hkL) _ _ _ _ _ _ _ _ _ _ _ _ _ _ _ _ _ _ _ _ _ _ _ _ _ _ _ _ _ _ _ _ _ _ _ _ _ _ _ _ _ _ _ _ _ _ _ _ _ _ _ _ _ _ _ _ _ _ _ _ _ _ _ _ _ _ _ _ _ _ _ _ _ _ _ _ _ _ _ _ _ _ _ hR hP hD hS hl
    · refine lv_tableIn (off := 148) (tgt := 181) hx hb dL_law_33 (by decide) (by decide) (by decide) (by decide) ?_
      exact law_c1 hE hL k hkL (hnext hkL) _ _ _ _ _ _ _ _ _ _ _ _ _ _ _ _ _ _ _ _ _ _ _ _ _ _ _ _ _ _ _ _ _ _ _ _ _ _ _ _ _ _ _ _ _ _ _ _ _ _ _ _ _ _ _ _ _ _ _ _ _ _ _ _ _ _ _ _ _ _ _ _ _ _ _ _ _ _ _ _ _ _ _ hR hP hD hS hl
    · refine lv_tableIn (off := 161) (tgt := 194) hx hb dL_law_33 (by decide) (by decide) (by decide) (by decide) ?_
      exact law_c2 hE hL k hkL (hnext hkL) _ _ _ _ _ _ _ _ _ _ _ _ _ _ _ _ _ _ _ _ _ _ _ _ _ _ _ _ _ _ _ _ _ _ _ _ _ _ _ _ _ _ _ _ _ _ _ _ _ _ _ _ _ _ _ _ _ _ _ _ _ _ _ _ _ _ _ _ _ _ _ _ _ _ _ _ _ _ _ _ _ _ _ hR hP hD hS hl
    · refine lv_tableIn (off := 184) (tgt := 217) hx hb dL_law_33 (by decide) (by decide) (by decide) (by decide) ?_
      exact law_c3 hE hL k hkL (hnext hkL) _ _ _ _ _ _ _ _ _ _ _ _ _ _ _ _ _ _ _ _ _ _ _ _ _ _ _ _ _ _ _ _ _ _ _ _ _ _ _ _ _ _ _ _ _ _ _ _ _ _ _ _ _ _ _ _ _ _ _ _ _ _ _ _ _ _ _ _ _ _ _ _ _ _ _ _ _ _ _ _ _ _ _ hR hP hD hS hl
    · refine lv_tableIn (off := 207) (tgt := 240) hx hb dL_law_33 (by decide) (by decide) (by decide) (by decide) ?_
      exact law_c4 hE hL k hkL (hnext hkL) _ _ _ _ _ _ _ _ _ _ _ _ _ _ _ _ _ _ _ _ _ _ _ _ _ _ _ _ _ _ _ _ _ _ _ _ _ _ _ _ _ _ _ _ _ _ _ _ _ _ _ _ _ _ _ _ _ _ _ _ _ _ _ _ _ _ _ _ _ _ _ _ _ _ _ _ _ _ _ _ _ _ _ hR hP hD hS hl
    · refine lv_tableIn (off := 240) (tgt := 273) hx hb dL_law_33 (by decide) (by decide) (by decide) (by decide) ?_
      exact law_c5 hE hL k hkL (hnext hkL) _ _ _ _ _ _ _ _ _ _ _ _ _ _ _ _ _ _ _ _ _ _ _ _ _ _ _ _ _ _ _ _ _ _ _ _ _ _ _ _ _ _ _ _ _ _ _ _ _ _ _ _ _ _ _ _ _ _ _ _ _ _ _ _ _ _ _ _ _ _ _ _ _ _ _ _ _ _ _ _ _ _ _ hR hP hD hS hl
    · refine lv_tableIn (off := 263) (tgt := 296) hx hb dL_law_33 (by decide) (by decide) (by decide) (by decide) ?_
      exact law_c6 hE hL k hkL (hnext hkL) _ _ _ _ _ _ _ _ _ _ _ _ _ _ _ _ _ _ _ _ _ _ _ _ _ _ _ _ _ _ _ _ _ _ _ _ _ _ _ _ _ _ _ _ _ _ _ _ _ _ _ _ _ _ _ _ _ _ _ _ _ _ _ _ _ _ _ _ _ _ _ _ _ _ _ _ _ _ _ _ _ _ _ hR hP hD hS hl
    · refine lv_tableIn (off := 286) (tgt := 319) hx hb dL_law_33 (by decide) (by decide) (by decide) (by decide) ?_
      exact law_c7 hE hL k hkL (hnext hkL) _ _ _ _ _ _ _ _ _ _ _ _ _ _ _ _ _ _ _ _ _ _ _ _ _ _ _ _ _ _ _ _ _ _ _ _ _ _ _ _ _ _ _ _ _ _ _ _ _ _ _ _ _ _ _ _ _ _ _ _ _ _ _ _ _ _ _ _ _ _ _ _ _ _ _ _ _ _ _ _ _ _ _ hR hP hD hS hl
    · refine lv_tableIn (off := 299) (tgt := 332) hx hb dL_law_33 (by decide) (by decide) (by decide) (by decide) ?_
      exact law_c8 hE hL k hkL (hnext hkL) _ _ _ _ _ _ _ _ _ _ _ _ _ _ _ _ _ _ _ _ _ _ _ _ _ _ _ _ _ _ _ _ _ _ _ _ _ _ _ _ _ _ _ _ _ _ _ _ _ _ _ _ _ _ _ _ _ _ _ _ _ _ _ _ _ _ _ _ _ _ _ _ _ _ _ _ _ _ _ _ _ _ _ hR hP hD hS hl
    · refine lv_tableIn (off := 332) (tgt := 365) hx hb dL_law_33 (by decide) (by decide) (by decide) (by decide) ?_
      exact law_c9 hE hL k hkL (hnext hkL) _ _ _ _ _ _ _ _ _ _ _ _ _ _ _ _ _ _ _ _ _ _ _ _ _ _ _ _ _ _ _ _ _ _ _ _ _ _ _ _ _ _ _ _ _ _ _ _ _ _ _ _ _ _ _ _ _ _ _ _ _ _ _ _ _ _ _ _ _ _ _ _ _ _ _ _ _ _ _ _ _ _ _ hR hP hD hS hl
    · refine lv_tableIn (off := 395) (tgt := 428) hx hb dL_law_33 (by decide) (by decide) (by decide) (by decide) ?_
      exact law_c10 hE hL k hkL (hnext hkL) _ _ _ _ _ _ _ _ _ _ _ _ _ _ _ _ _ _ _ _ _ _ _ _ _ _ _ _ _ _ _ _ _ _ _ _ _ _ _ _ _ _ _ _ _ _ _ _ _ _ _ _ _ _ _ _ _ _ _ _ _ _ _ _ _ _ _ _ _ _ _ _ _ _ _ _ _ _ _ _ _ _ _ hR hP hD hS hl
    · refine lv_tableIn (off := 418) (tgt := 451) hx hb dL_law_33 (by decide) (by decide) (by decide) (by decide) ?_
      exact law_c11 hE hL k hkL (hnext hkL) _ _ _ _ _ _ _ _ _ _ _ _ _ _ _ _ _ _ _ _ _ _ _ _ _ _ _ _ _ _ _ _ _ _ _ _ _ _ _ _ _ _ _ _ _ _ _ _ _ _ _ _ _ _ _ _ _ _ _ _ _ _ _ _ _ _ _ _ _ _ _ _ _ _ _ _ _ _ _ _ _ _ _ hR hP hD hS hl
    · refine lv_tableIn (off := 431) (tgt := 464) hx hb dL_law_33 (by decide) (by decide) (by decide) (by decide) ?_
      exact law_c12 hE hL k hkL (hnext hkL) _ _ _ _ _ _ _ _ _ _ _ _ _ _ _ _ _ _ _ _ _ _ _ _ _ _ _ _ _ _ _ _ _ _ _ _ _ _ _ _ _ _ _ _ _ _ _ _ _ _ _ _ _ _ _ _ _ _ _ _ _ _ _ _ _ _ _ _ _ _ _ _ _ _ _ _ _ _ _ _ _ _ _ hR hP hD hS hl
    · refine lv_tableIn (off := 474) (tgt := 507) hx hb dL_law_33 (by decide) (by decide) (by decide) (by decide) ?_
      exact law_c13 hE hL k hkL (hnext hkL) _ _ _ _ _ _ _ _ _ _ _ _ _ _ _ _ _ _ _ _ _ _ _ _ _ _ _ _ _ _ _ _ _ _ _ _ _ _ _ _ _ _ _ _ _ _ _ _ _ _ _ _ _ _ _ _ _ _ _ _ _ _ _ _ _ _ _ _ _ _ _ _ _ _ _ _ _ _ _ _ _ _ _ hR hP hD hS hl
    · refine lv_tableIn (off := 507) (tgt := 540) hx hb dL_law_33 (by decide) (by decide) (by decide) (by decide) ?_
      exact law_c14 hE hL k hkL (hnext hkL) _ _ _ _ _ _ _ _ _ _ _ _ _ _ _ _ _ _ _ _ _ _ _ _ _ _ _ _ _ _ _ _ _ _ _ _ _ _ _ _ _ _ _ _ _ _ _ _ _ _ _ _ _ _ _ _ _ _ _ _ _ _ _ _ _ _ _ _ _ _ _ _ _ _ _ _ _ _ _ _ _ _ _ hR hP hD hS hl
    · refine lv_tableIn (off := 520) (tgt := 553) hx hb dL_law_33 (by decide) (by decide) (by decide) (by decide) ?_
      exact law_c15 hE hL k hkL (hnext hkL) _ _ _ _ _ _ _ _ _ _ _ _ _ _ _ _ _ _ _ _ _ _ _ _ _ _ _ _ _ _ _ _ _ _ _ _ _ _ _ _ _ _ _ _ _ _ _ _ _ _ _ _ _ _ _ _ _ _ _ _ _ _ _ _ _ _ _ _ _ _ _ _ _ _ _ _ _ _ _ _ _ _ _ hR hP hD hS hl
    · refine lv_tableIn (off := 543) (tgt := 576) hx hb dL_law_33 (by decide) (by decide) (by decide) (by decide) ?_
      exact law_c16 hE hL k hkL (hnext hkL) _ _ _ _ _ _ _ _ _ _ _ _ _ _ _ _ _ _ _ _ _ _ _ _ _ _ _ _ _ _ _ _ _ _ _ _ _ _ _ _ _ _ _ _ _ _ _ _ _ _ _ _ _ _ _ _ _ _ _ _ _ _ _ _ _ _ _ _ _ _ _ _ _ _ _ _ _ _ _ _ _ _ _ hR hP hD hS hl
    · refine lv_tableIn (off := 576) (tgt := 609) hx hb dL_law_33 (by decide) (by decide) (by decide) (by decide) ?_
      exact law_c17 hE hL k hkL (hnext hkL) _ _ _ _ _ _ _ _ _ _ _ _ _ _ _ _ _ _ _ _ _ _ _ _ _ _ _ _ _ _ _ _ _ _ _ _ _ _ _ _ _ _ _ _ _ _ _ _ _ _ _ _ _ _ _ _ _ _ _ _ _ _ _ _ _ _ _ _ _ _ _ _ _ _ _ _ _ _ _ _ _ _ _ hR hP hD hS hl
    · refine lv_tableIn (off := 589) (tgt := 622) hx hb dL_law_33 (by decide) (by decide) (by decide) (by decide) ?_
      exact law_c18 hE hL k hkL (hnext hkL) _ _ _ _ _ _ _ _ _ _ _ _ _ _ _ _ _ _ _ _ _ _ _ _ _ _ _ _ _ _ _ _ _ _ _ _ _ _ _ _ _ _ _ _ _ _ _ _ _ _ _ _ _ _ _ _ _ _ _ _ _ _ _ _ _ _ _ _ _ _ _ _ _ _ _ _ _ _ _ _ _ _ _ hR hP hD hS hl
    · refine lv_tableIn (off := 602) (tgt := 635) hx hb dL_law_33 (by decide) (by decide) (by decide) (by decide) ?_
      exact law_c19 hE hL k hkL (hnext hkL) _ _ _ _ _ _ _ _ _ _ _ _ _ _ _ _ _ _ _ _ _ _ _ _ _ _ _ _ _ _ _ _ _ _ _ _ _ _ _ _ _ _ _ _ _ _ _ _ _ _ _ _ _ _ _ _ _ _ _ _ _ _ _ _ _ _ _ _ _ _ _ _ _ _ _ _ _ _ _ _ _ _ _ hR hP hD hS hl
    · refine lv_tableIn (off := 625) (tgt := 658) hx hb dL_law_33 (by decide) (by decide) (by decide) (by decide) ?_
      exact law_c20 hE hL k hkL (hnext hkL) _ _ _ _ _ _ _ _ _ _ _ _ _ _ _ _ _ _ _ _ _ _ _ _ _ _ _ _ _ _ _ _ _ _ _ _ _ _ _ _ _ _ _ _ _ _ _ _ _ _ _ _ _ _ _ _ _ _ _ _ _ _ _ _ _ _ _ _ _ _ _ _ _ _ _ _ _ _ _ _ _ _ _ hR hP hD hS hl
    · refine lv_tableIn (off := 648) (tgt := 681) hx hb dL_law_33 (by decide) (by decide) (by decide) (by decide) ?_
      exact law_c21 hE hL k hkL (hnext hkL) _ _ _ _ _ _ _ _ _ _ _ _ _ _ _ _ _ _ _ _ _ _ _ _ _ _ _ _ _ _ _ _ _ _ _ _ _ _ _ _ _ _ _ _ _ _ _ _ _ _ _ _ _ _ _ _ _ _ _ _ _ _ _ _ _ _ _ _ _ _ _ _ _ _ _ _ _ _ _ _ _ _ _ hR hP hD hS hl
    · refine lv_tableIn (off := 671) (tgt := 704) hx hb dL_law_33 (by decide) (by decide) (by decide) (by decide) ?_
      exact law_c22 hE hL k hkL (hnext hkL) _ _ _ _ _ _ _ _ _ _ _ _ _ _ _ _ _ _ _ _ _ _ _ _ _ _ _ _ _ _ _ _ _ _ _ _ _ _ _ _ _ _ _ _ _ _ _ _ _ _ _ _ _ _ _ _ _ _ _ _ _ _ _ _ _ _ _ _ _ _ _ _ _ _ _ _ _ _ _ _ _ _ _ hR hP hD hS hl
    · refine lv_tableIn (off := 694) (tgt := 727) hx hb dL_law_33 (by decide) (by decide) (by decide) (by decide) ?_
      exact law_c23 hE hL k hkL (hnext hkL) _ _ _ _ _ _ _ _ _ _ _ _ _ _ _ _ _ _ _ _ _ _ _ _ _ _ _ _ _ _ _ _ _ _ _ _ _ _ _ _ _ _ _ _ _ _ _ _ _ _ _ _ _ _ _ _ _ _ _ _ _ _ _ _ _ _ _ _ _ _ _ _ _ _ _ _ _ _ _ _ _ _ _ hR hP hD hS hl
    · refine lv_tableIn (off := 707) (tgt := 740) hx hb dL_law_33 (by decide) (by decide) (by decide) (by decide) ?_
      exact law_c24 hE hL k hkL (hnext hkL) _ _ _ _ _ _ _ _ _ _ _ _ _ _ _ _ _ _ _ _ _ _ _ _ _ _ _ _ _ _ _ _ _ _ _ _ _ _ _ _ _ _ _ _ _ _ _ _ _ _ _ _ _ _ _ _ _ _ _ _ _ _ _ _ _ _ _ _ _ _ _ _ _ _ _ _ _ _ _ _ _ _ _ hR hP hD hS hl
    · refine lv_tableOut (tgt := 763) hx hb dL_law_33 (Or.inr (by rw [nI_toInt (by omega)]; omega)) (by decide) ?_
      refine lv_iinc (v := nI (6 * (k + 1))) (lv' := [(3, .int (nI (6 * (k + 1)))), (2, .ref mh0), (1, .ref xh0), (0, .ref b)]) hx hb dL_law_763 hl (k := 0) rfl (law_inc k) (by decide) rfl (fun ls hl => ?_)
      refine lv_goto (tgt := 18) hx hb dL_law_766 (by decide) ?_
      exact hnext hkL _ _ _ _ _ _ _ _ _ _ _ _ _ _ _ _ _ _ _ _ _ _ _ _ _ _ _ _ _ _ _ _ _ _ _ _ _ _ _ _ _ _ _ _ _ _ _ _ _ _ _ _ _ _ _ _ _ _ _ _ _ _ _ _ _ _ _ _ _ _ _ _ _ _ _ _ _ _ _ _ _ _ _ (rel_up hR) hP hD hS hl
theorem law_loop {p : Program} {l : Launch} {e : Env} {s : State} {m : MethodId} {below : List Frame} {meth : Method} {c : Code} {b L : Nat} {xs : Nat → Int32} {dC : Nat → ClassId} {dI : Nat → Nat → Nat} {cI : ClassId} (hE : lwE p s m meth c b L xs dC dI cI) (hL : L ≤ 3072) : ∀ (n k : Nat), k + n = 513 → lwH p l e s m below meth c b dC dI cI k := by
  intro n
  induction n with
  | zero => intro k h; exact law_head hE hL k (by omega) (fun q => absurd q (by omega))
  | succ n ih => intro k h; exact law_head hE hL k (by omega) (fun _ => ih (k + 1) (by omega))
