/-! reconstruct -/
theorem tree_two {N : Nat} {cn fs : Nat → Nat} {F mk SA SD SP fA fD fP wo nA nD nP : Nat → Int32} {w no : Int32} (hN : 5000 ≤ N) (hmk : ∀ i, i < 4096 → mk i = nI (cn i) ∧ cn i < 2 ^ 31) (hF : ∀ q, q < 128 → F q = nI (fs q) ∧ fs q < 2 ^ 32 ∧ ∀ f, f < 32 → (fs q).testBit f = decide (0 < cn (32 * q + f))) :
    ∃ (r1 : Int32 × Int32 × (Nat → Int32) × (Nat → Int32) × (Nat → Int32)) (r2 : Int32 × Int32 × Int32 × Int32 × (Nat → Int32) × (Nat → Int32) × (Nat → Int32) × (Nat → Int32) × (Nat → Int32) × (Nat → Int32) × (Nat → Int32)), fX5_findTree N F (0 : Int32) SA SD SP = some r1 ∧ fX6_reconstruct N no w mk nA nD nP fA fD fP wo = some r2 ∧
      ((∃ x, r1 = (0, x) ∧ r2.1 = -6 ∧ r2.2.1 = no ∧ r2.2.2.2.2.1 = nA ∧ r2.2.2.2.2.2.1 = nD ∧ r2.2.2.2.2.2.2.1 = nP) ∨ ∃ (t : Nat) (SA' SD' SP' : Nat → Int32), t ≤ 100 ∧ r1 = (1, nI t, SA', SD', SP') ∧ r2.1 = nI t ∧ RelT (nI t) SA' SD' SP' r2.2.1 r2.2.2.2.2.1 r2.2.2.2.2.2.1 r2.2.2.2.2.2.2.1) := by
  unfold fX5_findTree fX6_reconstruct
  refine lp_two2 (step1 := fun s : Int32 × Int32 × Int32 × (Nat → Int32) × (Nat → Int32) × (Nat → Int32) => bX5_findTree_4 N F s.1 s.2.1 s.2.2.1 s.2.2.2.1 s.2.2.2.2.1 s.2.2.2.2.2) (step2 := fun s : Int32 × Int32 × Int32 × Int32 × (Nat → Int32) × (Nat → Int32) × (Nat → Int32) × (Nat → Int32) => bX6_reconstruct_9 N no mk nA nD nP s.1 s.2.1 s.2.2.1 s.2.2.2.1 s.2.2.2.2.1 s.2.2.2.2.2.1 s.2.2.2.2.2.2.1 s.2.2.2.2.2.2.2)
    (fun x s1 s2 => ∃ (d t ls : Nat) (na nd np : Nat → Nat) (SA SD SP fA fD fP wo : Nat → Int32) (w be : Int32), d ≤ 21 ∧ x = 21 - d ∧ s1 = (nI ls, nI d, nI t, SA, SD, SP) ∧ s2 = (be, nI d, nI t, w, fA, fD, fP, wo) ∧ TreeOk t na nd np (nI t) SA SD SP (nI t) fA fD fP ∧ ((d = 0 ∧ t = 0 ∧ ls = 0 ∧ be = -1) ∨ (0 < d ∧ ls < t ∧ be = nI ls ∧ (∀ i, i < ls → nd i + 1 < d) ∧ ∀ i, ls ≤ i → i < t → nd i + 1 = d)))
    (fun r1 r2 => (∃ x, r1 = (0, x) ∧ r2.1 = -6 ∧ r2.2.1 = no ∧ r2.2.2.2.2.1 = nA ∧ r2.2.2.2.2.2.1 = nD ∧ r2.2.2.2.2.2.2.1 = nP) ∨ ∃ (t : Nat) (SA' SD' SP' : Nat → Int32), t ≤ 100 ∧ r1 = (1, nI t, SA', SD', SP') ∧ r2.1 = nI t ∧ RelT (nI t) SA' SD' SP' r2.2.1 r2.2.2.2.2.1 r2.2.2.2.2.2.1 r2.2.2.2.2.2.2.1) ?_ 21 ((0 : Int32), (0 : Int32), (0 : Int32), SA, SD, SP) ((-1 : Int32), (0 : Int32), (0 : Int32), w, fA, fD, fP, wo) ⟨0, 0, 0, fun _ => 0, fun _ => 0, fun _ => 0, SA, SD, SP, fA, fD, fP, wo, w, -1, by omega, rfl, rfl, rfl, ⟨by omega, rfl, rfl, fun i hi => absurd hi (by omega)⟩, Or.inl ⟨rfl, rfl, rfl, rfl⟩⟩ N (by omega)
  rintro x s1 s2 ⟨d, t, ls, na, nd, np, SA, SD, SP, fA, fD, fP, wo, w, be, hd, rfl, rfl, rfl, hT, hlv⟩
  dsimp only
  have ht := hT.1
  unfold bX5_findTree_4
  by_cases q : d = 21
  · subst q
    refine Or.inl ⟨(1, nI t, SA, SD, SP), (nI t, nI t, nI t, w, fa_fill fA nA t, fa_fill fD nD t, fa_fill fP nP t, fA, fD, fP, wo), by rw [if_pos (show (20 : Int32) < nI 21 by decide)], ?_, Or.inr ⟨t, SA, SD, SP, ht, rfl, rfl, hT.copy nA nD nP⟩⟩
    unfold bX6_reconstruct_9
    rw [if_pos (show (20 : Int32) < nI 21 by decide), copy_n hN ht, bd1_s]
  · have hd20 : d ≤ 20 := by omega
    have n20 : ¬ (20 : Int32) < nI d := nI_nlt (b := d) (a := 20) hd20 (by omega)
    have v1 : fX3_size (nI t) = some (nI t) := rfl
    have hbe : ¬ nI t ≤ be := by
      rcases hlv with ⟨-, rfl, -, rfl⟩ | ⟨-, h1, rfl, -⟩
      · decide
      · exact nI_ge h1 (by omega)
    have hpl : prd cn d 4 ≤ 32 ^ 4 := prd_le cn d 4
    have h324 : (32 : Nat) ^ 4 = 1048576 := by decide
    rw [if_neg n20, v1, bd1_s, comb5_n hN (show d < 32 by omega) hF, bd1_s]
    by_cases hW : prd cn d 4 ≤ 4096
    · rw [if_neg (show ¬ (4096 : Int32) < nI (prd cn d 4) from nI_nlt (a := 4096) hW (by omega))]
      have hlv2 : (d = 0 ∧ t = 0) ∨ (0 < d ∧ ls ≤ t ∧ (∀ i, i < ls → nd i + 1 < d) ∧ ∀ i, ls ≤ i → i < t → nd i + 1 = d) := by
        rcases hlv with ⟨a, b, -, -⟩ | ⟨a, b, -, c, e⟩
        · exact Or.inl ⟨a, b⟩
        · exact Or.inr ⟨a, by omega, c, e⟩
      rcases level_two (w := w) (wo := wo) hN hd20 hmk hF hW hlv2 hT with ⟨t', na', nd', np', SA', SD', SP', fA', fD', fP', wo', w', a1, a2, a3, a4, a5, a6⟩ | ⟨⟨x1, x2, x3, x4⟩, ⟨y1, y2, y3, y4, y5, y6⟩, a2, a3⟩
      · have v2 : fX3_size (nI t') = some (nI t') := rfl
        have ht' := a4.1
        rw [a2, bd5_s, if_neg one_ne, v2, bd1_s]
        have h6 : bX6_reconstruct_9 N no mk nA nD nP be (nI d) (nI t) w fA fD fP wo = some (.inl (nI t, nI (d + 1), nI t', w', fA', fD', fP', wo')) := by
          unfold bX6_reconstruct_9
          rw [if_neg n20, if_neg hbe, a3, bd7_s, if_neg one_ne, nI_1]
        rw [h6]
        by_cases e : t' = t
        · subst e
          rw [if_pos rfl]
          refine Or.inr (Or.inr ⟨_, _, (nI t', nI t', nI t', w', fa_fill fA' nA t', fa_fill fD' nD t', fa_fill fP' nP t', fA', fD', fP', wo'), rfl, rfl, ?_, Or.inr ⟨t', SA', SD', SP', ht', rfl, rfl, a4.copy nA nD nP⟩⟩)
          show bX6_reconstruct_9 N no mk nA nD nP (nI t') (nI (d + 1)) (nI t') w' fA' fD' fP' wo' = _
          unfold bX6_reconstruct_9
          by_cases z : (20 : Int32) < nI (d + 1)
          · rw [if_pos z, copy_n hN ht', bd1_s]
          · rw [if_neg z, if_pos (Int32.le_refl _), copy_n hN ht', bd1_s]
        · rw [if_neg (fun z => e ((nI_eq (by omega) (by omega)).mp z)), nI_1]
          refine Or.inr (Or.inl ⟨21 - (d + 1), _, _, by omega, rfl, rfl, d + 1, t', t, na', nd', np', SA', SD', SP', fA', fD', fP', wo', w', nI t, by omega, rfl, rfl, rfl, a4, Or.inr ⟨by omega, by omega, rfl, fun i hi => ?_, fun i h1 h2 => ?_⟩⟩)
          · rw [a5 i hi]
            rcases hlv with ⟨-, b, -, -⟩ | ⟨-, b, -, c, f⟩
            · omega
            · rcases Nat.lt_or_ge i ls with y | y
              · have := c i y; omega
              · have := f i y hi; omega
          · rw [a6 i h1 h2]
      · rw [a2, bd5_s, if_pos rfl]
        refine Or.inl ⟨_, (-6, no, y1, y2, nA, nD, nP, y3, y4, y5, y6), rfl, ?_, Or.inl ⟨_, rfl, rfl, rfl, rfl, rfl, rfl⟩⟩
        unfold bX6_reconstruct_9
        rw [if_neg n20, if_neg hbe, a3, bd7_s, if_pos rfl]
    · rw [if_pos (show (4096 : Int32) < nI (prd cn d 4) from nI_lt (a := 4096) (by omega) (by omega))]
      refine Or.inl ⟨_, (-6, no, nI t, w, nA, nD, nP, fA, fD, fP, wo), rfl, ?_, Or.inl ⟨_, rfl, rfl, rfl, rfl, rfl, rfl⟩⟩
      unfold bX6_reconstruct_9 fX6_findDistance
      rw [if_neg n20, if_neg hbe, comb6_n hN (show d < 32 by omega) hmk, bd1_s, if_neg (show ¬ nI (prd cn d 4) ≤ (4096 : Int32) from nI_ge (a := 4096) (by omega) (by omega)), bd7_s, if_pos rfl]
set_option maxHeartbeats 1000000 in
theorem eq_reconstruct (N : Nat) (hN : 5000 ≤ N) (k : Nat) (hk : k < 512) (xv_markingPercent : Int32) (xv_network_count : Int32) (xa_network_parents : Nat → Int32) (xa_network_addresses : Nat → Int32) (xa_network_depths : Nat → Int32) (xv_generator_state : Int32) (xv_marks_unmarkedPackets : Int32) (xv_marks_markedPackets : Int32) (xa_marks_counts : Nat → Int32) (xa_marks_fragmentSets : Nat → Int32) (xv_nodes_count : Int32) (xa_nodes_addresses : Nat → Int32) (xa_nodes_distances : Nat → Int32) (xa_nodes_parents : Nat → Int32) (mv_routers : Int32) (ma_parentOf : Nat → Int32) (ma_addressOf : Nat → Int32) (ma_depthOf : Nat → Int32) (mv_percent : Int32) (mv_random : Int32) (ma_marks : Nat → Int32) (mv_received : Int32) (mv_unmarked : Int32) (mv_nodes : Int32) (ma_nodeAddresses : Nat → Int32) (ma_nodeDistances : Nat → Int32) (ma_nodeParents : Nat → Int32) (hR : Rel k xv_markingPercent xv_network_count xa_network_parents xa_network_addresses xa_network_depths xv_generator_state xv_marks_unmarkedPackets xv_marks_markedPackets xa_marks_counts xa_marks_fragmentSets xv_nodes_count xa_nodes_addresses xa_nodes_distances xa_nodes_parents mv_routers ma_parentOf ma_addressOf ma_depthOf mv_percent mv_random ma_marks mv_received mv_unmarked mv_nodes ma_nodeAddresses ma_nodeDistances ma_nodeParents) (xa_spareNodes_addresses : Nat → Int32) (xa_spareNodes_distances : Nat → Int32) (xa_spareNodes_parents : Nat → Int32) (mv_words : Int32) (ma_foundAddress : Nat → Int32) (ma_foundDistance : Nat → Int32) (ma_foundParent : Nat → Int32) (ma_wordAt : Nat → Int32)  : ∃ (r : Int32) (xo_spareNodes_count : Int32) (xo_spareNodes_addresses : Nat → Int32) (xo_spareNodes_distances : Nat → Int32) (xo_spareNodes_parents : Nat → Int32) (mo_nodes : Int32) (mo_found : Int32) (mo_words : Int32) (mo_nodeAddresses : Nat → Int32) (mo_nodeDistances : Nat → Int32) (mo_nodeParents : Nat → Int32) (mo_foundAddress : Nat → Int32) (mo_foundDistance : Nat → Int32) (mo_foundParent : Nat → Int32) (mo_wordAt : Nat → Int32), fX5_reconstruct N xa_marks_fragmentSets xa_spareNodes_addresses xa_spareNodes_distances xa_spareNodes_parents = some (r, xo_spareNodes_count, xo_spareNodes_addresses, xo_spareNodes_distances, xo_spareNodes_parents) ∧ fX6_reconstruct N mv_nodes mv_words ma_marks ma_nodeAddresses ma_nodeDistances ma_nodeParents ma_foundAddress ma_foundDistance ma_foundParent ma_wordAt = some (r, mo_nodes, mo_found, mo_words, mo_nodeAddresses, mo_nodeDistances, mo_nodeParents, mo_foundAddress, mo_foundDistance, mo_foundParent, mo_wordAt) ∧ (r = -6 → Rel (k + 1) xv_markingPercent xv_network_count xa_network_parents xa_network_addresses xa_network_depths xv_generator_state xv_marks_unmarkedPackets xv_marks_markedPackets xa_marks_counts xa_marks_fragmentSets xv_nodes_count xa_nodes_addresses xa_nodes_distances xa_nodes_parents mv_routers ma_parentOf ma_addressOf ma_depthOf mv_percent mv_random ma_marks mv_received mv_unmarked mo_nodes mo_nodeAddresses mo_nodeDistances mo_nodeParents) ∧ (¬ r = -6 → Rel (k + 1) xv_markingPercent xv_network_count xa_network_parents xa_network_addresses xa_network_depths xv_generator_state xv_marks_unmarkedPackets xv_marks_markedPackets xa_marks_counts xa_marks_fragmentSets xo_spareNodes_count xo_spareNodes_addresses xo_spareNodes_distances xo_spareNodes_parents mv_routers ma_parentOf ma_addressOf ma_depthOf mv_percent mv_random ma_marks mv_received mv_unmarked mo_nodes mo_nodeAddresses mo_nodeDistances mo_nodeParents) := by
  obtain ⟨h1, hn, hm, ht⟩ := hR
  obtain ⟨cn, fs, a, b, c, d⟩ := id hm
  have hmk : ∀ j, j < 4096 → ma_marks j = nI (cn j) ∧ cn j < 2 ^ 31 := fun j hj => ⟨(c j hj).2.1, by have := (c j hj).2.2; omega⟩
  obtain ⟨r1, r2, e1, e2, hq⟩ := tree_two (SA := xa_spareNodes_addresses) (SD := xa_spareNodes_distances) (SP := xa_spareNodes_parents) (fA := ma_foundAddress) (fD := ma_foundDistance) (fP := ma_foundParent) (wo := ma_wordAt) (nA := ma_nodeAddresses) (nD := ma_nodeDistances) (nP := ma_nodeParents) (w := mv_words) (no := mv_nodes) hN hmk d
  obtain ⟨r, no', fo', w', nA', nD', nP', fA', fD', fP', wo'⟩ := r2
  dsimp only at hq
  have v0 : fX3_clear = some (0 : Int32) := rfl
  rcases hq with ⟨⟨x1, x2, x3, x4⟩, rfl, rfl, rfl, rfl, rfl, rfl⟩ | ⟨t, SA', SD', SP', ht', rfl, rfl, hq⟩
  · refine ⟨-6, x1, x2, x3, x4, no', fo', w', nA', nD', nP', fA', fD', fP', wo', ?_, e2, fun _ => ⟨h1, hn, hm.up, ht⟩, fun z => absurd rfl z⟩
    unfold fX5_reconstruct
    rw [v0, bd1_s, e1, bd5_s, if_pos rfl]
  · have n6 : ¬ nI t = (-6 : Int32) := by
      intro z
      have := congrArg Int32.toInt z
      rw [nI_toInt (by omega)] at this
      have e : (-6 : Int32).toInt = -6 := by decide
      omega
    refine ⟨nI t, nI t, SA', SD', SP', no', fo', w', nA', nD', nP', fA', fD', fP', wo', ?_, e2, fun z => absurd z n6, fun _ => ⟨h1, hn, hm.up, hq⟩⟩
    have v1 : fX3_size (nI t) = some (nI t) := rfl
    unfold fX5_reconstruct
    rw [v0, bd1_s, e1, bd5_s, if_neg one_ne, v1, bd1_s, if_pos n6]
