/-! searches among the routers; addRouter -/
theorem find_st {p : Int32} {k j : Nat} {A : Nat → Int32} (hj : j < k) (hk : k ≤ 20) : bX2_find_2 p (nI k) A (nI j) = if A j = p then some (.inr (nI j)) else some (.inl (nI (j + 1))) := by
  unfold bX2_find_2
  rw [if_neg (nI_ge hj (by omega)), if_neg (show ¬ (20 : Int32) ≤ nI j from nI_ge (b := 20) (by omega) (by omega)), gt_in (by omega) (by omega), nI_clamp (by omega), nI_1]
theorem find_end {p : Int32} {k : Nat} {A : Nat → Int32} : bX2_find_2 p (nI k) A (nI k) = some (.inr (-1)) := by
  unfold bX2_find_2
  rw [if_pos (Int32.le_refl _)]
theorem used_st {p : Int32} {k j : Nat} {A : Nat → Int32} (hj : j < k) (hk : k ≤ 20) : bX6_isUsed_2 p (nI k) A (nI j) = if A j = p then some (.inr 1) else some (.inl (nI (j + 1))) := by
  unfold bX6_isUsed_2
  rw [if_neg (nI_ge hj (by omega)), gt_in (by omega) (by omega), nI_clamp (by omega), nI_1]
theorem used_end {p : Int32} {k : Nat} {A : Nat → Int32} : bX6_isUsed_2 p (nI k) A (nI k) = some (.inr 0) := by
  unfold bX6_isUsed_2
  rw [if_pos (Int32.le_refl _)]
theorem with_st {p : Int32} {k j : Nat} {A : Nat → Int32} (hj : j < k) (hk : k ≤ 20) : bX6_routerWith_2 p (nI k) A (nI j) = if A j = p then some (.inr (nI j)) else some (.inl (nI (j + 1))) := by
  unfold bX6_routerWith_2
  rw [if_neg (nI_ge hj (by omega)), gt_in (by omega) (by omega), nI_clamp (by omega), nI_1]
theorem with_end {p : Int32} {k : Nat} {A : Nat → Int32} : bX6_routerWith_2 p (nI k) A (nI k) = some (.inr (-7)) := by
  unfold bX6_routerWith_2
  rw [if_pos (Int32.le_refl _)]
/-- the three searches: they come to the same first router, or to none -/
theorem find_all {N k : Nat} (hN : 5000 ≤ N) (hk : k ≤ 20) (p : Int32) (A B : Nat → Int32) (hAB : ∀ i, i < k → A i = B i) : (∃ i, i < k ∧ A i = p ∧ fX2_find N p (nI k) A = some (nI i) ∧ fX6_isUsed N p (nI k) B = some 1 ∧ fX6_routerWith N p (nI k) B = some (nI i)) ∨ ((∀ i, i < k → A i ≠ p) ∧ fX2_find N p (nI k) A = some (-1) ∧ fX6_isUsed N p (nI k) B = some 0 ∧ fX6_routerWith N p (nI k) B = some (-7)) := by
  by_cases hx : ∃ i, i < k ∧ A i = p
  · obtain ⟨i, hi, hp, hno⟩ := fb_first hx
    refine Or.inl ⟨i, hi, hp, ?_, ?_, ?_⟩
    · unfold fX2_find
      exact lp_for nI i (fun j hj => by rw [find_st (by omega) hk, if_neg (hno j hj)]) (by rw [find_st hi hk, if_pos hp]) N (by omega)
    · unfold fX6_isUsed
      exact lp_for nI i (fun j hj => by rw [used_st (by omega) hk, if_neg (by rw [← hAB j (by omega)]; exact hno j hj)]) (by rw [used_st hi hk, if_pos (by rw [← hAB i hi]; exact hp)]) N (by omega)
    · unfold fX6_routerWith
      exact lp_for nI i (fun j hj => by rw [with_st (by omega) hk, if_neg (by rw [← hAB j (by omega)]; exact hno j hj)]) (by rw [with_st hi hk, if_pos (by rw [← hAB i hi]; exact hp)]) N (by omega)
  · have hno : ∀ i, i < k → A i ≠ p := fun i hi e => hx ⟨i, hi, e⟩
    refine Or.inr ⟨hno, ?_, ?_, ?_⟩
    · unfold fX2_find
      exact lp_for nI k (fun j hj => by rw [find_st hj hk, if_neg (hno j hj)]) find_end N (by omega)
    · unfold fX6_isUsed
      exact lp_for nI k (fun j hj => by rw [used_st hj hk, if_neg (by rw [← hAB j hj]; exact hno j hj)]) used_end N (by omega)
    · unfold fX6_routerWith
      exact lp_for nI k (fun j hj => by rw [with_st hj hk, if_neg (by rw [← hAB j hj]; exact hno j hj)]) with_end N (by omega)
theorem bd5_s {a b c d f β : Type} {u1 : a} {u2 : b} {u3 : c} {u4 : d} {u5 : f} {k : a → b → c → d → f → Option β} : bd5 (some (u1, u2, u3, u4, u5)) k = k u1 u2 u3 u4 u5 := rfl
/-- one more router at the end -/
theorem NetOk.grow {k j a dd : Nat} {pa ad de : Nat → Nat} {cnt : Int32} {P A D : Nat → Int32} {ro : Int32} {po ao dO : Nat → Int32} {x y : Int32} (h : NetOk k pa ad de cnt P A D ro po ao dO) (hk : k < 20) (ha : a < 4096) (hx : k = 0 → x = -1 ∧ y = -7 ∧ dd = 0) (hy : 0 < k → j < k ∧ x = nI j ∧ y = nI j ∧ dd = de j + 1) :
    RelN (nI (k + 1)) (upd P k x) (upd A k (nI a)) (upd D k (nI dd)) (nI (k + 1)) (upd po k y) (upd ao k (nI a)) (upd dO k (nI dd)) := by
  obtain ⟨h1, h2, h3, h4⟩ := h
  refine ⟨k + 1, fun i => if i = k then j else pa i, fun i => if i = k then a else ad i, fun i => if i = k then dd else de i, by omega, rfl, rfl, fun i hi => ?_⟩
  by_cases e : i = k
  · subst e
    simp only [pk_us, if_true]
    refine ⟨trivial, trivial, ha, trivial, trivial, fun e => ?_, fun q => ?_⟩
    · exact hx e
    · obtain ⟨q1, q2, q3, q4⟩ := hy q
      exact ⟨q1, q2, q3, by rw [if_neg (by omega)]; exact q4⟩
  · have hi2 : i < k := by omega
    obtain ⟨g1, g2, g3, g4, g5, g6, g7⟩ := h4 i hi2
    simp only [pk_un e, if_neg e]
    refine ⟨g1, g2, g3, g4, g5, g6, fun q => ?_⟩
    obtain ⟨q1, q2, q3, q4⟩ := g7 q
    exact ⟨q1, q2, q3, by rw [if_neg (by omega)]; exact q4⟩
theorem has2_m1 {k : Nat} : fX2_has (-1) (nI k) = some 0 := has2_no (Or.inl (by decide))
/-- behind the tests of parent and address -/
theorem add_core {N k a : Nat} {pa ad de : Nat → Nat} {cnt : Int32} {P A D : Nat → Int32} {ro : Int32} {po ao dO : Nat → Int32} (hN : 5000 ≤ N) (h : NetOk k pa ad de cnt P A D ro po ao dO) (ha : a < 4096) (p1 : Int32) (hp : k = 0 ∨ ∃ j, j < k ∧ p1 = nI j) :
    ∃ (r c : Int32) (P' A' D' : Nat → Int32) (c6 : Int32) (po' ao' dO' : Nat → Int32), RelN c P' A' D' c6 po' ao' dO' ∧
      (bd1 (fX2_find N (nI a) cnt A) fun r5 => bd1 (fX2_has r5 cnt) fun r6 => if r6 = 0 then bd5 (fX2_append p1 (nI a) cnt P A D) fun r8 s1 s2 s3 s4 => some (r8, s1, s2, s3, s4) else some ((-3 : Int32), cnt, P, A, D)) = some (r, c, P', A', D') ∧
      (bd1 (fX6_isUsed N (nI a) ro ao) fun r4 => if r4 = 0 then if ro = (20 : Int32) then some ((-4 : Int32), ro, po, ao, dO) else if ro = 0 then if ¬ (ro < 0 ∨ 20 ≤ ro.toNatClampNeg) then some (((ro + (1 : Int32)) - (1 : Int32)), (ro + (1 : Int32)), (upd po ro.toNatClampNeg (-7 : Int32)), (upd ao ro.toNatClampNeg (nI a)), (upd dO ro.toNatClampNeg (0 : Int32))) else none else if ¬ (ro < 0 ∨ 20 ≤ ro.toNatClampNeg) then if ¬ (p1 < 0 ∨ 20 ≤ p1.toNatClampNeg) then some (((ro + (1 : Int32)) - (1 : Int32)), (ro + (1 : Int32)), (upd po ro.toNatClampNeg p1), (upd ao ro.toNatClampNeg (nI a)), (upd dO ro.toNatClampNeg ((dO p1.toNatClampNeg) + (1 : Int32)))) else none else none else some ((-3 : Int32), ro, po, ao, dO)) = some (r, c6, po', ao', dO') := by
  obtain ⟨h1, rfl, rfl, h4⟩ := id h
  have hAB : ∀ i, i < k → A i = ao i := fun i hi => (h4 i hi).1.trans (h4 i hi).2.1.symm
  rcases find_all hN h1 (nI a) A ao hAB with ⟨i, hi, -, f1, f2, -⟩ | ⟨-, f1, f2, -⟩
  · refine ⟨-3, nI k, P, A, D, nI k, po, ao, dO, ⟨k, pa, ad, de, h⟩, ?_, ?_⟩
    · rw [f1, bd1_s, has2_yes hi h1]; rfl
    · rw [f2]; rfl
  · rw [f1, f2, bd1_s, bd1_s, has2_m1, bd1_s, if_pos rfl, if_pos rfl]
    unfold fX2_append
    by_cases e20 : k = 20
    · subst e20
      refine ⟨-4, nI 20, P, A, D, nI 20, po, ao, dO, ⟨20, pa, ad, de, h⟩, ?_, rfl⟩
      have e : fX5_isBelow (nI 20) (20 : Int32) = some 0 := isBelow_no (b := 20) (Or.inr (Int32.le_refl _))
      rw [e]
      rfl
    · have hk : k < 20 := by omega
      have e : fX5_isBelow (nI k) (20 : Int32) = some 1 := isBelow_yes (b := 20) hk (by omega)
      have n20 : ¬ nI k = (20 : Int32) := fun q => e20 ((nI_eq (b := 20) (by omega) (by omega)).mp q)
      rw [e, bd1_s, if_neg one_ne, if_neg n20]
      have es : nI k + (1 : Int32) - (1 : Int32) = nI k := by rw [nI_1]; exact nI_pred k
      have gk : ¬ (nI k < 0 ∨ 20 ≤ k) := by
        rintro (q | q)
        · exact nI_pos (by omega) q
        · omega
      simp only [nI_clamp (show k < 2 ^ 31 by omega), nI_1, nI_pred, gk, not_false_eq_true, if_true]
      by_cases e0 : k = 0
      · subst e0
        refine ⟨nI 0, nI 1, upd P 0 (-1), upd A 0 (nI a), upd D 0 0, nI 1, upd po 0 (-7), upd ao 0 (nI a), upd dO 0 0, h.grow (k := 0) (j := 0) (dd := 0) hk ha (fun _ => ⟨rfl, rfl, rfl⟩) (fun q => absurd q (by omega)), ?_, ?_⟩
        · rw [if_pos nI_0]; rfl
        · rw [if_pos nI_0]
      · obtain ⟨j, hj, rfl⟩ := hp.resolve_left e0
        have n0 : ¬ nI k = 0 := nI_ne0 (by omega) (by omega)
        have g := h4 j hj
        refine ⟨nI k, nI (k + 1), upd P k (nI j), upd A k (nI a), upd D k (nI (de j + 1)), nI (k + 1), upd po k (nI j), upd ao k (nI a), upd dO k (nI (de j + 1)), h.grow hk ha (fun q => absurd q e0) (fun _ => ⟨hj, rfl, rfl, rfl⟩), ?_, ?_⟩
        · rw [if_neg n0, depthOf_yes hj h1, bd1_s, bd5_s, g.2.2.2.1, nI_1]
        · rw [if_neg n0, gt_in (by omega) (by omega), nI_clamp (by omega), g.2.2.2.2.1, nI_1]
set_option maxHeartbeats 1000000 in
theorem eq_addRouter (N : Nat) (hN : 5000 ≤ N) (k : Nat) (hk : k < 512) (xv_markingPercent : Int32) (xv_network_count : Int32) (xa_network_parents : Nat → Int32) (xa_network_addresses : Nat → Int32) (xa_network_depths : Nat → Int32) (xv_generator_state : Int32) (xv_marks_unmarkedPackets : Int32) (xv_marks_markedPackets : Int32) (xa_marks_counts : Nat → Int32) (xa_marks_fragmentSets : Nat → Int32) (xv_nodes_count : Int32) (xa_nodes_addresses : Nat → Int32) (xa_nodes_distances : Nat → Int32) (xa_nodes_parents : Nat → Int32) (mv_routers : Int32) (ma_parentOf : Nat → Int32) (ma_addressOf : Nat → Int32) (ma_depthOf : Nat → Int32) (mv_percent : Int32) (mv_random : Int32) (ma_marks : Nat → Int32) (mv_received : Int32) (mv_unmarked : Int32) (mv_nodes : Int32) (ma_nodeAddresses : Nat → Int32) (ma_nodeDistances : Nat → Int32) (ma_nodeParents : Nat → Int32) (hR : Rel k xv_markingPercent xv_network_count xa_network_parents xa_network_addresses xa_network_depths xv_generator_state xv_marks_unmarkedPackets xv_marks_markedPackets xa_marks_counts xa_marks_fragmentSets xv_nodes_count xa_nodes_addresses xa_nodes_distances xa_nodes_parents mv_routers ma_parentOf ma_addressOf ma_depthOf mv_percent mv_random ma_marks mv_received mv_unmarked mv_nodes ma_nodeAddresses ma_nodeDistances ma_nodeParents)  (p1 : Int32) (p2 : Int32) : ∃ (r : Int32) (xo_network_count : Int32) (xo_network_parents : Nat → Int32) (xo_network_addresses : Nat → Int32) (xo_network_depths : Nat → Int32) (mo_routers : Int32) (mo_parentOf : Nat → Int32) (mo_addressOf : Nat → Int32) (mo_depthOf : Nat → Int32), fX5_addRouter N p1 p2 xv_network_count xa_network_parents xa_network_addresses xa_network_depths = some (r, xo_network_count, xo_network_parents, xo_network_addresses, xo_network_depths) ∧ fX6_addRouter N p1 p2 mv_routers ma_parentOf ma_addressOf ma_depthOf = some (r, mo_routers, mo_parentOf, mo_addressOf, mo_depthOf) ∧ Rel (k + 1) xv_markingPercent xo_network_count xo_network_parents xo_network_addresses xo_network_depths xv_generator_state xv_marks_unmarkedPackets xv_marks_markedPackets xa_marks_counts xa_marks_fragmentSets xv_nodes_count xa_nodes_addresses xa_nodes_distances xa_nodes_parents mo_routers mo_parentOf mo_addressOf mo_depthOf mv_percent mv_random ma_marks mv_received mv_unmarked mv_nodes ma_nodeAddresses ma_nodeDistances ma_nodeParents := by
  obtain ⟨h1, hn, hm, ht⟩ := hR
  obtain ⟨n, pa, ad, de, hok⟩ := id hn
  obtain ⟨a, b, c, d⟩ := id hok
  have same : ∀ r : Int32, ((∃ r', r' = r) → True) := fun _ _ => trivial
  unfold fX5_addRouter fX6_addRouter fX2_isEmpty
  by_cases e0 : n = 0
  · have ec : xv_network_count = 0 := by rw [b, e0]; rfl
    have er : mv_routers ≤ 0 := by rw [c, e0]; decide
    rw [if_pos ec, bd1_s, if_neg one_ne, if_pos er]
    rcases addr_two p2 with ⟨j, hj, rfl, q1, q2⟩ | ⟨q1, q2⟩
    · obtain ⟨r, c5, P', A', D', c6, po', ao', dO', hn', w1, w2⟩ := add_core hN hok hj p1 (Or.inl e0)
      refine ⟨r, c5, P', A', D', c6, po', ao', dO', ?_, ?_, h1, hn', hm.up, ht⟩
      · rw [q1, bd1_s, if_neg one_ne]; exact w1
      · rw [q2, bd1_s, if_neg one_ne]; exact w2
    · refine ⟨-2, xv_network_count, xa_network_parents, xa_network_addresses, xa_network_depths, mv_routers, ma_parentOf, ma_addressOf, ma_depthOf, ?_, ?_, h1, hn, hm.up, ht⟩
      · rw [q1]; rfl
      · rw [q2]; rfl
  · have ec : ¬ xv_network_count = 0 := by rw [b]; exact nI_ne0 (by omega) (by omega)
    have er : ¬ mv_routers ≤ 0 := by rw [c]; exact nI_nle (by omega) (by omega)
    rw [if_neg ec, bd1_s, if_pos rfl, if_neg er]
    rcases ix p1 (k := n) (by omega) with h | ⟨i, hi, ei⟩
    · refine ⟨-1, xv_network_count, xa_network_parents, xa_network_addresses, xa_network_depths, mv_routers, ma_parentOf, ma_addressOf, ma_depthOf, ?_, ?_, h1, hn, hm.up, ht⟩
      · rw [b, has2_no h]; rfl
      · rw [c, isRouter_no (by omega) h]; rfl
    · rw [show fX2_has p1 xv_network_count = some 1 by rw [b, ei]; exact has2_yes hi a, show fX6_isRouter p1 mv_routers = some 1 by rw [c, ei]; exact isRouter_yes hi (by omega), bd1_s, bd1_s, if_neg one_ne, if_neg one_ne]
      rcases addr_two p2 with ⟨j, hj, rfl, q1, q2⟩ | ⟨q1, q2⟩
      · obtain ⟨r, c5, P', A', D', c6, po', ao', dO', hn', w1, w2⟩ := add_core hN hok hj p1 (Or.inr ⟨i, hi, ei⟩)
        refine ⟨r, c5, P', A', D', c6, po', ao', dO', ?_, ?_, h1, hn', hm.up, ht⟩
        · rw [q1, bd1_s, if_neg one_ne]; exact w1
        · rw [q2, bd1_s, if_neg one_ne]; exact w2
      · refine ⟨-2, xv_network_count, xa_network_parents, xa_network_addresses, xa_network_depths, mv_routers, ma_parentOf, ma_addressOf, ma_depthOf, ?_, ?_, h1, hn, hm.up, ht⟩
        · rw [q1]; rfl
        · rw [q2]; rfl
