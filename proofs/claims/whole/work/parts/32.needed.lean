/-! packetsNeeded -/
/-- two loops side by side; the second may need one round more to leave -/
theorem lp_two2 {S1 R1 S2 R2 : Type} {step1 : S1 → Option (S1 ⊕ R1)} {step2 : S2 → Option (S2 ⊕ R2)} (I : Nat → S1 → S2 → Prop) (Q : R1 → R2 → Prop) (h : ∀ i s1 s2, I i s1 s2 → (∃ r1 r2, step1 s1 = some (.inr r1) ∧ step2 s2 = some (.inr r2) ∧ Q r1 r2) ∨ (∃ j s1' s2', j < i ∧ step1 s1 = some (.inl s1') ∧ step2 s2 = some (.inl s2') ∧ I j s1' s2') ∨ ∃ r1 s2' r2, step1 s1 = some (.inr r1) ∧ step2 s2 = some (.inl s2') ∧ step2 s2' = some (.inr r2) ∧ Q r1 r2) : ∀ i s1 s2, I i s1 s2 → ∀ n, i + 1 < n → ∃ r1 r2, lp step1 n s1 = some r1 ∧ lp step2 n s2 = some r2 ∧ Q r1 r2 := by
  intro i
  induction i using Nat.strongRecOn with
  | ind i ih =>
    intro s1 s2 hi n hn
    obtain ⟨n', rfl⟩ : ∃ n', n = n' + 2 := ⟨n - 2, by omega⟩
    rcases h i s1 s2 hi with ⟨r1, r2, h1, h2, h3⟩ | ⟨j, s1', s2', hj, h1, h2, h3⟩ | ⟨r1, s2', r2, h1, h2, h3, h4⟩
    · exact ⟨r1, r2, lp_done h1, lp_done h2, h3⟩
    · rw [lp_step h1, lp_step h2]
      exact ih j hj s1' s2' h3 (n' + 1) (by omega)
    · refine ⟨r1, r2, lp_done h1, ?_, h4⟩
      rw [lp_step h2]
      exact lp_done h3
def c4 (a : Nat) : Nat := fb_ct a.testBit 4
theorem c4_a : ∀ a, a < 16 → c4 a ≤ 4 ∧ (c4 a = 4 ↔ a = 15) ∧ (nI (15 - a) = 0 ↔ a = 15) := by decide +kernel
theorem c4_o : ∀ a, a < 16 → ∀ o, o < 4 → (a ||| 2 ^ o) < 16 ∧ ((a ||| 2 ^ o) = a ∨ ((a ||| 2 ^ o) ≠ a ∧ c4 (a ||| 2 ^ o) = c4 a + 1)) ∧ nI (15 - a) &&& (((1 : Int32) <<< ((nI o) &&& 31)) ^^^ (-1 : Int32)) = nI (15 - (a ||| 2 ^ o)) ∧ nI a ||| ((1 : Int32) <<< ((nI o) &&& 31)) = nI (a ||| 2 ^ o) ∧ (nI (a ||| 2 ^ o) = nI a ↔ (a ||| 2 ^ o) = a) := by decide +kernel
/-- how many marks are wanting -/
def miss (sn : Nat → Nat) (dd : Nat) : Nat := fb_sm (fun d => 4 - c4 (sn d)) (dd + 1)
theorem miss_zero {sn : Nat → Nat} {dd : Nat} (h : ∀ d, d ≤ dd → sn d < 16) : miss sn dd = 0 ↔ ∀ d, d ≤ dd → sn d = 15 := by
  constructor
  · intro hz d hd
    have this : 4 - c4 (sn d) = 0 := fb_sm_zero hz d (by omega)
    obtain ⟨a1, a2, -⟩ := c4_a (sn d) (h d hd)
    exact a2.mp (by omega)
  · intro hz
    have hz2 : ∀ d, d < dd + 1 → (fun d => 4 - c4 (sn d)) d = (fun _ => 0) d := by
      intro d hd
      show 4 - c4 (sn d) = 0
      rw [hz d (by omega)]
      decide
    unfold miss
    rw [fb_sm_cong hz2, fb_sm_const, Nat.mul_zero]
theorem miss_le {sn : Nat → Nat} {dd : Nat} (h : dd < 20) : miss sn dd ≤ 80 := by
  have : miss sn dd ≤ (dd + 1) * 4 := fb_sm_bound (fun d _ => by omega)
  omega
theorem complete_n {N : Nat} (hN : 5000 ≤ N) (ms : Nat → Int32) : ((∀ d, d < 20 → ms d = 0) ∧ fX6_isTrialComplete N ms = some 1) ∨ ((∃ d, d < 20 ∧ ¬ ms d = 0) ∧ fX6_isTrialComplete N ms = some 0) := by
  have st : ∀ d, d < 20 → bX6_isTrialComplete_2 ms (nI d) = if ms d = 0 then some (.inl (nI (d + 1))) else some (.inr 0) := by
    intro d hd
    unfold bX6_isTrialComplete_2
    rw [if_neg (show ¬ (20 : Int32) ≤ nI d from nI_ge (b := 20) hd (by omega)), gt_in hd (by omega), nI_clamp (by omega), nI_1]
  unfold fX6_isTrialComplete
  by_cases hx : ∃ d, d < 20 ∧ ¬ ms d = 0
  · obtain ⟨d, hd, hp, hno⟩ := fb_first hx
    refine Or.inr ⟨hx, lp_for nI d (fun i hi => ?_) ?_ N (by omega)⟩
    · show bX6_isTrialComplete_2 ms (nI i) = _
      rw [st i (by omega), if_pos (Classical.not_not.mp (hno i hi))]
    · show bX6_isTrialComplete_2 ms (nI d) = _
      rw [st d hd, if_neg hp]
  · have ha : ∀ d, d < 20 → ms d = 0 := fun d hd => Classical.not_not.mp (fun q => hx ⟨d, hd, q⟩)
    refine Or.inl ⟨ha, lp_for nI 20 (fun i hi => ?_) ?_ N (by omega)⟩
    · show bX6_isTrialComplete_2 ms (nI i) = _
      rw [st i hi, if_pos (ha i hi)]
    · show bX6_isTrialComplete_2 ms (nI 20) = _
      unfold bX6_isTrialComplete_2
      rw [if_pos (show (20 : Int32) ≤ nI 20 from Int32.le_refl _)]
theorem starts_n {N i dd : Nat} {dO : Nat → Int32} (hN : 5000 ≤ N) (hi : i < 20) (hd : dO i = nI dd) (hdd : dd < 20) (ms : Nat → Int32) : fX6_startsTrial N (nI i) dO ms = some (fa_fill (fun d => if d ≤ dd then 15 else 0) ms 20) := by
  unfold fX6_startsTrial
  have h := lp_for (step := fun s : Int32 × (Nat → Int32) => bX6_startsTrial_2 (nI i) dO s.1 s.2) (fun d => (nI d, fa_fill (fun d => if d ≤ dd then 15 else 0) ms d)) 20 (fun d hd2 => by
    show bX6_startsTrial_2 (nI i) dO (nI d) (fa_fill _ ms d) = _
    unfold bX6_startsTrial_2
    rw [if_neg (show ¬ (20 : Int32) ≤ nI d from nI_ge (b := 20) hd2 (by omega)), gt_in hi (by omega), nI_clamp (show i < 2 ^ 31 by omega), hd, ← fa_fill_succ, nI_1]
    by_cases q : d ≤ dd
    · rw [if_neg (nI_nlt (by omega) (by omega)), gt_in hd2 (by omega), nI_clamp (by omega), if_pos q]
    · rw [if_pos (nI_lt (by omega) (by omega)), gt_in hd2 (by omega), nI_clamp (by omega), if_neg q]) (by
    show bX6_startsTrial_2 (nI i) dO (nI 20) _ = _
    unfold bX6_startsTrial_2
    rw [if_pos (show (20 : Int32) ≤ nI 20 from Int32.le_refl _)]) N (by omega)
  rw [fa_fill_0] at h
  exact h
/-- what the two hold of the trial -/
def Trial (dd : Nat) (sn : Nat → Nat) (seen ms : Nat → Int32) : Prop := (∀ d, d < 20 → sn d < 16 ∧ seen d = nI (sn d)) ∧ ∀ d, d < 20 → ms d = if d ≤ dd then nI (15 - sn d) else 0
theorem Trial.done {N dd : Nat} {sn : Nat → Nat} {seen ms : Nat → Int32} (hN : 5000 ≤ N) (hdd : dd < 20) (h : Trial dd sn seen ms) : (miss sn dd = 0 ∧ fX6_isTrialComplete N ms = some 1) ∨ (miss sn dd ≠ 0 ∧ fX6_isTrialComplete N ms = some 0) := by
  have hs : ∀ d, d ≤ dd → sn d < 16 := fun d hd => (h.1 d (by omega)).1
  rcases complete_n hN ms with ⟨q, e⟩ | ⟨⟨d, hd, q⟩, e⟩
  · refine Or.inl ⟨(miss_zero hs).mpr (fun d hd => ?_), e⟩
    have := q d (by omega)
    rw [h.2 d (by omega), if_pos hd] at this
    exact (c4_a (sn d) (hs d hd)).2.2.mp this
  · refine Or.inr ⟨fun z => q ?_, e⟩
    rw [h.2 d hd]
    by_cases w : d ≤ dd
    · rw [if_pos w, (miss_zero hs).mp z d w]; rfl
    · rw [if_neg w]
/-- one packet of the trial -/
theorem trial_two {dd o d : Nat} {sn : Nat → Nat} {seen ms : Nat → Int32} (hdd : dd < 20) (h : Trial dd sn seen ms) (hd : d ≤ dd) (ho : o < 4) :
    ∃ sn' r, fX5_isNewOnPath 1 (nI d) (nI o) seen = some (r, upd seen d (nI (sn d ||| 2 ^ o))) ∧ Trial dd sn' (upd seen d (nI (sn d ||| 2 ^ o))) (upd ms d (ms d &&& (((1 : Int32) <<< ((nI o) &&& 31)) ^^^ (-1 : Int32)))) ∧ ((r = 0 ∧ miss sn' dd = miss sn dd) ∨ (r = 1 ∧ miss sn' dd + 1 = miss sn dd)) := by
  obtain ⟨s1, s2⟩ := h.1 d (by omega)
  obtain ⟨w1, w2, w3, w4, w5⟩ := c4_o (sn d) s1 o ho
  have hT : Trial dd (fun q => if q = d then sn d ||| 2 ^ o else sn q) (upd seen d (nI (sn d ||| 2 ^ o))) (upd ms d (ms d &&& (((1 : Int32) <<< ((nI o) &&& 31)) ^^^ (-1 : Int32)))) := by
    refine ⟨fun q hq => ?_, fun q hq => ?_⟩
    · by_cases e : q = d
      · subst e; simp only [pk_us, if_true]; exact ⟨w1, trivial⟩
      · simp only [pk_un e, if_neg e]; exact h.1 q hq
    · by_cases e : q = d
      · subst e
        rw [pk_us, h.2 q hq, if_pos hd, if_pos hd, w3]
        show _ = nI (15 - (if q = q then sn q ||| 2 ^ o else sn q))
        rw [if_pos rfl]
      · rw [pk_un e, h.2 q hq]
        simp only [if_neg e]
  have hM : miss (fun q => if q = d then sn d ||| 2 ^ o else sn q) dd + (4 - c4 (sn d)) = miss sn dd + (4 - c4 (sn d ||| 2 ^ o)) := by
    have := fb_sm_upd (fun q => 4 - c4 (sn q)) (4 - c4 (sn d ||| 2 ^ o)) (i := d) (n := dd + 1) (by omega)
    unfold miss
    rw [← this]
    congr 1
    apply fb_sm_cong
    intro q hq
    by_cases e : q = d
    · simp only [if_pos e]
    · simp only [if_neg e]
  have e20 : fX5_isBelow (nI d) (20 : Int32) = some 1 := isBelow_yes (b := 20) (by omega) (by omega)
  have v1 : fX4_distance (nI d) = some (nI d) := rfl
  have v2 : fX4_isMarkedByRouter 1 = some 1 := rfl
  have v3 : fX4_offset (nI o) = some (nI o) := rfl
  refine ⟨_, if (sn d ||| 2 ^ o) = sn d then 0 else 1, ?_, hT, ?_⟩
  · unfold fX5_isNewOnPath
    rw [v1, bd1_s, v2, bd1_s, if_neg one_ne, e20, bd1_s, if_neg one_ne, gt_in (by omega) (by omega), nI_clamp (by omega), nm_eq, v3, bd1_s, pk_us, s2, w4]
    by_cases e : (sn d ||| 2 ^ o) = sn d
    · rw [if_pos (w5.mpr e), if_pos e]
    · rw [if_neg (fun z => e (w5.mp z)), if_neg e]
  · have b1 := (c4_a (sn d) s1).1
    have b2 := (c4_a _ w1).1
    rcases w2 with e | ⟨e, e2⟩
    · rw [if_pos e]
      rw [e] at hM
      exact Or.inl ⟨rfl, by rw [e]; omega⟩
    · rw [if_neg e]
      exact Or.inr ⟨rfl, by omega⟩
theorem bd8_s {a1 a2 a3 a4 a5 a6 a7 a8 β : Type} {u1 : a1} {u2 : a2} {u3 : a3} {u4 : a4} {u5 : a5} {u6 : a6} {u7 : a7} {u8 : a8} {k : a1 → a2 → a3 → a4 → a5 → a6 → a7 → a8 → Option β} : bd8 (some (u1, u2, u3, u4, u5, u6, u7, u8)) k = k u1 u2 u3 u4 u5 u6 u7 u8 := rfl
/-- a head of the reference's loop: it leaves if the path is complete -/
theorem need6_done {N c s dd : Nat} {p1 pct y g d6 o6 v6 im : Int32} {po ao : Nat → Int32} {sn : Nat → Nat} {seen ms : Nat → Int32} (hN : 5000 ≤ N) (hdd : dd < 20) (hc : c ≤ 2000) (hs : s ≤ 3000) (h : Trial dd sn seen ms) (hm : miss sn dd = 0 ∨ c ≤ s) : bX6_packetsNeeded_37 N p1 (nI c) pct po ao y (nI s) g d6 o6 v6 im ms = some (.inr (if miss sn dd = 0 then nI s else -7, y, d6, o6, v6, im, ms)) := by
  unfold bX6_packetsNeeded_37
  rcases h.done hN hdd with ⟨q, e⟩ | ⟨q, e⟩
  · rw [e, bd1_s, if_neg one_ne, if_pos q]
    by_cases z : c ≤ s
    · rw [if_pos (nI_le z (by omega))]
    · rw [if_neg (nI_ge (by omega) (by omega)), bd1_s, if_neg one_ne]
  · have z : c ≤ s := hm.resolve_left q
    rw [e, bd1_s, if_pos rfl, if_neg q, if_pos (nI_le z (by omega))]
set_option maxHeartbeats 1000000 in
theorem eq_packetsNeeded (N : Nat) (hN : 5000 ≤ N) (k : Nat) (hk : k < 512) (xv_markingPercent : Int32) (xv_network_count : Int32) (xa_network_parents : Nat → Int32) (xa_network_addresses : Nat → Int32) (xa_network_depths : Nat → Int32) (xv_generator_state : Int32) (xv_marks_unmarkedPackets : Int32) (xv_marks_markedPackets : Int32) (xa_marks_counts : Nat → Int32) (xa_marks_fragmentSets : Nat → Int32) (xv_nodes_count : Int32) (xa_nodes_addresses : Nat → Int32) (xa_nodes_distances : Nat → Int32) (xa_nodes_parents : Nat → Int32) (mv_routers : Int32) (ma_parentOf : Nat → Int32) (ma_addressOf : Nat → Int32) (ma_depthOf : Nat → Int32) (mv_percent : Int32) (mv_random : Int32) (ma_marks : Nat → Int32) (mv_received : Int32) (mv_unmarked : Int32) (mv_nodes : Int32) (ma_nodeAddresses : Nat → Int32) (ma_nodeDistances : Nat → Int32) (ma_nodeParents : Nat → Int32) (hR : Rel k xv_markingPercent xv_network_count xa_network_parents xa_network_addresses xa_network_depths xv_generator_state xv_marks_unmarkedPackets xv_marks_markedPackets xa_marks_counts xa_marks_fragmentSets xv_nodes_count xa_nodes_addresses xa_nodes_distances xa_nodes_parents mv_routers ma_parentOf ma_addressOf ma_depthOf mv_percent mv_random ma_marks mv_received mv_unmarked mv_nodes ma_nodeAddresses ma_nodeDistances ma_nodeParents) (xv_packet_marked : Int32) (xv_packet_markedByRouter : Int32) (xv_packet_distance : Int32) (xv_packet_offset : Int32) (xv_packet_fragment : Int32) (xa_offsetsSeen : Nat → Int32) (mv_distance : Int32) (mv_offset : Int32) (mv_value : Int32) (mv_isMade : Int32) (ma_missing : Nat → Int32) (p1 : Int32) (p2 : Int32) : ∃ (r : Int32) (xo_generator_state : Int32) (xo_packet_marked : Int32) (xo_packet_markedByRouter : Int32) (xo_packet_distance : Int32) (xo_packet_offset : Int32) (xo_packet_fragment : Int32) (xo_offsetsSeen : Nat → Int32) (mo_random : Int32) (mo_distance : Int32) (mo_offset : Int32) (mo_value : Int32) (mo_isMade : Int32) (mo_missing : Nat → Int32), fX5_packetsNeeded N p1 p2 xv_markingPercent xv_network_count xa_network_parents xa_network_addresses xa_network_depths xv_generator_state xv_packet_marked xv_packet_markedByRouter xv_packet_distance xv_packet_offset xv_packet_fragment xa_offsetsSeen = some (r, xo_generator_state, xo_packet_marked, xo_packet_markedByRouter, xo_packet_distance, xo_packet_offset, xo_packet_fragment, xo_offsetsSeen) ∧ fX6_packetsNeeded N p1 p2 mv_routers mv_percent mv_random mv_distance mv_offset mv_value mv_isMade ma_parentOf ma_addressOf ma_depthOf ma_missing = some (r, mo_random, mo_distance, mo_offset, mo_value, mo_isMade, mo_missing) ∧ Rel (k + 1) xv_markingPercent xv_network_count xa_network_parents xa_network_addresses xa_network_depths xo_generator_state xv_marks_unmarkedPackets xv_marks_markedPackets xa_marks_counts xa_marks_fragmentSets xv_nodes_count xa_nodes_addresses xa_nodes_distances xa_nodes_parents mv_routers ma_parentOf ma_addressOf ma_depthOf mv_percent mo_random ma_marks mv_received mv_unmarked mv_nodes ma_nodeAddresses ma_nodeDistances ma_nodeParents := by
  obtain ⟨⟨rfl, rfl⟩, hn, hm, ht⟩ := hR
  obtain ⟨n, pa, ad, de, hok⟩ := id hn
  have k1 := hok.1
  have kb := hok.2.1
  have kc := hok.2.2.1
  unfold fX5_packetsNeeded fX6_packetsNeeded
  rcases ix p1 (k := n) (by omega) with h | ⟨i, hi, rfl⟩
  · rw [show fX2_has p1 xv_network_count = some 0 by rw [kb]; exact has2_no h, show fX6_isRouter p1 mv_routers = some 0 by rw [kc]; exact isRouter_no (by omega) h, bd1_s, bd1_s, if_pos rfl, if_pos rfl]
    exact ⟨-1, _, _, _, _, _, _, _, _, _, _, _, _, _, rfl, rfl, ⟨rfl, rfl⟩, hn, hm.up, ht⟩
  · rw [show fX2_has (nI i) xv_network_count = some 1 by rw [kb]; exact has2_yes hi k1, show fX6_isRouter (nI i) mv_routers = some 1 by rw [kc]; exact isRouter_yes hi (by omega), bd1_s, bd1_s, if_neg one_ne, if_neg one_ne]
    have hdl := hok.de_le i hi
    have hdd : de i < 20 := by omega
    obtain ⟨-, -, -, gD, gO, -, -⟩ := hok.2.2.2 i hi
    rcases one_within p2 2000 (by omega) with ⟨c, c1, c2, rfl, q1, q2⟩ | ⟨q1, q2⟩
    · have q1 : fX5_isFromOneTo (nI c) (2000 : Int32) = some 1 := q1
      have q2 : fX6_within (nI c) (1 : Int32) (2000 : Int32) = some 1 := q2
      have v0 : fX0_state xv_generator_state = some xv_generator_state := rfl
      rw [q1, q2, bd1_s, bd1_s, if_neg one_ne, if_neg one_ne, v0, bd1_s, starts_n hN (show i < 20 by omega) gO hdd, bd1_s]
      unfold fX5_tryPackets
      rw [fill_n hN (by omega), bd1_s, show fX2_depthOf (nI i) xv_network_count xa_network_depths = some (nI (de i)) by rw [kb, depthOf_yes hi k1, gD], bd1_s, nm_eq, nI_1, show (4 : Int32) = nI 4 from rfl, pk_mul]
      have hT0 : Trial (de i) (fun _ => 0) (fa_fill (fun _ => 0) xa_offsetsSeen 20) (fa_fill (fun d => if d ≤ de i then 15 else 0) ma_missing 20) := by
        refine ⟨fun d hd => ⟨(by show (0 : Nat) < 16; omega), by rw [fa_fill_in hd]; rfl⟩, fun d hd => ?_⟩
        rw [fa_fill_in hd]
        rfl
      have hm0 : miss (fun _ => 0) (de i) = (de i + 1) * 4 := by
        have e4 : ∀ d, d < de i + 1 → (fun d => 4 - c4 ((fun _ => 0) d)) d = (fun _ => 4) d := by
          intro d hd
          show 4 - c4 0 = 4
          decide
        unfold miss
        rw [fb_sm_cong e4, fb_sm_const]
      obtain ⟨⟨r1, g1, m1, b1, d1, o1, f1, se1⟩, ⟨r2, g2, d2, o2, v2, i2, ms2⟩, e1, e2, z1, z2⟩ := lp_two2 (step1 := fun s : Int32 × Int32 × Int32 × Int32 × Int32 × Int32 × Int32 × Int32 × (Nat → Int32) => bX5_tryPackets_24 N (nI i) (nI c) xv_markingPercent xv_network_count xa_network_parents xa_network_addresses s.1 s.2.1 s.2.2.1 s.2.2.2.1 s.2.2.2.2.1 s.2.2.2.2.2.1 s.2.2.2.2.2.2.1 s.2.2.2.2.2.2.2.1 s.2.2.2.2.2.2.2.2) (step2 := fun s : Int32 × Int32 × Int32 × Int32 × Int32 × Int32 × (Nat → Int32) => bX6_packetsNeeded_37 N (nI i) (nI c) xv_markingPercent ma_parentOf ma_addressOf xv_generator_state s.1 s.2.1 s.2.2.1 s.2.2.2.1 s.2.2.2.2.1 s.2.2.2.2.2.1 s.2.2.2.2.2.2)
        (fun x s1 s2 => ∃ (s : Nat) (sn : Nat → Nat) (g mk mb ds of fr : Int32) (seen : Nat → Int32) (d6 o6 v6 im : Int32) (ms : Nat → Int32), s ≤ c ∧ x = c - s ∧ 0 < miss sn (de i) ∧ Trial (de i) sn seen ms ∧ s1 = (nI (miss sn (de i)), nI (s + 1), g, mk, mb, ds, of, fr, seen) ∧ s2 = (nI s, g, d6, o6, v6, im, ms))
        (fun r1 r2 => r1.1 = r2.1 ∧ r2.2.1 = xv_generator_state) (by
        rintro x s1 s2 ⟨s, sn, g, mk, mb, ds, of, fr, seen, d6, o6, v6, im, ms, hs, rfl, hpos, hT, rfl, rfl⟩
        dsimp only
        have hml : miss sn (de i) ≤ 80 := miss_le hdd
        by_cases q : s = c
        · subst q
          refine Or.inl ⟨(-7, g, mk, mb, ds, of, fr, seen), (-7, xv_generator_state, d6, o6, v6, im, ms), ?_, ?_, rfl, rfl⟩
          · unfold bX5_tryPackets_24; rw [if_pos (nI_lt (by omega) (by omega))]
          · rw [need6_done hN hdd c2 (by omega) hT (Or.inr (Nat.le_refl _)), if_neg (by omega)]
        · obtain ⟨g', mk', mb', ds', of', fr', d6', o6', v6', im', w1, w2, w3⟩ := trav_two (fo := false) (pct := xv_markingPercent) (g := g) (mk := 0) (mb := 0) (ds := 0) (of := 0) (fr := 0) (d6 := -7) (o6 := o6) (v6 := v6) (im := im) hN hok hi (Or.inl ⟨rfl, rfl, rfl, rfl⟩)
          have n1 : ¬ nI c < nI (s + 1) := nI_nlt (by omega) (by omega)
          have n2 : ¬ nI c ≤ nI s := nI_ge (by omega) (by omega)
          have h6 : fX6_isTrialComplete N ms = some 0 := by
            rcases hT.done hN hdd with ⟨z, -⟩ | ⟨-, z⟩
            · omega
            · exact z
          have hx6 : bX6_packetsNeeded_37 N (nI i) (nI c) xv_markingPercent ma_parentOf ma_addressOf xv_generator_state (nI s) g d6 o6 v6 im ms = (if d6' = (-7 : Int32) then some (.inl (nI (s + 1), g', d6', o6', v6', im', ms)) else if ¬ (d6' < 0 ∨ 20 ≤ d6'.toNatClampNeg) then some (.inl (nI (s + 1), g', d6', o6', v6', im', upd ms d6'.toNatClampNeg ((ms d6'.toNatClampNeg) &&& (((1 : Int32) <<< (o6' &&& 31)) ^^^ (-1 : Int32))))) else none) := by
            unfold bX6_packetsNeeded_37
            rw [if_neg n2, h6, bd1_s, if_pos rfl, w2, bd5_s, nI_1]
          have hx5 : bX5_tryPackets_24 N (nI i) (nI c) xv_markingPercent xv_network_count xa_network_parents xa_network_addresses (nI (miss sn (de i))) (nI (s + 1)) g mk mb ds of fr seen = (bd2 (fX5_isNewOnPath mb' ds' of' seen) fun r7 s7 => if r7 = 0 then if nI (miss sn (de i)) = 0 then some (.inr (nI (s + 1), g', mk', mb', ds', of', fr', s7)) else some (.inl (nI (miss sn (de i)), nI (s + 1 + 1), g', mk', mb', ds', of', fr', s7)) else if nI (miss sn (de i)) + (-1 : Int32) = 0 then some (.inr (nI (s + 1), g', mk', mb', ds', of', fr', s7)) else some (.inl (nI (miss sn (de i)) + (-1 : Int32), nI (s + 1 + 1), g', mk', mb', ds', of', fr', s7))) := by
            unfold bX5_tryPackets_24
            rw [if_neg n1, startUn, bd5_s, w1, bd6_s, nI_1]
          rw [hx5, hx6]
          have hm1 : ¬ nI (miss sn (de i)) = 0 := nI_ne0 hpos (by omega)
          rcases w3 with ⟨-, rfl, rfl, rfl⟩ | ⟨d, o, f, hd, ho, hf, rfl, rfl, rfl, rfl, rfl, rfl, rfl, -, hb, -⟩
          · have hnew : fX5_isNewOnPath 0 ds' of' seen = some (0, seen) := rfl
            rw [hnew, bd2_s, if_pos rfl, if_neg hm1, if_pos rfl]
            exact Or.inr (Or.inl ⟨c - (s + 1), _, _, by omega, rfl, rfl, s + 1, sn, g', 0, 0, ds', of', fr', seen, -7, o6', v6', im', ms, by omega, rfl, hpos, hT, rfl, rfl⟩)
          · obtain ⟨rfl, hdB⟩ := hb rfl
            obtain ⟨sn', r, t1, t2, t3⟩ := trial_two hdd hT (show d ≤ de i by omega) ho
            rw [t1, bd2_s, if_neg (nI_ne7 (by omega)), gt_in (by omega) (by omega), nI_clamp (by omega)]
            rcases t3 with ⟨rfl, t3⟩ | ⟨rfl, t3⟩
            · rw [if_pos rfl, if_neg hm1]
              exact Or.inr (Or.inl ⟨c - (s + 1), _, _, by omega, rfl, rfl, s + 1, sn', g', 1, 1, nI d, nI o, nI f, _, nI d, nI o, nI f, im', _, by omega, rfl, by omega, t2, by rw [t3], rfl⟩)
            · rw [if_neg one_ne, sb_m1 hpos]
              by_cases z : miss sn' (de i) = 0
              · rw [show miss sn (de i) - 1 = 0 by omega, if_pos nI_0]
                refine Or.inr (Or.inr ⟨_, _, (nI (s + 1), xv_generator_state, nI d, nI o, nI f, im', upd ms d (ms d &&& (((1 : Int32) <<< ((nI o) &&& 31)) ^^^ (-1 : Int32)))), rfl, rfl, ?_, rfl, rfl⟩)
                rw [need6_done hN hdd c2 (by omega) t2 (Or.inl z), if_pos z]
              · rw [if_neg (nI_ne0 (by omega) (by omega))]
                exact Or.inr (Or.inl ⟨c - (s + 1), _, _, by omega, rfl, rfl, s + 1, sn', g', 1, 1, nI d, nI o, nI f, _, nI d, nI o, nI f, im', _, by omega, rfl, by omega, t2, by rw [show miss sn (de i) - 1 = miss sn' (de i) by omega], rfl⟩)) c (nI ((de i + 1) * 4), nI 1, xv_generator_state, xv_packet_marked, xv_packet_markedByRouter, xv_packet_distance, xv_packet_offset, xv_packet_fragment, fa_fill (fun _ => 0) xa_offsetsSeen 20) (nI 0, xv_generator_state, mv_distance, mv_offset, mv_value, mv_isMade, fa_fill (fun d => if d ≤ de i then 15 else 0) ma_missing 20) ⟨0, fun _ => 0, xv_generator_state, xv_packet_marked, xv_packet_markedByRouter, xv_packet_distance, xv_packet_offset, xv_packet_fragment, _, mv_distance, mv_offset, mv_value, mv_isMade, _, by omega, by omega, by omega, hT0, by rw [hm0], rfl⟩ N (by omega)
      dsimp only at z1 z2
      subst z1 z2
      refine ⟨r1, g2, m1, b1, d1, o1, f1, se1, g2, d2, o2, v2, i2, ms2, ?_, e2, ⟨rfl, rfl⟩, hn, hm.up, ht⟩
      rw [show lp (fun s : Int32 × Int32 × Int32 × Int32 × Int32 × Int32 × Int32 × Int32 × (Nat → Int32) => bX5_tryPackets_24 N (nI i) (nI c) xv_markingPercent xv_network_count xa_network_parents xa_network_addresses s.1 s.2.1 s.2.2.1 s.2.2.2.1 s.2.2.2.2.1 s.2.2.2.2.2.1 s.2.2.2.2.2.2.1 s.2.2.2.2.2.2.2.1 s.2.2.2.2.2.2.2.2) N (nI ((de i + 1) * 4), (1 : Int32), g2, xv_packet_marked, xv_packet_markedByRouter, xv_packet_distance, xv_packet_offset, xv_packet_fragment, fa_fill (fun _ => 0) xa_offsetsSeen 20) = some (r1, g1, m1, b1, d1, o1, f1, se1) from e1, bd8_s]
      rfl
    · have q1 : fX5_isFromOneTo p2 (2000 : Int32) = some 0 := q1
      have q2 : fX6_within p2 (1 : Int32) (2000 : Int32) = some 0 := q2
      rw [q1, q2, bd1_s, bd1_s, if_pos rfl, if_pos rfl]
      exact ⟨-2, _, _, _, _, _, _, _, _, _, _, _, _, _, rfl, rfl, ⟨rfl, rfl⟩, hn, hm.up, ht⟩
