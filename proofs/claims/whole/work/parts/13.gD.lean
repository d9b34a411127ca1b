def fX6_within (p0 : Int32) (p1 : Int32) (p2 : Int32) : Option (Int32) :=
  if p0 < p1 then
    some (0 : Int32)
  else
    if p2 < p0 then
      some (0 : Int32)
    else
      some (1 : Int32)
set_option maxHeartbeats 4000000 in
set_option maxRecDepth 100000 in
theorem mX6_within (l : Launch) (dC : Nat → ClassId) (dI : Nat → Nat → Nat) (cI : ClassId) (sz : Nat) (p0 : Int32) (p1 : Int32) (p2 : Int32) {rr : Int32} (h : fX6_within p0 p1 p2 = some rr) : Met l yX6_within wsX6_within ({ frames := 0, cells := 0, slots := 0, locals := 0 } : Room) (prX dC dI cI [.int p0, .int p1, .int p2] sz []) (poI dC dI .boolean rr [] (va_A [] sz)) 0 0 (va_A [] sz) := by
  refine ofX (cc := cX6_within) (maxL := 3) (ret := (some .boolean)) (lv0 := [(0, .int p0), (1, .int p1), (2, .int p2)]) (QA := fun A => poI dC dI .boolean rr [] A) (by decide) rfl (Nat.le_of_ble_eq_true rfl) rfl ?_
  intro p e s m below meth c A ls H locs hx hb hr hml hown hts hlocks hin hK hN hA hP hD hS hl
  have hown : s.vm.findClass RX6 = some m.cls := hown
  unfold fX6_within at h
  refine lv_iload_n hx hb dX6_within_0 rfl (lv_at hl 0 rfl) ?_
  refine lv_iload_n hx hb dX6_within_1 rfl (lv_at hl 1 rfl) ?_
  refine lv_icmp_lt (tgt := 14) hx hb dX6_within_2 (by decide) (fun c1 => ?_) (fun c1 => ?_)
  · have h := it_p c1 h
    refine lv_iconst (v := (0 : Int32)) hx hb dX6_within_14 (by decide) ?_
    have hk0 := Option.some.inj h
    cases hk0
    exact re_i [] hx hb hr hlocks rfl hP hD hS rfl (by decide) rfl dX6_within_15
  · have h := it_n c1 h
    refine lv_iload_n hx hb dX6_within_5 rfl (lv_at hl 0 rfl) ?_
    refine lv_iload_n hx hb dX6_within_6 rfl (lv_at hl 2 rfl) ?_
    refine lv_icmp_gt (tgt := 14) hx hb dX6_within_7 (by decide) (fun c2 => ?_) (fun c2 => ?_)
    · have h := it_p c2 h
      refine lv_iconst (v := (0 : Int32)) hx hb dX6_within_14 (by decide) ?_
      have hk0 := Option.some.inj h
      cases hk0
      exact re_i [] hx hb hr hlocks rfl hP hD hS rfl (by decide) rfl dX6_within_15
    · have h := it_n c2 h
      refine lv_iconst (v := (1 : Int32)) hx hb dX6_within_10 (by decide) ?_
      refine lv_goto (tgt := 15) hx hb dX6_within_11 (by decide) ?_
      have hk0 := Option.some.inj h
      cases hk0
      exact re_i [] hx hb hr hlocks rfl hP hD hS rfl (by decide) rfl dX6_within_15
def fX6_isAddress (p0 : Int32) : Option (Int32) :=
  bd1 (fX6_within p0 (0 : Int32) (4095 : Int32)) fun r1 =>
  some r1
set_option maxHeartbeats 4000000 in
set_option maxRecDepth 100000 in
theorem mX6_isAddress (l : Launch) (dC : Nat → ClassId) (dI : Nat → Nat → Nat) (cI : ClassId) (sz : Nat) (p0 : Int32) {rr : Int32} (h : fX6_isAddress p0 = some rr) : Met l yX6_isAddress wsX6_isAddress ({ frames := 1, cells := 0, slots := 0, locals := 22 } : Room) (prX dC dI cI [.int p0] sz []) (poI dC dI .boolean rr [] (va_A [] sz)) 0 0 (va_A [] sz) := by
  refine ofX (cc := cX6_isAddress) (maxL := 1) (ret := (some .boolean)) (lv0 := [(0, .int p0)]) (QA := fun A => poI dC dI .boolean rr [] A) (by decide) rfl (Nat.le_of_ble_eq_true rfl) rfl ?_
  intro p e s m below meth c A ls H locs hx hb hr hml hown hts hlocks hin hK hN hA hP hD hS hl
  have hown : s.vm.findClass RX6 = some m.cls := hown
  unfold fX6_isAddress at h
  refine lv_iload_n hx hb dX6_isAddress_0 rfl (lv_at hl 0 rfl) ?_
  refine lv_iconst (v := (0 : Int32)) hx hb dX6_isAddress_1 (by decide) ?_
  refine lv_sipush (v := (4095 : Int32)) hx hb dX6_isAddress_2 (by decide) ?_
  obtain ⟨r1, h1, h⟩ := bd1_e h
  refine ca_Si (wc := []) (wr := []) (w1 := []) [.int p0, .int (0 : Int32), .int (4095 : Int32)] [] [] [] hx hb hml hown hts (mX6_within l dC dI cI H.size p0 (0 : Int32) (4095 : Int32) h1) (va_cwS 3 hts gX6_isAddress_X6_within rfl rfl rfl (by decide +kernel) ⟨Nat.le_of_ble_eq_true rfl, Nat.le_of_ble_eq_true rfl⟩) hK hN hP hD hS hA rfl rfl (by decide) (by decide) (by decide) rfl hl.1 rfl (Nat.le_of_ble_eq_true rfl) dX6_isAddress_5 ⟨Nat.zero_le _, Nat.zero_le _⟩ (fun H locs hP hD hS hz1 => ?_)
  have hP : va_P (dC, dI) vwCl [] H := hP
  have hD : va_D A [] := hD
  have hk0 := Option.some.inj h
  cases hk0
  exact re_i [] hx hb hr hlocks hz1 hP hD hS rfl (by decide) rfl dX6_isAddress_8
def bX6_isUsed_2 (p1 : Int32) (v_routers : Int32) (a_addressOf : Nat → Int32) (y2_2 : Int32) : Option ((Int32) ⊕ (Int32)) :=
  if v_routers ≤ y2_2 then
    some (.inr (0 : Int32))
  else
    if ¬ (y2_2 < 0 ∨ 20 ≤ y2_2.toNatClampNeg) then
      if (a_addressOf y2_2.toNatClampNeg) = p1 then
        some (.inr (1 : Int32))
      else
        some (.inl (y2_2 + 1))
    else none
def fX6_isUsed (N : Nat) (p1 : Int32) (v_routers : Int32) (a_addressOf : Nat → Int32) : Option (Int32) :=
  lp (fun s => bX6_isUsed_2 p1 v_routers a_addressOf s) N (0 : Int32)
set_option maxHeartbeats 4000000 in
set_option maxRecDepth 100000 in
theorem mX6_isUsed (l : Launch) (dC : Nat → ClassId) (dI : Nat → Nat → Nat) (cI : ClassId) (sz : Nat) (N : Nat) (h0 : Nat) (q_parentOf : Nat) (q_addressOf : Nat) (q_depthOf : Nat) (q_marks : Nat) (q_missing : Nat) (q_nodeAddresses : Nat) (q_nodeDistances : Nat) (q_nodeParents : Nat) (q_foundAddress : Nat) (q_foundDistance : Nat) (q_foundParent : Nat) (q_wordAt : Nat) (v_routers : Int32) (v_percent : Int32) (v_random : Int32) (v_distance : Int32) (v_offset : Int32) (v_value : Int32) (v_isMade : Int32) (v_received : Int32) (v_unmarked : Int32) (v_nodes : Int32) (v_found : Int32) (v_words : Int32) (a_addressOf : Nat → Int32) (p1 : Int32) {rr : Int32} (h : fX6_isUsed N p1 v_routers a_addressOf = some rr) : Met l yX6_isUsed wsX6_isUsed ({ frames := 0, cells := 0, slots := 0, locals := 0 } : Room) (prX dC dI cI [.ref h0, .int p1] sz [(h0, .inr (6, [.int v_routers, .ref q_parentOf, .ref q_addressOf, .ref q_depthOf, .int v_percent, .int v_random, .int v_distance, .int v_offset, .int v_value, .int v_isMade, .ref q_marks, .int v_received, .int v_unmarked, .ref q_missing, .int v_nodes, .ref q_nodeAddresses, .ref q_nodeDistances, .ref q_nodeParents, .int v_found, .ref q_foundAddress, .ref q_foundDistance, .ref q_foundParent, .int v_words, .ref q_wordAt])), (q_addressOf, .inl (cI, 20, .inl a_addressOf))]) (poI dC dI .boolean rr [(h0, .inr (6, [.int v_routers, .ref q_parentOf, .ref q_addressOf, .ref q_depthOf, .int v_percent, .int v_random, .int v_distance, .int v_offset, .int v_value, .int v_isMade, .ref q_marks, .int v_received, .int v_unmarked, .ref q_missing, .int v_nodes, .ref q_nodeAddresses, .ref q_nodeDistances, .ref q_nodeParents, .int v_found, .ref q_foundAddress, .ref q_foundDistance, .ref q_foundParent, .int v_words, .ref q_wordAt])), (q_addressOf, .inl (cI, 20, .inl a_addressOf))] (va_A [(h0, .inr (6, [.int v_routers, .ref q_parentOf, .ref q_addressOf, .ref q_depthOf, .int v_percent, .int v_random, .int v_distance, .int v_offset, .int v_value, .int v_isMade, .ref q_marks, .int v_received, .int v_unmarked, .ref q_missing, .int v_nodes, .ref q_nodeAddresses, .ref q_nodeDistances, .ref q_nodeParents, .int v_found, .ref q_foundAddress, .ref q_foundDistance, .ref q_foundParent, .int v_words, .ref q_wordAt])), (q_addressOf, .inl (cI, 20, .inl a_addressOf))] sz)) 0 0 (va_A [(h0, .inr (6, [.int v_routers, .ref q_parentOf, .ref q_addressOf, .ref q_depthOf, .int v_percent, .int v_random, .int v_distance, .int v_offset, .int v_value, .int v_isMade, .ref q_marks, .int v_received, .int v_unmarked, .ref q_missing, .int v_nodes, .ref q_nodeAddresses, .ref q_nodeDistances, .ref q_nodeParents, .int v_found, .ref q_foundAddress, .ref q_foundDistance, .ref q_foundParent, .int v_words, .ref q_wordAt])), (q_addressOf, .inl (cI, 20, .inl a_addressOf))] sz) := by
  refine ofX (cc := cX6_isUsed) (maxL := 3) (ret := (some .boolean)) (lv0 := [(0, .ref h0), (1, .int p1)]) (QA := fun A => poI dC dI .boolean rr [(h0, .inr (6, [.int v_routers, .ref q_parentOf, .ref q_addressOf, .ref q_depthOf, .int v_percent, .int v_random, .int v_distance, .int v_offset, .int v_value, .int v_isMade, .ref q_marks, .int v_received, .int v_unmarked, .ref q_missing, .int v_nodes, .ref q_nodeAddresses, .ref q_nodeDistances, .ref q_nodeParents, .int v_found, .ref q_foundAddress, .ref q_foundDistance, .ref q_foundParent, .int v_words, .ref q_wordAt])), (q_addressOf, .inl (cI, 20, .inl a_addressOf))] A) (by decide) rfl (Nat.le_of_ble_eq_true rfl) rfl ?_
  intro p e s m below meth c A ls H locs hx hb hr hml hown hts hlocks hin hK hN hA hP hD hS hl
  have hown : s.vm.findClass RX6 = some m.cls := hown
  unfold fX6_isUsed at h
  have hiX6 : ∀ w ∈ u_ws RX6 TX6 24, w ∈ wsX6_isUsed := fun _ h => List.mem_cons_of_mem _ (List.mem_append_right _ h)
  have hf53 := (hts (.fieldLink RX6 53 "PacketTracebackModel" "routers" "I") (List.mem_of_getElem? (i := 1) (by decide +kernel)))
  have hf13 := (hts (.fieldLink RX6 13 "PacketTracebackModel" "addressOf" "[I") (List.mem_of_getElem? (i := 2) (by decide +kernel)))
  refine lv_iconst (v := (0 : Int32)) hx hb dX6_isUsed_0 (by decide) ?_
  refine lv_istore_n (lv' := [(2, .int (0 : Int32)), (0, .ref h0), (1, .int p1)]) hx hb dX6_isUsed_1 rfl hl (by decide) rfl (fun ls hl => ?_)
  have key2 : ∀ (n1 : Nat) (y2_2 : Int32) (H : Heap) (locs : List Loc) (ls : Array Slot), lp (fun s => bX6_isUsed_2 p1 v_routers a_addressOf s) n1 y2_2 = some rr → va_P (dC, dI) vwCl [(h0, .inr (6, [.int v_routers, .ref q_parentOf, .ref q_addressOf, .ref q_depthOf, .int v_percent, .int v_random, .int v_distance, .int v_offset, .int v_value, .int v_isMade, .ref q_marks, .int v_received, .int v_unmarked, .ref q_missing, .int v_nodes, .ref q_nodeAddresses, .ref q_nodeDistances, .ref q_nodeParents, .int v_found, .ref q_foundAddress, .ref q_foundDistance, .ref q_foundParent, .int v_words, .ref q_wordAt])), (q_addressOf, .inl (cI, 20, .inl a_addressOf))] H → va_D A [(h0, .inr (6, [.int v_routers, .ref q_parentOf, .ref q_addressOf, .ref q_depthOf, .int v_percent, .int v_random, .int v_distance, .int v_offset, .int v_value, .int v_isMade, .ref q_marks, .int v_received, .int v_unmarked, .ref q_missing, .int v_nodes, .ref q_nodeAddresses, .ref q_nodeDistances, .ref q_nodeParents, .int v_found, .ref q_foundAddress, .ref q_foundDistance, .ref q_foundParent, .int v_words, .ref q_wordAt])), (q_addressOf, .inl (cI, 20, .inl a_addressOf))] → va_S A s.heap H locs → lv_has ls 3 [(2, .int y2_2), (0, .ref h0), (1, .int p1)] → W p l e ({ frames := 0, cells := 0, slots := 0, locals := 0 } : Room) s m [.ref h0, .int p1].toArray below meth c H locs 0 0 (MQ below (poI dC dI .boolean rr [(h0, .inr (6, [.int v_routers, .ref q_parentOf, .ref q_addressOf, .ref q_depthOf, .int v_percent, .int v_random, .int v_distance, .int v_offset, .int v_value, .int v_isMade, .ref q_marks, .int v_received, .int v_unmarked, .ref q_missing, .int v_nodes, .ref q_nodeAddresses, .ref q_nodeDistances, .ref q_nodeParents, .int v_found, .ref q_foundAddress, .ref q_foundDistance, .ref q_foundParent, .int v_words, .ref q_wordAt])), (q_addressOf, .inl (cI, 20, .inl a_addressOf))] A) [.ref h0, .int p1].toArray s 0 0 A) (F0 m 2 ls []) := by
    intro n1
    induction n1 with
    | zero =>
      intro y2_2 H locs ls h
      exact (lp_0 h).elim
    | succ n1 ih1 =>
      intro y2_2 H locs ls h hP hD hS hl
      obtain ⟨o1, h, hk1⟩ := lp_s h
      unfold bX6_isUsed_2 at h
      try dsimp only at h
      refine lv_iload_n hx hb dX6_isUsed_2 rfl (lv_at hl 0 rfl) ?_
      refine lv_aload_n hx hb dX6_isUsed_3 rfl (lv_at hl 1 rfl) ?_
      refine va_get (D := (dC, dI)) (ci := 6) (v := .int v_routers) (C := RX6) (T := TX6) (N := 24) hx hb hts hiX6 hown hK hP 0 rfl rfl 0 (by decide) hf53 (fun _ h9 => h9) rfl dX6_isUsed_4 ?_
      refine lv_icmp_ge (tgt := 28) hx hb dX6_isUsed_7 (by decide) (fun c1 => ?_) (fun c1 => ?_)
      · have h := it_p c1 h
        refine lv_iconst (v := (0 : Int32)) hx hb dX6_isUsed_28 (by decide) ?_
        cases Option.some.inj h
        have hk1 := un_r hk1
        cases hk1
        exact re_i [0, 1] hx hb hr hlocks rfl hP hD hS rfl (by decide) rfl dX6_isUsed_29
      · have h := it_n c1 h
        refine lv_aload_n hx hb dX6_isUsed_10 rfl (lv_at hl 1 rfl) ?_
        refine va_get (D := (dC, dI)) (ci := 6) (v := .ref q_addressOf) (C := RX6) (T := TX6) (N := 24) hx hb hts hiX6 hown hK hP 0 rfl rfl 2 (by decide) hf13 (fun _ h9 => h9) rfl dX6_isUsed_11 ?_
        refine lv_iload_n hx hb dX6_isUsed_14 rfl (lv_at hl 0 rfl) ?_
        obtain ⟨g2, h⟩ := gd_e h
        refine va_iald hx hb hK hP 1 0 rfl rfl g2 dX6_isUsed_15 ?_
        refine lv_iload_n hx hb dX6_isUsed_16 rfl (lv_at hl 2 rfl) ?_
        refine lv_icmp_ne (tgt := 22) hx hb dX6_isUsed_17 (by decide) (fun c3 => ?_) (fun c3 => ?_)
        · have h := it_n c3 h
          refine lv_iinc (v := y2_2 + 1) (lv' := [(2, .int (y2_2 + 1)), (0, .ref h0), (1, .int p1)]) hx hb dX6_isUsed_22 hl (k := 0) rfl rfl (by decide) rfl (fun ls hl => ?_)
          refine lv_goto (tgt := 2) hx hb dX6_isUsed_25 (by decide) ?_
          cases Option.some.inj h
          exact ih1 _ _ _ _ (un_l hk1) (hP.sub [0, 1] rfl) (hD.sub [0, 1] (by decide) rfl) hS (lv_sub hl [0, 1, 2] rfl)
        · have h := it_p c3 h
          refine lv_iconst (v := (1 : Int32)) hx hb dX6_isUsed_20 (by decide) ?_
          cases Option.some.inj h
          have hk1 := un_r hk1
          cases hk1
          exact re_i [0, 1] hx hb hr hlocks rfl hP hD hS rfl (by decide) rfl dX6_isUsed_21
  exact key2 N _ _ _ _ h hP hD hS hl
def fX6_isRouter (p1 : Int32) (v_routers : Int32) : Option (Int32) :=
  bd1 (fX6_within p1 (0 : Int32) (v_routers - (1 : Int32))) fun r1 =>
  some r1
set_option maxHeartbeats 4000000 in
set_option maxRecDepth 100000 in
theorem mX6_isRouter (l : Launch) (dC : Nat → ClassId) (dI : Nat → Nat → Nat) (cI : ClassId) (sz : Nat) (h0 : Nat) (q_parentOf : Nat) (q_addressOf : Nat) (q_depthOf : Nat) (q_marks : Nat) (q_missing : Nat) (q_nodeAddresses : Nat) (q_nodeDistances : Nat) (q_nodeParents : Nat) (q_foundAddress : Nat) (q_foundDistance : Nat) (q_foundParent : Nat) (q_wordAt : Nat) (v_routers : Int32) (v_percent : Int32) (v_random : Int32) (v_distance : Int32) (v_offset : Int32) (v_value : Int32) (v_isMade : Int32) (v_received : Int32) (v_unmarked : Int32) (v_nodes : Int32) (v_found : Int32) (v_words : Int32) (p1 : Int32) {rr : Int32} (h : fX6_isRouter p1 v_routers = some rr) : Met l yX6_isRouter wsX6_isRouter ({ frames := 1, cells := 0, slots := 0, locals := 22 } : Room) (prX dC dI cI [.ref h0, .int p1] sz [(h0, .inr (6, [.int v_routers, .ref q_parentOf, .ref q_addressOf, .ref q_depthOf, .int v_percent, .int v_random, .int v_distance, .int v_offset, .int v_value, .int v_isMade, .ref q_marks, .int v_received, .int v_unmarked, .ref q_missing, .int v_nodes, .ref q_nodeAddresses, .ref q_nodeDistances, .ref q_nodeParents, .int v_found, .ref q_foundAddress, .ref q_foundDistance, .ref q_foundParent, .int v_words, .ref q_wordAt]))]) (poI dC dI .boolean rr [(h0, .inr (6, [.int v_routers, .ref q_parentOf, .ref q_addressOf, .ref q_depthOf, .int v_percent, .int v_random, .int v_distance, .int v_offset, .int v_value, .int v_isMade, .ref q_marks, .int v_received, .int v_unmarked, .ref q_missing, .int v_nodes, .ref q_nodeAddresses, .ref q_nodeDistances, .ref q_nodeParents, .int v_found, .ref q_foundAddress, .ref q_foundDistance, .ref q_foundParent, .int v_words, .ref q_wordAt]))] (va_A [(h0, .inr (6, [.int v_routers, .ref q_parentOf, .ref q_addressOf, .ref q_depthOf, .int v_percent, .int v_random, .int v_distance, .int v_offset, .int v_value, .int v_isMade, .ref q_marks, .int v_received, .int v_unmarked, .ref q_missing, .int v_nodes, .ref q_nodeAddresses, .ref q_nodeDistances, .ref q_nodeParents, .int v_found, .ref q_foundAddress, .ref q_foundDistance, .ref q_foundParent, .int v_words, .ref q_wordAt]))] sz)) 0 0 (va_A [(h0, .inr (6, [.int v_routers, .ref q_parentOf, .ref q_addressOf, .ref q_depthOf, .int v_percent, .int v_random, .int v_distance, .int v_offset, .int v_value, .int v_isMade, .ref q_marks, .int v_received, .int v_unmarked, .ref q_missing, .int v_nodes, .ref q_nodeAddresses, .ref q_nodeDistances, .ref q_nodeParents, .int v_found, .ref q_foundAddress, .ref q_foundDistance, .ref q_foundParent, .int v_words, .ref q_wordAt]))] sz) := by
  refine ofX (cc := cX6_isRouter) (maxL := 2) (ret := (some .boolean)) (lv0 := [(0, .ref h0), (1, .int p1)]) (QA := fun A => poI dC dI .boolean rr [(h0, .inr (6, [.int v_routers, .ref q_parentOf, .ref q_addressOf, .ref q_depthOf, .int v_percent, .int v_random, .int v_distance, .int v_offset, .int v_value, .int v_isMade, .ref q_marks, .int v_received, .int v_unmarked, .ref q_missing, .int v_nodes, .ref q_nodeAddresses, .ref q_nodeDistances, .ref q_nodeParents, .int v_found, .ref q_foundAddress, .ref q_foundDistance, .ref q_foundParent, .int v_words, .ref q_wordAt]))] A) (by decide) rfl (Nat.le_of_ble_eq_true rfl) rfl ?_
  intro p e s m below meth c A ls H locs hx hb hr hml hown hts hlocks hin hK hN hA hP hD hS hl
  have hown : s.vm.findClass RX6 = some m.cls := hown
  unfold fX6_isRouter at h
  have hiX6 : ∀ w ∈ u_ws RX6 TX6 24, w ∈ wsX6_isRouter := fun _ h => List.mem_cons_of_mem _ (List.mem_append_right _ h)
  have hf53 := (hts (.fieldLink RX6 53 "PacketTracebackModel" "routers" "I") (List.mem_of_getElem? (i := 1) (by decide +kernel)))
  refine lv_iload_n hx hb dX6_isRouter_0 rfl (lv_at hl 1 rfl) ?_
  refine lv_iconst (v := (0 : Int32)) hx hb dX6_isRouter_1 (by decide) ?_
  refine lv_aload_n hx hb dX6_isRouter_2 rfl (lv_at hl 0 rfl) ?_
  refine va_get (D := (dC, dI)) (ci := 6) (v := .int v_routers) (C := RX6) (T := TX6) (N := 24) hx hb hts hiX6 hown hK hP 0 rfl rfl 0 (by decide) hf53 (fun _ h9 => h9) rfl dX6_isRouter_3 ?_
  refine lv_iconst (v := (1 : Int32)) hx hb dX6_isRouter_6 (by decide) ?_
  refine lv_isub hx hb dX6_isRouter_7 ?_
  obtain ⟨r1, h1, h⟩ := bd1_e h
  refine ca_Si (wc := []) (wr := [(h0, .inr (6, [.int v_routers, .ref q_parentOf, .ref q_addressOf, .ref q_depthOf, .int v_percent, .int v_random, .int v_distance, .int v_offset, .int v_value, .int v_isMade, .ref q_marks, .int v_received, .int v_unmarked, .ref q_missing, .int v_nodes, .ref q_nodeAddresses, .ref q_nodeDistances, .ref q_nodeParents, .int v_found, .ref q_foundAddress, .ref q_foundDistance, .ref q_foundParent, .int v_words, .ref q_wordAt]))]) (w1 := []) [.int p1, .int (0 : Int32), .int (v_routers - (1 : Int32))] [] [] [0] hx hb hml hown hts (mX6_within l dC dI cI H.size p1 (0 : Int32) (v_routers - (1 : Int32)) h1) (va_cwS 3 hts gX6_isRouter_X6_within rfl rfl rfl (by decide +kernel) ⟨Nat.le_of_ble_eq_true rfl, Nat.le_of_ble_eq_true rfl⟩) hK hN hP hD hS hA rfl rfl (by decide) (by decide) (by decide) rfl hl.1 rfl (Nat.le_of_ble_eq_true rfl) dX6_isRouter_8 ⟨Nat.zero_le _, Nat.zero_le _⟩ (fun H locs hP hD hS hz1 => ?_)
  have hP : va_P (dC, dI) vwCl [(h0, .inr (6, [.int v_routers, .ref q_parentOf, .ref q_addressOf, .ref q_depthOf, .int v_percent, .int v_random, .int v_distance, .int v_offset, .int v_value, .int v_isMade, .ref q_marks, .int v_received, .int v_unmarked, .ref q_missing, .int v_nodes, .ref q_nodeAddresses, .ref q_nodeDistances, .ref q_nodeParents, .int v_found, .ref q_foundAddress, .ref q_foundDistance, .ref q_foundParent, .int v_words, .ref q_wordAt]))] H := hP
  have hD : va_D A [(h0, .inr (6, [.int v_routers, .ref q_parentOf, .ref q_addressOf, .ref q_depthOf, .int v_percent, .int v_random, .int v_distance, .int v_offset, .int v_value, .int v_isMade, .ref q_marks, .int v_received, .int v_unmarked, .ref q_missing, .int v_nodes, .ref q_nodeAddresses, .ref q_nodeDistances, .ref q_nodeParents, .int v_found, .ref q_foundAddress, .ref q_foundDistance, .ref q_foundParent, .int v_words, .ref q_wordAt]))] := hD
  have hk0 := Option.some.inj h
  cases hk0
  exact re_i [0] hx hb hr hlocks hz1 hP hD hS rfl (by decide) rfl dX6_isRouter_11
def fX6_addRouter (N : Nat) (p1 : Int32) (p2 : Int32) (v_routers : Int32) (a_parentOf : Nat → Int32) (a_addressOf : Nat → Int32) (a_depthOf : Nat → Int32) : Option (Int32 × Int32 × (Nat → Int32) × (Nat → Int32) × (Nat → Int32)) :=
  if v_routers ≤ 0 then
    bd1 (fX6_isAddress p2) fun r2 =>
    if r2 = 0 then
      some ((-2 : Int32), v_routers, a_parentOf, a_addressOf, a_depthOf)
    else
      bd1 (fX6_isUsed N p2 v_routers a_addressOf) fun r4 =>
      if r4 = 0 then
        if v_routers = (20 : Int32) then
          some ((-4 : Int32), v_routers, a_parentOf, a_addressOf, a_depthOf)
        else
          if v_routers = 0 then
            if ¬ (v_routers < 0 ∨ 20 ≤ v_routers.toNatClampNeg) then
              some (((v_routers + (1 : Int32)) - (1 : Int32)), (v_routers + (1 : Int32)), (upd a_parentOf v_routers.toNatClampNeg (-7 : Int32)), (upd a_addressOf v_routers.toNatClampNeg p2), (upd a_depthOf v_routers.toNatClampNeg (0 : Int32)))
            else none
          else
            if ¬ (v_routers < 0 ∨ 20 ≤ v_routers.toNatClampNeg) then
              if ¬ (p1 < 0 ∨ 20 ≤ p1.toNatClampNeg) then
                some (((v_routers + (1 : Int32)) - (1 : Int32)), (v_routers + (1 : Int32)), (upd a_parentOf v_routers.toNatClampNeg p1), (upd a_addressOf v_routers.toNatClampNeg p2), (upd a_depthOf v_routers.toNatClampNeg ((a_depthOf p1.toNatClampNeg) + (1 : Int32))))
              else none
            else none
      else
        some ((-3 : Int32), v_routers, a_parentOf, a_addressOf, a_depthOf)
  else
    bd1 (fX6_isRouter p1 v_routers) fun r13 =>
    if r13 = 0 then
      some ((-1 : Int32), v_routers, a_parentOf, a_addressOf, a_depthOf)
    else
      bd1 (fX6_isAddress p2) fun r15 =>
      if r15 = 0 then
        some ((-2 : Int32), v_routers, a_parentOf, a_addressOf, a_depthOf)
      else
        bd1 (fX6_isUsed N p2 v_routers a_addressOf) fun r17 =>
        if r17 = 0 then
          if v_routers = (20 : Int32) then
            some ((-4 : Int32), v_routers, a_parentOf, a_addressOf, a_depthOf)
          else
            if v_routers = 0 then
              if ¬ (v_routers < 0 ∨ 20 ≤ v_routers.toNatClampNeg) then
                some (((v_routers + (1 : Int32)) - (1 : Int32)), (v_routers + (1 : Int32)), (upd a_parentOf v_routers.toNatClampNeg (-7 : Int32)), (upd a_addressOf v_routers.toNatClampNeg p2), (upd a_depthOf v_routers.toNatClampNeg (0 : Int32)))
              else none
            else
              if ¬ (v_routers < 0 ∨ 20 ≤ v_routers.toNatClampNeg) then
                if ¬ (p1 < 0 ∨ 20 ≤ p1.toNatClampNeg) then
                  some (((v_routers + (1 : Int32)) - (1 : Int32)), (v_routers + (1 : Int32)), (upd a_parentOf v_routers.toNatClampNeg p1), (upd a_addressOf v_routers.toNatClampNeg p2), (upd a_depthOf v_routers.toNatClampNeg ((a_depthOf p1.toNatClampNeg) + (1 : Int32))))
                else none
              else none
        else
          some ((-3 : Int32), v_routers, a_parentOf, a_addressOf, a_depthOf)
set_option maxHeartbeats 4000000 in
set_option maxRecDepth 100000 in
theorem mX6_addRouter (l : Launch) (dC : Nat → ClassId) (dI : Nat → Nat → Nat) (cI : ClassId) (sz : Nat) (N : Nat) (h0 : Nat) (q_parentOf : Nat) (q_addressOf : Nat) (q_depthOf : Nat) (q_marks : Nat) (q_missing : Nat) (q_nodeAddresses : Nat) (q_nodeDistances : Nat) (q_nodeParents : Nat) (q_foundAddress : Nat) (q_foundDistance : Nat) (q_foundParent : Nat) (q_wordAt : Nat) (v_routers : Int32) (v_percent : Int32) (v_random : Int32) (v_distance : Int32) (v_offset : Int32) (v_value : Int32) (v_isMade : Int32) (v_received : Int32) (v_unmarked : Int32) (v_nodes : Int32) (v_found : Int32) (v_words : Int32) (a_parentOf : Nat → Int32) (a_addressOf : Nat → Int32) (a_depthOf : Nat → Int32) (p1 : Int32) (p2 : Int32) {rr : Int32} {o_routers : Int32} {o_parentOf : Nat → Int32} {o_addressOf : Nat → Int32} {o_depthOf : Nat → Int32} (h : fX6_addRouter N p1 p2 v_routers a_parentOf a_addressOf a_depthOf = some (rr, o_routers, o_parentOf, o_addressOf, o_depthOf)) : Met l yX6_addRouter wsX6_addRouter ({ frames := 2, cells := 0, slots := 0, locals := 43 } : Room) (prX dC dI cI [.ref h0, .int p1, .int p2] sz [(h0, .inr (6, [.int v_routers, .ref q_parentOf, .ref q_addressOf, .ref q_depthOf, .int v_percent, .int v_random, .int v_distance, .int v_offset, .int v_value, .int v_isMade, .ref q_marks, .int v_received, .int v_unmarked, .ref q_missing, .int v_nodes, .ref q_nodeAddresses, .ref q_nodeDistances, .ref q_nodeParents, .int v_found, .ref q_foundAddress, .ref q_foundDistance, .ref q_foundParent, .int v_words, .ref q_wordAt])), (q_parentOf, .inl (cI, 20, .inl a_parentOf)), (q_addressOf, .inl (cI, 20, .inl a_addressOf)), (q_depthOf, .inl (cI, 20, .inl a_depthOf))]) (poI dC dI .int rr [(h0, .inr (6, [.int o_routers, .ref q_parentOf, .ref q_addressOf, .ref q_depthOf, .int v_percent, .int v_random, .int v_distance, .int v_offset, .int v_value, .int v_isMade, .ref q_marks, .int v_received, .int v_unmarked, .ref q_missing, .int v_nodes, .ref q_nodeAddresses, .ref q_nodeDistances, .ref q_nodeParents, .int v_found, .ref q_foundAddress, .ref q_foundDistance, .ref q_foundParent, .int v_words, .ref q_wordAt])), (q_parentOf, .inl (cI, 20, .inl o_parentOf)), (q_addressOf, .inl (cI, 20, .inl o_addressOf)), (q_depthOf, .inl (cI, 20, .inl o_depthOf))] (va_A [(h0, .inr (6, [.int v_routers, .ref q_parentOf, .ref q_addressOf, .ref q_depthOf, .int v_percent, .int v_random, .int v_distance, .int v_offset, .int v_value, .int v_isMade, .ref q_marks, .int v_received, .int v_unmarked, .ref q_missing, .int v_nodes, .ref q_nodeAddresses, .ref q_nodeDistances, .ref q_nodeParents, .int v_found, .ref q_foundAddress, .ref q_foundDistance, .ref q_foundParent, .int v_words, .ref q_wordAt])), (q_parentOf, .inl (cI, 20, .inl a_parentOf)), (q_addressOf, .inl (cI, 20, .inl a_addressOf)), (q_depthOf, .inl (cI, 20, .inl a_depthOf))] sz)) 0 0 (va_A [(h0, .inr (6, [.int v_routers, .ref q_parentOf, .ref q_addressOf, .ref q_depthOf, .int v_percent, .int v_random, .int v_distance, .int v_offset, .int v_value, .int v_isMade, .ref q_marks, .int v_received, .int v_unmarked, .ref q_missing, .int v_nodes, .ref q_nodeAddresses, .ref q_nodeDistances, .ref q_nodeParents, .int v_found, .ref q_foundAddress, .ref q_foundDistance, .ref q_foundParent, .int v_words, .ref q_wordAt])), (q_parentOf, .inl (cI, 20, .inl a_parentOf)), (q_addressOf, .inl (cI, 20, .inl a_addressOf)), (q_depthOf, .inl (cI, 20, .inl a_depthOf))] sz) := by
  refine ofX (cc := cX6_addRouter) (maxL := 3) (ret := (some .int)) (lv0 := [(0, .ref h0), (1, .int p1), (2, .int p2)]) (QA := fun A => poI dC dI .int rr [(h0, .inr (6, [.int o_routers, .ref q_parentOf, .ref q_addressOf, .ref q_depthOf, .int v_percent, .int v_random, .int v_distance, .int v_offset, .int v_value, .int v_isMade, .ref q_marks, .int v_received, .int v_unmarked, .ref q_missing, .int v_nodes, .ref q_nodeAddresses, .ref q_nodeDistances, .ref q_nodeParents, .int v_found, .ref q_foundAddress, .ref q_foundDistance, .ref q_foundParent, .int v_words, .ref q_wordAt])), (q_parentOf, .inl (cI, 20, .inl o_parentOf)), (q_addressOf, .inl (cI, 20, .inl o_addressOf)), (q_depthOf, .inl (cI, 20, .inl o_depthOf))] A) (by decide) rfl (Nat.le_of_ble_eq_true rfl) rfl ?_
  intro p e s m below meth c A ls H locs hx hb hr hml hown hts hlocks hin hK hN hA hP hD hS hl
  have hown : s.vm.findClass RX6 = some m.cls := hown
  unfold fX6_addRouter at h
  have hiX6 : ∀ w ∈ u_ws RX6 TX6 24, w ∈ wsX6_addRouter := fun _ h => List.mem_cons_of_mem _ (List.mem_append_right _ h)
  have hf53 := (hts (.fieldLink RX6 53 "PacketTracebackModel" "routers" "I") (List.mem_of_getElem? (i := 1) (by decide +kernel)))
  have hf7 := (hts (.fieldLink RX6 7 "PacketTracebackModel" "parentOf" "[I") (List.mem_of_getElem? (i := 2) (by decide +kernel)))
  have hf16 := (hts (.fieldLink RX6 16 "PacketTracebackModel" "depthOf" "[I") (List.mem_of_getElem? (i := 3) (by decide +kernel)))
  have hf13 := (hts (.fieldLink RX6 13 "PacketTracebackModel" "addressOf" "[I") (List.mem_of_getElem? (i := 4) (by decide +kernel)))
  refine lv_aload_n hx hb dX6_addRouter_0 rfl (lv_at hl 0 rfl) ?_
  refine va_get (D := (dC, dI)) (ci := 6) (v := .int v_routers) (C := RX6) (T := TX6) (N := 24) hx hb hts hiX6 hown hK hP 0 rfl rfl 0 (by decide) hf53 (fun _ h9 => h9) rfl dX6_addRouter_1 ?_
  refine lv_if_le (tgt := 17) hx hb dX6_addRouter_4 (by decide) (fun c1 => ?_) (fun c1 => ?_)
  · have h := it_p c1 h
    refine lv_iload_n hx hb dX6_addRouter_17 rfl (lv_at hl 2 rfl) ?_
    obtain ⟨r2, h2, h⟩ := bd1_e h
    refine ca_Si (wc := []) (wr := [(h0, .inr (6, [.int v_routers, .ref q_parentOf, .ref q_addressOf, .ref q_depthOf, .int v_percent, .int v_random, .int v_distance, .int v_offset, .int v_value, .int v_isMade, .ref q_marks, .int v_received, .int v_unmarked, .ref q_missing, .int v_nodes, .ref q_nodeAddresses, .ref q_nodeDistances, .ref q_nodeParents, .int v_found, .ref q_foundAddress, .ref q_foundDistance, .ref q_foundParent, .int v_words, .ref q_wordAt])), (q_parentOf, .inl (cI, 20, .inl a_parentOf)), (q_addressOf, .inl (cI, 20, .inl a_addressOf)), (q_depthOf, .inl (cI, 20, .inl a_depthOf))]) (w1 := []) [.int p2] [] [] [0, 1, 2, 3] hx hb hml hown hts (mX6_isAddress l dC dI cI H.size p2 h2) (va_cwS 1 hts gX6_addRouter_X6_isAddress rfl rfl rfl (by decide +kernel) ⟨Nat.le_of_ble_eq_true rfl, Nat.le_of_ble_eq_true rfl⟩) hK hN hP hD hS hA rfl rfl (by decide) (by decide) (by decide) rfl hl.1 rfl (Nat.le_of_ble_eq_true rfl) dX6_addRouter_18 ⟨Nat.zero_le _, Nat.zero_le _⟩ (fun H locs hP hD hS hz2 => ?_)
    have hP : va_P (dC, dI) vwCl [(h0, .inr (6, [.int v_routers, .ref q_parentOf, .ref q_addressOf, .ref q_depthOf, .int v_percent, .int v_random, .int v_distance, .int v_offset, .int v_value, .int v_isMade, .ref q_marks, .int v_received, .int v_unmarked, .ref q_missing, .int v_nodes, .ref q_nodeAddresses, .ref q_nodeDistances, .ref q_nodeParents, .int v_found, .ref q_foundAddress, .ref q_foundDistance, .ref q_foundParent, .int v_words, .ref q_wordAt])), (q_parentOf, .inl (cI, 20, .inl a_parentOf)), (q_addressOf, .inl (cI, 20, .inl a_addressOf)), (q_depthOf, .inl (cI, 20, .inl a_depthOf))] H := hP
    have hD : va_D A [(h0, .inr (6, [.int v_routers, .ref q_parentOf, .ref q_addressOf, .ref q_depthOf, .int v_percent, .int v_random, .int v_distance, .int v_offset, .int v_value, .int v_isMade, .ref q_marks, .int v_received, .int v_unmarked, .ref q_missing, .int v_nodes, .ref q_nodeAddresses, .ref q_nodeDistances, .ref q_nodeParents, .int v_found, .ref q_foundAddress, .ref q_foundDistance, .ref q_foundParent, .int v_words, .ref q_wordAt])), (q_parentOf, .inl (cI, 20, .inl a_parentOf)), (q_addressOf, .inl (cI, 20, .inl a_addressOf)), (q_depthOf, .inl (cI, 20, .inl a_depthOf))] := hD
    refine lv_if_ne (tgt := 27) hx hb dX6_addRouter_21 (by decide) (fun c3 => ?_) (fun c3 => ?_)
    · have h := it_n c3 h
      refine lv_aload_n hx hb dX6_addRouter_27 rfl (lv_at hl 0 rfl) ?_
      refine lv_iload_n hx hb dX6_addRouter_28 rfl (lv_at hl 2 rfl) ?_
      obtain ⟨r4, h4, h⟩ := bd1_e h
      refine ca_Vi (wc := [(h0, .inr (6, [.int v_routers, .ref q_parentOf, .ref q_addressOf, .ref q_depthOf, .int v_percent, .int v_random, .int v_distance, .int v_offset, .int v_value, .int v_isMade, .ref q_marks, .int v_received, .int v_unmarked, .ref q_missing, .int v_nodes, .ref q_nodeAddresses, .ref q_nodeDistances, .ref q_nodeParents, .int v_found, .ref q_foundAddress, .ref q_foundDistance, .ref q_foundParent, .int v_words, .ref q_wordAt])), (q_addressOf, .inl (cI, 20, .inl a_addressOf))]) (wr := [(q_parentOf, .inl (cI, 20, .inl a_parentOf)), (q_depthOf, .inl (cI, 20, .inl a_depthOf))]) (w1 := [(h0, .inr (6, [.int v_routers, .ref q_parentOf, .ref q_addressOf, .ref q_depthOf, .int v_percent, .int v_random, .int v_distance, .int v_offset, .int v_value, .int v_isMade, .ref q_marks, .int v_received, .int v_unmarked, .ref q_missing, .int v_nodes, .ref q_nodeAddresses, .ref q_nodeDistances, .ref q_nodeParents, .int v_found, .ref q_foundAddress, .ref q_foundDistance, .ref q_foundParent, .int v_words, .ref q_wordAt])), (q_addressOf, .inl (cI, 20, .inl a_addressOf))]) [.int p2] [] [0, 2] [1, 3] hx hb hml hown hts (mX6_isUsed l dC dI cI H.size N h0 q_parentOf q_addressOf q_depthOf q_marks q_missing q_nodeAddresses q_nodeDistances q_nodeParents q_foundAddress q_foundDistance q_foundParent q_wordAt v_routers v_percent v_random v_distance v_offset v_value v_isMade v_received v_unmarked v_nodes v_found v_words a_addressOf p2 h4) (cwV 1 hts gX6_addRouter_X6_isUsed rfl rfl rfl (by decide +kernel) ⟨Nat.le_of_ble_eq_true rfl, Nat.le_of_ble_eq_true rfl⟩) hK hN hP hD hS hA rfl rfl (by decide) (by decide) (by decide) rfl rfl rfl hl.1 rfl (Nat.le_of_ble_eq_true rfl) dX6_addRouter_29 ⟨Nat.zero_le _, Nat.zero_le _⟩ (fun H locs hP hD hS hz4 => ?_)
      have hP : va_P (dC, dI) vwCl [(q_parentOf, .inl (cI, 20, .inl a_parentOf)), (q_depthOf, .inl (cI, 20, .inl a_depthOf)), (h0, .inr (6, [.int v_routers, .ref q_parentOf, .ref q_addressOf, .ref q_depthOf, .int v_percent, .int v_random, .int v_distance, .int v_offset, .int v_value, .int v_isMade, .ref q_marks, .int v_received, .int v_unmarked, .ref q_missing, .int v_nodes, .ref q_nodeAddresses, .ref q_nodeDistances, .ref q_nodeParents, .int v_found, .ref q_foundAddress, .ref q_foundDistance, .ref q_foundParent, .int v_words, .ref q_wordAt])), (q_addressOf, .inl (cI, 20, .inl a_addressOf))] H := hP
      have hD : va_D A [(q_parentOf, .inl (cI, 20, .inl a_parentOf)), (q_depthOf, .inl (cI, 20, .inl a_depthOf)), (h0, .inr (6, [.int v_routers, .ref q_parentOf, .ref q_addressOf, .ref q_depthOf, .int v_percent, .int v_random, .int v_distance, .int v_offset, .int v_value, .int v_isMade, .ref q_marks, .int v_received, .int v_unmarked, .ref q_missing, .int v_nodes, .ref q_nodeAddresses, .ref q_nodeDistances, .ref q_nodeParents, .int v_found, .ref q_foundAddress, .ref q_foundDistance, .ref q_foundParent, .int v_words, .ref q_wordAt])), (q_addressOf, .inl (cI, 20, .inl a_addressOf))] := hD
      refine lv_if_eq (tgt := 38) hx hb dX6_addRouter_32 (by decide) (fun c5 => ?_) (fun c5 => ?_)
      · have h := it_p c5 h
        refine lv_aload_n hx hb dX6_addRouter_38 rfl (lv_at hl 0 rfl) ?_
        refine va_get (D := (dC, dI)) (ci := 6) (v := .int v_routers) (C := RX6) (T := TX6) (N := 24) hx hb hts hiX6 hown hK hP 2 rfl rfl 0 (by decide) hf53 (fun _ h9 => h9) rfl dX6_addRouter_39 ?_
        refine lv_bipush (v := (20 : Int32)) hx hb dX6_addRouter_42 (by decide) ?_
        refine lv_icmp_ne (tgt := 50) hx hb dX6_addRouter_44 (by decide) (fun c6 => ?_) (fun c6 => ?_)
        · have h := it_n c6 h
          refine lv_aload_n hx hb dX6_addRouter_50 rfl (lv_at hl 0 rfl) ?_
          refine va_get (D := (dC, dI)) (ci := 6) (v := .ref q_parentOf) (C := RX6) (T := TX6) (N := 24) hx hb hts hiX6 hown hK hP 2 rfl rfl 1 (by decide) hf7 (fun _ h9 => h9) rfl dX6_addRouter_51 ?_
          refine lv_aload_n hx hb dX6_addRouter_54 rfl (lv_at hl 0 rfl) ?_
          refine va_get (D := (dC, dI)) (ci := 6) (v := .int v_routers) (C := RX6) (T := TX6) (N := 24) hx hb hts hiX6 hown hK hP 2 rfl rfl 0 (by decide) hf53 (fun _ h9 => h9) rfl dX6_addRouter_55 ?_
          refine lv_aload_n hx hb dX6_addRouter_58 rfl (lv_at hl 0 rfl) ?_
          refine va_get (D := (dC, dI)) (ci := 6) (v := .int v_routers) (C := RX6) (T := TX6) (N := 24) hx hb hts hiX6 hown hK hP 2 rfl rfl 0 (by decide) hf53 (fun _ h9 => h9) rfl dX6_addRouter_59 ?_
          refine lv_if_ne (tgt := 70) hx hb dX6_addRouter_62 (by decide) (fun c7 => ?_) (fun c7 => ?_)
          · have h := it_n c7 h
            refine lv_iload_n hx hb dX6_addRouter_70 rfl (lv_at hl 1 rfl) ?_
            obtain ⟨g8, h⟩ := gd_e h
            refine va_iast hx hb hK hP hD hS 0 0 rfl rfl g8 dX6_addRouter_71 (fun H locs hP hD hS => ?_)
            have hP : va_P (dC, dI) vwCl [(q_parentOf, .inl (cI, 20, .inl (upd a_parentOf v_routers.toNatClampNeg p1))), (q_depthOf, .inl (cI, 20, .inl a_depthOf)), (h0, .inr (6, [.int v_routers, .ref q_parentOf, .ref q_addressOf, .ref q_depthOf, .int v_percent, .int v_random, .int v_distance, .int v_offset, .int v_value, .int v_isMade, .ref q_marks, .int v_received, .int v_unmarked, .ref q_missing, .int v_nodes, .ref q_nodeAddresses, .ref q_nodeDistances, .ref q_nodeParents, .int v_found, .ref q_foundAddress, .ref q_foundDistance, .ref q_foundParent, .int v_words, .ref q_wordAt])), (q_addressOf, .inl (cI, 20, .inl a_addressOf))] H := hP
            have hD : va_D A [(q_parentOf, .inl (cI, 20, .inl (upd a_parentOf v_routers.toNatClampNeg p1))), (q_depthOf, .inl (cI, 20, .inl a_depthOf)), (h0, .inr (6, [.int v_routers, .ref q_parentOf, .ref q_addressOf, .ref q_depthOf, .int v_percent, .int v_random, .int v_distance, .int v_offset, .int v_value, .int v_isMade, .ref q_marks, .int v_received, .int v_unmarked, .ref q_missing, .int v_nodes, .ref q_nodeAddresses, .ref q_nodeDistances, .ref q_nodeParents, .int v_found, .ref q_foundAddress, .ref q_foundDistance, .ref q_foundParent, .int v_words, .ref q_wordAt])), (q_addressOf, .inl (cI, 20, .inl a_addressOf))] := hD
            refine lv_aload_n hx hb dX6_addRouter_72 rfl (lv_at hl 0 rfl) ?_
            refine va_get (D := (dC, dI)) (ci := 6) (v := .ref q_depthOf) (C := RX6) (T := TX6) (N := 24) hx hb hts hiX6 hown hK hP 2 rfl rfl 3 (by decide) hf16 (fun _ h9 => h9) rfl dX6_addRouter_73 ?_
            refine lv_aload_n hx hb dX6_addRouter_76 rfl (lv_at hl 0 rfl) ?_
            refine va_get (D := (dC, dI)) (ci := 6) (v := .int v_routers) (C := RX6) (T := TX6) (N := 24) hx hb hts hiX6 hown hK hP 2 rfl rfl 0 (by decide) hf53 (fun _ h9 => h9) rfl dX6_addRouter_77 ?_
            refine lv_aload_n hx hb dX6_addRouter_80 rfl (lv_at hl 0 rfl) ?_
            refine va_get (D := (dC, dI)) (ci := 6) (v := .int v_routers) (C := RX6) (T := TX6) (N := 24) hx hb hts hiX6 hown hK hP 2 rfl rfl 0 (by decide) hf53 (fun _ h9 => h9) rfl dX6_addRouter_81 ?_
            refine lv_if_ne (tgt := 91) hx hb dX6_addRouter_84 (by decide) (fun _ => ?_) (fun c9 => absurd c9 c7)
            refine lv_aload_n hx hb dX6_addRouter_91 rfl (lv_at hl 0 rfl) ?_
            refine va_get (D := (dC, dI)) (ci := 6) (v := .ref q_depthOf) (C := RX6) (T := TX6) (N := 24) hx hb hts hiX6 hown hK hP 2 rfl rfl 3 (by decide) hf16 (fun _ h9 => h9) rfl dX6_addRouter_92 ?_
            refine lv_iload_n hx hb dX6_addRouter_95 rfl (lv_at hl 1 rfl) ?_
            obtain ⟨g10, h⟩ := gd_e h
            refine va_iald hx hb hK hP 1 0 rfl rfl g10 dX6_addRouter_96 ?_
            refine lv_iconst (v := (1 : Int32)) hx hb dX6_addRouter_97 (by decide) ?_
            refine lv_iadd hx hb dX6_addRouter_98 ?_
            refine va_iast hx hb hK hP hD hS 1 0 rfl rfl g8 dX6_addRouter_99 (fun H locs hP hD hS => ?_)
            have hP : va_P (dC, dI) vwCl [(q_parentOf, .inl (cI, 20, .inl (upd a_parentOf v_routers.toNatClampNeg p1))), (q_depthOf, .inl (cI, 20, .inl (upd a_depthOf v_routers.toNatClampNeg ((a_depthOf p1.toNatClampNeg) + (1 : Int32))))), (h0, .inr (6, [.int v_routers, .ref q_parentOf, .ref q_addressOf, .ref q_depthOf, .int v_percent, .int v_random, .int v_distance, .int v_offset, .int v_value, .int v_isMade, .ref q_marks, .int v_received, .int v_unmarked, .ref q_missing, .int v_nodes, .ref q_nodeAddresses, .ref q_nodeDistances, .ref q_nodeParents, .int v_found, .ref q_foundAddress, .ref q_foundDistance, .ref q_foundParent, .int v_words, .ref q_wordAt])), (q_addressOf, .inl (cI, 20, .inl a_addressOf))] H := hP
            have hD : va_D A [(q_parentOf, .inl (cI, 20, .inl (upd a_parentOf v_routers.toNatClampNeg p1))), (q_depthOf, .inl (cI, 20, .inl (upd a_depthOf v_routers.toNatClampNeg ((a_depthOf p1.toNatClampNeg) + (1 : Int32))))), (h0, .inr (6, [.int v_routers, .ref q_parentOf, .ref q_addressOf, .ref q_depthOf, .int v_percent, .int v_random, .int v_distance, .int v_offset, .int v_value, .int v_isMade, .ref q_marks, .int v_received, .int v_unmarked, .ref q_missing, .int v_nodes, .ref q_nodeAddresses, .ref q_nodeDistances, .ref q_nodeParents, .int v_found, .ref q_foundAddress, .ref q_foundDistance, .ref q_foundParent, .int v_words, .ref q_wordAt])), (q_addressOf, .inl (cI, 20, .inl a_addressOf))] := hD
            refine lv_aload_n hx hb dX6_addRouter_100 rfl (lv_at hl 0 rfl) ?_
            refine va_get (D := (dC, dI)) (ci := 6) (v := .ref q_addressOf) (C := RX6) (T := TX6) (N := 24) hx hb hts hiX6 hown hK hP 2 rfl rfl 2 (by decide) hf13 (fun _ h9 => h9) rfl dX6_addRouter_101 ?_
            refine lv_aload_n hx hb dX6_addRouter_104 rfl (lv_at hl 0 rfl) ?_
            refine va_get (D := (dC, dI)) (ci := 6) (v := .int v_routers) (C := RX6) (T := TX6) (N := 24) hx hb hts hiX6 hown hK hP 2 rfl rfl 0 (by decide) hf53 (fun _ h9 => h9) rfl dX6_addRouter_105 ?_
            refine lv_iload_n hx hb dX6_addRouter_108 rfl (lv_at hl 2 rfl) ?_
            refine va_iast hx hb hK hP hD hS 3 0 rfl rfl g8 dX6_addRouter_109 (fun H locs hP hD hS => ?_)
            have hP : va_P (dC, dI) vwCl [(q_parentOf, .inl (cI, 20, .inl (upd a_parentOf v_routers.toNatClampNeg p1))), (q_depthOf, .inl (cI, 20, .inl (upd a_depthOf v_routers.toNatClampNeg ((a_depthOf p1.toNatClampNeg) + (1 : Int32))))), (h0, .inr (6, [.int v_routers, .ref q_parentOf, .ref q_addressOf, .ref q_depthOf, .int v_percent, .int v_random, .int v_distance, .int v_offset, .int v_value, .int v_isMade, .ref q_marks, .int v_received, .int v_unmarked, .ref q_missing, .int v_nodes, .ref q_nodeAddresses, .ref q_nodeDistances, .ref q_nodeParents, .int v_found, .ref q_foundAddress, .ref q_foundDistance, .ref q_foundParent, .int v_words, .ref q_wordAt])), (q_addressOf, .inl (cI, 20, .inl (upd a_addressOf v_routers.toNatClampNeg p2)))] H := hP
            have hD : va_D A [(q_parentOf, .inl (cI, 20, .inl (upd a_parentOf v_routers.toNatClampNeg p1))), (q_depthOf, .inl (cI, 20, .inl (upd a_depthOf v_routers.toNatClampNeg ((a_depthOf p1.toNatClampNeg) + (1 : Int32))))), (h0, .inr (6, [.int v_routers, .ref q_parentOf, .ref q_addressOf, .ref q_depthOf, .int v_percent, .int v_random, .int v_distance, .int v_offset, .int v_value, .int v_isMade, .ref q_marks, .int v_received, .int v_unmarked, .ref q_missing, .int v_nodes, .ref q_nodeAddresses, .ref q_nodeDistances, .ref q_nodeParents, .int v_found, .ref q_foundAddress, .ref q_foundDistance, .ref q_foundParent, .int v_words, .ref q_wordAt])), (q_addressOf, .inl (cI, 20, .inl (upd a_addressOf v_routers.toNatClampNeg p2)))] := hD
            refine lv_aload_n hx hb dX6_addRouter_110 rfl (lv_at hl 0 rfl) ?_
            refine lv_dup hx hb dX6_addRouter_111 rfl ?_
            refine va_get (D := (dC, dI)) (ci := 6) (v := .int v_routers) (C := RX6) (T := TX6) (N := 24) hx hb hts hiX6 hown hK hP 2 rfl rfl 0 (by decide) hf53 (fun _ h9 => h9) rfl dX6_addRouter_112 ?_
            refine lv_iconst (v := (1 : Int32)) hx hb dX6_addRouter_115 (by decide) ?_
            refine lv_iadd hx hb dX6_addRouter_116 ?_
            refine va_put (D := (dC, dI)) (ci := 6) (v := .int (v_routers + (1 : Int32))) (ty := .int) (C := RX6) (T := TX6) (N := 24) hx hb hts hiX6 tyX6 tyX6_ok nmX6 hown hK hP hD hS 2 rfl rfl 0 (by decide) hf53 (fun _ h9 => h9) rfl (by decide +kernel) rfl rfl (Nat.le_of_ble_eq_true rfl) dX6_addRouter_117 (fun H locs hP hD hS => ?_)
            have hP : va_P (dC, dI) vwCl [(q_parentOf, .inl (cI, 20, .inl (upd a_parentOf v_routers.toNatClampNeg p1))), (q_depthOf, .inl (cI, 20, .inl (upd a_depthOf v_routers.toNatClampNeg ((a_depthOf p1.toNatClampNeg) + (1 : Int32))))), (h0, .inr (6, [.int (v_routers + (1 : Int32)), .ref q_parentOf, .ref q_addressOf, .ref q_depthOf, .int v_percent, .int v_random, .int v_distance, .int v_offset, .int v_value, .int v_isMade, .ref q_marks, .int v_received, .int v_unmarked, .ref q_missing, .int v_nodes, .ref q_nodeAddresses, .ref q_nodeDistances, .ref q_nodeParents, .int v_found, .ref q_foundAddress, .ref q_foundDistance, .ref q_foundParent, .int v_words, .ref q_wordAt])), (q_addressOf, .inl (cI, 20, .inl (upd a_addressOf v_routers.toNatClampNeg p2)))] H := hP
            have hD : va_D A [(q_parentOf, .inl (cI, 20, .inl (upd a_parentOf v_routers.toNatClampNeg p1))), (q_depthOf, .inl (cI, 20, .inl (upd a_depthOf v_routers.toNatClampNeg ((a_depthOf p1.toNatClampNeg) + (1 : Int32))))), (h0, .inr (6, [.int (v_routers + (1 : Int32)), .ref q_parentOf, .ref q_addressOf, .ref q_depthOf, .int v_percent, .int v_random, .int v_distance, .int v_offset, .int v_value, .int v_isMade, .ref q_marks, .int v_received, .int v_unmarked, .ref q_missing, .int v_nodes, .ref q_nodeAddresses, .ref q_nodeDistances, .ref q_nodeParents, .int v_found, .ref q_foundAddress, .ref q_foundDistance, .ref q_foundParent, .int v_words, .ref q_wordAt])), (q_addressOf, .inl (cI, 20, .inl (upd a_addressOf v_routers.toNatClampNeg p2)))] := hD
            refine lv_aload_n hx hb dX6_addRouter_120 rfl (lv_at hl 0 rfl) ?_
            refine va_get (D := (dC, dI)) (ci := 6) (v := .int (v_routers + (1 : Int32))) (C := RX6) (T := TX6) (N := 24) hx hb hts hiX6 hown hK hP 2 rfl rfl 0 (by decide) hf53 (fun _ h9 => h9) rfl dX6_addRouter_121 ?_
            refine lv_iconst (v := (1 : Int32)) hx hb dX6_addRouter_124 (by decide) ?_
            refine lv_isub hx hb dX6_addRouter_125 ?_
            have hk0 := Option.some.inj h
            cases hk0
            exact re_i [2, 0, 3, 1] hx hb hr hlocks rfl hP hD hS rfl (by decide) rfl dX6_addRouter_126
          · have h := it_p c7 h
            refine lv_bipush (v := (-7 : Int32)) hx hb dX6_addRouter_65 (by decide) ?_
            refine lv_goto (tgt := 71) hx hb dX6_addRouter_67 (by decide) ?_
            obtain ⟨g11, h⟩ := gd_e h
            refine va_iast hx hb hK hP hD hS 0 0 rfl rfl g11 dX6_addRouter_71 (fun H locs hP hD hS => ?_)
            have hP : va_P (dC, dI) vwCl [(q_parentOf, .inl (cI, 20, .inl (upd a_parentOf v_routers.toNatClampNeg (-7 : Int32)))), (q_depthOf, .inl (cI, 20, .inl a_depthOf)), (h0, .inr (6, [.int v_routers, .ref q_parentOf, .ref q_addressOf, .ref q_depthOf, .int v_percent, .int v_random, .int v_distance, .int v_offset, .int v_value, .int v_isMade, .ref q_marks, .int v_received, .int v_unmarked, .ref q_missing, .int v_nodes, .ref q_nodeAddresses, .ref q_nodeDistances, .ref q_nodeParents, .int v_found, .ref q_foundAddress, .ref q_foundDistance, .ref q_foundParent, .int v_words, .ref q_wordAt])), (q_addressOf, .inl (cI, 20, .inl a_addressOf))] H := hP
            have hD : va_D A [(q_parentOf, .inl (cI, 20, .inl (upd a_parentOf v_routers.toNatClampNeg (-7 : Int32)))), (q_depthOf, .inl (cI, 20, .inl a_depthOf)), (h0, .inr (6, [.int v_routers, .ref q_parentOf, .ref q_addressOf, .ref q_depthOf, .int v_percent, .int v_random, .int v_distance, .int v_offset, .int v_value, .int v_isMade, .ref q_marks, .int v_received, .int v_unmarked, .ref q_missing, .int v_nodes, .ref q_nodeAddresses, .ref q_nodeDistances, .ref q_nodeParents, .int v_found, .ref q_foundAddress, .ref q_foundDistance, .ref q_foundParent, .int v_words, .ref q_wordAt])), (q_addressOf, .inl (cI, 20, .inl a_addressOf))] := hD
            refine lv_aload_n hx hb dX6_addRouter_72 rfl (lv_at hl 0 rfl) ?_
            refine va_get (D := (dC, dI)) (ci := 6) (v := .ref q_depthOf) (C := RX6) (T := TX6) (N := 24) hx hb hts hiX6 hown hK hP 2 rfl rfl 3 (by decide) hf16 (fun _ h9 => h9) rfl dX6_addRouter_73 ?_
            refine lv_aload_n hx hb dX6_addRouter_76 rfl (lv_at hl 0 rfl) ?_
            refine va_get (D := (dC, dI)) (ci := 6) (v := .int v_routers) (C := RX6) (T := TX6) (N := 24) hx hb hts hiX6 hown hK hP 2 rfl rfl 0 (by decide) hf53 (fun _ h9 => h9) rfl dX6_addRouter_77 ?_
            refine lv_aload_n hx hb dX6_addRouter_80 rfl (lv_at hl 0 rfl) ?_
            refine va_get (D := (dC, dI)) (ci := 6) (v := .int v_routers) (C := RX6) (T := TX6) (N := 24) hx hb hts hiX6 hown hK hP 2 rfl rfl 0 (by decide) hf53 (fun _ h9 => h9) rfl dX6_addRouter_81 ?_
            refine lv_if_ne (tgt := 91) hx hb dX6_addRouter_84 (by decide) (fun c12 => absurd c7 c12) (fun _ => ?_)
            refine lv_iconst (v := (0 : Int32)) hx hb dX6_addRouter_87 (by decide) ?_
            refine lv_goto (tgt := 99) hx hb dX6_addRouter_88 (by decide) ?_
            refine va_iast hx hb hK hP hD hS 1 0 rfl rfl g11 dX6_addRouter_99 (fun H locs hP hD hS => ?_)
            have hP : va_P (dC, dI) vwCl [(q_parentOf, .inl (cI, 20, .inl (upd a_parentOf v_routers.toNatClampNeg (-7 : Int32)))), (q_depthOf, .inl (cI, 20, .inl (upd a_depthOf v_routers.toNatClampNeg (0 : Int32)))), (h0, .inr (6, [.int v_routers, .ref q_parentOf, .ref q_addressOf, .ref q_depthOf, .int v_percent, .int v_random, .int v_distance, .int v_offset, .int v_value, .int v_isMade, .ref q_marks, .int v_received, .int v_unmarked, .ref q_missing, .int v_nodes, .ref q_nodeAddresses, .ref q_nodeDistances, .ref q_nodeParents, .int v_found, .ref q_foundAddress, .ref q_foundDistance, .ref q_foundParent, .int v_words, .ref q_wordAt])), (q_addressOf, .inl (cI, 20, .inl a_addressOf))] H := hP
            have hD : va_D A [(q_parentOf, .inl (cI, 20, .inl (upd a_parentOf v_routers.toNatClampNeg (-7 : Int32)))), (q_depthOf, .inl (cI, 20, .inl (upd a_depthOf v_routers.toNatClampNeg (0 : Int32)))), (h0, .inr (6, [.int v_routers, .ref q_parentOf, .ref q_addressOf, .ref q_depthOf, .int v_percent, .int v_random, .int v_distance, .int v_offset, .int v_value, .int v_isMade, .ref q_marks, .int v_received, .int v_unmarked, .ref q_missing, .int v_nodes, .ref q_nodeAddresses, .ref q_nodeDistances, .ref q_nodeParents, .int v_found, .ref q_foundAddress, .ref q_foundDistance, .ref q_foundParent, .int v_words, .ref q_wordAt])), (q_addressOf, .inl (cI, 20, .inl a_addressOf))] := hD
            refine lv_aload_n hx hb dX6_addRouter_100 rfl (lv_at hl 0 rfl) ?_
            refine va_get (D := (dC, dI)) (ci := 6) (v := .ref q_addressOf) (C := RX6) (T := TX6) (N := 24) hx hb hts hiX6 hown hK hP 2 rfl rfl 2 (by decide) hf13 (fun _ h9 => h9) rfl dX6_addRouter_101 ?_
            refine lv_aload_n hx hb dX6_addRouter_104 rfl (lv_at hl 0 rfl) ?_
            refine va_get (D := (dC, dI)) (ci := 6) (v := .int v_routers) (C := RX6) (T := TX6) (N := 24) hx hb hts hiX6 hown hK hP 2 rfl rfl 0 (by decide) hf53 (fun _ h9 => h9) rfl dX6_addRouter_105 ?_
            refine lv_iload_n hx hb dX6_addRouter_108 rfl (lv_at hl 2 rfl) ?_
            refine va_iast hx hb hK hP hD hS 3 0 rfl rfl g11 dX6_addRouter_109 (fun H locs hP hD hS => ?_)
            have hP : va_P (dC, dI) vwCl [(q_parentOf, .inl (cI, 20, .inl (upd a_parentOf v_routers.toNatClampNeg (-7 : Int32)))), (q_depthOf, .inl (cI, 20, .inl (upd a_depthOf v_routers.toNatClampNeg (0 : Int32)))), (h0, .inr (6, [.int v_routers, .ref q_parentOf, .ref q_addressOf, .ref q_depthOf, .int v_percent, .int v_random, .int v_distance, .int v_offset, .int v_value, .int v_isMade, .ref q_marks, .int v_received, .int v_unmarked, .ref q_missing, .int v_nodes, .ref q_nodeAddresses, .ref q_nodeDistances, .ref q_nodeParents, .int v_found, .ref q_foundAddress, .ref q_foundDistance, .ref q_foundParent, .int v_words, .ref q_wordAt])), (q_addressOf, .inl (cI, 20, .inl (upd a_addressOf v_routers.toNatClampNeg p2)))] H := hP
            have hD : va_D A [(q_parentOf, .inl (cI, 20, .inl (upd a_parentOf v_routers.toNatClampNeg (-7 : Int32)))), (q_depthOf, .inl (cI, 20, .inl (upd a_depthOf v_routers.toNatClampNeg (0 : Int32)))), (h0, .inr (6, [.int v_routers, .ref q_parentOf, .ref q_addressOf, .ref q_depthOf, .int v_percent, .int v_random, .int v_distance, .int v_offset, .int v_value, .int v_isMade, .ref q_marks, .int v_received, .int v_unmarked, .ref q_missing, .int v_nodes, .ref q_nodeAddresses, .ref q_nodeDistances, .ref q_nodeParents, .int v_found, .ref q_foundAddress, .ref q_foundDistance, .ref q_foundParent, .int v_words, .ref q_wordAt])), (q_addressOf, .inl (cI, 20, .inl (upd a_addressOf v_routers.toNatClampNeg p2)))] := hD
            refine lv_aload_n hx hb dX6_addRouter_110 rfl (lv_at hl 0 rfl) ?_
            refine lv_dup hx hb dX6_addRouter_111 rfl ?_
            refine va_get (D := (dC, dI)) (ci := 6) (v := .int v_routers) (C := RX6) (T := TX6) (N := 24) hx hb hts hiX6 hown hK hP 2 rfl rfl 0 (by decide) hf53 (fun _ h9 => h9) rfl dX6_addRouter_112 ?_
            refine lv_iconst (v := (1 : Int32)) hx hb dX6_addRouter_115 (by decide) ?_
            refine lv_iadd hx hb dX6_addRouter_116 ?_
            refine va_put (D := (dC, dI)) (ci := 6) (v := .int (v_routers + (1 : Int32))) (ty := .int) (C := RX6) (T := TX6) (N := 24) hx hb hts hiX6 tyX6 tyX6_ok nmX6 hown hK hP hD hS 2 rfl rfl 0 (by decide) hf53 (fun _ h9 => h9) rfl (by decide +kernel) rfl rfl (Nat.le_of_ble_eq_true rfl) dX6_addRouter_117 (fun H locs hP hD hS => ?_)
            have hP : va_P (dC, dI) vwCl [(q_parentOf, .inl (cI, 20, .inl (upd a_parentOf v_routers.toNatClampNeg (-7 : Int32)))), (q_depthOf, .inl (cI, 20, .inl (upd a_depthOf v_routers.toNatClampNeg (0 : Int32)))), (h0, .inr (6, [.int (v_routers + (1 : Int32)), .ref q_parentOf, .ref q_addressOf, .ref q_depthOf, .int v_percent, .int v_random, .int v_distance, .int v_offset, .int v_value, .int v_isMade, .ref q_marks, .int v_received, .int v_unmarked, .ref q_missing, .int v_nodes, .ref q_nodeAddresses, .ref q_nodeDistances, .ref q_nodeParents, .int v_found, .ref q_foundAddress, .ref q_foundDistance, .ref q_foundParent, .int v_words, .ref q_wordAt])), (q_addressOf, .inl (cI, 20, .inl (upd a_addressOf v_routers.toNatClampNeg p2)))] H := hP
            have hD : va_D A [(q_parentOf, .inl (cI, 20, .inl (upd a_parentOf v_routers.toNatClampNeg (-7 : Int32)))), (q_depthOf, .inl (cI, 20, .inl (upd a_depthOf v_routers.toNatClampNeg (0 : Int32)))), (h0, .inr (6, [.int (v_routers + (1 : Int32)), .ref q_parentOf, .ref q_addressOf, .ref q_depthOf, .int v_percent, .int v_random, .int v_distance, .int v_offset, .int v_value, .int v_isMade, .ref q_marks, .int v_received, .int v_unmarked, .ref q_missing, .int v_nodes, .ref q_nodeAddresses, .ref q_nodeDistances, .ref q_nodeParents, .int v_found, .ref q_foundAddress, .ref q_foundDistance, .ref q_foundParent, .int v_words, .ref q_wordAt])), (q_addressOf, .inl (cI, 20, .inl (upd a_addressOf v_routers.toNatClampNeg p2)))] := hD
            refine lv_aload_n hx hb dX6_addRouter_120 rfl (lv_at hl 0 rfl) ?_
            refine va_get (D := (dC, dI)) (ci := 6) (v := .int (v_routers + (1 : Int32))) (C := RX6) (T := TX6) (N := 24) hx hb hts hiX6 hown hK hP 2 rfl rfl 0 (by decide) hf53 (fun _ h9 => h9) rfl dX6_addRouter_121 ?_
            refine lv_iconst (v := (1 : Int32)) hx hb dX6_addRouter_124 (by decide) ?_
            refine lv_isub hx hb dX6_addRouter_125 ?_
            have hk0 := Option.some.inj h
            cases hk0
            exact re_i [2, 0, 3, 1] hx hb hr hlocks rfl hP hD hS rfl (by decide) rfl dX6_addRouter_126
        · have h := it_p c6 h
          refine lv_bipush (v := (-4 : Int32)) hx hb dX6_addRouter_47 (by decide) ?_
          have hk0 := Option.some.inj h
          cases hk0
          exact re_i [2, 0, 3, 1] hx hb hr hlocks rfl hP hD hS rfl (by decide) rfl dX6_addRouter_49
      · have h := it_n c5 h
        refine lv_bipush (v := (-3 : Int32)) hx hb dX6_addRouter_35 (by decide) ?_
        have hk0 := Option.some.inj h
        cases hk0
        exact re_i [2, 0, 3, 1] hx hb hr hlocks rfl hP hD hS rfl (by decide) rfl dX6_addRouter_37
    · have h := it_p c3 h
      refine lv_bipush (v := (-2 : Int32)) hx hb dX6_addRouter_24 (by decide) ?_
      have hk0 := Option.some.inj h
      cases hk0
      exact re_i [0, 1, 2, 3] hx hb hr hlocks rfl hP hD hS rfl (by decide) rfl dX6_addRouter_26
  · have h := it_n c1 h
    refine lv_aload_n hx hb dX6_addRouter_7 rfl (lv_at hl 0 rfl) ?_
    refine lv_iload_n hx hb dX6_addRouter_8 rfl (lv_at hl 1 rfl) ?_
    obtain ⟨r13, h13, h⟩ := bd1_e h
    refine ca_Vi (wc := [(h0, .inr (6, [.int v_routers, .ref q_parentOf, .ref q_addressOf, .ref q_depthOf, .int v_percent, .int v_random, .int v_distance, .int v_offset, .int v_value, .int v_isMade, .ref q_marks, .int v_received, .int v_unmarked, .ref q_missing, .int v_nodes, .ref q_nodeAddresses, .ref q_nodeDistances, .ref q_nodeParents, .int v_found, .ref q_foundAddress, .ref q_foundDistance, .ref q_foundParent, .int v_words, .ref q_wordAt]))]) (wr := [(q_parentOf, .inl (cI, 20, .inl a_parentOf)), (q_addressOf, .inl (cI, 20, .inl a_addressOf)), (q_depthOf, .inl (cI, 20, .inl a_depthOf))]) (w1 := [(h0, .inr (6, [.int v_routers, .ref q_parentOf, .ref q_addressOf, .ref q_depthOf, .int v_percent, .int v_random, .int v_distance, .int v_offset, .int v_value, .int v_isMade, .ref q_marks, .int v_received, .int v_unmarked, .ref q_missing, .int v_nodes, .ref q_nodeAddresses, .ref q_nodeDistances, .ref q_nodeParents, .int v_found, .ref q_foundAddress, .ref q_foundDistance, .ref q_foundParent, .int v_words, .ref q_wordAt]))]) [.int p1] [] [0] [1, 2, 3] hx hb hml hown hts (mX6_isRouter l dC dI cI H.size h0 q_parentOf q_addressOf q_depthOf q_marks q_missing q_nodeAddresses q_nodeDistances q_nodeParents q_foundAddress q_foundDistance q_foundParent q_wordAt v_routers v_percent v_random v_distance v_offset v_value v_isMade v_received v_unmarked v_nodes v_found v_words p1 h13) (cwV 1 hts gX6_addRouter_X6_isRouter rfl rfl rfl (by decide +kernel) ⟨Nat.le_of_ble_eq_true rfl, Nat.le_of_ble_eq_true rfl⟩) hK hN hP hD hS hA rfl rfl (by decide) (by decide) (by decide) rfl rfl rfl hl.1 rfl (Nat.le_of_ble_eq_true rfl) dX6_addRouter_9 ⟨Nat.zero_le _, Nat.zero_le _⟩ (fun H locs hP hD hS hz13 => ?_)
    have hP : va_P (dC, dI) vwCl [(q_parentOf, .inl (cI, 20, .inl a_parentOf)), (q_addressOf, .inl (cI, 20, .inl a_addressOf)), (q_depthOf, .inl (cI, 20, .inl a_depthOf)), (h0, .inr (6, [.int v_routers, .ref q_parentOf, .ref q_addressOf, .ref q_depthOf, .int v_percent, .int v_random, .int v_distance, .int v_offset, .int v_value, .int v_isMade, .ref q_marks, .int v_received, .int v_unmarked, .ref q_missing, .int v_nodes, .ref q_nodeAddresses, .ref q_nodeDistances, .ref q_nodeParents, .int v_found, .ref q_foundAddress, .ref q_foundDistance, .ref q_foundParent, .int v_words, .ref q_wordAt]))] H := hP
    have hD : va_D A [(q_parentOf, .inl (cI, 20, .inl a_parentOf)), (q_addressOf, .inl (cI, 20, .inl a_addressOf)), (q_depthOf, .inl (cI, 20, .inl a_depthOf)), (h0, .inr (6, [.int v_routers, .ref q_parentOf, .ref q_addressOf, .ref q_depthOf, .int v_percent, .int v_random, .int v_distance, .int v_offset, .int v_value, .int v_isMade, .ref q_marks, .int v_received, .int v_unmarked, .ref q_missing, .int v_nodes, .ref q_nodeAddresses, .ref q_nodeDistances, .ref q_nodeParents, .int v_found, .ref q_foundAddress, .ref q_foundDistance, .ref q_foundParent, .int v_words, .ref q_wordAt]))] := hD
    refine lv_if_ne (tgt := 17) hx hb dX6_addRouter_12 (by decide) (fun c14 => ?_) (fun c14 => ?_)
    · have h := it_n c14 h
      refine lv_iload_n hx hb dX6_addRouter_17 rfl (lv_at hl 2 rfl) ?_
      obtain ⟨r15, h15, h⟩ := bd1_e h
      refine ca_Si (wc := []) (wr := [(q_parentOf, .inl (cI, 20, .inl a_parentOf)), (q_addressOf, .inl (cI, 20, .inl a_addressOf)), (q_depthOf, .inl (cI, 20, .inl a_depthOf)), (h0, .inr (6, [.int v_routers, .ref q_parentOf, .ref q_addressOf, .ref q_depthOf, .int v_percent, .int v_random, .int v_distance, .int v_offset, .int v_value, .int v_isMade, .ref q_marks, .int v_received, .int v_unmarked, .ref q_missing, .int v_nodes, .ref q_nodeAddresses, .ref q_nodeDistances, .ref q_nodeParents, .int v_found, .ref q_foundAddress, .ref q_foundDistance, .ref q_foundParent, .int v_words, .ref q_wordAt]))]) (w1 := []) [.int p2] [] [] [0, 1, 2, 3] hx hb hml hown hts (mX6_isAddress l dC dI cI H.size p2 h15) (va_cwS 1 hts gX6_addRouter_X6_isAddress rfl rfl rfl (by decide +kernel) ⟨Nat.le_of_ble_eq_true rfl, Nat.le_of_ble_eq_true rfl⟩) hK hN hP hD hS hA rfl rfl (by decide) (by decide) (by decide) rfl hl.1 rfl (Nat.le_of_ble_eq_true rfl) dX6_addRouter_18 ⟨Nat.zero_le _, Nat.zero_le _⟩ (fun H locs hP hD hS hz15 => ?_)
      have hP : va_P (dC, dI) vwCl [(q_parentOf, .inl (cI, 20, .inl a_parentOf)), (q_addressOf, .inl (cI, 20, .inl a_addressOf)), (q_depthOf, .inl (cI, 20, .inl a_depthOf)), (h0, .inr (6, [.int v_routers, .ref q_parentOf, .ref q_addressOf, .ref q_depthOf, .int v_percent, .int v_random, .int v_distance, .int v_offset, .int v_value, .int v_isMade, .ref q_marks, .int v_received, .int v_unmarked, .ref q_missing, .int v_nodes, .ref q_nodeAddresses, .ref q_nodeDistances, .ref q_nodeParents, .int v_found, .ref q_foundAddress, .ref q_foundDistance, .ref q_foundParent, .int v_words, .ref q_wordAt]))] H := hP
      have hD : va_D A [(q_parentOf, .inl (cI, 20, .inl a_parentOf)), (q_addressOf, .inl (cI, 20, .inl a_addressOf)), (q_depthOf, .inl (cI, 20, .inl a_depthOf)), (h0, .inr (6, [.int v_routers, .ref q_parentOf, .ref q_addressOf, .ref q_depthOf, .int v_percent, .int v_random, .int v_distance, .int v_offset, .int v_value, .int v_isMade, .ref q_marks, .int v_received, .int v_unmarked, .ref q_missing, .int v_nodes, .ref q_nodeAddresses, .ref q_nodeDistances, .ref q_nodeParents, .int v_found, .ref q_foundAddress, .ref q_foundDistance, .ref q_foundParent, .int v_words, .ref q_wordAt]))] := hD
      refine lv_if_ne (tgt := 27) hx hb dX6_addRouter_21 (by decide) (fun c16 => ?_) (fun c16 => ?_)
      · have h := it_n c16 h
        refine lv_aload_n hx hb dX6_addRouter_27 rfl (lv_at hl 0 rfl) ?_
        refine lv_iload_n hx hb dX6_addRouter_28 rfl (lv_at hl 2 rfl) ?_
        obtain ⟨r17, h17, h⟩ := bd1_e h
        refine ca_Vi (wc := [(h0, .inr (6, [.int v_routers, .ref q_parentOf, .ref q_addressOf, .ref q_depthOf, .int v_percent, .int v_random, .int v_distance, .int v_offset, .int v_value, .int v_isMade, .ref q_marks, .int v_received, .int v_unmarked, .ref q_missing, .int v_nodes, .ref q_nodeAddresses, .ref q_nodeDistances, .ref q_nodeParents, .int v_found, .ref q_foundAddress, .ref q_foundDistance, .ref q_foundParent, .int v_words, .ref q_wordAt])), (q_addressOf, .inl (cI, 20, .inl a_addressOf))]) (wr := [(q_parentOf, .inl (cI, 20, .inl a_parentOf)), (q_depthOf, .inl (cI, 20, .inl a_depthOf))]) (w1 := [(h0, .inr (6, [.int v_routers, .ref q_parentOf, .ref q_addressOf, .ref q_depthOf, .int v_percent, .int v_random, .int v_distance, .int v_offset, .int v_value, .int v_isMade, .ref q_marks, .int v_received, .int v_unmarked, .ref q_missing, .int v_nodes, .ref q_nodeAddresses, .ref q_nodeDistances, .ref q_nodeParents, .int v_found, .ref q_foundAddress, .ref q_foundDistance, .ref q_foundParent, .int v_words, .ref q_wordAt])), (q_addressOf, .inl (cI, 20, .inl a_addressOf))]) [.int p2] [] [3, 1] [0, 2] hx hb hml hown hts (mX6_isUsed l dC dI cI H.size N h0 q_parentOf q_addressOf q_depthOf q_marks q_missing q_nodeAddresses q_nodeDistances q_nodeParents q_foundAddress q_foundDistance q_foundParent q_wordAt v_routers v_percent v_random v_distance v_offset v_value v_isMade v_received v_unmarked v_nodes v_found v_words a_addressOf p2 h17) (cwV 1 hts gX6_addRouter_X6_isUsed rfl rfl rfl (by decide +kernel) ⟨Nat.le_of_ble_eq_true rfl, Nat.le_of_ble_eq_true rfl⟩) hK hN hP hD hS hA rfl rfl (by decide) (by decide) (by decide) rfl rfl rfl hl.1 rfl (Nat.le_of_ble_eq_true rfl) dX6_addRouter_29 ⟨Nat.zero_le _, Nat.zero_le _⟩ (fun H locs hP hD hS hz17 => ?_)
        have hP : va_P (dC, dI) vwCl [(q_parentOf, .inl (cI, 20, .inl a_parentOf)), (q_depthOf, .inl (cI, 20, .inl a_depthOf)), (h0, .inr (6, [.int v_routers, .ref q_parentOf, .ref q_addressOf, .ref q_depthOf, .int v_percent, .int v_random, .int v_distance, .int v_offset, .int v_value, .int v_isMade, .ref q_marks, .int v_received, .int v_unmarked, .ref q_missing, .int v_nodes, .ref q_nodeAddresses, .ref q_nodeDistances, .ref q_nodeParents, .int v_found, .ref q_foundAddress, .ref q_foundDistance, .ref q_foundParent, .int v_words, .ref q_wordAt])), (q_addressOf, .inl (cI, 20, .inl a_addressOf))] H := hP
        have hD : va_D A [(q_parentOf, .inl (cI, 20, .inl a_parentOf)), (q_depthOf, .inl (cI, 20, .inl a_depthOf)), (h0, .inr (6, [.int v_routers, .ref q_parentOf, .ref q_addressOf, .ref q_depthOf, .int v_percent, .int v_random, .int v_distance, .int v_offset, .int v_value, .int v_isMade, .ref q_marks, .int v_received, .int v_unmarked, .ref q_missing, .int v_nodes, .ref q_nodeAddresses, .ref q_nodeDistances, .ref q_nodeParents, .int v_found, .ref q_foundAddress, .ref q_foundDistance, .ref q_foundParent, .int v_words, .ref q_wordAt])), (q_addressOf, .inl (cI, 20, .inl a_addressOf))] := hD
        refine lv_if_eq (tgt := 38) hx hb dX6_addRouter_32 (by decide) (fun c18 => ?_) (fun c18 => ?_)
        · have h := it_p c18 h
          refine lv_aload_n hx hb dX6_addRouter_38 rfl (lv_at hl 0 rfl) ?_
          refine va_get (D := (dC, dI)) (ci := 6) (v := .int v_routers) (C := RX6) (T := TX6) (N := 24) hx hb hts hiX6 hown hK hP 2 rfl rfl 0 (by decide) hf53 (fun _ h9 => h9) rfl dX6_addRouter_39 ?_
          refine lv_bipush (v := (20 : Int32)) hx hb dX6_addRouter_42 (by decide) ?_
          refine lv_icmp_ne (tgt := 50) hx hb dX6_addRouter_44 (by decide) (fun c19 => ?_) (fun c19 => ?_)
          · have h := it_n c19 h
            refine lv_aload_n hx hb dX6_addRouter_50 rfl (lv_at hl 0 rfl) ?_
            refine va_get (D := (dC, dI)) (ci := 6) (v := .ref q_parentOf) (C := RX6) (T := TX6) (N := 24) hx hb hts hiX6 hown hK hP 2 rfl rfl 1 (by decide) hf7 (fun _ h9 => h9) rfl dX6_addRouter_51 ?_
            refine lv_aload_n hx hb dX6_addRouter_54 rfl (lv_at hl 0 rfl) ?_
            refine va_get (D := (dC, dI)) (ci := 6) (v := .int v_routers) (C := RX6) (T := TX6) (N := 24) hx hb hts hiX6 hown hK hP 2 rfl rfl 0 (by decide) hf53 (fun _ h9 => h9) rfl dX6_addRouter_55 ?_
            refine lv_aload_n hx hb dX6_addRouter_58 rfl (lv_at hl 0 rfl) ?_
            refine va_get (D := (dC, dI)) (ci := 6) (v := .int v_routers) (C := RX6) (T := TX6) (N := 24) hx hb hts hiX6 hown hK hP 2 rfl rfl 0 (by decide) hf53 (fun _ h9 => h9) rfl dX6_addRouter_59 ?_
            refine lv_if_ne (tgt := 70) hx hb dX6_addRouter_62 (by decide) (fun c20 => ?_) (fun c20 => ?_)
            · have h := it_n c20 h
              refine lv_iload_n hx hb dX6_addRouter_70 rfl (lv_at hl 1 rfl) ?_
              obtain ⟨g21, h⟩ := gd_e h
              refine va_iast hx hb hK hP hD hS 0 0 rfl rfl g21 dX6_addRouter_71 (fun H locs hP hD hS => ?_)
              have hP : va_P (dC, dI) vwCl [(q_parentOf, .inl (cI, 20, .inl (upd a_parentOf v_routers.toNatClampNeg p1))), (q_depthOf, .inl (cI, 20, .inl a_depthOf)), (h0, .inr (6, [.int v_routers, .ref q_parentOf, .ref q_addressOf, .ref q_depthOf, .int v_percent, .int v_random, .int v_distance, .int v_offset, .int v_value, .int v_isMade, .ref q_marks, .int v_received, .int v_unmarked, .ref q_missing, .int v_nodes, .ref q_nodeAddresses, .ref q_nodeDistances, .ref q_nodeParents, .int v_found, .ref q_foundAddress, .ref q_foundDistance, .ref q_foundParent, .int v_words, .ref q_wordAt])), (q_addressOf, .inl (cI, 20, .inl a_addressOf))] H := hP
              have hD : va_D A [(q_parentOf, .inl (cI, 20, .inl (upd a_parentOf v_routers.toNatClampNeg p1))), (q_depthOf, .inl (cI, 20, .inl a_depthOf)), (h0, .inr (6, [.int v_routers, .ref q_parentOf, .ref q_addressOf, .ref q_depthOf, .int v_percent, .int v_random, .int v_distance, .int v_offset, .int v_value, .int v_isMade, .ref q_marks, .int v_received, .int v_unmarked, .ref q_missing, .int v_nodes, .ref q_nodeAddresses, .ref q_nodeDistances, .ref q_nodeParents, .int v_found, .ref q_foundAddress, .ref q_foundDistance, .ref q_foundParent, .int v_words, .ref q_wordAt])), (q_addressOf, .inl (cI, 20, .inl a_addressOf))] := hD
              refine lv_aload_n hx hb dX6_addRouter_72 rfl (lv_at hl 0 rfl) ?_
              refine va_get (D := (dC, dI)) (ci := 6) (v := .ref q_depthOf) (C := RX6) (T := TX6) (N := 24) hx hb hts hiX6 hown hK hP 2 rfl rfl 3 (by decide) hf16 (fun _ h9 => h9) rfl dX6_addRouter_73 ?_
              refine lv_aload_n hx hb dX6_addRouter_76 rfl (lv_at hl 0 rfl) ?_
              refine va_get (D := (dC, dI)) (ci := 6) (v := .int v_routers) (C := RX6) (T := TX6) (N := 24) hx hb hts hiX6 hown hK hP 2 rfl rfl 0 (by decide) hf53 (fun _ h9 => h9) rfl dX6_addRouter_77 ?_
              refine lv_aload_n hx hb dX6_addRouter_80 rfl (lv_at hl 0 rfl) ?_
              refine va_get (D := (dC, dI)) (ci := 6) (v := .int v_routers) (C := RX6) (T := TX6) (N := 24) hx hb hts hiX6 hown hK hP 2 rfl rfl 0 (by decide) hf53 (fun _ h9 => h9) rfl dX6_addRouter_81 ?_
              refine lv_if_ne (tgt := 91) hx hb dX6_addRouter_84 (by decide) (fun _ => ?_) (fun c22 => absurd c22 c20)
              refine lv_aload_n hx hb dX6_addRouter_91 rfl (lv_at hl 0 rfl) ?_
              refine va_get (D := (dC, dI)) (ci := 6) (v := .ref q_depthOf) (C := RX6) (T := TX6) (N := 24) hx hb hts hiX6 hown hK hP 2 rfl rfl 3 (by decide) hf16 (fun _ h9 => h9) rfl dX6_addRouter_92 ?_
              refine lv_iload_n hx hb dX6_addRouter_95 rfl (lv_at hl 1 rfl) ?_
              obtain ⟨g23, h⟩ := gd_e h
              refine va_iald hx hb hK hP 1 0 rfl rfl g23 dX6_addRouter_96 ?_
              refine lv_iconst (v := (1 : Int32)) hx hb dX6_addRouter_97 (by decide) ?_
              refine lv_iadd hx hb dX6_addRouter_98 ?_
              refine va_iast hx hb hK hP hD hS 1 0 rfl rfl g21 dX6_addRouter_99 (fun H locs hP hD hS => ?_)
              have hP : va_P (dC, dI) vwCl [(q_parentOf, .inl (cI, 20, .inl (upd a_parentOf v_routers.toNatClampNeg p1))), (q_depthOf, .inl (cI, 20, .inl (upd a_depthOf v_routers.toNatClampNeg ((a_depthOf p1.toNatClampNeg) + (1 : Int32))))), (h0, .inr (6, [.int v_routers, .ref q_parentOf, .ref q_addressOf, .ref q_depthOf, .int v_percent, .int v_random, .int v_distance, .int v_offset, .int v_value, .int v_isMade, .ref q_marks, .int v_received, .int v_unmarked, .ref q_missing, .int v_nodes, .ref q_nodeAddresses, .ref q_nodeDistances, .ref q_nodeParents, .int v_found, .ref q_foundAddress, .ref q_foundDistance, .ref q_foundParent, .int v_words, .ref q_wordAt])), (q_addressOf, .inl (cI, 20, .inl a_addressOf))] H := hP
              have hD : va_D A [(q_parentOf, .inl (cI, 20, .inl (upd a_parentOf v_routers.toNatClampNeg p1))), (q_depthOf, .inl (cI, 20, .inl (upd a_depthOf v_routers.toNatClampNeg ((a_depthOf p1.toNatClampNeg) + (1 : Int32))))), (h0, .inr (6, [.int v_routers, .ref q_parentOf, .ref q_addressOf, .ref q_depthOf, .int v_percent, .int v_random, .int v_distance, .int v_offset, .int v_value, .int v_isMade, .ref q_marks, .int v_received, .int v_unmarked, .ref q_missing, .int v_nodes, .ref q_nodeAddresses, .ref q_nodeDistances, .ref q_nodeParents, .int v_found, .ref q_foundAddress, .ref q_foundDistance, .ref q_foundParent, .int v_words, .ref q_wordAt])), (q_addressOf, .inl (cI, 20, .inl a_addressOf))] := hD
              refine lv_aload_n hx hb dX6_addRouter_100 rfl (lv_at hl 0 rfl) ?_
              refine va_get (D := (dC, dI)) (ci := 6) (v := .ref q_addressOf) (C := RX6) (T := TX6) (N := 24) hx hb hts hiX6 hown hK hP 2 rfl rfl 2 (by decide) hf13 (fun _ h9 => h9) rfl dX6_addRouter_101 ?_
              refine lv_aload_n hx hb dX6_addRouter_104 rfl (lv_at hl 0 rfl) ?_
              refine va_get (D := (dC, dI)) (ci := 6) (v := .int v_routers) (C := RX6) (T := TX6) (N := 24) hx hb hts hiX6 hown hK hP 2 rfl rfl 0 (by decide) hf53 (fun _ h9 => h9) rfl dX6_addRouter_105 ?_
              refine lv_iload_n hx hb dX6_addRouter_108 rfl (lv_at hl 2 rfl) ?_
              refine va_iast hx hb hK hP hD hS 3 0 rfl rfl g21 dX6_addRouter_109 (fun H locs hP hD hS => ?_)
              have hP : va_P (dC, dI) vwCl [(q_parentOf, .inl (cI, 20, .inl (upd a_parentOf v_routers.toNatClampNeg p1))), (q_depthOf, .inl (cI, 20, .inl (upd a_depthOf v_routers.toNatClampNeg ((a_depthOf p1.toNatClampNeg) + (1 : Int32))))), (h0, .inr (6, [.int v_routers, .ref q_parentOf, .ref q_addressOf, .ref q_depthOf, .int v_percent, .int v_random, .int v_distance, .int v_offset, .int v_value, .int v_isMade, .ref q_marks, .int v_received, .int v_unmarked, .ref q_missing, .int v_nodes, .ref q_nodeAddresses, .ref q_nodeDistances, .ref q_nodeParents, .int v_found, .ref q_foundAddress, .ref q_foundDistance, .ref q_foundParent, .int v_words, .ref q_wordAt])), (q_addressOf, .inl (cI, 20, .inl (upd a_addressOf v_routers.toNatClampNeg p2)))] H := hP
              have hD : va_D A [(q_parentOf, .inl (cI, 20, .inl (upd a_parentOf v_routers.toNatClampNeg p1))), (q_depthOf, .inl (cI, 20, .inl (upd a_depthOf v_routers.toNatClampNeg ((a_depthOf p1.toNatClampNeg) + (1 : Int32))))), (h0, .inr (6, [.int v_routers, .ref q_parentOf, .ref q_addressOf, .ref q_depthOf, .int v_percent, .int v_random, .int v_distance, .int v_offset, .int v_value, .int v_isMade, .ref q_marks, .int v_received, .int v_unmarked, .ref q_missing, .int v_nodes, .ref q_nodeAddresses, .ref q_nodeDistances, .ref q_nodeParents, .int v_found, .ref q_foundAddress, .ref q_foundDistance, .ref q_foundParent, .int v_words, .ref q_wordAt])), (q_addressOf, .inl (cI, 20, .inl (upd a_addressOf v_routers.toNatClampNeg p2)))] := hD
              refine lv_aload_n hx hb dX6_addRouter_110 rfl (lv_at hl 0 rfl) ?_
              refine lv_dup hx hb dX6_addRouter_111 rfl ?_
              refine va_get (D := (dC, dI)) (ci := 6) (v := .int v_routers) (C := RX6) (T := TX6) (N := 24) hx hb hts hiX6 hown hK hP 2 rfl rfl 0 (by decide) hf53 (fun _ h9 => h9) rfl dX6_addRouter_112 ?_
              refine lv_iconst (v := (1 : Int32)) hx hb dX6_addRouter_115 (by decide) ?_
              refine lv_iadd hx hb dX6_addRouter_116 ?_
              refine va_put (D := (dC, dI)) (ci := 6) (v := .int (v_routers + (1 : Int32))) (ty := .int) (C := RX6) (T := TX6) (N := 24) hx hb hts hiX6 tyX6 tyX6_ok nmX6 hown hK hP hD hS 2 rfl rfl 0 (by decide) hf53 (fun _ h9 => h9) rfl (by decide +kernel) rfl rfl (Nat.le_of_ble_eq_true rfl) dX6_addRouter_117 (fun H locs hP hD hS => ?_)
              have hP : va_P (dC, dI) vwCl [(q_parentOf, .inl (cI, 20, .inl (upd a_parentOf v_routers.toNatClampNeg p1))), (q_depthOf, .inl (cI, 20, .inl (upd a_depthOf v_routers.toNatClampNeg ((a_depthOf p1.toNatClampNeg) + (1 : Int32))))), (h0, .inr (6, [.int (v_routers + (1 : Int32)), .ref q_parentOf, .ref q_addressOf, .ref q_depthOf, .int v_percent, .int v_random, .int v_distance, .int v_offset, .int v_value, .int v_isMade, .ref q_marks, .int v_received, .int v_unmarked, .ref q_missing, .int v_nodes, .ref q_nodeAddresses, .ref q_nodeDistances, .ref q_nodeParents, .int v_found, .ref q_foundAddress, .ref q_foundDistance, .ref q_foundParent, .int v_words, .ref q_wordAt])), (q_addressOf, .inl (cI, 20, .inl (upd a_addressOf v_routers.toNatClampNeg p2)))] H := hP
              have hD : va_D A [(q_parentOf, .inl (cI, 20, .inl (upd a_parentOf v_routers.toNatClampNeg p1))), (q_depthOf, .inl (cI, 20, .inl (upd a_depthOf v_routers.toNatClampNeg ((a_depthOf p1.toNatClampNeg) + (1 : Int32))))), (h0, .inr (6, [.int (v_routers + (1 : Int32)), .ref q_parentOf, .ref q_addressOf, .ref q_depthOf, .int v_percent, .int v_random, .int v_distance, .int v_offset, .int v_value, .int v_isMade, .ref q_marks, .int v_received, .int v_unmarked, .ref q_missing, .int v_nodes, .ref q_nodeAddresses, .ref q_nodeDistances, .ref q_nodeParents, .int v_found, .ref q_foundAddress, .ref q_foundDistance, .ref q_foundParent, .int v_words, .ref q_wordAt])), (q_addressOf, .inl (cI, 20, .inl (upd a_addressOf v_routers.toNatClampNeg p2)))] := hD
              refine lv_aload_n hx hb dX6_addRouter_120 rfl (lv_at hl 0 rfl) ?_
              refine va_get (D := (dC, dI)) (ci := 6) (v := .int (v_routers + (1 : Int32))) (C := RX6) (T := TX6) (N := 24) hx hb hts hiX6 hown hK hP 2 rfl rfl 0 (by decide) hf53 (fun _ h9 => h9) rfl dX6_addRouter_121 ?_
              refine lv_iconst (v := (1 : Int32)) hx hb dX6_addRouter_124 (by decide) ?_
              refine lv_isub hx hb dX6_addRouter_125 ?_
              have hk0 := Option.some.inj h
              cases hk0
              exact re_i [2, 0, 3, 1] hx hb hr hlocks rfl hP hD hS rfl (by decide) rfl dX6_addRouter_126
            · have h := it_p c20 h
              refine lv_bipush (v := (-7 : Int32)) hx hb dX6_addRouter_65 (by decide) ?_
              refine lv_goto (tgt := 71) hx hb dX6_addRouter_67 (by decide) ?_
              obtain ⟨g24, h⟩ := gd_e h
              refine va_iast hx hb hK hP hD hS 0 0 rfl rfl g24 dX6_addRouter_71 (fun H locs hP hD hS => ?_)
              have hP : va_P (dC, dI) vwCl [(q_parentOf, .inl (cI, 20, .inl (upd a_parentOf v_routers.toNatClampNeg (-7 : Int32)))), (q_depthOf, .inl (cI, 20, .inl a_depthOf)), (h0, .inr (6, [.int v_routers, .ref q_parentOf, .ref q_addressOf, .ref q_depthOf, .int v_percent, .int v_random, .int v_distance, .int v_offset, .int v_value, .int v_isMade, .ref q_marks, .int v_received, .int v_unmarked, .ref q_missing, .int v_nodes, .ref q_nodeAddresses, .ref q_nodeDistances, .ref q_nodeParents, .int v_found, .ref q_foundAddress, .ref q_foundDistance, .ref q_foundParent, .int v_words, .ref q_wordAt])), (q_addressOf, .inl (cI, 20, .inl a_addressOf))] H := hP
              have hD : va_D A [(q_parentOf, .inl (cI, 20, .inl (upd a_parentOf v_routers.toNatClampNeg (-7 : Int32)))), (q_depthOf, .inl (cI, 20, .inl a_depthOf)), (h0, .inr (6, [.int v_routers, .ref q_parentOf, .ref q_addressOf, .ref q_depthOf, .int v_percent, .int v_random, .int v_distance, .int v_offset, .int v_value, .int v_isMade, .ref q_marks, .int v_received, .int v_unmarked, .ref q_missing, .int v_nodes, .ref q_nodeAddresses, .ref q_nodeDistances, .ref q_nodeParents, .int v_found, .ref q_foundAddress, .ref q_foundDistance, .ref q_foundParent, .int v_words, .ref q_wordAt])), (q_addressOf, .inl (cI, 20, .inl a_addressOf))] := hD
              refine lv_aload_n hx hb dX6_addRouter_72 rfl (lv_at hl 0 rfl) ?_
              refine va_get (D := (dC, dI)) (ci := 6) (v := .ref q_depthOf) (C := RX6) (T := TX6) (N := 24) hx hb hts hiX6 hown hK hP 2 rfl rfl 3 (by decide) hf16 (fun _ h9 => h9) rfl dX6_addRouter_73 ?_
              refine lv_aload_n hx hb dX6_addRouter_76 rfl (lv_at hl 0 rfl) ?_
              refine va_get (D := (dC, dI)) (ci := 6) (v := .int v_routers) (C := RX6) (T := TX6) (N := 24) hx hb hts hiX6 hown hK hP 2 rfl rfl 0 (by decide) hf53 (fun _ h9 => h9) rfl dX6_addRouter_77 ?_
              refine lv_aload_n hx hb dX6_addRouter_80 rfl (lv_at hl 0 rfl) ?_
              refine va_get (D := (dC, dI)) (ci := 6) (v := .int v_routers) (C := RX6) (T := TX6) (N := 24) hx hb hts hiX6 hown hK hP 2 rfl rfl 0 (by decide) hf53 (fun _ h9 => h9) rfl dX6_addRouter_81 ?_
              refine lv_if_ne (tgt := 91) hx hb dX6_addRouter_84 (by decide) (fun c25 => absurd c20 c25) (fun _ => ?_)
              refine lv_iconst (v := (0 : Int32)) hx hb dX6_addRouter_87 (by decide) ?_
              refine lv_goto (tgt := 99) hx hb dX6_addRouter_88 (by decide) ?_
              refine va_iast hx hb hK hP hD hS 1 0 rfl rfl g24 dX6_addRouter_99 (fun H locs hP hD hS => ?_)
              have hP : va_P (dC, dI) vwCl [(q_parentOf, .inl (cI, 20, .inl (upd a_parentOf v_routers.toNatClampNeg (-7 : Int32)))), (q_depthOf, .inl (cI, 20, .inl (upd a_depthOf v_routers.toNatClampNeg (0 : Int32)))), (h0, .inr (6, [.int v_routers, .ref q_parentOf, .ref q_addressOf, .ref q_depthOf, .int v_percent, .int v_random, .int v_distance, .int v_offset, .int v_value, .int v_isMade, .ref q_marks, .int v_received, .int v_unmarked, .ref q_missing, .int v_nodes, .ref q_nodeAddresses, .ref q_nodeDistances, .ref q_nodeParents, .int v_found, .ref q_foundAddress, .ref q_foundDistance, .ref q_foundParent, .int v_words, .ref q_wordAt])), (q_addressOf, .inl (cI, 20, .inl a_addressOf))] H := hP
              have hD : va_D A [(q_parentOf, .inl (cI, 20, .inl (upd a_parentOf v_routers.toNatClampNeg (-7 : Int32)))), (q_depthOf, .inl (cI, 20, .inl (upd a_depthOf v_routers.toNatClampNeg (0 : Int32)))), (h0, .inr (6, [.int v_routers, .ref q_parentOf, .ref q_addressOf, .ref q_depthOf, .int v_percent, .int v_random, .int v_distance, .int v_offset, .int v_value, .int v_isMade, .ref q_marks, .int v_received, .int v_unmarked, .ref q_missing, .int v_nodes, .ref q_nodeAddresses, .ref q_nodeDistances, .ref q_nodeParents, .int v_found, .ref q_foundAddress, .ref q_foundDistance, .ref q_foundParent, .int v_words, .ref q_wordAt])), (q_addressOf, .inl (cI, 20, .inl a_addressOf))] := hD
              refine lv_aload_n hx hb dX6_addRouter_100 rfl (lv_at hl 0 rfl) ?_
              refine va_get (D := (dC, dI)) (ci := 6) (v := .ref q_addressOf) (C := RX6) (T := TX6) (N := 24) hx hb hts hiX6 hown hK hP 2 rfl rfl 2 (by decide) hf13 (fun _ h9 => h9) rfl dX6_addRouter_101 ?_
              refine lv_aload_n hx hb dX6_addRouter_104 rfl (lv_at hl 0 rfl) ?_
              refine va_get (D := (dC, dI)) (ci := 6) (v := .int v_routers) (C := RX6) (T := TX6) (N := 24) hx hb hts hiX6 hown hK hP 2 rfl rfl 0 (by decide) hf53 (fun _ h9 => h9) rfl dX6_addRouter_105 ?_
              refine lv_iload_n hx hb dX6_addRouter_108 rfl (lv_at hl 2 rfl) ?_
              refine va_iast hx hb hK hP hD hS 3 0 rfl rfl g24 dX6_addRouter_109 (fun H locs hP hD hS => ?_)
              have hP : va_P (dC, dI) vwCl [(q_parentOf, .inl (cI, 20, .inl (upd a_parentOf v_routers.toNatClampNeg (-7 : Int32)))), (q_depthOf, .inl (cI, 20, .inl (upd a_depthOf v_routers.toNatClampNeg (0 : Int32)))), (h0, .inr (6, [.int v_routers, .ref q_parentOf, .ref q_addressOf, .ref q_depthOf, .int v_percent, .int v_random, .int v_distance, .int v_offset, .int v_value, .int v_isMade, .ref q_marks, .int v_received, .int v_unmarked, .ref q_missing, .int v_nodes, .ref q_nodeAddresses, .ref q_nodeDistances, .ref q_nodeParents, .int v_found, .ref q_foundAddress, .ref q_foundDistance, .ref q_foundParent, .int v_words, .ref q_wordAt])), (q_addressOf, .inl (cI, 20, .inl (upd a_addressOf v_routers.toNatClampNeg p2)))] H := hP
              have hD : va_D A [(q_parentOf, .inl (cI, 20, .inl (upd a_parentOf v_routers.toNatClampNeg (-7 : Int32)))), (q_depthOf, .inl (cI, 20, .inl (upd a_depthOf v_routers.toNatClampNeg (0 : Int32)))), (h0, .inr (6, [.int v_routers, .ref q_parentOf, .ref q_addressOf, .ref q_depthOf, .int v_percent, .int v_random, .int v_distance, .int v_offset, .int v_value, .int v_isMade, .ref q_marks, .int v_received, .int v_unmarked, .ref q_missing, .int v_nodes, .ref q_nodeAddresses, .ref q_nodeDistances, .ref q_nodeParents, .int v_found, .ref q_foundAddress, .ref q_foundDistance, .ref q_foundParent, .int v_words, .ref q_wordAt])), (q_addressOf, .inl (cI, 20, .inl (upd a_addressOf v_routers.toNatClampNeg p2)))] := hD
              refine lv_aload_n hx hb dX6_addRouter_110 rfl (lv_at hl 0 rfl) ?_
              refine lv_dup hx hb dX6_addRouter_111 rfl ?_
              refine va_get (D := (dC, dI)) (ci := 6) (v := .int v_routers) (C := RX6) (T := TX6) (N := 24) hx hb hts hiX6 hown hK hP 2 rfl rfl 0 (by decide) hf53 (fun _ h9 => h9) rfl dX6_addRouter_112 ?_
              refine lv_iconst (v := (1 : Int32)) hx hb dX6_addRouter_115 (by decide) ?_
              refine lv_iadd hx hb dX6_addRouter_116 ?_
              refine va_put (D := (dC, dI)) (ci := 6) (v := .int (v_routers + (1 : Int32))) (ty := .int) (C := RX6) (T := TX6) (N := 24) hx hb hts hiX6 tyX6 tyX6_ok nmX6 hown hK hP hD hS 2 rfl rfl 0 (by decide) hf53 (fun _ h9 => h9) rfl (by decide +kernel) rfl rfl (Nat.le_of_ble_eq_true rfl) dX6_addRouter_117 (fun H locs hP hD hS => ?_)
              have hP : va_P (dC, dI) vwCl [(q_parentOf, .inl (cI, 20, .inl (upd a_parentOf v_routers.toNatClampNeg (-7 : Int32)))), (q_depthOf, .inl (cI, 20, .inl (upd a_depthOf v_routers.toNatClampNeg (0 : Int32)))), (h0, .inr (6, [.int (v_routers + (1 : Int32)), .ref q_parentOf, .ref q_addressOf, .ref q_depthOf, .int v_percent, .int v_random, .int v_distance, .int v_offset, .int v_value, .int v_isMade, .ref q_marks, .int v_received, .int v_unmarked, .ref q_missing, .int v_nodes, .ref q_nodeAddresses, .ref q_nodeDistances, .ref q_nodeParents, .int v_found, .ref q_foundAddress, .ref q_foundDistance, .ref q_foundParent, .int v_words, .ref q_wordAt])), (q_addressOf, .inl (cI, 20, .inl (upd a_addressOf v_routers.toNatClampNeg p2)))] H := hP
              have hD : va_D A [(q_parentOf, .inl (cI, 20, .inl (upd a_parentOf v_routers.toNatClampNeg (-7 : Int32)))), (q_depthOf, .inl (cI, 20, .inl (upd a_depthOf v_routers.toNatClampNeg (0 : Int32)))), (h0, .inr (6, [.int (v_routers + (1 : Int32)), .ref q_parentOf, .ref q_addressOf, .ref q_depthOf, .int v_percent, .int v_random, .int v_distance, .int v_offset, .int v_value, .int v_isMade, .ref q_marks, .int v_received, .int v_unmarked, .ref q_missing, .int v_nodes, .ref q_nodeAddresses, .ref q_nodeDistances, .ref q_nodeParents, .int v_found, .ref q_foundAddress, .ref q_foundDistance, .ref q_foundParent, .int v_words, .ref q_wordAt])), (q_addressOf, .inl (cI, 20, .inl (upd a_addressOf v_routers.toNatClampNeg p2)))] := hD
              refine lv_aload_n hx hb dX6_addRouter_120 rfl (lv_at hl 0 rfl) ?_
              refine va_get (D := (dC, dI)) (ci := 6) (v := .int (v_routers + (1 : Int32))) (C := RX6) (T := TX6) (N := 24) hx hb hts hiX6 hown hK hP 2 rfl rfl 0 (by decide) hf53 (fun _ h9 => h9) rfl dX6_addRouter_121 ?_
              refine lv_iconst (v := (1 : Int32)) hx hb dX6_addRouter_124 (by decide) ?_
              refine lv_isub hx hb dX6_addRouter_125 ?_
              have hk0 := Option.some.inj h
              cases hk0
              exact re_i [2, 0, 3, 1] hx hb hr hlocks rfl hP hD hS rfl (by decide) rfl dX6_addRouter_126
          · have h := it_p c19 h
            refine lv_bipush (v := (-4 : Int32)) hx hb dX6_addRouter_47 (by decide) ?_
            have hk0 := Option.some.inj h
            cases hk0
            exact re_i [2, 0, 3, 1] hx hb hr hlocks rfl hP hD hS rfl (by decide) rfl dX6_addRouter_49
        · have h := it_n c18 h
          refine lv_bipush (v := (-3 : Int32)) hx hb dX6_addRouter_35 (by decide) ?_
          have hk0 := Option.some.inj h
          cases hk0
          exact re_i [2, 0, 3, 1] hx hb hr hlocks rfl hP hD hS rfl (by decide) rfl dX6_addRouter_37
      · have h := it_p c16 h
        refine lv_bipush (v := (-2 : Int32)) hx hb dX6_addRouter_24 (by decide) ?_
        have hk0 := Option.some.inj h
        cases hk0
        exact re_i [3, 0, 1, 2] hx hb hr hlocks rfl hP hD hS rfl (by decide) rfl dX6_addRouter_26
    · have h := it_p c14 h
      refine lv_iconst (v := (-1 : Int32)) hx hb dX6_addRouter_15 (by decide) ?_
      have hk0 := Option.some.inj h
      cases hk0
      exact re_i [3, 0, 1, 2] hx hb hr hlocks rfl hP hD hS rfl (by decide) rfl dX6_addRouter_16
def fX6_routerCount (v_routers : Int32) : Option (Int32) :=
  some v_routers
set_option maxHeartbeats 4000000 in
set_option maxRecDepth 100000 in
theorem mX6_routerCount (l : Launch) (dC : Nat → ClassId) (dI : Nat → Nat → Nat) (cI : ClassId) (sz : Nat) (h0 : Nat) (q_parentOf : Nat) (q_addressOf : Nat) (q_depthOf : Nat) (q_marks : Nat) (q_missing : Nat) (q_nodeAddresses : Nat) (q_nodeDistances : Nat) (q_nodeParents : Nat) (q_foundAddress : Nat) (q_foundDistance : Nat) (q_foundParent : Nat) (q_wordAt : Nat) (v_routers : Int32) (v_percent : Int32) (v_random : Int32) (v_distance : Int32) (v_offset : Int32) (v_value : Int32) (v_isMade : Int32) (v_received : Int32) (v_unmarked : Int32) (v_nodes : Int32) (v_found : Int32) (v_words : Int32) {rr : Int32} (h : fX6_routerCount v_routers = some rr) : Met l yX6_routerCount wsX6_routerCount ({ frames := 0, cells := 0, slots := 0, locals := 0 } : Room) (prX dC dI cI [.ref h0] sz [(h0, .inr (6, [.int v_routers, .ref q_parentOf, .ref q_addressOf, .ref q_depthOf, .int v_percent, .int v_random, .int v_distance, .int v_offset, .int v_value, .int v_isMade, .ref q_marks, .int v_received, .int v_unmarked, .ref q_missing, .int v_nodes, .ref q_nodeAddresses, .ref q_nodeDistances, .ref q_nodeParents, .int v_found, .ref q_foundAddress, .ref q_foundDistance, .ref q_foundParent, .int v_words, .ref q_wordAt]))]) (poI dC dI .int rr [(h0, .inr (6, [.int v_routers, .ref q_parentOf, .ref q_addressOf, .ref q_depthOf, .int v_percent, .int v_random, .int v_distance, .int v_offset, .int v_value, .int v_isMade, .ref q_marks, .int v_received, .int v_unmarked, .ref q_missing, .int v_nodes, .ref q_nodeAddresses, .ref q_nodeDistances, .ref q_nodeParents, .int v_found, .ref q_foundAddress, .ref q_foundDistance, .ref q_foundParent, .int v_words, .ref q_wordAt]))] (va_A [(h0, .inr (6, [.int v_routers, .ref q_parentOf, .ref q_addressOf, .ref q_depthOf, .int v_percent, .int v_random, .int v_distance, .int v_offset, .int v_value, .int v_isMade, .ref q_marks, .int v_received, .int v_unmarked, .ref q_missing, .int v_nodes, .ref q_nodeAddresses, .ref q_nodeDistances, .ref q_nodeParents, .int v_found, .ref q_foundAddress, .ref q_foundDistance, .ref q_foundParent, .int v_words, .ref q_wordAt]))] sz)) 0 0 (va_A [(h0, .inr (6, [.int v_routers, .ref q_parentOf, .ref q_addressOf, .ref q_depthOf, .int v_percent, .int v_random, .int v_distance, .int v_offset, .int v_value, .int v_isMade, .ref q_marks, .int v_received, .int v_unmarked, .ref q_missing, .int v_nodes, .ref q_nodeAddresses, .ref q_nodeDistances, .ref q_nodeParents, .int v_found, .ref q_foundAddress, .ref q_foundDistance, .ref q_foundParent, .int v_words, .ref q_wordAt]))] sz) := by
  refine ofX (cc := cX6_routerCount) (maxL := 1) (ret := (some .int)) (lv0 := [(0, .ref h0)]) (QA := fun A => poI dC dI .int rr [(h0, .inr (6, [.int v_routers, .ref q_parentOf, .ref q_addressOf, .ref q_depthOf, .int v_percent, .int v_random, .int v_distance, .int v_offset, .int v_value, .int v_isMade, .ref q_marks, .int v_received, .int v_unmarked, .ref q_missing, .int v_nodes, .ref q_nodeAddresses, .ref q_nodeDistances, .ref q_nodeParents, .int v_found, .ref q_foundAddress, .ref q_foundDistance, .ref q_foundParent, .int v_words, .ref q_wordAt]))] A) (by decide) rfl (Nat.le_of_ble_eq_true rfl) rfl ?_
  intro p e s m below meth c A ls H locs hx hb hr hml hown hts hlocks hin hK hN hA hP hD hS hl
  have hown : s.vm.findClass RX6 = some m.cls := hown
  unfold fX6_routerCount at h
  have hiX6 : ∀ w ∈ u_ws RX6 TX6 24, w ∈ wsX6_routerCount := fun _ h => List.mem_cons_of_mem _ (List.mem_append_right _ h)
  have hf53 := (hts (.fieldLink RX6 53 "PacketTracebackModel" "routers" "I") (List.mem_of_getElem? (i := 1) (by decide +kernel)))
  refine lv_aload_n hx hb dX6_routerCount_0 rfl (lv_at hl 0 rfl) ?_
  refine va_get (D := (dC, dI)) (ci := 6) (v := .int v_routers) (C := RX6) (T := TX6) (N := 24) hx hb hts hiX6 hown hK hP 0 rfl rfl 0 (by decide) hf53 (fun _ h9 => h9) rfl dX6_routerCount_1 ?_
  have hk0 := Option.some.inj h
  cases hk0
  exact re_i [0] hx hb hr hlocks rfl hP hD hS rfl (by decide) rfl dX6_routerCount_4
def fX6_depth (p1 : Int32) (v_routers : Int32) (a_depthOf : Nat → Int32) : Option (Int32) :=
  bd1 (fX6_isRouter p1 v_routers) fun r1 =>
  if r1 = 0 then
    some (-1 : Int32)
  else
    if ¬ (p1 < 0 ∨ 20 ≤ p1.toNatClampNeg) then
      some (a_depthOf p1.toNatClampNeg)
    else none
set_option maxHeartbeats 4000000 in
set_option maxRecDepth 100000 in
theorem mX6_depth (l : Launch) (dC : Nat → ClassId) (dI : Nat → Nat → Nat) (cI : ClassId) (sz : Nat) (h0 : Nat) (q_parentOf : Nat) (q_addressOf : Nat) (q_depthOf : Nat) (q_marks : Nat) (q_missing : Nat) (q_nodeAddresses : Nat) (q_nodeDistances : Nat) (q_nodeParents : Nat) (q_foundAddress : Nat) (q_foundDistance : Nat) (q_foundParent : Nat) (q_wordAt : Nat) (v_routers : Int32) (v_percent : Int32) (v_random : Int32) (v_distance : Int32) (v_offset : Int32) (v_value : Int32) (v_isMade : Int32) (v_received : Int32) (v_unmarked : Int32) (v_nodes : Int32) (v_found : Int32) (v_words : Int32) (a_depthOf : Nat → Int32) (p1 : Int32) {rr : Int32} (h : fX6_depth p1 v_routers a_depthOf = some rr) : Met l yX6_depth wsX6_depth ({ frames := 2, cells := 0, slots := 0, locals := 43 } : Room) (prX dC dI cI [.ref h0, .int p1] sz [(h0, .inr (6, [.int v_routers, .ref q_parentOf, .ref q_addressOf, .ref q_depthOf, .int v_percent, .int v_random, .int v_distance, .int v_offset, .int v_value, .int v_isMade, .ref q_marks, .int v_received, .int v_unmarked, .ref q_missing, .int v_nodes, .ref q_nodeAddresses, .ref q_nodeDistances, .ref q_nodeParents, .int v_found, .ref q_foundAddress, .ref q_foundDistance, .ref q_foundParent, .int v_words, .ref q_wordAt])), (q_depthOf, .inl (cI, 20, .inl a_depthOf))]) (poI dC dI .int rr [(h0, .inr (6, [.int v_routers, .ref q_parentOf, .ref q_addressOf, .ref q_depthOf, .int v_percent, .int v_random, .int v_distance, .int v_offset, .int v_value, .int v_isMade, .ref q_marks, .int v_received, .int v_unmarked, .ref q_missing, .int v_nodes, .ref q_nodeAddresses, .ref q_nodeDistances, .ref q_nodeParents, .int v_found, .ref q_foundAddress, .ref q_foundDistance, .ref q_foundParent, .int v_words, .ref q_wordAt])), (q_depthOf, .inl (cI, 20, .inl a_depthOf))] (va_A [(h0, .inr (6, [.int v_routers, .ref q_parentOf, .ref q_addressOf, .ref q_depthOf, .int v_percent, .int v_random, .int v_distance, .int v_offset, .int v_value, .int v_isMade, .ref q_marks, .int v_received, .int v_unmarked, .ref q_missing, .int v_nodes, .ref q_nodeAddresses, .ref q_nodeDistances, .ref q_nodeParents, .int v_found, .ref q_foundAddress, .ref q_foundDistance, .ref q_foundParent, .int v_words, .ref q_wordAt])), (q_depthOf, .inl (cI, 20, .inl a_depthOf))] sz)) 0 0 (va_A [(h0, .inr (6, [.int v_routers, .ref q_parentOf, .ref q_addressOf, .ref q_depthOf, .int v_percent, .int v_random, .int v_distance, .int v_offset, .int v_value, .int v_isMade, .ref q_marks, .int v_received, .int v_unmarked, .ref q_missing, .int v_nodes, .ref q_nodeAddresses, .ref q_nodeDistances, .ref q_nodeParents, .int v_found, .ref q_foundAddress, .ref q_foundDistance, .ref q_foundParent, .int v_words, .ref q_wordAt])), (q_depthOf, .inl (cI, 20, .inl a_depthOf))] sz) := by
  refine ofX (cc := cX6_depth) (maxL := 2) (ret := (some .int)) (lv0 := [(0, .ref h0), (1, .int p1)]) (QA := fun A => poI dC dI .int rr [(h0, .inr (6, [.int v_routers, .ref q_parentOf, .ref q_addressOf, .ref q_depthOf, .int v_percent, .int v_random, .int v_distance, .int v_offset, .int v_value, .int v_isMade, .ref q_marks, .int v_received, .int v_unmarked, .ref q_missing, .int v_nodes, .ref q_nodeAddresses, .ref q_nodeDistances, .ref q_nodeParents, .int v_found, .ref q_foundAddress, .ref q_foundDistance, .ref q_foundParent, .int v_words, .ref q_wordAt])), (q_depthOf, .inl (cI, 20, .inl a_depthOf))] A) (by decide) rfl (Nat.le_of_ble_eq_true rfl) rfl ?_
  intro p e s m below meth c A ls H locs hx hb hr hml hown hts hlocks hin hK hN hA hP hD hS hl
  have hown : s.vm.findClass RX6 = some m.cls := hown
  unfold fX6_depth at h
  have hiX6 : ∀ w ∈ u_ws RX6 TX6 24, w ∈ wsX6_depth := fun _ h => List.mem_cons_of_mem _ (List.mem_append_right _ h)
  have hf16 := (hts (.fieldLink RX6 16 "PacketTracebackModel" "depthOf" "[I") (List.mem_of_getElem? (i := 1) (by decide +kernel)))
  refine lv_aload_n hx hb dX6_depth_0 rfl (lv_at hl 0 rfl) ?_
  refine lv_iload_n hx hb dX6_depth_1 rfl (lv_at hl 1 rfl) ?_
  obtain ⟨r1, h1, h⟩ := bd1_e h
  refine ca_Vi (wc := [(h0, .inr (6, [.int v_routers, .ref q_parentOf, .ref q_addressOf, .ref q_depthOf, .int v_percent, .int v_random, .int v_distance, .int v_offset, .int v_value, .int v_isMade, .ref q_marks, .int v_received, .int v_unmarked, .ref q_missing, .int v_nodes, .ref q_nodeAddresses, .ref q_nodeDistances, .ref q_nodeParents, .int v_found, .ref q_foundAddress, .ref q_foundDistance, .ref q_foundParent, .int v_words, .ref q_wordAt]))]) (wr := [(q_depthOf, .inl (cI, 20, .inl a_depthOf))]) (w1 := [(h0, .inr (6, [.int v_routers, .ref q_parentOf, .ref q_addressOf, .ref q_depthOf, .int v_percent, .int v_random, .int v_distance, .int v_offset, .int v_value, .int v_isMade, .ref q_marks, .int v_received, .int v_unmarked, .ref q_missing, .int v_nodes, .ref q_nodeAddresses, .ref q_nodeDistances, .ref q_nodeParents, .int v_found, .ref q_foundAddress, .ref q_foundDistance, .ref q_foundParent, .int v_words, .ref q_wordAt]))]) [.int p1] [] [0] [1] hx hb hml hown hts (mX6_isRouter l dC dI cI H.size h0 q_parentOf q_addressOf q_depthOf q_marks q_missing q_nodeAddresses q_nodeDistances q_nodeParents q_foundAddress q_foundDistance q_foundParent q_wordAt v_routers v_percent v_random v_distance v_offset v_value v_isMade v_received v_unmarked v_nodes v_found v_words p1 h1) (cwV 1 hts gX6_depth_X6_isRouter rfl rfl rfl (by decide +kernel) ⟨Nat.le_of_ble_eq_true rfl, Nat.le_of_ble_eq_true rfl⟩) hK hN hP hD hS hA rfl rfl (by decide) (by decide) (by decide) rfl rfl rfl hl.1 rfl (Nat.le_of_ble_eq_true rfl) dX6_depth_2 ⟨Nat.zero_le _, Nat.zero_le _⟩ (fun H locs hP hD hS hz1 => ?_)
  have hP : va_P (dC, dI) vwCl [(q_depthOf, .inl (cI, 20, .inl a_depthOf)), (h0, .inr (6, [.int v_routers, .ref q_parentOf, .ref q_addressOf, .ref q_depthOf, .int v_percent, .int v_random, .int v_distance, .int v_offset, .int v_value, .int v_isMade, .ref q_marks, .int v_received, .int v_unmarked, .ref q_missing, .int v_nodes, .ref q_nodeAddresses, .ref q_nodeDistances, .ref q_nodeParents, .int v_found, .ref q_foundAddress, .ref q_foundDistance, .ref q_foundParent, .int v_words, .ref q_wordAt]))] H := hP
  have hD : va_D A [(q_depthOf, .inl (cI, 20, .inl a_depthOf)), (h0, .inr (6, [.int v_routers, .ref q_parentOf, .ref q_addressOf, .ref q_depthOf, .int v_percent, .int v_random, .int v_distance, .int v_offset, .int v_value, .int v_isMade, .ref q_marks, .int v_received, .int v_unmarked, .ref q_missing, .int v_nodes, .ref q_nodeAddresses, .ref q_nodeDistances, .ref q_nodeParents, .int v_found, .ref q_foundAddress, .ref q_foundDistance, .ref q_foundParent, .int v_words, .ref q_wordAt]))] := hD
  refine lv_if_eq (tgt := 17) hx hb dX6_depth_5 (by decide) (fun c2 => ?_) (fun c2 => ?_)
  · have h := it_p c2 h
    refine lv_iconst (v := (-1 : Int32)) hx hb dX6_depth_17 (by decide) ?_
    have hk0 := Option.some.inj h
    cases hk0
    exact re_i [1, 0] hx hb hr hlocks rfl hP hD hS rfl (by decide) rfl dX6_depth_18
  · have h := it_n c2 h
    refine lv_aload_n hx hb dX6_depth_8 rfl (lv_at hl 0 rfl) ?_
    refine va_get (D := (dC, dI)) (ci := 6) (v := .ref q_depthOf) (C := RX6) (T := TX6) (N := 24) hx hb hts hiX6 hown hK hP 1 rfl rfl 3 (by decide) hf16 (fun _ h9 => h9) rfl dX6_depth_9 ?_
    refine lv_iload_n hx hb dX6_depth_12 rfl (lv_at hl 1 rfl) ?_
    obtain ⟨g3, h⟩ := gd_e h
    refine va_iald hx hb hK hP 0 0 rfl rfl g3 dX6_depth_13 ?_
    refine lv_goto (tgt := 18) hx hb dX6_depth_14 (by decide) ?_
    have hk0 := Option.some.inj h
    cases hk0
    exact re_i [1, 0] hx hb hr hlocks rfl hP hD hS rfl (by decide) rfl dX6_depth_18
def fX6_digestOf (p0 : Int32) : Option (Int32) :=
  some (((((p0 * (167 : Int32)) + (29 : Int32)) >>> ((3 : Int32) &&& 31)) ^^^ p0) &&& (255 : Int32))
set_option maxHeartbeats 4000000 in
set_option maxRecDepth 100000 in
theorem mX6_digestOf (l : Launch) (dC : Nat → ClassId) (dI : Nat → Nat → Nat) (cI : ClassId) (sz : Nat) (p0 : Int32) {rr : Int32} (h : fX6_digestOf p0 = some rr) : Met l yX6_digestOf wsX6_digestOf ({ frames := 0, cells := 0, slots := 0, locals := 0 } : Room) (prX dC dI cI [.int p0] sz []) (poI dC dI .int rr [] (va_A [] sz)) 0 0 (va_A [] sz) := by
  refine ofX (cc := cX6_digestOf) (maxL := 1) (ret := (some .int)) (lv0 := [(0, .int p0)]) (QA := fun A => poI dC dI .int rr [] A) (by decide) rfl (Nat.le_of_ble_eq_true rfl) rfl ?_
  intro p e s m below meth c A ls H locs hx hb hr hml hown hts hlocks hin hK hN hA hP hD hS hl
  have hown : s.vm.findClass RX6 = some m.cls := hown
  unfold fX6_digestOf at h
  refine lv_iload_n hx hb dX6_digestOf_0 rfl (lv_at hl 0 rfl) ?_
  refine lv_sipush (v := (167 : Int32)) hx hb dX6_digestOf_1 (by decide) ?_
  refine lv_imul hx hb dX6_digestOf_4 ?_
  refine lv_bipush (v := (29 : Int32)) hx hb dX6_digestOf_5 (by decide) ?_
  refine lv_iadd hx hb dX6_digestOf_7 ?_
  refine lv_iconst (v := (3 : Int32)) hx hb dX6_digestOf_8 (by decide) ?_
  refine lv_ishr hx hb dX6_digestOf_9 ?_
  refine lv_iload_n hx hb dX6_digestOf_10 rfl (lv_at hl 0 rfl) ?_
  refine lv_ixor hx hb dX6_digestOf_11 ?_
  refine lv_sipush (v := (255 : Int32)) hx hb dX6_digestOf_12 (by decide) ?_
  refine lv_iand hx hb dX6_digestOf_15 ?_
  have hk0 := Option.some.inj h
  cases hk0
  exact re_i [] hx hb hr hlocks rfl hP hD hS rfl (by decide) rfl dX6_digestOf_16
def fX6_digest (p1 : Int32) : Option (Int32) :=
  bd1 (fX6_isAddress p1) fun r1 =>
  if r1 = 0 then
    some (-2 : Int32)
  else
    bd1 (fX6_digestOf p1) fun r3 =>
    some r3
set_option maxHeartbeats 4000000 in
set_option maxRecDepth 100000 in
theorem mX6_digest (l : Launch) (dC : Nat → ClassId) (dI : Nat → Nat → Nat) (cI : ClassId) (sz : Nat) (h0 : Nat) (q_parentOf : Nat) (q_addressOf : Nat) (q_depthOf : Nat) (q_marks : Nat) (q_missing : Nat) (q_nodeAddresses : Nat) (q_nodeDistances : Nat) (q_nodeParents : Nat) (q_foundAddress : Nat) (q_foundDistance : Nat) (q_foundParent : Nat) (q_wordAt : Nat) (v_routers : Int32) (v_percent : Int32) (v_random : Int32) (v_distance : Int32) (v_offset : Int32) (v_value : Int32) (v_isMade : Int32) (v_received : Int32) (v_unmarked : Int32) (v_nodes : Int32) (v_found : Int32) (v_words : Int32) (p1 : Int32) {rr : Int32} (h : fX6_digest p1 = some rr) : Met l yX6_digest wsX6_digest ({ frames := 2, cells := 0, slots := 0, locals := 42 } : Room) (prX dC dI cI [.ref h0, .int p1] sz [(h0, .inr (6, [.int v_routers, .ref q_parentOf, .ref q_addressOf, .ref q_depthOf, .int v_percent, .int v_random, .int v_distance, .int v_offset, .int v_value, .int v_isMade, .ref q_marks, .int v_received, .int v_unmarked, .ref q_missing, .int v_nodes, .ref q_nodeAddresses, .ref q_nodeDistances, .ref q_nodeParents, .int v_found, .ref q_foundAddress, .ref q_foundDistance, .ref q_foundParent, .int v_words, .ref q_wordAt]))]) (poI dC dI .int rr [(h0, .inr (6, [.int v_routers, .ref q_parentOf, .ref q_addressOf, .ref q_depthOf, .int v_percent, .int v_random, .int v_distance, .int v_offset, .int v_value, .int v_isMade, .ref q_marks, .int v_received, .int v_unmarked, .ref q_missing, .int v_nodes, .ref q_nodeAddresses, .ref q_nodeDistances, .ref q_nodeParents, .int v_found, .ref q_foundAddress, .ref q_foundDistance, .ref q_foundParent, .int v_words, .ref q_wordAt]))] (va_A [(h0, .inr (6, [.int v_routers, .ref q_parentOf, .ref q_addressOf, .ref q_depthOf, .int v_percent, .int v_random, .int v_distance, .int v_offset, .int v_value, .int v_isMade, .ref q_marks, .int v_received, .int v_unmarked, .ref q_missing, .int v_nodes, .ref q_nodeAddresses, .ref q_nodeDistances, .ref q_nodeParents, .int v_found, .ref q_foundAddress, .ref q_foundDistance, .ref q_foundParent, .int v_words, .ref q_wordAt]))] sz)) 0 0 (va_A [(h0, .inr (6, [.int v_routers, .ref q_parentOf, .ref q_addressOf, .ref q_depthOf, .int v_percent, .int v_random, .int v_distance, .int v_offset, .int v_value, .int v_isMade, .ref q_marks, .int v_received, .int v_unmarked, .ref q_missing, .int v_nodes, .ref q_nodeAddresses, .ref q_nodeDistances, .ref q_nodeParents, .int v_found, .ref q_foundAddress, .ref q_foundDistance, .ref q_foundParent, .int v_words, .ref q_wordAt]))] sz) := by
  refine ofX (cc := cX6_digest) (maxL := 2) (ret := (some .int)) (lv0 := [(0, .ref h0), (1, .int p1)]) (QA := fun A => poI dC dI .int rr [(h0, .inr (6, [.int v_routers, .ref q_parentOf, .ref q_addressOf, .ref q_depthOf, .int v_percent, .int v_random, .int v_distance, .int v_offset, .int v_value, .int v_isMade, .ref q_marks, .int v_received, .int v_unmarked, .ref q_missing, .int v_nodes, .ref q_nodeAddresses, .ref q_nodeDistances, .ref q_nodeParents, .int v_found, .ref q_foundAddress, .ref q_foundDistance, .ref q_foundParent, .int v_words, .ref q_wordAt]))] A) (by decide) rfl (Nat.le_of_ble_eq_true rfl) rfl ?_
  intro p e s m below meth c A ls H locs hx hb hr hml hown hts hlocks hin hK hN hA hP hD hS hl
  have hown : s.vm.findClass RX6 = some m.cls := hown
  unfold fX6_digest at h
  refine lv_iload_n hx hb dX6_digest_0 rfl (lv_at hl 1 rfl) ?_
  obtain ⟨r1, h1, h⟩ := bd1_e h
  refine ca_Si (wc := []) (wr := [(h0, .inr (6, [.int v_routers, .ref q_parentOf, .ref q_addressOf, .ref q_depthOf, .int v_percent, .int v_random, .int v_distance, .int v_offset, .int v_value, .int v_isMade, .ref q_marks, .int v_received, .int v_unmarked, .ref q_missing, .int v_nodes, .ref q_nodeAddresses, .ref q_nodeDistances, .ref q_nodeParents, .int v_found, .ref q_foundAddress, .ref q_foundDistance, .ref q_foundParent, .int v_words, .ref q_wordAt]))]) (w1 := []) [.int p1] [] [] [0] hx hb hml hown hts (mX6_isAddress l dC dI cI H.size p1 h1) (va_cwS 1 hts gX6_digest_X6_isAddress rfl rfl rfl (by decide +kernel) ⟨Nat.le_of_ble_eq_true rfl, Nat.le_of_ble_eq_true rfl⟩) hK hN hP hD hS hA rfl rfl (by decide) (by decide) (by decide) rfl hl.1 rfl (Nat.le_of_ble_eq_true rfl) dX6_digest_1 ⟨Nat.zero_le _, Nat.zero_le _⟩ (fun H locs hP hD hS hz1 => ?_)
  have hP : va_P (dC, dI) vwCl [(h0, .inr (6, [.int v_routers, .ref q_parentOf, .ref q_addressOf, .ref q_depthOf, .int v_percent, .int v_random, .int v_distance, .int v_offset, .int v_value, .int v_isMade, .ref q_marks, .int v_received, .int v_unmarked, .ref q_missing, .int v_nodes, .ref q_nodeAddresses, .ref q_nodeDistances, .ref q_nodeParents, .int v_found, .ref q_foundAddress, .ref q_foundDistance, .ref q_foundParent, .int v_words, .ref q_wordAt]))] H := hP
  have hD : va_D A [(h0, .inr (6, [.int v_routers, .ref q_parentOf, .ref q_addressOf, .ref q_depthOf, .int v_percent, .int v_random, .int v_distance, .int v_offset, .int v_value, .int v_isMade, .ref q_marks, .int v_received, .int v_unmarked, .ref q_missing, .int v_nodes, .ref q_nodeAddresses, .ref q_nodeDistances, .ref q_nodeParents, .int v_found, .ref q_foundAddress, .ref q_foundDistance, .ref q_foundParent, .int v_words, .ref q_wordAt]))] := hD
  refine lv_if_eq (tgt := 14) hx hb dX6_digest_4 (by decide) (fun c2 => ?_) (fun c2 => ?_)
  · have h := it_p c2 h
    refine lv_bipush (v := (-2 : Int32)) hx hb dX6_digest_14 (by decide) ?_
    have hk0 := Option.some.inj h
    cases hk0
    exact re_i [0] hx hb hr hlocks rfl hP hD hS rfl (by decide) rfl dX6_digest_16
  · have h := it_n c2 h
    refine lv_iload_n hx hb dX6_digest_7 rfl (lv_at hl 1 rfl) ?_
    obtain ⟨r3, h3, h⟩ := bd1_e h
    refine ca_Si (wc := []) (wr := [(h0, .inr (6, [.int v_routers, .ref q_parentOf, .ref q_addressOf, .ref q_depthOf, .int v_percent, .int v_random, .int v_distance, .int v_offset, .int v_value, .int v_isMade, .ref q_marks, .int v_received, .int v_unmarked, .ref q_missing, .int v_nodes, .ref q_nodeAddresses, .ref q_nodeDistances, .ref q_nodeParents, .int v_found, .ref q_foundAddress, .ref q_foundDistance, .ref q_foundParent, .int v_words, .ref q_wordAt]))]) (w1 := []) [.int p1] [] [] [0] hx hb hml hown hts (mX6_digestOf l dC dI cI H.size p1 h3) (va_cwS 1 hts gX6_digest_X6_digestOf rfl rfl rfl (by decide +kernel) ⟨Nat.le_of_ble_eq_true rfl, Nat.le_of_ble_eq_true rfl⟩) hK hN hP hD hS hA rfl rfl (by decide) (by decide) (by decide) rfl hl.1 rfl (Nat.le_of_ble_eq_true rfl) dX6_digest_8 ⟨Nat.zero_le _, Nat.zero_le _⟩ (fun H locs hP hD hS hz3 => ?_)
    have hP : va_P (dC, dI) vwCl [(h0, .inr (6, [.int v_routers, .ref q_parentOf, .ref q_addressOf, .ref q_depthOf, .int v_percent, .int v_random, .int v_distance, .int v_offset, .int v_value, .int v_isMade, .ref q_marks, .int v_received, .int v_unmarked, .ref q_missing, .int v_nodes, .ref q_nodeAddresses, .ref q_nodeDistances, .ref q_nodeParents, .int v_found, .ref q_foundAddress, .ref q_foundDistance, .ref q_foundParent, .int v_words, .ref q_wordAt]))] H := hP
    have hD : va_D A [(h0, .inr (6, [.int v_routers, .ref q_parentOf, .ref q_addressOf, .ref q_depthOf, .int v_percent, .int v_random, .int v_distance, .int v_offset, .int v_value, .int v_isMade, .ref q_marks, .int v_received, .int v_unmarked, .ref q_missing, .int v_nodes, .ref q_nodeAddresses, .ref q_nodeDistances, .ref q_nodeParents, .int v_found, .ref q_foundAddress, .ref q_foundDistance, .ref q_foundParent, .int v_words, .ref q_wordAt]))] := hD
    refine lv_goto (tgt := 16) hx hb dX6_digest_11 (by decide) ?_
    have hk0 := Option.some.inj h
    cases hk0
    exact re_i [0] hx hb hr hlocks rfl hP hD hS rfl (by decide) rfl dX6_digest_16
def fX6_wordOf (p0 : Int32) : Option (Int32) :=
  bd1 (fX6_digestOf p0) fun r1 =>
  some (((256 : Int32) * p0) + r1)
set_option maxHeartbeats 4000000 in
set_option maxRecDepth 100000 in
theorem mX6_wordOf (l : Launch) (dC : Nat → ClassId) (dI : Nat → Nat → Nat) (cI : ClassId) (sz : Nat) (p0 : Int32) {rr : Int32} (h : fX6_wordOf p0 = some rr) : Met l yX6_wordOf wsX6_wordOf ({ frames := 1, cells := 0, slots := 0, locals := 20 } : Room) (prX dC dI cI [.int p0] sz []) (poI dC dI .int rr [] (va_A [] sz)) 0 0 (va_A [] sz) := by
  refine ofX (cc := cX6_wordOf) (maxL := 1) (ret := (some .int)) (lv0 := [(0, .int p0)]) (QA := fun A => poI dC dI .int rr [] A) (by decide) rfl (Nat.le_of_ble_eq_true rfl) rfl ?_
  intro p e s m below meth c A ls H locs hx hb hr hml hown hts hlocks hin hK hN hA hP hD hS hl
  have hown : s.vm.findClass RX6 = some m.cls := hown
  unfold fX6_wordOf at h
  refine lv_sipush (v := (256 : Int32)) hx hb dX6_wordOf_0 (by decide) ?_
  refine lv_iload_n hx hb dX6_wordOf_3 rfl (lv_at hl 0 rfl) ?_
  refine lv_imul hx hb dX6_wordOf_4 ?_
  refine lv_iload_n hx hb dX6_wordOf_5 rfl (lv_at hl 0 rfl) ?_
  obtain ⟨r1, h1, h⟩ := bd1_e h
  refine ca_Si (wc := []) (wr := []) (w1 := []) [.int p0] [.int ((256 : Int32) * p0)] [] [] hx hb hml hown hts (mX6_digestOf l dC dI cI H.size p0 h1) (va_cwS 1 hts gX6_wordOf_X6_digestOf rfl rfl rfl (by decide +kernel) ⟨Nat.le_of_ble_eq_true rfl, Nat.le_of_ble_eq_true rfl⟩) hK hN hP hD hS hA rfl rfl (by decide) (by decide) (by decide) rfl hl.1 rfl (Nat.le_of_ble_eq_true rfl) dX6_wordOf_6 ⟨Nat.zero_le _, Nat.zero_le _⟩ (fun H locs hP hD hS hz1 => ?_)
  have hP : va_P (dC, dI) vwCl [] H := hP
  have hD : va_D A [] := hD
  refine lv_iadd hx hb dX6_wordOf_9 ?_
  have hk0 := Option.some.inj h
  cases hk0
  exact re_i [] hx hb hr hlocks rfl hP hD hS rfl (by decide) rfl dX6_wordOf_10
def fX6_fragmentOf (p0 : Int32) (p1 : Int32) : Option (Int32) :=
  some ((p0 >>> (((5 : Int32) * p1) &&& 31)) &&& (31 : Int32))
set_option maxHeartbeats 4000000 in
set_option maxRecDepth 100000 in
theorem mX6_fragmentOf (l : Launch) (dC : Nat → ClassId) (dI : Nat → Nat → Nat) (cI : ClassId) (sz : Nat) (p0 : Int32) (p1 : Int32) {rr : Int32} (h : fX6_fragmentOf p0 p1 = some rr) : Met l yX6_fragmentOf wsX6_fragmentOf ({ frames := 0, cells := 0, slots := 0, locals := 0 } : Room) (prX dC dI cI [.int p0, .int p1] sz []) (poI dC dI .int rr [] (va_A [] sz)) 0 0 (va_A [] sz) := by
  refine ofX (cc := cX6_fragmentOf) (maxL := 2) (ret := (some .int)) (lv0 := [(0, .int p0), (1, .int p1)]) (QA := fun A => poI dC dI .int rr [] A) (by decide) rfl (Nat.le_of_ble_eq_true rfl) rfl ?_
  intro p e s m below meth c A ls H locs hx hb hr hml hown hts hlocks hin hK hN hA hP hD hS hl
  have hown : s.vm.findClass RX6 = some m.cls := hown
  unfold fX6_fragmentOf at h
  refine lv_iload_n hx hb dX6_fragmentOf_0 rfl (lv_at hl 0 rfl) ?_
  refine lv_iconst (v := (5 : Int32)) hx hb dX6_fragmentOf_1 (by decide) ?_
  refine lv_iload_n hx hb dX6_fragmentOf_2 rfl (lv_at hl 1 rfl) ?_
  refine lv_imul hx hb dX6_fragmentOf_3 ?_
  refine lv_ishr hx hb dX6_fragmentOf_4 ?_
  refine lv_bipush (v := (31 : Int32)) hx hb dX6_fragmentOf_5 (by decide) ?_
  refine lv_iand hx hb dX6_fragmentOf_7 ?_
  have hk0 := Option.some.inj h
  cases hk0
  exact re_i [] hx hb hr hlocks rfl hP hD hS rfl (by decide) rfl dX6_fragmentOf_8
def fX6_fragment (p1 : Int32) (p2 : Int32) : Option (Int32) :=
  bd1 (fX6_isAddress p1) fun r1 =>
  if r1 = 0 then
    some (-2 : Int32)
  else
    bd1 (fX6_within p2 (0 : Int32) (3 : Int32)) fun r3 =>
    if r3 = 0 then
      some (-2 : Int32)
    else
      bd1 (fX6_wordOf p1) fun r5 =>
      bd1 (fX6_fragmentOf r5 p2) fun r6 =>
      some r6
set_option maxHeartbeats 4000000 in
set_option maxRecDepth 100000 in
theorem mX6_fragment (l : Launch) (dC : Nat → ClassId) (dI : Nat → Nat → Nat) (cI : ClassId) (sz : Nat) (h0 : Nat) (q_parentOf : Nat) (q_addressOf : Nat) (q_depthOf : Nat) (q_marks : Nat) (q_missing : Nat) (q_nodeAddresses : Nat) (q_nodeDistances : Nat) (q_nodeParents : Nat) (q_foundAddress : Nat) (q_foundDistance : Nat) (q_foundParent : Nat) (q_wordAt : Nat) (v_routers : Int32) (v_percent : Int32) (v_random : Int32) (v_distance : Int32) (v_offset : Int32) (v_value : Int32) (v_isMade : Int32) (v_received : Int32) (v_unmarked : Int32) (v_nodes : Int32) (v_found : Int32) (v_words : Int32) (p1 : Int32) (p2 : Int32) {rr : Int32} (h : fX6_fragment p1 p2 = some rr) : Met l yX6_fragment wsX6_fragment ({ frames := 2, cells := 0, slots := 0, locals := 42 } : Room) (prX dC dI cI [.ref h0, .int p1, .int p2] sz [(h0, .inr (6, [.int v_routers, .ref q_parentOf, .ref q_addressOf, .ref q_depthOf, .int v_percent, .int v_random, .int v_distance, .int v_offset, .int v_value, .int v_isMade, .ref q_marks, .int v_received, .int v_unmarked, .ref q_missing, .int v_nodes, .ref q_nodeAddresses, .ref q_nodeDistances, .ref q_nodeParents, .int v_found, .ref q_foundAddress, .ref q_foundDistance, .ref q_foundParent, .int v_words, .ref q_wordAt]))]) (poI dC dI .int rr [(h0, .inr (6, [.int v_routers, .ref q_parentOf, .ref q_addressOf, .ref q_depthOf, .int v_percent, .int v_random, .int v_distance, .int v_offset, .int v_value, .int v_isMade, .ref q_marks, .int v_received, .int v_unmarked, .ref q_missing, .int v_nodes, .ref q_nodeAddresses, .ref q_nodeDistances, .ref q_nodeParents, .int v_found, .ref q_foundAddress, .ref q_foundDistance, .ref q_foundParent, .int v_words, .ref q_wordAt]))] (va_A [(h0, .inr (6, [.int v_routers, .ref q_parentOf, .ref q_addressOf, .ref q_depthOf, .int v_percent, .int v_random, .int v_distance, .int v_offset, .int v_value, .int v_isMade, .ref q_marks, .int v_received, .int v_unmarked, .ref q_missing, .int v_nodes, .ref q_nodeAddresses, .ref q_nodeDistances, .ref q_nodeParents, .int v_found, .ref q_foundAddress, .ref q_foundDistance, .ref q_foundParent, .int v_words, .ref q_wordAt]))] sz)) 0 0 (va_A [(h0, .inr (6, [.int v_routers, .ref q_parentOf, .ref q_addressOf, .ref q_depthOf, .int v_percent, .int v_random, .int v_distance, .int v_offset, .int v_value, .int v_isMade, .ref q_marks, .int v_received, .int v_unmarked, .ref q_missing, .int v_nodes, .ref q_nodeAddresses, .ref q_nodeDistances, .ref q_nodeParents, .int v_found, .ref q_foundAddress, .ref q_foundDistance, .ref q_foundParent, .int v_words, .ref q_wordAt]))] sz) := by
  refine ofX (cc := cX6_fragment) (maxL := 3) (ret := (some .int)) (lv0 := [(0, .ref h0), (1, .int p1), (2, .int p2)]) (QA := fun A => poI dC dI .int rr [(h0, .inr (6, [.int v_routers, .ref q_parentOf, .ref q_addressOf, .ref q_depthOf, .int v_percent, .int v_random, .int v_distance, .int v_offset, .int v_value, .int v_isMade, .ref q_marks, .int v_received, .int v_unmarked, .ref q_missing, .int v_nodes, .ref q_nodeAddresses, .ref q_nodeDistances, .ref q_nodeParents, .int v_found, .ref q_foundAddress, .ref q_foundDistance, .ref q_foundParent, .int v_words, .ref q_wordAt]))] A) (by decide) rfl (Nat.le_of_ble_eq_true rfl) rfl ?_
  intro p e s m below meth c A ls H locs hx hb hr hml hown hts hlocks hin hK hN hA hP hD hS hl
  have hown : s.vm.findClass RX6 = some m.cls := hown
  unfold fX6_fragment at h
  refine lv_iload_n hx hb dX6_fragment_0 rfl (lv_at hl 1 rfl) ?_
  obtain ⟨r1, h1, h⟩ := bd1_e h
  refine ca_Si (wc := []) (wr := [(h0, .inr (6, [.int v_routers, .ref q_parentOf, .ref q_addressOf, .ref q_depthOf, .int v_percent, .int v_random, .int v_distance, .int v_offset, .int v_value, .int v_isMade, .ref q_marks, .int v_received, .int v_unmarked, .ref q_missing, .int v_nodes, .ref q_nodeAddresses, .ref q_nodeDistances, .ref q_nodeParents, .int v_found, .ref q_foundAddress, .ref q_foundDistance, .ref q_foundParent, .int v_words, .ref q_wordAt]))]) (w1 := []) [.int p1] [] [] [0] hx hb hml hown hts (mX6_isAddress l dC dI cI H.size p1 h1) (va_cwS 1 hts gX6_fragment_X6_isAddress rfl rfl rfl (by decide +kernel) ⟨Nat.le_of_ble_eq_true rfl, Nat.le_of_ble_eq_true rfl⟩) hK hN hP hD hS hA rfl rfl (by decide) (by decide) (by decide) rfl hl.1 rfl (Nat.le_of_ble_eq_true rfl) dX6_fragment_1 ⟨Nat.zero_le _, Nat.zero_le _⟩ (fun H locs hP hD hS hz1 => ?_)
  have hP : va_P (dC, dI) vwCl [(h0, .inr (6, [.int v_routers, .ref q_parentOf, .ref q_addressOf, .ref q_depthOf, .int v_percent, .int v_random, .int v_distance, .int v_offset, .int v_value, .int v_isMade, .ref q_marks, .int v_received, .int v_unmarked, .ref q_missing, .int v_nodes, .ref q_nodeAddresses, .ref q_nodeDistances, .ref q_nodeParents, .int v_found, .ref q_foundAddress, .ref q_foundDistance, .ref q_foundParent, .int v_words, .ref q_wordAt]))] H := hP
  have hD : va_D A [(h0, .inr (6, [.int v_routers, .ref q_parentOf, .ref q_addressOf, .ref q_depthOf, .int v_percent, .int v_random, .int v_distance, .int v_offset, .int v_value, .int v_isMade, .ref q_marks, .int v_received, .int v_unmarked, .ref q_missing, .int v_nodes, .ref q_nodeAddresses, .ref q_nodeDistances, .ref q_nodeParents, .int v_found, .ref q_foundAddress, .ref q_foundDistance, .ref q_foundParent, .int v_words, .ref q_wordAt]))] := hD
  refine lv_if_eq (tgt := 27) hx hb dX6_fragment_4 (by decide) (fun c2 => ?_) (fun c2 => ?_)
  · have h := it_p c2 h
    refine lv_bipush (v := (-2 : Int32)) hx hb dX6_fragment_27 (by decide) ?_
    have hk0 := Option.some.inj h
    cases hk0
    exact re_i [0] hx hb hr hlocks rfl hP hD hS rfl (by decide) rfl dX6_fragment_29
  · have h := it_n c2 h
    refine lv_iload_n hx hb dX6_fragment_7 rfl (lv_at hl 2 rfl) ?_
    refine lv_iconst (v := (0 : Int32)) hx hb dX6_fragment_8 (by decide) ?_
    refine lv_iconst (v := (3 : Int32)) hx hb dX6_fragment_9 (by decide) ?_
    obtain ⟨r3, h3, h⟩ := bd1_e h
    refine ca_Si (wc := []) (wr := [(h0, .inr (6, [.int v_routers, .ref q_parentOf, .ref q_addressOf, .ref q_depthOf, .int v_percent, .int v_random, .int v_distance, .int v_offset, .int v_value, .int v_isMade, .ref q_marks, .int v_received, .int v_unmarked, .ref q_missing, .int v_nodes, .ref q_nodeAddresses, .ref q_nodeDistances, .ref q_nodeParents, .int v_found, .ref q_foundAddress, .ref q_foundDistance, .ref q_foundParent, .int v_words, .ref q_wordAt]))]) (w1 := []) [.int p2, .int (0 : Int32), .int (3 : Int32)] [] [] [0] hx hb hml hown hts (mX6_within l dC dI cI H.size p2 (0 : Int32) (3 : Int32) h3) (va_cwS 3 hts gX6_fragment_X6_within rfl rfl rfl (by decide +kernel) ⟨Nat.le_of_ble_eq_true rfl, Nat.le_of_ble_eq_true rfl⟩) hK hN hP hD hS hA rfl rfl (by decide) (by decide) (by decide) rfl hl.1 rfl (Nat.le_of_ble_eq_true rfl) dX6_fragment_10 ⟨Nat.zero_le _, Nat.zero_le _⟩ (fun H locs hP hD hS hz3 => ?_)
    have hP : va_P (dC, dI) vwCl [(h0, .inr (6, [.int v_routers, .ref q_parentOf, .ref q_addressOf, .ref q_depthOf, .int v_percent, .int v_random, .int v_distance, .int v_offset, .int v_value, .int v_isMade, .ref q_marks, .int v_received, .int v_unmarked, .ref q_missing, .int v_nodes, .ref q_nodeAddresses, .ref q_nodeDistances, .ref q_nodeParents, .int v_found, .ref q_foundAddress, .ref q_foundDistance, .ref q_foundParent, .int v_words, .ref q_wordAt]))] H := hP
    have hD : va_D A [(h0, .inr (6, [.int v_routers, .ref q_parentOf, .ref q_addressOf, .ref q_depthOf, .int v_percent, .int v_random, .int v_distance, .int v_offset, .int v_value, .int v_isMade, .ref q_marks, .int v_received, .int v_unmarked, .ref q_missing, .int v_nodes, .ref q_nodeAddresses, .ref q_nodeDistances, .ref q_nodeParents, .int v_found, .ref q_foundAddress, .ref q_foundDistance, .ref q_foundParent, .int v_words, .ref q_wordAt]))] := hD
    refine lv_if_eq (tgt := 27) hx hb dX6_fragment_13 (by decide) (fun c4 => ?_) (fun c4 => ?_)
    · have h := it_p c4 h
      refine lv_bipush (v := (-2 : Int32)) hx hb dX6_fragment_27 (by decide) ?_
      have hk0 := Option.some.inj h
      cases hk0
      exact re_i [0] hx hb hr hlocks rfl hP hD hS rfl (by decide) rfl dX6_fragment_29
    · have h := it_n c4 h
      refine lv_iload_n hx hb dX6_fragment_16 rfl (lv_at hl 1 rfl) ?_
      obtain ⟨r5, h5, h⟩ := bd1_e h
      refine ca_Si (wc := []) (wr := [(h0, .inr (6, [.int v_routers, .ref q_parentOf, .ref q_addressOf, .ref q_depthOf, .int v_percent, .int v_random, .int v_distance, .int v_offset, .int v_value, .int v_isMade, .ref q_marks, .int v_received, .int v_unmarked, .ref q_missing, .int v_nodes, .ref q_nodeAddresses, .ref q_nodeDistances, .ref q_nodeParents, .int v_found, .ref q_foundAddress, .ref q_foundDistance, .ref q_foundParent, .int v_words, .ref q_wordAt]))]) (w1 := []) [.int p1] [] [] [0] hx hb hml hown hts (mX6_wordOf l dC dI cI H.size p1 h5) (va_cwS 1 hts gX6_fragment_X6_wordOf rfl rfl rfl (by decide +kernel) ⟨Nat.le_of_ble_eq_true rfl, Nat.le_of_ble_eq_true rfl⟩) hK hN hP hD hS hA rfl rfl (by decide) (by decide) (by decide) rfl hl.1 rfl (Nat.le_of_ble_eq_true rfl) dX6_fragment_17 ⟨Nat.zero_le _, Nat.zero_le _⟩ (fun H locs hP hD hS hz5 => ?_)
      have hP : va_P (dC, dI) vwCl [(h0, .inr (6, [.int v_routers, .ref q_parentOf, .ref q_addressOf, .ref q_depthOf, .int v_percent, .int v_random, .int v_distance, .int v_offset, .int v_value, .int v_isMade, .ref q_marks, .int v_received, .int v_unmarked, .ref q_missing, .int v_nodes, .ref q_nodeAddresses, .ref q_nodeDistances, .ref q_nodeParents, .int v_found, .ref q_foundAddress, .ref q_foundDistance, .ref q_foundParent, .int v_words, .ref q_wordAt]))] H := hP
      have hD : va_D A [(h0, .inr (6, [.int v_routers, .ref q_parentOf, .ref q_addressOf, .ref q_depthOf, .int v_percent, .int v_random, .int v_distance, .int v_offset, .int v_value, .int v_isMade, .ref q_marks, .int v_received, .int v_unmarked, .ref q_missing, .int v_nodes, .ref q_nodeAddresses, .ref q_nodeDistances, .ref q_nodeParents, .int v_found, .ref q_foundAddress, .ref q_foundDistance, .ref q_foundParent, .int v_words, .ref q_wordAt]))] := hD
      refine lv_iload_n hx hb dX6_fragment_20 rfl (lv_at hl 2 rfl) ?_
      obtain ⟨r6, h6, h⟩ := bd1_e h
      refine ca_Si (wc := []) (wr := [(h0, .inr (6, [.int v_routers, .ref q_parentOf, .ref q_addressOf, .ref q_depthOf, .int v_percent, .int v_random, .int v_distance, .int v_offset, .int v_value, .int v_isMade, .ref q_marks, .int v_received, .int v_unmarked, .ref q_missing, .int v_nodes, .ref q_nodeAddresses, .ref q_nodeDistances, .ref q_nodeParents, .int v_found, .ref q_foundAddress, .ref q_foundDistance, .ref q_foundParent, .int v_words, .ref q_wordAt]))]) (w1 := []) [.int r5, .int p2] [] [] [0] hx hb hml hown hts (mX6_fragmentOf l dC dI cI H.size r5 p2 h6) (va_cwS 2 hts gX6_fragment_X6_fragmentOf rfl rfl rfl (by decide +kernel) ⟨Nat.le_of_ble_eq_true rfl, Nat.le_of_ble_eq_true rfl⟩) hK hN hP hD hS hA rfl rfl (by decide) (by decide) (by decide) rfl hl.1 rfl (Nat.le_of_ble_eq_true rfl) dX6_fragment_21 ⟨Nat.zero_le _, Nat.zero_le _⟩ (fun H locs hP hD hS hz6 => ?_)
      have hP : va_P (dC, dI) vwCl [(h0, .inr (6, [.int v_routers, .ref q_parentOf, .ref q_addressOf, .ref q_depthOf, .int v_percent, .int v_random, .int v_distance, .int v_offset, .int v_value, .int v_isMade, .ref q_marks, .int v_received, .int v_unmarked, .ref q_missing, .int v_nodes, .ref q_nodeAddresses, .ref q_nodeDistances, .ref q_nodeParents, .int v_found, .ref q_foundAddress, .ref q_foundDistance, .ref q_foundParent, .int v_words, .ref q_wordAt]))] H := hP
      have hD : va_D A [(h0, .inr (6, [.int v_routers, .ref q_parentOf, .ref q_addressOf, .ref q_depthOf, .int v_percent, .int v_random, .int v_distance, .int v_offset, .int v_value, .int v_isMade, .ref q_marks, .int v_received, .int v_unmarked, .ref q_missing, .int v_nodes, .ref q_nodeAddresses, .ref q_nodeDistances, .ref q_nodeParents, .int v_found, .ref q_foundAddress, .ref q_foundDistance, .ref q_foundParent, .int v_words, .ref q_wordAt]))] := hD
      refine lv_goto (tgt := 29) hx hb dX6_fragment_24 (by decide) ?_
      have hk0 := Option.some.inj h
      cases hk0
      exact re_i [0] hx hb hr hlocks rfl hP hD hS rfl (by decide) rfl dX6_fragment_29
def fX6_setMarkingPercent (p1 : Int32) (v_percent : Int32) : Option (Int32 × Int32) :=
  bd1 (fX6_within p1 (1 : Int32) (100 : Int32)) fun r1 =>
  if r1 = 0 then
    some ((-2 : Int32), v_percent)
  else
    some (v_percent, p1)
set_option maxHeartbeats 4000000 in
set_option maxRecDepth 100000 in
theorem mX6_setMarkingPercent (l : Launch) (dC : Nat → ClassId) (dI : Nat → Nat → Nat) (cI : ClassId) (sz : Nat) (h0 : Nat) (q_parentOf : Nat) (q_addressOf : Nat) (q_depthOf : Nat) (q_marks : Nat) (q_missing : Nat) (q_nodeAddresses : Nat) (q_nodeDistances : Nat) (q_nodeParents : Nat) (q_foundAddress : Nat) (q_foundDistance : Nat) (q_foundParent : Nat) (q_wordAt : Nat) (v_routers : Int32) (v_percent : Int32) (v_random : Int32) (v_distance : Int32) (v_offset : Int32) (v_value : Int32) (v_isMade : Int32) (v_received : Int32) (v_unmarked : Int32) (v_nodes : Int32) (v_found : Int32) (v_words : Int32) (p1 : Int32) {rr : Int32} {o_percent : Int32} (h : fX6_setMarkingPercent p1 v_percent = some (rr, o_percent)) : Met l yX6_setMarkingPercent wsX6_setMarkingPercent ({ frames := 1, cells := 0, slots := 0, locals := 22 } : Room) (prX dC dI cI [.ref h0, .int p1] sz [(h0, .inr (6, [.int v_routers, .ref q_parentOf, .ref q_addressOf, .ref q_depthOf, .int v_percent, .int v_random, .int v_distance, .int v_offset, .int v_value, .int v_isMade, .ref q_marks, .int v_received, .int v_unmarked, .ref q_missing, .int v_nodes, .ref q_nodeAddresses, .ref q_nodeDistances, .ref q_nodeParents, .int v_found, .ref q_foundAddress, .ref q_foundDistance, .ref q_foundParent, .int v_words, .ref q_wordAt]))]) (poI dC dI .int rr [(h0, .inr (6, [.int v_routers, .ref q_parentOf, .ref q_addressOf, .ref q_depthOf, .int o_percent, .int v_random, .int v_distance, .int v_offset, .int v_value, .int v_isMade, .ref q_marks, .int v_received, .int v_unmarked, .ref q_missing, .int v_nodes, .ref q_nodeAddresses, .ref q_nodeDistances, .ref q_nodeParents, .int v_found, .ref q_foundAddress, .ref q_foundDistance, .ref q_foundParent, .int v_words, .ref q_wordAt]))] (va_A [(h0, .inr (6, [.int v_routers, .ref q_parentOf, .ref q_addressOf, .ref q_depthOf, .int v_percent, .int v_random, .int v_distance, .int v_offset, .int v_value, .int v_isMade, .ref q_marks, .int v_received, .int v_unmarked, .ref q_missing, .int v_nodes, .ref q_nodeAddresses, .ref q_nodeDistances, .ref q_nodeParents, .int v_found, .ref q_foundAddress, .ref q_foundDistance, .ref q_foundParent, .int v_words, .ref q_wordAt]))] sz)) 0 0 (va_A [(h0, .inr (6, [.int v_routers, .ref q_parentOf, .ref q_addressOf, .ref q_depthOf, .int v_percent, .int v_random, .int v_distance, .int v_offset, .int v_value, .int v_isMade, .ref q_marks, .int v_received, .int v_unmarked, .ref q_missing, .int v_nodes, .ref q_nodeAddresses, .ref q_nodeDistances, .ref q_nodeParents, .int v_found, .ref q_foundAddress, .ref q_foundDistance, .ref q_foundParent, .int v_words, .ref q_wordAt]))] sz) := by
  refine ofX (cc := cX6_setMarkingPercent) (maxL := 3) (ret := (some .int)) (lv0 := [(0, .ref h0), (1, .int p1)]) (QA := fun A => poI dC dI .int rr [(h0, .inr (6, [.int v_routers, .ref q_parentOf, .ref q_addressOf, .ref q_depthOf, .int o_percent, .int v_random, .int v_distance, .int v_offset, .int v_value, .int v_isMade, .ref q_marks, .int v_received, .int v_unmarked, .ref q_missing, .int v_nodes, .ref q_nodeAddresses, .ref q_nodeDistances, .ref q_nodeParents, .int v_found, .ref q_foundAddress, .ref q_foundDistance, .ref q_foundParent, .int v_words, .ref q_wordAt]))] A) (by decide) rfl (Nat.le_of_ble_eq_true rfl) rfl ?_
  intro p e s m below meth c A ls H locs hx hb hr hml hown hts hlocks hin hK hN hA hP hD hS hl
  have hown : s.vm.findClass RX6 = some m.cls := hown
  unfold fX6_setMarkingPercent at h
  have hiX6 : ∀ w ∈ u_ws RX6 TX6 24, w ∈ wsX6_setMarkingPercent := fun _ h => List.mem_cons_of_mem _ (List.mem_append_right _ h)
  have hf46 := (hts (.fieldLink RX6 46 "PacketTracebackModel" "percent" "I") (List.mem_of_getElem? (i := 1) (by decide +kernel)))
  refine lv_iload_n hx hb dX6_setMarkingPercent_0 rfl (lv_at hl 1 rfl) ?_
  refine lv_iconst (v := (1 : Int32)) hx hb dX6_setMarkingPercent_1 (by decide) ?_
  refine lv_bipush (v := (100 : Int32)) hx hb dX6_setMarkingPercent_2 (by decide) ?_
  obtain ⟨r1, h1, h⟩ := bd1_e h
  refine ca_Si (wc := []) (wr := [(h0, .inr (6, [.int v_routers, .ref q_parentOf, .ref q_addressOf, .ref q_depthOf, .int v_percent, .int v_random, .int v_distance, .int v_offset, .int v_value, .int v_isMade, .ref q_marks, .int v_received, .int v_unmarked, .ref q_missing, .int v_nodes, .ref q_nodeAddresses, .ref q_nodeDistances, .ref q_nodeParents, .int v_found, .ref q_foundAddress, .ref q_foundDistance, .ref q_foundParent, .int v_words, .ref q_wordAt]))]) (w1 := []) [.int p1, .int (1 : Int32), .int (100 : Int32)] [] [] [0] hx hb hml hown hts (mX6_within l dC dI cI H.size p1 (1 : Int32) (100 : Int32) h1) (va_cwS 3 hts gX6_setMarkingPercent_X6_within rfl rfl rfl (by decide +kernel) ⟨Nat.le_of_ble_eq_true rfl, Nat.le_of_ble_eq_true rfl⟩) hK hN hP hD hS hA rfl rfl (by decide) (by decide) (by decide) rfl hl.1 rfl (Nat.le_of_ble_eq_true rfl) dX6_setMarkingPercent_4 ⟨Nat.zero_le _, Nat.zero_le _⟩ (fun H locs hP hD hS hz1 => ?_)
  have hP : va_P (dC, dI) vwCl [(h0, .inr (6, [.int v_routers, .ref q_parentOf, .ref q_addressOf, .ref q_depthOf, .int v_percent, .int v_random, .int v_distance, .int v_offset, .int v_value, .int v_isMade, .ref q_marks, .int v_received, .int v_unmarked, .ref q_missing, .int v_nodes, .ref q_nodeAddresses, .ref q_nodeDistances, .ref q_nodeParents, .int v_found, .ref q_foundAddress, .ref q_foundDistance, .ref q_foundParent, .int v_words, .ref q_wordAt]))] H := hP
  have hD : va_D A [(h0, .inr (6, [.int v_routers, .ref q_parentOf, .ref q_addressOf, .ref q_depthOf, .int v_percent, .int v_random, .int v_distance, .int v_offset, .int v_value, .int v_isMade, .ref q_marks, .int v_received, .int v_unmarked, .ref q_missing, .int v_nodes, .ref q_nodeAddresses, .ref q_nodeDistances, .ref q_nodeParents, .int v_found, .ref q_foundAddress, .ref q_foundDistance, .ref q_foundParent, .int v_words, .ref q_wordAt]))] := hD
  refine lv_if_ne (tgt := 13) hx hb dX6_setMarkingPercent_7 (by decide) (fun c2 => ?_) (fun c2 => ?_)
  · have h := it_n c2 h
    refine lv_aload_n hx hb dX6_setMarkingPercent_13 rfl (lv_at hl 0 rfl) ?_
    refine va_get (D := (dC, dI)) (ci := 6) (v := .int v_percent) (C := RX6) (T := TX6) (N := 24) hx hb hts hiX6 hown hK hP 0 rfl rfl 4 (by decide) hf46 (fun _ h9 => h9) rfl dX6_setMarkingPercent_14 ?_
    refine lv_istore_n (lv' := [(2, .int v_percent), (0, .ref h0), (1, .int p1)]) hx hb dX6_setMarkingPercent_17 rfl hl (by decide) rfl (fun ls hl => ?_)
    refine lv_aload_n hx hb dX6_setMarkingPercent_18 rfl (lv_at hl 1 rfl) ?_
    refine lv_iload_n hx hb dX6_setMarkingPercent_19 rfl (lv_at hl 2 rfl) ?_
    refine va_put (D := (dC, dI)) (ci := 6) (v := .int p1) (ty := .int) (C := RX6) (T := TX6) (N := 24) hx hb hts hiX6 tyX6 tyX6_ok nmX6 hown hK hP hD hS 0 rfl rfl 4 (by decide) hf46 (fun _ h9 => h9) rfl (by decide +kernel) rfl rfl (Nat.le_of_ble_eq_true rfl) dX6_setMarkingPercent_20 (fun H locs hP hD hS => ?_)
    have hP : va_P (dC, dI) vwCl [(h0, .inr (6, [.int v_routers, .ref q_parentOf, .ref q_addressOf, .ref q_depthOf, .int p1, .int v_random, .int v_distance, .int v_offset, .int v_value, .int v_isMade, .ref q_marks, .int v_received, .int v_unmarked, .ref q_missing, .int v_nodes, .ref q_nodeAddresses, .ref q_nodeDistances, .ref q_nodeParents, .int v_found, .ref q_foundAddress, .ref q_foundDistance, .ref q_foundParent, .int v_words, .ref q_wordAt]))] H := hP
    have hD : va_D A [(h0, .inr (6, [.int v_routers, .ref q_parentOf, .ref q_addressOf, .ref q_depthOf, .int p1, .int v_random, .int v_distance, .int v_offset, .int v_value, .int v_isMade, .ref q_marks, .int v_received, .int v_unmarked, .ref q_missing, .int v_nodes, .ref q_nodeAddresses, .ref q_nodeDistances, .ref q_nodeParents, .int v_found, .ref q_foundAddress, .ref q_foundDistance, .ref q_foundParent, .int v_words, .ref q_wordAt]))] := hD
    refine lv_iload_n hx hb dX6_setMarkingPercent_23 rfl (lv_at hl 0 rfl) ?_
    have hk0 := Option.some.inj h
    cases hk0
    exact re_i [0] hx hb hr hlocks rfl hP hD hS rfl (by decide) rfl dX6_setMarkingPercent_24
  · have h := it_p c2 h
    refine lv_bipush (v := (-2 : Int32)) hx hb dX6_setMarkingPercent_10 (by decide) ?_
    have hk0 := Option.some.inj h
    cases hk0
    exact re_i [0] hx hb hr hlocks rfl hP hD hS rfl (by decide) rfl dX6_setMarkingPercent_12
def fX6_setSeed (p1 : Int32) (v_random : Int32) : Option (Int32 × Int32) :=
  some (v_random, p1)
set_option maxHeartbeats 4000000 in
set_option maxRecDepth 100000 in
theorem mX6_setSeed (l : Launch) (dC : Nat → ClassId) (dI : Nat → Nat → Nat) (cI : ClassId) (sz : Nat) (h0 : Nat) (q_parentOf : Nat) (q_addressOf : Nat) (q_depthOf : Nat) (q_marks : Nat) (q_missing : Nat) (q_nodeAddresses : Nat) (q_nodeDistances : Nat) (q_nodeParents : Nat) (q_foundAddress : Nat) (q_foundDistance : Nat) (q_foundParent : Nat) (q_wordAt : Nat) (v_routers : Int32) (v_percent : Int32) (v_random : Int32) (v_distance : Int32) (v_offset : Int32) (v_value : Int32) (v_isMade : Int32) (v_received : Int32) (v_unmarked : Int32) (v_nodes : Int32) (v_found : Int32) (v_words : Int32) (p1 : Int32) {rr : Int32} {o_random : Int32} (h : fX6_setSeed p1 v_random = some (rr, o_random)) : Met l yX6_setSeed wsX6_setSeed ({ frames := 0, cells := 0, slots := 0, locals := 0 } : Room) (prX dC dI cI [.ref h0, .int p1] sz [(h0, .inr (6, [.int v_routers, .ref q_parentOf, .ref q_addressOf, .ref q_depthOf, .int v_percent, .int v_random, .int v_distance, .int v_offset, .int v_value, .int v_isMade, .ref q_marks, .int v_received, .int v_unmarked, .ref q_missing, .int v_nodes, .ref q_nodeAddresses, .ref q_nodeDistances, .ref q_nodeParents, .int v_found, .ref q_foundAddress, .ref q_foundDistance, .ref q_foundParent, .int v_words, .ref q_wordAt]))]) (poI dC dI .int rr [(h0, .inr (6, [.int v_routers, .ref q_parentOf, .ref q_addressOf, .ref q_depthOf, .int v_percent, .int o_random, .int v_distance, .int v_offset, .int v_value, .int v_isMade, .ref q_marks, .int v_received, .int v_unmarked, .ref q_missing, .int v_nodes, .ref q_nodeAddresses, .ref q_nodeDistances, .ref q_nodeParents, .int v_found, .ref q_foundAddress, .ref q_foundDistance, .ref q_foundParent, .int v_words, .ref q_wordAt]))] (va_A [(h0, .inr (6, [.int v_routers, .ref q_parentOf, .ref q_addressOf, .ref q_depthOf, .int v_percent, .int v_random, .int v_distance, .int v_offset, .int v_value, .int v_isMade, .ref q_marks, .int v_received, .int v_unmarked, .ref q_missing, .int v_nodes, .ref q_nodeAddresses, .ref q_nodeDistances, .ref q_nodeParents, .int v_found, .ref q_foundAddress, .ref q_foundDistance, .ref q_foundParent, .int v_words, .ref q_wordAt]))] sz)) 0 0 (va_A [(h0, .inr (6, [.int v_routers, .ref q_parentOf, .ref q_addressOf, .ref q_depthOf, .int v_percent, .int v_random, .int v_distance, .int v_offset, .int v_value, .int v_isMade, .ref q_marks, .int v_received, .int v_unmarked, .ref q_missing, .int v_nodes, .ref q_nodeAddresses, .ref q_nodeDistances, .ref q_nodeParents, .int v_found, .ref q_foundAddress, .ref q_foundDistance, .ref q_foundParent, .int v_words, .ref q_wordAt]))] sz) := by
  refine ofX (cc := cX6_setSeed) (maxL := 3) (ret := (some .int)) (lv0 := [(0, .ref h0), (1, .int p1)]) (QA := fun A => poI dC dI .int rr [(h0, .inr (6, [.int v_routers, .ref q_parentOf, .ref q_addressOf, .ref q_depthOf, .int v_percent, .int o_random, .int v_distance, .int v_offset, .int v_value, .int v_isMade, .ref q_marks, .int v_received, .int v_unmarked, .ref q_missing, .int v_nodes, .ref q_nodeAddresses, .ref q_nodeDistances, .ref q_nodeParents, .int v_found, .ref q_foundAddress, .ref q_foundDistance, .ref q_foundParent, .int v_words, .ref q_wordAt]))] A) (by decide) rfl (Nat.le_of_ble_eq_true rfl) rfl ?_
  intro p e s m below meth c A ls H locs hx hb hr hml hown hts hlocks hin hK hN hA hP hD hS hl
  have hown : s.vm.findClass RX6 = some m.cls := hown
  unfold fX6_setSeed at h
  have hiX6 : ∀ w ∈ u_ws RX6 TX6 24, w ∈ wsX6_setSeed := fun _ h => List.mem_cons_of_mem _ (List.mem_append_right _ h)
  have hf50 := (hts (.fieldLink RX6 50 "PacketTracebackModel" "random" "I") (List.mem_of_getElem? (i := 1) (by decide +kernel)))
  refine lv_aload_n hx hb dX6_setSeed_0 rfl (lv_at hl 0 rfl) ?_
  refine va_get (D := (dC, dI)) (ci := 6) (v := .int v_random) (C := RX6) (T := TX6) (N := 24) hx hb hts hiX6 hown hK hP 0 rfl rfl 5 (by decide) hf50 (fun _ h9 => h9) rfl dX6_setSeed_1 ?_
  refine lv_istore_n (lv' := [(2, .int v_random), (0, .ref h0), (1, .int p1)]) hx hb dX6_setSeed_4 rfl hl (by decide) rfl (fun ls hl => ?_)
  refine lv_aload_n hx hb dX6_setSeed_5 rfl (lv_at hl 1 rfl) ?_
  refine lv_iload_n hx hb dX6_setSeed_6 rfl (lv_at hl 2 rfl) ?_
  refine va_put (D := (dC, dI)) (ci := 6) (v := .int p1) (ty := .int) (C := RX6) (T := TX6) (N := 24) hx hb hts hiX6 tyX6 tyX6_ok nmX6 hown hK hP hD hS 0 rfl rfl 5 (by decide) hf50 (fun _ h9 => h9) rfl (by decide +kernel) rfl rfl (Nat.le_of_ble_eq_true rfl) dX6_setSeed_7 (fun H locs hP hD hS => ?_)
  have hP : va_P (dC, dI) vwCl [(h0, .inr (6, [.int v_routers, .ref q_parentOf, .ref q_addressOf, .ref q_depthOf, .int v_percent, .int p1, .int v_distance, .int v_offset, .int v_value, .int v_isMade, .ref q_marks, .int v_received, .int v_unmarked, .ref q_missing, .int v_nodes, .ref q_nodeAddresses, .ref q_nodeDistances, .ref q_nodeParents, .int v_found, .ref q_foundAddress, .ref q_foundDistance, .ref q_foundParent, .int v_words, .ref q_wordAt]))] H := hP
  have hD : va_D A [(h0, .inr (6, [.int v_routers, .ref q_parentOf, .ref q_addressOf, .ref q_depthOf, .int v_percent, .int p1, .int v_distance, .int v_offset, .int v_value, .int v_isMade, .ref q_marks, .int v_received, .int v_unmarked, .ref q_missing, .int v_nodes, .ref q_nodeAddresses, .ref q_nodeDistances, .ref q_nodeParents, .int v_found, .ref q_foundAddress, .ref q_foundDistance, .ref q_foundParent, .int v_words, .ref q_wordAt]))] := hD
  refine lv_iload_n hx hb dX6_setSeed_10 rfl (lv_at hl 0 rfl) ?_
  have hk0 := Option.some.inj h
  cases hk0
  exact re_i [0] hx hb hr hlocks rfl hP hD hS rfl (by decide) rfl dX6_setSeed_11
def bX6_clearMarks_7 (y1_7 : Int32) (y2_7 : Int32) (a_marks_7 : Nat → Int32) : Option ((Int32 × (Nat → Int32)) ⊕ (Int32 × Int32 × Int32 × (Nat → Int32))) :=
  if (4096 : Int32) ≤ y2_7 then
    some (.inr (y1_7, (0 : Int32), (0 : Int32), a_marks_7))
  else
    if ¬ (y2_7 < 0 ∨ 4096 ≤ y2_7.toNatClampNeg) then
      some (.inl ((y2_7 + 1), (upd a_marks_7 y2_7.toNatClampNeg (0 : Int32))))
    else none
def fX6_clearMarks (N : Nat) (v_received : Int32) (a_marks : Nat → Int32) : Option (Int32 × Int32 × Int32 × (Nat → Int32)) :=
  lp (fun s => bX6_clearMarks_7 v_received s.1 s.2) N ((0 : Int32), a_marks)
set_option maxHeartbeats 4000000 in
set_option maxRecDepth 100000 in
theorem mX6_clearMarks (l : Launch) (dC : Nat → ClassId) (dI : Nat → Nat → Nat) (cI : ClassId) (sz : Nat) (N : Nat) (h0 : Nat) (q_parentOf : Nat) (q_addressOf : Nat) (q_depthOf : Nat) (q_marks : Nat) (q_missing : Nat) (q_nodeAddresses : Nat) (q_nodeDistances : Nat) (q_nodeParents : Nat) (q_foundAddress : Nat) (q_foundDistance : Nat) (q_foundParent : Nat) (q_wordAt : Nat) (v_routers : Int32) (v_percent : Int32) (v_random : Int32) (v_distance : Int32) (v_offset : Int32) (v_value : Int32) (v_isMade : Int32) (v_received : Int32) (v_unmarked : Int32) (v_nodes : Int32) (v_found : Int32) (v_words : Int32) (a_marks : Nat → Int32) {rr : Int32} {o_received : Int32} {o_unmarked : Int32} {o_marks : Nat → Int32} (h : fX6_clearMarks N v_received a_marks = some (rr, o_received, o_unmarked, o_marks)) : Met l yX6_clearMarks wsX6_clearMarks ({ frames := 0, cells := 0, slots := 0, locals := 0 } : Room) (prX dC dI cI [.ref h0] sz [(h0, .inr (6, [.int v_routers, .ref q_parentOf, .ref q_addressOf, .ref q_depthOf, .int v_percent, .int v_random, .int v_distance, .int v_offset, .int v_value, .int v_isMade, .ref q_marks, .int v_received, .int v_unmarked, .ref q_missing, .int v_nodes, .ref q_nodeAddresses, .ref q_nodeDistances, .ref q_nodeParents, .int v_found, .ref q_foundAddress, .ref q_foundDistance, .ref q_foundParent, .int v_words, .ref q_wordAt])), (q_marks, .inl (cI, 4096, .inl a_marks))]) (poI dC dI .int rr [(h0, .inr (6, [.int v_routers, .ref q_parentOf, .ref q_addressOf, .ref q_depthOf, .int v_percent, .int v_random, .int v_distance, .int v_offset, .int v_value, .int v_isMade, .ref q_marks, .int o_received, .int o_unmarked, .ref q_missing, .int v_nodes, .ref q_nodeAddresses, .ref q_nodeDistances, .ref q_nodeParents, .int v_found, .ref q_foundAddress, .ref q_foundDistance, .ref q_foundParent, .int v_words, .ref q_wordAt])), (q_marks, .inl (cI, 4096, .inl o_marks))] (va_A [(h0, .inr (6, [.int v_routers, .ref q_parentOf, .ref q_addressOf, .ref q_depthOf, .int v_percent, .int v_random, .int v_distance, .int v_offset, .int v_value, .int v_isMade, .ref q_marks, .int v_received, .int v_unmarked, .ref q_missing, .int v_nodes, .ref q_nodeAddresses, .ref q_nodeDistances, .ref q_nodeParents, .int v_found, .ref q_foundAddress, .ref q_foundDistance, .ref q_foundParent, .int v_words, .ref q_wordAt])), (q_marks, .inl (cI, 4096, .inl a_marks))] sz)) 0 0 (va_A [(h0, .inr (6, [.int v_routers, .ref q_parentOf, .ref q_addressOf, .ref q_depthOf, .int v_percent, .int v_random, .int v_distance, .int v_offset, .int v_value, .int v_isMade, .ref q_marks, .int v_received, .int v_unmarked, .ref q_missing, .int v_nodes, .ref q_nodeAddresses, .ref q_nodeDistances, .ref q_nodeParents, .int v_found, .ref q_foundAddress, .ref q_foundDistance, .ref q_foundParent, .int v_words, .ref q_wordAt])), (q_marks, .inl (cI, 4096, .inl a_marks))] sz) := by
  refine ofX (cc := cX6_clearMarks) (maxL := 3) (ret := (some .int)) (lv0 := [(0, .ref h0)]) (QA := fun A => poI dC dI .int rr [(h0, .inr (6, [.int v_routers, .ref q_parentOf, .ref q_addressOf, .ref q_depthOf, .int v_percent, .int v_random, .int v_distance, .int v_offset, .int v_value, .int v_isMade, .ref q_marks, .int o_received, .int o_unmarked, .ref q_missing, .int v_nodes, .ref q_nodeAddresses, .ref q_nodeDistances, .ref q_nodeParents, .int v_found, .ref q_foundAddress, .ref q_foundDistance, .ref q_foundParent, .int v_words, .ref q_wordAt])), (q_marks, .inl (cI, 4096, .inl o_marks))] A) (by decide) rfl (Nat.le_of_ble_eq_true rfl) rfl ?_
  intro p e s m below meth c A ls H locs hx hb hr hml hown hts hlocks hin hK hN hA hP hD hS hl
  have hown : s.vm.findClass RX6 = some m.cls := hown
  unfold fX6_clearMarks at h
  have hiX6 : ∀ w ∈ u_ws RX6 TX6 24, w ∈ wsX6_clearMarks := fun _ h => List.mem_cons_of_mem _ (List.mem_append_right _ h)
  have hf103 := (hts (.fieldLink RX6 103 "PacketTracebackModel" "received" "I") (List.mem_of_getElem? (i := 1) (by decide +kernel)))
  have hf106 := (hts (.fieldLink RX6 106 "PacketTracebackModel" "unmarked" "I") (List.mem_of_getElem? (i := 3) (by decide +kernel)))
  have hf19 := (hts (.fieldLink RX6 19 "PacketTracebackModel" "marks" "[I") (List.mem_of_getElem? (i := 2) (by decide +kernel)))
  refine lv_aload_n hx hb dX6_clearMarks_0 rfl (lv_at hl 0 rfl) ?_
  refine va_get (D := (dC, dI)) (ci := 6) (v := .int v_received) (C := RX6) (T := TX6) (N := 24) hx hb hts hiX6 hown hK hP 0 rfl rfl 11 (by decide) hf103 (fun _ h9 => h9) rfl dX6_clearMarks_1 ?_
  refine lv_istore_n (lv' := [(1, .int v_received), (0, .ref h0)]) hx hb dX6_clearMarks_4 rfl hl (by decide) rfl (fun ls hl => ?_)
  refine lv_iconst (v := (0 : Int32)) hx hb dX6_clearMarks_5 (by decide) ?_
  refine lv_istore_n (lv' := [(2, .int (0 : Int32)), (1, .int v_received), (0, .ref h0)]) hx hb dX6_clearMarks_6 rfl hl (by decide) rfl (fun ls hl => ?_)
  have key7 : ∀ (y1_7 : Int32) (n1 : Nat) (y2_7 : Int32) (a_marks_7 : Nat → Int32) (H : Heap) (locs : List Loc) (ls : Array Slot), lp (fun s => bX6_clearMarks_7 y1_7 s.1 s.2) n1 (y2_7, a_marks_7) = some (rr, o_received, o_unmarked, o_marks) → va_P (dC, dI) vwCl [(h0, .inr (6, [.int v_routers, .ref q_parentOf, .ref q_addressOf, .ref q_depthOf, .int v_percent, .int v_random, .int v_distance, .int v_offset, .int v_value, .int v_isMade, .ref q_marks, .int v_received, .int v_unmarked, .ref q_missing, .int v_nodes, .ref q_nodeAddresses, .ref q_nodeDistances, .ref q_nodeParents, .int v_found, .ref q_foundAddress, .ref q_foundDistance, .ref q_foundParent, .int v_words, .ref q_wordAt])), (q_marks, .inl (cI, 4096, .inl a_marks_7))] H → va_D A [(h0, .inr (6, [.int v_routers, .ref q_parentOf, .ref q_addressOf, .ref q_depthOf, .int v_percent, .int v_random, .int v_distance, .int v_offset, .int v_value, .int v_isMade, .ref q_marks, .int v_received, .int v_unmarked, .ref q_missing, .int v_nodes, .ref q_nodeAddresses, .ref q_nodeDistances, .ref q_nodeParents, .int v_found, .ref q_foundAddress, .ref q_foundDistance, .ref q_foundParent, .int v_words, .ref q_wordAt])), (q_marks, .inl (cI, 4096, .inl a_marks_7))] → va_S A s.heap H locs → lv_has ls 3 [(2, .int y2_7), (1, .int y1_7), (0, .ref h0)] → W p l e ({ frames := 0, cells := 0, slots := 0, locals := 0 } : Room) s m [.ref h0].toArray below meth c H locs 0 0 (MQ below (poI dC dI .int rr [(h0, .inr (6, [.int v_routers, .ref q_parentOf, .ref q_addressOf, .ref q_depthOf, .int v_percent, .int v_random, .int v_distance, .int v_offset, .int v_value, .int v_isMade, .ref q_marks, .int o_received, .int o_unmarked, .ref q_missing, .int v_nodes, .ref q_nodeAddresses, .ref q_nodeDistances, .ref q_nodeParents, .int v_found, .ref q_foundAddress, .ref q_foundDistance, .ref q_foundParent, .int v_words, .ref q_wordAt])), (q_marks, .inl (cI, 4096, .inl o_marks))] A) [.ref h0].toArray s 0 0 A) (F0 m 7 ls []) := by
    intro y1_7
    intro n1
    induction n1 with
    | zero =>
      intro y2_7 a_marks_7 H locs ls h
      exact (lp_0 h).elim
    | succ n1 ih1 =>
      intro y2_7 a_marks_7 H locs ls h hP hD hS hl
      obtain ⟨o1, h, hk1⟩ := lp_s h
      unfold bX6_clearMarks_7 at h
      try dsimp only at h
      refine lv_iload_n hx hb dX6_clearMarks_7 rfl (lv_at hl 0 rfl) ?_
      refine lv_sipush (v := (4096 : Int32)) hx hb dX6_clearMarks_8 (by decide) ?_
      refine lv_icmp_ge (tgt := 27) hx hb dX6_clearMarks_11 (by decide) (fun c1 => ?_) (fun c1 => ?_)
      · have h := it_p c1 h
        refine lv_aload_n hx hb dX6_clearMarks_27 rfl (lv_at hl 2 rfl) ?_
        refine lv_iconst (v := (0 : Int32)) hx hb dX6_clearMarks_28 (by decide) ?_
        refine va_put (D := (dC, dI)) (ci := 6) (v := .int (0 : Int32)) (ty := .int) (C := RX6) (T := TX6) (N := 24) hx hb hts hiX6 tyX6 tyX6_ok nmX6 hown hK hP hD hS 0 rfl rfl 11 (by decide) hf103 (fun _ h9 => h9) rfl (by decide +kernel) rfl rfl (Nat.le_of_ble_eq_true rfl) dX6_clearMarks_29 (fun H locs hP hD hS => ?_)
        have hP : va_P (dC, dI) vwCl [(h0, .inr (6, [.int v_routers, .ref q_parentOf, .ref q_addressOf, .ref q_depthOf, .int v_percent, .int v_random, .int v_distance, .int v_offset, .int v_value, .int v_isMade, .ref q_marks, .int (0 : Int32), .int v_unmarked, .ref q_missing, .int v_nodes, .ref q_nodeAddresses, .ref q_nodeDistances, .ref q_nodeParents, .int v_found, .ref q_foundAddress, .ref q_foundDistance, .ref q_foundParent, .int v_words, .ref q_wordAt])), (q_marks, .inl (cI, 4096, .inl a_marks_7))] H := hP
        have hD : va_D A [(h0, .inr (6, [.int v_routers, .ref q_parentOf, .ref q_addressOf, .ref q_depthOf, .int v_percent, .int v_random, .int v_distance, .int v_offset, .int v_value, .int v_isMade, .ref q_marks, .int (0 : Int32), .int v_unmarked, .ref q_missing, .int v_nodes, .ref q_nodeAddresses, .ref q_nodeDistances, .ref q_nodeParents, .int v_found, .ref q_foundAddress, .ref q_foundDistance, .ref q_foundParent, .int v_words, .ref q_wordAt])), (q_marks, .inl (cI, 4096, .inl a_marks_7))] := hD
        refine lv_aload_n hx hb dX6_clearMarks_32 rfl (lv_at hl 2 rfl) ?_
        refine lv_iconst (v := (0 : Int32)) hx hb dX6_clearMarks_33 (by decide) ?_
        refine va_put (D := (dC, dI)) (ci := 6) (v := .int (0 : Int32)) (ty := .int) (C := RX6) (T := TX6) (N := 24) hx hb hts hiX6 tyX6 tyX6_ok nmX6 hown hK hP hD hS 0 rfl rfl 12 (by decide) hf106 (fun _ h9 => h9) rfl (by decide +kernel) rfl rfl (Nat.le_of_ble_eq_true rfl) dX6_clearMarks_34 (fun H locs hP hD hS => ?_)
        have hP : va_P (dC, dI) vwCl [(h0, .inr (6, [.int v_routers, .ref q_parentOf, .ref q_addressOf, .ref q_depthOf, .int v_percent, .int v_random, .int v_distance, .int v_offset, .int v_value, .int v_isMade, .ref q_marks, .int (0 : Int32), .int (0 : Int32), .ref q_missing, .int v_nodes, .ref q_nodeAddresses, .ref q_nodeDistances, .ref q_nodeParents, .int v_found, .ref q_foundAddress, .ref q_foundDistance, .ref q_foundParent, .int v_words, .ref q_wordAt])), (q_marks, .inl (cI, 4096, .inl a_marks_7))] H := hP
        have hD : va_D A [(h0, .inr (6, [.int v_routers, .ref q_parentOf, .ref q_addressOf, .ref q_depthOf, .int v_percent, .int v_random, .int v_distance, .int v_offset, .int v_value, .int v_isMade, .ref q_marks, .int (0 : Int32), .int (0 : Int32), .ref q_missing, .int v_nodes, .ref q_nodeAddresses, .ref q_nodeDistances, .ref q_nodeParents, .int v_found, .ref q_foundAddress, .ref q_foundDistance, .ref q_foundParent, .int v_words, .ref q_wordAt])), (q_marks, .inl (cI, 4096, .inl a_marks_7))] := hD
        refine lv_iload_n hx hb dX6_clearMarks_37 rfl (lv_at hl 1 rfl) ?_
        cases Option.some.inj h
        have hk1 := un_r hk1
        cases hk1
        exact re_i [0, 1] hx hb hr hlocks rfl hP hD hS rfl (by decide) rfl dX6_clearMarks_38
      · have h := it_n c1 h
        refine lv_aload_n hx hb dX6_clearMarks_14 rfl (lv_at hl 2 rfl) ?_
        refine va_get (D := (dC, dI)) (ci := 6) (v := .ref q_marks) (C := RX6) (T := TX6) (N := 24) hx hb hts hiX6 hown hK hP 0 rfl rfl 10 (by decide) hf19 (fun _ h9 => h9) rfl dX6_clearMarks_15 ?_
        refine lv_iload_n hx hb dX6_clearMarks_18 rfl (lv_at hl 0 rfl) ?_
        refine lv_iconst (v := (0 : Int32)) hx hb dX6_clearMarks_19 (by decide) ?_
        obtain ⟨g2, h⟩ := gd_e h
        refine va_iast hx hb hK hP hD hS 1 0 rfl rfl g2 dX6_clearMarks_20 (fun H locs hP hD hS => ?_)
        have hP : va_P (dC, dI) vwCl [(h0, .inr (6, [.int v_routers, .ref q_parentOf, .ref q_addressOf, .ref q_depthOf, .int v_percent, .int v_random, .int v_distance, .int v_offset, .int v_value, .int v_isMade, .ref q_marks, .int v_received, .int v_unmarked, .ref q_missing, .int v_nodes, .ref q_nodeAddresses, .ref q_nodeDistances, .ref q_nodeParents, .int v_found, .ref q_foundAddress, .ref q_foundDistance, .ref q_foundParent, .int v_words, .ref q_wordAt])), (q_marks, .inl (cI, 4096, .inl (upd a_marks_7 y2_7.toNatClampNeg (0 : Int32))))] H := hP
        have hD : va_D A [(h0, .inr (6, [.int v_routers, .ref q_parentOf, .ref q_addressOf, .ref q_depthOf, .int v_percent, .int v_random, .int v_distance, .int v_offset, .int v_value, .int v_isMade, .ref q_marks, .int v_received, .int v_unmarked, .ref q_missing, .int v_nodes, .ref q_nodeAddresses, .ref q_nodeDistances, .ref q_nodeParents, .int v_found, .ref q_foundAddress, .ref q_foundDistance, .ref q_foundParent, .int v_words, .ref q_wordAt])), (q_marks, .inl (cI, 4096, .inl (upd a_marks_7 y2_7.toNatClampNeg (0 : Int32))))] := hD
        refine lv_iinc (v := y2_7 + 1) (lv' := [(2, .int (y2_7 + 1)), (1, .int y1_7), (0, .ref h0)]) hx hb dX6_clearMarks_21 hl (k := 0) rfl rfl (by decide) rfl (fun ls hl => ?_)
        refine lv_goto (tgt := 7) hx hb dX6_clearMarks_24 (by decide) ?_
        cases Option.some.inj h
        exact ih1 _ _ _ _ _ (un_l hk1) (hP.sub [0, 1] rfl) (hD.sub [0, 1] (by decide) rfl) hS (lv_sub hl [0, 1, 2] rfl)
  exact key7 v_received N _ _ _ _ _ h hP hD hS hl
def fX6_draws (v_random : Int32) : Option (Int32 × Int32) :=
  some (((usI ((v_random * (1103515245 : Int32)) + (12345 : Int32)) (16 : Int32)) &&& (32767 : Int32)), ((v_random * (1103515245 : Int32)) + (12345 : Int32)))
set_option maxHeartbeats 4000000 in
set_option maxRecDepth 100000 in
theorem mX6_draws (l : Launch) (dC : Nat → ClassId) (dI : Nat → Nat → Nat) (cI : ClassId) (sz : Nat) (h0 : Nat) (q_parentOf : Nat) (q_addressOf : Nat) (q_depthOf : Nat) (q_marks : Nat) (q_missing : Nat) (q_nodeAddresses : Nat) (q_nodeDistances : Nat) (q_nodeParents : Nat) (q_foundAddress : Nat) (q_foundDistance : Nat) (q_foundParent : Nat) (q_wordAt : Nat) (v_routers : Int32) (v_percent : Int32) (v_random : Int32) (v_distance : Int32) (v_offset : Int32) (v_value : Int32) (v_isMade : Int32) (v_received : Int32) (v_unmarked : Int32) (v_nodes : Int32) (v_found : Int32) (v_words : Int32) {rr : Int32} {o_random : Int32} (h : fX6_draws v_random = some (rr, o_random)) : Met l yX6_draws wsX6_draws ({ frames := 0, cells := 0, slots := 0, locals := 0 } : Room) (prX dC dI cI [.ref h0] sz [(h0, .inr (6, [.int v_routers, .ref q_parentOf, .ref q_addressOf, .ref q_depthOf, .int v_percent, .int v_random, .int v_distance, .int v_offset, .int v_value, .int v_isMade, .ref q_marks, .int v_received, .int v_unmarked, .ref q_missing, .int v_nodes, .ref q_nodeAddresses, .ref q_nodeDistances, .ref q_nodeParents, .int v_found, .ref q_foundAddress, .ref q_foundDistance, .ref q_foundParent, .int v_words, .ref q_wordAt]))]) (poI dC dI .int rr [(h0, .inr (6, [.int v_routers, .ref q_parentOf, .ref q_addressOf, .ref q_depthOf, .int v_percent, .int o_random, .int v_distance, .int v_offset, .int v_value, .int v_isMade, .ref q_marks, .int v_received, .int v_unmarked, .ref q_missing, .int v_nodes, .ref q_nodeAddresses, .ref q_nodeDistances, .ref q_nodeParents, .int v_found, .ref q_foundAddress, .ref q_foundDistance, .ref q_foundParent, .int v_words, .ref q_wordAt]))] (va_A [(h0, .inr (6, [.int v_routers, .ref q_parentOf, .ref q_addressOf, .ref q_depthOf, .int v_percent, .int v_random, .int v_distance, .int v_offset, .int v_value, .int v_isMade, .ref q_marks, .int v_received, .int v_unmarked, .ref q_missing, .int v_nodes, .ref q_nodeAddresses, .ref q_nodeDistances, .ref q_nodeParents, .int v_found, .ref q_foundAddress, .ref q_foundDistance, .ref q_foundParent, .int v_words, .ref q_wordAt]))] sz)) 0 0 (va_A [(h0, .inr (6, [.int v_routers, .ref q_parentOf, .ref q_addressOf, .ref q_depthOf, .int v_percent, .int v_random, .int v_distance, .int v_offset, .int v_value, .int v_isMade, .ref q_marks, .int v_received, .int v_unmarked, .ref q_missing, .int v_nodes, .ref q_nodeAddresses, .ref q_nodeDistances, .ref q_nodeParents, .int v_found, .ref q_foundAddress, .ref q_foundDistance, .ref q_foundParent, .int v_words, .ref q_wordAt]))] sz) := by
  refine ofX (cc := cX6_draws) (maxL := 1) (ret := (some .int)) (lv0 := [(0, .ref h0)]) (QA := fun A => poI dC dI .int rr [(h0, .inr (6, [.int v_routers, .ref q_parentOf, .ref q_addressOf, .ref q_depthOf, .int v_percent, .int o_random, .int v_distance, .int v_offset, .int v_value, .int v_isMade, .ref q_marks, .int v_received, .int v_unmarked, .ref q_missing, .int v_nodes, .ref q_nodeAddresses, .ref q_nodeDistances, .ref q_nodeParents, .int v_found, .ref q_foundAddress, .ref q_foundDistance, .ref q_foundParent, .int v_words, .ref q_wordAt]))] A) (by decide) rfl (Nat.le_of_ble_eq_true rfl) rfl ?_
  intro p e s m below meth c A ls H locs hx hb hr hml hown hts hlocks hin hK hN hA hP hD hS hl
  have hown : s.vm.findClass RX6 = some m.cls := hown
  unfold fX6_draws at h
  have hiX6 : ∀ w ∈ u_ws RX6 TX6 24, w ∈ wsX6_draws := fun _ h => List.mem_cons_of_mem _ (List.mem_append_right _ h)
  have hf50 := (hts (.fieldLink RX6 50 "PacketTracebackModel" "random" "I") (List.mem_of_getElem? (i := 1) (by decide +kernel)))
  refine lv_aload_n hx hb dX6_draws_0 rfl (lv_at hl 0 rfl) ?_
  refine lv_aload_n hx hb dX6_draws_1 rfl (lv_at hl 0 rfl) ?_
  refine va_get (D := (dC, dI)) (ci := 6) (v := .int v_random) (C := RX6) (T := TX6) (N := 24) hx hb hts hiX6 hown hK hP 0 rfl rfl 5 (by decide) hf50 (fun _ h9 => h9) rfl dX6_draws_2 ?_
  refine lv_ldc hx hb hown (hts (.constant RX6 81 (1103515245)) (List.mem_of_getElem? (i := 2) (by decide +kernel))) dX6_draws_5 ?_
  refine lv_imul hx hb dX6_draws_7 ?_
  refine lv_sipush (v := (12345 : Int32)) hx hb dX6_draws_8 (by decide) ?_
  refine lv_iadd hx hb dX6_draws_11 ?_
  refine va_put (D := (dC, dI)) (ci := 6) (v := .int ((v_random * (1103515245 : Int32)) + (12345 : Int32))) (ty := .int) (C := RX6) (T := TX6) (N := 24) hx hb hts hiX6 tyX6 tyX6_ok nmX6 hown hK hP hD hS 0 rfl rfl 5 (by decide) hf50 (fun _ h9 => h9) rfl (by decide +kernel) rfl rfl (Nat.le_of_ble_eq_true rfl) dX6_draws_12 (fun H locs hP hD hS => ?_)
  have hP : va_P (dC, dI) vwCl [(h0, .inr (6, [.int v_routers, .ref q_parentOf, .ref q_addressOf, .ref q_depthOf, .int v_percent, .int ((v_random * (1103515245 : Int32)) + (12345 : Int32)), .int v_distance, .int v_offset, .int v_value, .int v_isMade, .ref q_marks, .int v_received, .int v_unmarked, .ref q_missing, .int v_nodes, .ref q_nodeAddresses, .ref q_nodeDistances, .ref q_nodeParents, .int v_found, .ref q_foundAddress, .ref q_foundDistance, .ref q_foundParent, .int v_words, .ref q_wordAt]))] H := hP
  have hD : va_D A [(h0, .inr (6, [.int v_routers, .ref q_parentOf, .ref q_addressOf, .ref q_depthOf, .int v_percent, .int ((v_random * (1103515245 : Int32)) + (12345 : Int32)), .int v_distance, .int v_offset, .int v_value, .int v_isMade, .ref q_marks, .int v_received, .int v_unmarked, .ref q_missing, .int v_nodes, .ref q_nodeAddresses, .ref q_nodeDistances, .ref q_nodeParents, .int v_found, .ref q_foundAddress, .ref q_foundDistance, .ref q_foundParent, .int v_words, .ref q_wordAt]))] := hD
  refine lv_aload_n hx hb dX6_draws_15 rfl (lv_at hl 0 rfl) ?_
  refine va_get (D := (dC, dI)) (ci := 6) (v := .int ((v_random * (1103515245 : Int32)) + (12345 : Int32))) (C := RX6) (T := TX6) (N := 24) hx hb hts hiX6 hown hK hP 0 rfl rfl 5 (by decide) hf50 (fun _ h9 => h9) rfl dX6_draws_16 ?_
  refine lv_bipush (v := (16 : Int32)) hx hb dX6_draws_19 (by decide) ?_
  refine lv_iushr (v := (usI ((v_random * (1103515245 : Int32)) + (12345 : Int32)) (16 : Int32))) hx hb dX6_draws_21 rfl ?_
  refine lv_sipush (v := (32767 : Int32)) hx hb dX6_draws_22 (by decide) ?_
  refine lv_iand hx hb dX6_draws_25 ?_
  have hk0 := Option.some.inj h
  cases hk0
  exact re_i [0] hx hb hr hlocks rfl hP hD hS rfl (by decide) rfl dX6_draws_26
def fX6_process (p1 : Int32) (v_percent : Int32) (v_random : Int32) (v_distance : Int32) (v_offset : Int32) (v_value : Int32) (v_isMade : Int32) (a_addressOf : Nat → Int32) : Option (Int32 × Int32 × Int32 × Int32 × Int32) :=
  if ¬ (p1 < 0 ∨ 20 ≤ p1.toNatClampNeg) then
    bd1 (fX6_wordOf (a_addressOf p1.toNatClampNeg)) fun r2 =>
    bd2 (fX6_draws v_random) fun r3 s_random_3 =>
    if v_percent ≤ (r3 - r3 / (100 : Int32) * (100 : Int32)) then
      if v_distance = (-7 : Int32) then
        some (s_random_3, v_distance, v_offset, v_value, v_isMade)
      else
        if v_distance = 0 then
          bd1 (fX6_fragmentOf r2 v_offset) fun r8 =>
          if (31 : Int32) ≤ v_distance then
            some (s_random_3, v_distance, v_offset, (v_value ^^^ r8), v_isMade)
          else
            some (s_random_3, (v_distance + (1 : Int32)), v_offset, (v_value ^^^ r8), v_isMade)
        else
          if (31 : Int32) ≤ v_distance then
            some (s_random_3, v_distance, v_offset, v_value, v_isMade)
          else
            some (s_random_3, (v_distance + (1 : Int32)), v_offset, v_value, v_isMade)
    else
      bd2 (fX6_draws s_random_3) fun r10 s_random_10 =>
      bd1 (fX6_fragmentOf r2 (r10 - r10 / (4 : Int32) * (4 : Int32))) fun r11 =>
      some (s_random_10, (0 : Int32), (r10 - r10 / (4 : Int32) * (4 : Int32)), r11, (1 : Int32))
  else none
set_option maxHeartbeats 4000000 in
set_option maxRecDepth 100000 in
theorem mX6_process (l : Launch) (dC : Nat → ClassId) (dI : Nat → Nat → Nat) (cI : ClassId) (sz : Nat) (h0 : Nat) (q_parentOf : Nat) (q_addressOf : Nat) (q_depthOf : Nat) (q_marks : Nat) (q_missing : Nat) (q_nodeAddresses : Nat) (q_nodeDistances : Nat) (q_nodeParents : Nat) (q_foundAddress : Nat) (q_foundDistance : Nat) (q_foundParent : Nat) (q_wordAt : Nat) (v_routers : Int32) (v_percent : Int32) (v_random : Int32) (v_distance : Int32) (v_offset : Int32) (v_value : Int32) (v_isMade : Int32) (v_received : Int32) (v_unmarked : Int32) (v_nodes : Int32) (v_found : Int32) (v_words : Int32) (a_addressOf : Nat → Int32) (p1 : Int32) {o_random : Int32} {o_distance : Int32} {o_offset : Int32} {o_value : Int32} {o_isMade : Int32} (h : fX6_process p1 v_percent v_random v_distance v_offset v_value v_isMade a_addressOf = some (o_random, o_distance, o_offset, o_value, o_isMade)) : Met l yX6_process wsX6_process ({ frames := 2, cells := 0, slots := 0, locals := 40 } : Room) (prX dC dI cI [.ref h0, .int p1] sz [(h0, .inr (6, [.int v_routers, .ref q_parentOf, .ref q_addressOf, .ref q_depthOf, .int v_percent, .int v_random, .int v_distance, .int v_offset, .int v_value, .int v_isMade, .ref q_marks, .int v_received, .int v_unmarked, .ref q_missing, .int v_nodes, .ref q_nodeAddresses, .ref q_nodeDistances, .ref q_nodeParents, .int v_found, .ref q_foundAddress, .ref q_foundDistance, .ref q_foundParent, .int v_words, .ref q_wordAt])), (q_addressOf, .inl (cI, 20, .inl a_addressOf))]) (poV dC dI [(h0, .inr (6, [.int v_routers, .ref q_parentOf, .ref q_addressOf, .ref q_depthOf, .int v_percent, .int o_random, .int o_distance, .int o_offset, .int o_value, .int o_isMade, .ref q_marks, .int v_received, .int v_unmarked, .ref q_missing, .int v_nodes, .ref q_nodeAddresses, .ref q_nodeDistances, .ref q_nodeParents, .int v_found, .ref q_foundAddress, .ref q_foundDistance, .ref q_foundParent, .int v_words, .ref q_wordAt])), (q_addressOf, .inl (cI, 20, .inl a_addressOf))] (va_A [(h0, .inr (6, [.int v_routers, .ref q_parentOf, .ref q_addressOf, .ref q_depthOf, .int v_percent, .int v_random, .int v_distance, .int v_offset, .int v_value, .int v_isMade, .ref q_marks, .int v_received, .int v_unmarked, .ref q_missing, .int v_nodes, .ref q_nodeAddresses, .ref q_nodeDistances, .ref q_nodeParents, .int v_found, .ref q_foundAddress, .ref q_foundDistance, .ref q_foundParent, .int v_words, .ref q_wordAt])), (q_addressOf, .inl (cI, 20, .inl a_addressOf))] sz)) 0 0 (va_A [(h0, .inr (6, [.int v_routers, .ref q_parentOf, .ref q_addressOf, .ref q_depthOf, .int v_percent, .int v_random, .int v_distance, .int v_offset, .int v_value, .int v_isMade, .ref q_marks, .int v_received, .int v_unmarked, .ref q_missing, .int v_nodes, .ref q_nodeAddresses, .ref q_nodeDistances, .ref q_nodeParents, .int v_found, .ref q_foundAddress, .ref q_foundDistance, .ref q_foundParent, .int v_words, .ref q_wordAt])), (q_addressOf, .inl (cI, 20, .inl a_addressOf))] sz) := by
  refine ofX (cc := cX6_process) (maxL := 3) (ret := none) (lv0 := [(0, .ref h0), (1, .int p1)]) (QA := fun A => poV dC dI [(h0, .inr (6, [.int v_routers, .ref q_parentOf, .ref q_addressOf, .ref q_depthOf, .int v_percent, .int o_random, .int o_distance, .int o_offset, .int o_value, .int o_isMade, .ref q_marks, .int v_received, .int v_unmarked, .ref q_missing, .int v_nodes, .ref q_nodeAddresses, .ref q_nodeDistances, .ref q_nodeParents, .int v_found, .ref q_foundAddress, .ref q_foundDistance, .ref q_foundParent, .int v_words, .ref q_wordAt])), (q_addressOf, .inl (cI, 20, .inl a_addressOf))] A) (by decide) rfl (Nat.le_of_ble_eq_true rfl) rfl ?_
  intro p e s m below meth c A ls H locs hx hb hr hml hown hts hlocks hin hK hN hA hP hD hS hl
  have hown : s.vm.findClass RX6 = some m.cls := hown
  unfold fX6_process at h
  have hiX6 : ∀ w ∈ u_ws RX6 TX6 24, w ∈ wsX6_process := fun _ h => List.mem_cons_of_mem _ (List.mem_append_right _ h)
  have hf13 := (hts (.fieldLink RX6 13 "PacketTracebackModel" "addressOf" "[I") (List.mem_of_getElem? (i := 1) (by decide +kernel)))
  have hf46 := (hts (.fieldLink RX6 46 "PacketTracebackModel" "percent" "I") (List.mem_of_getElem? (i := 2) (by decide +kernel)))
  have hf89 := (hts (.fieldLink RX6 89 "PacketTracebackModel" "distance" "I") (List.mem_of_getElem? (i := 4) (by decide +kernel)))
  have hf92 := (hts (.fieldLink RX6 92 "PacketTracebackModel" "value" "I") (List.mem_of_getElem? (i := 5) (by decide +kernel)))
  have hf86 := (hts (.fieldLink RX6 86 "PacketTracebackModel" "offset" "I") (List.mem_of_getElem? (i := 3) (by decide +kernel)))
  have hf95 := (hts (.fieldLink RX6 95 "PacketTracebackModel" "isMade" "Z") (List.mem_of_getElem? (i := 6) (by decide +kernel)))
  refine lv_aload_n hx hb dX6_process_0 rfl (lv_at hl 0 rfl) ?_
  refine va_get (D := (dC, dI)) (ci := 6) (v := .ref q_addressOf) (C := RX6) (T := TX6) (N := 24) hx hb hts hiX6 hown hK hP 0 rfl rfl 2 (by decide) hf13 (fun _ h9 => h9) rfl dX6_process_1 ?_
  refine lv_iload_n hx hb dX6_process_4 rfl (lv_at hl 1 rfl) ?_
  obtain ⟨g1, h⟩ := gd_e h
  refine va_iald hx hb hK hP 1 0 rfl rfl g1 dX6_process_5 ?_
  obtain ⟨r2, h2, h⟩ := bd1_e h
  refine ca_Si (wc := []) (wr := [(h0, .inr (6, [.int v_routers, .ref q_parentOf, .ref q_addressOf, .ref q_depthOf, .int v_percent, .int v_random, .int v_distance, .int v_offset, .int v_value, .int v_isMade, .ref q_marks, .int v_received, .int v_unmarked, .ref q_missing, .int v_nodes, .ref q_nodeAddresses, .ref q_nodeDistances, .ref q_nodeParents, .int v_found, .ref q_foundAddress, .ref q_foundDistance, .ref q_foundParent, .int v_words, .ref q_wordAt])), (q_addressOf, .inl (cI, 20, .inl a_addressOf))]) (w1 := []) [.int (a_addressOf p1.toNatClampNeg)] [] [] [0, 1] hx hb hml hown hts (mX6_wordOf l dC dI cI H.size (a_addressOf p1.toNatClampNeg) h2) (va_cwS 1 hts gX6_process_X6_wordOf rfl rfl rfl (by decide +kernel) ⟨Nat.le_of_ble_eq_true rfl, Nat.le_of_ble_eq_true rfl⟩) hK hN hP hD hS hA rfl rfl (by decide) (by decide) (by decide) rfl hl.1 rfl (Nat.le_of_ble_eq_true rfl) dX6_process_6 ⟨Nat.zero_le _, Nat.zero_le _⟩ (fun H locs hP hD hS hz2 => ?_)
  have hP : va_P (dC, dI) vwCl [(h0, .inr (6, [.int v_routers, .ref q_parentOf, .ref q_addressOf, .ref q_depthOf, .int v_percent, .int v_random, .int v_distance, .int v_offset, .int v_value, .int v_isMade, .ref q_marks, .int v_received, .int v_unmarked, .ref q_missing, .int v_nodes, .ref q_nodeAddresses, .ref q_nodeDistances, .ref q_nodeParents, .int v_found, .ref q_foundAddress, .ref q_foundDistance, .ref q_foundParent, .int v_words, .ref q_wordAt])), (q_addressOf, .inl (cI, 20, .inl a_addressOf))] H := hP
  have hD : va_D A [(h0, .inr (6, [.int v_routers, .ref q_parentOf, .ref q_addressOf, .ref q_depthOf, .int v_percent, .int v_random, .int v_distance, .int v_offset, .int v_value, .int v_isMade, .ref q_marks, .int v_received, .int v_unmarked, .ref q_missing, .int v_nodes, .ref q_nodeAddresses, .ref q_nodeDistances, .ref q_nodeParents, .int v_found, .ref q_foundAddress, .ref q_foundDistance, .ref q_foundParent, .int v_words, .ref q_wordAt])), (q_addressOf, .inl (cI, 20, .inl a_addressOf))] := hD
  refine lv_istore_n (lv' := [(2, .int r2), (0, .ref h0), (1, .int p1)]) hx hb dX6_process_9 rfl hl (by decide) rfl (fun ls hl => ?_)
  refine lv_aload_n hx hb dX6_process_10 rfl (lv_at hl 1 rfl) ?_
  obtain ⟨r3, s_random_3, h3, h⟩ := bd2_e h
  refine ca_Vi (wc := [(h0, .inr (6, [.int v_routers, .ref q_parentOf, .ref q_addressOf, .ref q_depthOf, .int v_percent, .int v_random, .int v_distance, .int v_offset, .int v_value, .int v_isMade, .ref q_marks, .int v_received, .int v_unmarked, .ref q_missing, .int v_nodes, .ref q_nodeAddresses, .ref q_nodeDistances, .ref q_nodeParents, .int v_found, .ref q_foundAddress, .ref q_foundDistance, .ref q_foundParent, .int v_words, .ref q_wordAt]))]) (wr := [(q_addressOf, .inl (cI, 20, .inl a_addressOf))]) (w1 := [(h0, .inr (6, [.int v_routers, .ref q_parentOf, .ref q_addressOf, .ref q_depthOf, .int v_percent, .int s_random_3, .int v_distance, .int v_offset, .int v_value, .int v_isMade, .ref q_marks, .int v_received, .int v_unmarked, .ref q_missing, .int v_nodes, .ref q_nodeAddresses, .ref q_nodeDistances, .ref q_nodeParents, .int v_found, .ref q_foundAddress, .ref q_foundDistance, .ref q_foundParent, .int v_words, .ref q_wordAt]))]) [] [] [0] [1] hx hb hml hown hts (mX6_draws l dC dI cI H.size h0 q_parentOf q_addressOf q_depthOf q_marks q_missing q_nodeAddresses q_nodeDistances q_nodeParents q_foundAddress q_foundDistance q_foundParent q_wordAt v_routers v_percent v_random v_distance v_offset v_value v_isMade v_received v_unmarked v_nodes v_found v_words h3) (cwV 0 hts gX6_process_X6_draws rfl rfl rfl (by decide +kernel) ⟨Nat.le_of_ble_eq_true rfl, Nat.le_of_ble_eq_true rfl⟩) hK hN hP hD hS hA rfl rfl (by decide) (by decide) (by decide) rfl rfl rfl hl.1 rfl (Nat.le_of_ble_eq_true rfl) dX6_process_11 ⟨Nat.zero_le _, Nat.zero_le _⟩ (fun H locs hP hD hS hz3 => ?_)
  have hP : va_P (dC, dI) vwCl [(q_addressOf, .inl (cI, 20, .inl a_addressOf)), (h0, .inr (6, [.int v_routers, .ref q_parentOf, .ref q_addressOf, .ref q_depthOf, .int v_percent, .int s_random_3, .int v_distance, .int v_offset, .int v_value, .int v_isMade, .ref q_marks, .int v_received, .int v_unmarked, .ref q_missing, .int v_nodes, .ref q_nodeAddresses, .ref q_nodeDistances, .ref q_nodeParents, .int v_found, .ref q_foundAddress, .ref q_foundDistance, .ref q_foundParent, .int v_words, .ref q_wordAt]))] H := hP
  have hD : va_D A [(q_addressOf, .inl (cI, 20, .inl a_addressOf)), (h0, .inr (6, [.int v_routers, .ref q_parentOf, .ref q_addressOf, .ref q_depthOf, .int v_percent, .int s_random_3, .int v_distance, .int v_offset, .int v_value, .int v_isMade, .ref q_marks, .int v_received, .int v_unmarked, .ref q_missing, .int v_nodes, .ref q_nodeAddresses, .ref q_nodeDistances, .ref q_nodeParents, .int v_found, .ref q_foundAddress, .ref q_foundDistance, .ref q_foundParent, .int v_words, .ref q_wordAt]))] := hD
  refine lv_bipush (v := (100 : Int32)) hx hb dX6_process_14 (by decide) ?_
  refine lv_irem hx hb dX6_process_16 (by decide) ?_
  refine lv_aload_n hx hb dX6_process_17 rfl (lv_at hl 1 rfl) ?_
  refine va_get (D := (dC, dI)) (ci := 6) (v := .int v_percent) (C := RX6) (T := TX6) (N := 24) hx hb hts hiX6 hown hK hP 1 rfl rfl 4 (by decide) hf46 (fun _ h9 => h9) rfl dX6_process_18 ?_
  refine lv_icmp_ge (tgt := 59) hx hb dX6_process_21 (by decide) (fun c4 => ?_) (fun c4 => ?_)
  · have h := it_p c4 h
    refine lv_aload_n hx hb dX6_process_59 rfl (lv_at hl 1 rfl) ?_
    refine va_get (D := (dC, dI)) (ci := 6) (v := .int v_distance) (C := RX6) (T := TX6) (N := 24) hx hb hts hiX6 hown hK hP 1 rfl rfl 6 (by decide) hf89 (fun _ h9 => h9) rfl dX6_process_60 ?_
    refine lv_bipush (v := (-7 : Int32)) hx hb dX6_process_63 (by decide) ?_
    refine lv_icmp_eq (tgt := 125) hx hb dX6_process_65 (by decide) (fun c5 => ?_) (fun c5 => ?_)
    · have h := it_p c5 h
      have hk0 := Option.some.inj h
      cases hk0
      exact re_v [1, 0] hx hb hr hlocks hP hD hS rfl (by decide) dX6_process_125
    · have h := it_n c5 h
      refine lv_aload_n hx hb dX6_process_68 rfl (lv_at hl 1 rfl) ?_
      refine lv_aload_n hx hb dX6_process_69 rfl (lv_at hl 1 rfl) ?_
      refine va_get (D := (dC, dI)) (ci := 6) (v := .int v_distance) (C := RX6) (T := TX6) (N := 24) hx hb hts hiX6 hown hK hP 1 rfl rfl 6 (by decide) hf89 (fun _ h9 => h9) rfl dX6_process_70 ?_
      refine lv_if_ne (tgt := 92) hx hb dX6_process_73 (by decide) (fun c6 => ?_) (fun c6 => ?_)
      · have h := it_n c6 h
        refine lv_aload_n hx hb dX6_process_92 rfl (lv_at hl 1 rfl) ?_
        refine va_get (D := (dC, dI)) (ci := 6) (v := .int v_value) (C := RX6) (T := TX6) (N := 24) hx hb hts hiX6 hown hK hP 1 rfl rfl 8 (by decide) hf92 (fun _ h9 => h9) rfl dX6_process_93 ?_
        refine va_put (D := (dC, dI)) (ci := 6) (v := .int v_value) (ty := .int) (C := RX6) (T := TX6) (N := 24) hx hb hts hiX6 tyX6 tyX6_ok nmX6 hown hK hP hD hS 1 rfl rfl 8 (by decide) hf92 (fun _ h9 => h9) rfl (by decide +kernel) rfl rfl (Nat.le_of_ble_eq_true rfl) dX6_process_96 (fun H locs hP hD hS => ?_)
        have hP : va_P (dC, dI) vwCl [(q_addressOf, .inl (cI, 20, .inl a_addressOf)), (h0, .inr (6, [.int v_routers, .ref q_parentOf, .ref q_addressOf, .ref q_depthOf, .int v_percent, .int s_random_3, .int v_distance, .int v_offset, .int v_value, .int v_isMade, .ref q_marks, .int v_received, .int v_unmarked, .ref q_missing, .int v_nodes, .ref q_nodeAddresses, .ref q_nodeDistances, .ref q_nodeParents, .int v_found, .ref q_foundAddress, .ref q_foundDistance, .ref q_foundParent, .int v_words, .ref q_wordAt]))] H := hP
        have hD : va_D A [(q_addressOf, .inl (cI, 20, .inl a_addressOf)), (h0, .inr (6, [.int v_routers, .ref q_parentOf, .ref q_addressOf, .ref q_depthOf, .int v_percent, .int s_random_3, .int v_distance, .int v_offset, .int v_value, .int v_isMade, .ref q_marks, .int v_received, .int v_unmarked, .ref q_missing, .int v_nodes, .ref q_nodeAddresses, .ref q_nodeDistances, .ref q_nodeParents, .int v_found, .ref q_foundAddress, .ref q_foundDistance, .ref q_foundParent, .int v_words, .ref q_wordAt]))] := hD
        refine lv_aload_n hx hb dX6_process_99 rfl (lv_at hl 1 rfl) ?_
        refine lv_aload_n hx hb dX6_process_100 rfl (lv_at hl 1 rfl) ?_
        refine va_get (D := (dC, dI)) (ci := 6) (v := .int v_distance) (C := RX6) (T := TX6) (N := 24) hx hb hts hiX6 hown hK hP 1 rfl rfl 6 (by decide) hf89 (fun _ h9 => h9) rfl dX6_process_101 ?_
        refine lv_bipush (v := (31 : Int32)) hx hb dX6_process_104 (by decide) ?_
        refine lv_icmp_ge (tgt := 118) hx hb dX6_process_106 (by decide) (fun c7 => ?_) (fun c7 => ?_)
        · have h := it_p c7 h
          refine lv_aload_n hx hb dX6_process_118 rfl (lv_at hl 1 rfl) ?_
          refine va_get (D := (dC, dI)) (ci := 6) (v := .int v_distance) (C := RX6) (T := TX6) (N := 24) hx hb hts hiX6 hown hK hP 1 rfl rfl 6 (by decide) hf89 (fun _ h9 => h9) rfl dX6_process_119 ?_
          refine va_put (D := (dC, dI)) (ci := 6) (v := .int v_distance) (ty := .int) (C := RX6) (T := TX6) (N := 24) hx hb hts hiX6 tyX6 tyX6_ok nmX6 hown hK hP hD hS 1 rfl rfl 6 (by decide) hf89 (fun _ h9 => h9) rfl (by decide +kernel) rfl rfl (Nat.le_of_ble_eq_true rfl) dX6_process_122 (fun H locs hP hD hS => ?_)
          have hP : va_P (dC, dI) vwCl [(q_addressOf, .inl (cI, 20, .inl a_addressOf)), (h0, .inr (6, [.int v_routers, .ref q_parentOf, .ref q_addressOf, .ref q_depthOf, .int v_percent, .int s_random_3, .int v_distance, .int v_offset, .int v_value, .int v_isMade, .ref q_marks, .int v_received, .int v_unmarked, .ref q_missing, .int v_nodes, .ref q_nodeAddresses, .ref q_nodeDistances, .ref q_nodeParents, .int v_found, .ref q_foundAddress, .ref q_foundDistance, .ref q_foundParent, .int v_words, .ref q_wordAt]))] H := hP
          have hD : va_D A [(q_addressOf, .inl (cI, 20, .inl a_addressOf)), (h0, .inr (6, [.int v_routers, .ref q_parentOf, .ref q_addressOf, .ref q_depthOf, .int v_percent, .int s_random_3, .int v_distance, .int v_offset, .int v_value, .int v_isMade, .ref q_marks, .int v_received, .int v_unmarked, .ref q_missing, .int v_nodes, .ref q_nodeAddresses, .ref q_nodeDistances, .ref q_nodeParents, .int v_found, .ref q_foundAddress, .ref q_foundDistance, .ref q_foundParent, .int v_words, .ref q_wordAt]))] := hD
          have hk0 := Option.some.inj h
          cases hk0
          exact re_v [1, 0] hx hb hr hlocks hP hD hS rfl (by decide) dX6_process_125
        · have h := it_n c7 h
          refine lv_aload_n hx hb dX6_process_109 rfl (lv_at hl 1 rfl) ?_
          refine va_get (D := (dC, dI)) (ci := 6) (v := .int v_distance) (C := RX6) (T := TX6) (N := 24) hx hb hts hiX6 hown hK hP 1 rfl rfl 6 (by decide) hf89 (fun _ h9 => h9) rfl dX6_process_110 ?_
          refine lv_iconst (v := (1 : Int32)) hx hb dX6_process_113 (by decide) ?_
          refine lv_iadd hx hb dX6_process_114 ?_
          refine lv_goto (tgt := 122) hx hb dX6_process_115 (by decide) ?_
          refine va_put (D := (dC, dI)) (ci := 6) (v := .int (v_distance + (1 : Int32))) (ty := .int) (C := RX6) (T := TX6) (N := 24) hx hb hts hiX6 tyX6 tyX6_ok nmX6 hown hK hP hD hS 1 rfl rfl 6 (by decide) hf89 (fun _ h9 => h9) rfl (by decide +kernel) rfl rfl (Nat.le_of_ble_eq_true rfl) dX6_process_122 (fun H locs hP hD hS => ?_)
          have hP : va_P (dC, dI) vwCl [(q_addressOf, .inl (cI, 20, .inl a_addressOf)), (h0, .inr (6, [.int v_routers, .ref q_parentOf, .ref q_addressOf, .ref q_depthOf, .int v_percent, .int s_random_3, .int (v_distance + (1 : Int32)), .int v_offset, .int v_value, .int v_isMade, .ref q_marks, .int v_received, .int v_unmarked, .ref q_missing, .int v_nodes, .ref q_nodeAddresses, .ref q_nodeDistances, .ref q_nodeParents, .int v_found, .ref q_foundAddress, .ref q_foundDistance, .ref q_foundParent, .int v_words, .ref q_wordAt]))] H := hP
          have hD : va_D A [(q_addressOf, .inl (cI, 20, .inl a_addressOf)), (h0, .inr (6, [.int v_routers, .ref q_parentOf, .ref q_addressOf, .ref q_depthOf, .int v_percent, .int s_random_3, .int (v_distance + (1 : Int32)), .int v_offset, .int v_value, .int v_isMade, .ref q_marks, .int v_received, .int v_unmarked, .ref q_missing, .int v_nodes, .ref q_nodeAddresses, .ref q_nodeDistances, .ref q_nodeParents, .int v_found, .ref q_foundAddress, .ref q_foundDistance, .ref q_foundParent, .int v_words, .ref q_wordAt]))] := hD
          have hk0 := Option.some.inj h
          cases hk0
          exact re_v [1, 0] hx hb hr hlocks hP hD hS rfl (by decide) dX6_process_125
      · have h := it_p c6 h
        refine lv_aload_n hx hb dX6_process_76 rfl (lv_at hl 1 rfl) ?_
        refine va_get (D := (dC, dI)) (ci := 6) (v := .int v_value) (C := RX6) (T := TX6) (N := 24) hx hb hts hiX6 hown hK hP 1 rfl rfl 8 (by decide) hf92 (fun _ h9 => h9) rfl dX6_process_77 ?_
        refine lv_iload_n hx hb dX6_process_80 rfl (lv_at hl 0 rfl) ?_
        refine lv_aload_n hx hb dX6_process_81 rfl (lv_at hl 1 rfl) ?_
        refine va_get (D := (dC, dI)) (ci := 6) (v := .int v_offset) (C := RX6) (T := TX6) (N := 24) hx hb hts hiX6 hown hK hP 1 rfl rfl 7 (by decide) hf86 (fun _ h9 => h9) rfl dX6_process_82 ?_
        obtain ⟨r8, h8, h⟩ := bd1_e h
        refine ca_Si (wc := []) (wr := [(q_addressOf, .inl (cI, 20, .inl a_addressOf)), (h0, .inr (6, [.int v_routers, .ref q_parentOf, .ref q_addressOf, .ref q_depthOf, .int v_percent, .int s_random_3, .int v_distance, .int v_offset, .int v_value, .int v_isMade, .ref q_marks, .int v_received, .int v_unmarked, .ref q_missing, .int v_nodes, .ref q_nodeAddresses, .ref q_nodeDistances, .ref q_nodeParents, .int v_found, .ref q_foundAddress, .ref q_foundDistance, .ref q_foundParent, .int v_words, .ref q_wordAt]))]) (w1 := []) [.int r2, .int v_offset] [.int v_value, .ref h0] [] [0, 1] hx hb hml hown hts (mX6_fragmentOf l dC dI cI H.size r2 v_offset h8) (va_cwS 2 hts gX6_process_X6_fragmentOf rfl rfl rfl (by decide +kernel) ⟨Nat.le_of_ble_eq_true rfl, Nat.le_of_ble_eq_true rfl⟩) hK hN hP hD hS hA rfl rfl (by decide) (by decide) (by decide) rfl hl.1 rfl (Nat.le_of_ble_eq_true rfl) dX6_process_85 ⟨Nat.zero_le _, Nat.zero_le _⟩ (fun H locs hP hD hS hz8 => ?_)
        have hP : va_P (dC, dI) vwCl [(q_addressOf, .inl (cI, 20, .inl a_addressOf)), (h0, .inr (6, [.int v_routers, .ref q_parentOf, .ref q_addressOf, .ref q_depthOf, .int v_percent, .int s_random_3, .int v_distance, .int v_offset, .int v_value, .int v_isMade, .ref q_marks, .int v_received, .int v_unmarked, .ref q_missing, .int v_nodes, .ref q_nodeAddresses, .ref q_nodeDistances, .ref q_nodeParents, .int v_found, .ref q_foundAddress, .ref q_foundDistance, .ref q_foundParent, .int v_words, .ref q_wordAt]))] H := hP
        have hD : va_D A [(q_addressOf, .inl (cI, 20, .inl a_addressOf)), (h0, .inr (6, [.int v_routers, .ref q_parentOf, .ref q_addressOf, .ref q_depthOf, .int v_percent, .int s_random_3, .int v_distance, .int v_offset, .int v_value, .int v_isMade, .ref q_marks, .int v_received, .int v_unmarked, .ref q_missing, .int v_nodes, .ref q_nodeAddresses, .ref q_nodeDistances, .ref q_nodeParents, .int v_found, .ref q_foundAddress, .ref q_foundDistance, .ref q_foundParent, .int v_words, .ref q_wordAt]))] := hD
        refine lv_ixor hx hb dX6_process_88 ?_
        refine lv_goto (tgt := 96) hx hb dX6_process_89 (by decide) ?_
        refine va_put (D := (dC, dI)) (ci := 6) (v := .int (v_value ^^^ r8)) (ty := .int) (C := RX6) (T := TX6) (N := 24) hx hb hts hiX6 tyX6 tyX6_ok nmX6 hown hK hP hD hS 1 rfl rfl 8 (by decide) hf92 (fun _ h9 => h9) rfl (by decide +kernel) rfl rfl (Nat.le_of_ble_eq_true rfl) dX6_process_96 (fun H locs hP hD hS => ?_)
        have hP : va_P (dC, dI) vwCl [(q_addressOf, .inl (cI, 20, .inl a_addressOf)), (h0, .inr (6, [.int v_routers, .ref q_parentOf, .ref q_addressOf, .ref q_depthOf, .int v_percent, .int s_random_3, .int v_distance, .int v_offset, .int (v_value ^^^ r8), .int v_isMade, .ref q_marks, .int v_received, .int v_unmarked, .ref q_missing, .int v_nodes, .ref q_nodeAddresses, .ref q_nodeDistances, .ref q_nodeParents, .int v_found, .ref q_foundAddress, .ref q_foundDistance, .ref q_foundParent, .int v_words, .ref q_wordAt]))] H := hP
        have hD : va_D A [(q_addressOf, .inl (cI, 20, .inl a_addressOf)), (h0, .inr (6, [.int v_routers, .ref q_parentOf, .ref q_addressOf, .ref q_depthOf, .int v_percent, .int s_random_3, .int v_distance, .int v_offset, .int (v_value ^^^ r8), .int v_isMade, .ref q_marks, .int v_received, .int v_unmarked, .ref q_missing, .int v_nodes, .ref q_nodeAddresses, .ref q_nodeDistances, .ref q_nodeParents, .int v_found, .ref q_foundAddress, .ref q_foundDistance, .ref q_foundParent, .int v_words, .ref q_wordAt]))] := hD
        refine lv_aload_n hx hb dX6_process_99 rfl (lv_at hl 1 rfl) ?_
        refine lv_aload_n hx hb dX6_process_100 rfl (lv_at hl 1 rfl) ?_
        refine va_get (D := (dC, dI)) (ci := 6) (v := .int v_distance) (C := RX6) (T := TX6) (N := 24) hx hb hts hiX6 hown hK hP 1 rfl rfl 6 (by decide) hf89 (fun _ h9 => h9) rfl dX6_process_101 ?_
        refine lv_bipush (v := (31 : Int32)) hx hb dX6_process_104 (by decide) ?_
        refine lv_icmp_ge (tgt := 118) hx hb dX6_process_106 (by decide) (fun c9 => ?_) (fun c9 => ?_)
        · have h := it_p c9 h
          refine lv_aload_n hx hb dX6_process_118 rfl (lv_at hl 1 rfl) ?_
          refine va_get (D := (dC, dI)) (ci := 6) (v := .int v_distance) (C := RX6) (T := TX6) (N := 24) hx hb hts hiX6 hown hK hP 1 rfl rfl 6 (by decide) hf89 (fun _ h9 => h9) rfl dX6_process_119 ?_
          refine va_put (D := (dC, dI)) (ci := 6) (v := .int v_distance) (ty := .int) (C := RX6) (T := TX6) (N := 24) hx hb hts hiX6 tyX6 tyX6_ok nmX6 hown hK hP hD hS 1 rfl rfl 6 (by decide) hf89 (fun _ h9 => h9) rfl (by decide +kernel) rfl rfl (Nat.le_of_ble_eq_true rfl) dX6_process_122 (fun H locs hP hD hS => ?_)
          have hP : va_P (dC, dI) vwCl [(q_addressOf, .inl (cI, 20, .inl a_addressOf)), (h0, .inr (6, [.int v_routers, .ref q_parentOf, .ref q_addressOf, .ref q_depthOf, .int v_percent, .int s_random_3, .int v_distance, .int v_offset, .int (v_value ^^^ r8), .int v_isMade, .ref q_marks, .int v_received, .int v_unmarked, .ref q_missing, .int v_nodes, .ref q_nodeAddresses, .ref q_nodeDistances, .ref q_nodeParents, .int v_found, .ref q_foundAddress, .ref q_foundDistance, .ref q_foundParent, .int v_words, .ref q_wordAt]))] H := hP
          have hD : va_D A [(q_addressOf, .inl (cI, 20, .inl a_addressOf)), (h0, .inr (6, [.int v_routers, .ref q_parentOf, .ref q_addressOf, .ref q_depthOf, .int v_percent, .int s_random_3, .int v_distance, .int v_offset, .int (v_value ^^^ r8), .int v_isMade, .ref q_marks, .int v_received, .int v_unmarked, .ref q_missing, .int v_nodes, .ref q_nodeAddresses, .ref q_nodeDistances, .ref q_nodeParents, .int v_found, .ref q_foundAddress, .ref q_foundDistance, .ref q_foundParent, .int v_words, .ref q_wordAt]))] := hD
          have hk0 := Option.some.inj h
          cases hk0
          exact re_v [1, 0] hx hb hr hlocks hP hD hS rfl (by decide) dX6_process_125
        · have h := it_n c9 h
          refine lv_aload_n hx hb dX6_process_109 rfl (lv_at hl 1 rfl) ?_
          refine va_get (D := (dC, dI)) (ci := 6) (v := .int v_distance) (C := RX6) (T := TX6) (N := 24) hx hb hts hiX6 hown hK hP 1 rfl rfl 6 (by decide) hf89 (fun _ h9 => h9) rfl dX6_process_110 ?_
          refine lv_iconst (v := (1 : Int32)) hx hb dX6_process_113 (by decide) ?_
          refine lv_iadd hx hb dX6_process_114 ?_
          refine lv_goto (tgt := 122) hx hb dX6_process_115 (by decide) ?_
          refine va_put (D := (dC, dI)) (ci := 6) (v := .int (v_distance + (1 : Int32))) (ty := .int) (C := RX6) (T := TX6) (N := 24) hx hb hts hiX6 tyX6 tyX6_ok nmX6 hown hK hP hD hS 1 rfl rfl 6 (by decide) hf89 (fun _ h9 => h9) rfl (by decide +kernel) rfl rfl (Nat.le_of_ble_eq_true rfl) dX6_process_122 (fun H locs hP hD hS => ?_)
          have hP : va_P (dC, dI) vwCl [(q_addressOf, .inl (cI, 20, .inl a_addressOf)), (h0, .inr (6, [.int v_routers, .ref q_parentOf, .ref q_addressOf, .ref q_depthOf, .int v_percent, .int s_random_3, .int (v_distance + (1 : Int32)), .int v_offset, .int (v_value ^^^ r8), .int v_isMade, .ref q_marks, .int v_received, .int v_unmarked, .ref q_missing, .int v_nodes, .ref q_nodeAddresses, .ref q_nodeDistances, .ref q_nodeParents, .int v_found, .ref q_foundAddress, .ref q_foundDistance, .ref q_foundParent, .int v_words, .ref q_wordAt]))] H := hP
          have hD : va_D A [(q_addressOf, .inl (cI, 20, .inl a_addressOf)), (h0, .inr (6, [.int v_routers, .ref q_parentOf, .ref q_addressOf, .ref q_depthOf, .int v_percent, .int s_random_3, .int (v_distance + (1 : Int32)), .int v_offset, .int (v_value ^^^ r8), .int v_isMade, .ref q_marks, .int v_received, .int v_unmarked, .ref q_missing, .int v_nodes, .ref q_nodeAddresses, .ref q_nodeDistances, .ref q_nodeParents, .int v_found, .ref q_foundAddress, .ref q_foundDistance, .ref q_foundParent, .int v_words, .ref q_wordAt]))] := hD
          have hk0 := Option.some.inj h
          cases hk0
          exact re_v [1, 0] hx hb hr hlocks hP hD hS rfl (by decide) dX6_process_125
  · have h := it_n c4 h
    refine lv_aload_n hx hb dX6_process_24 rfl (lv_at hl 1 rfl) ?_
    refine lv_aload_n hx hb dX6_process_25 rfl (lv_at hl 1 rfl) ?_
    obtain ⟨r10, s_random_10, h10, h⟩ := bd2_e h
    refine ca_Vi (wc := [(h0, .inr (6, [.int v_routers, .ref q_parentOf, .ref q_addressOf, .ref q_depthOf, .int v_percent, .int s_random_3, .int v_distance, .int v_offset, .int v_value, .int v_isMade, .ref q_marks, .int v_received, .int v_unmarked, .ref q_missing, .int v_nodes, .ref q_nodeAddresses, .ref q_nodeDistances, .ref q_nodeParents, .int v_found, .ref q_foundAddress, .ref q_foundDistance, .ref q_foundParent, .int v_words, .ref q_wordAt]))]) (wr := [(q_addressOf, .inl (cI, 20, .inl a_addressOf))]) (w1 := [(h0, .inr (6, [.int v_routers, .ref q_parentOf, .ref q_addressOf, .ref q_depthOf, .int v_percent, .int s_random_10, .int v_distance, .int v_offset, .int v_value, .int v_isMade, .ref q_marks, .int v_received, .int v_unmarked, .ref q_missing, .int v_nodes, .ref q_nodeAddresses, .ref q_nodeDistances, .ref q_nodeParents, .int v_found, .ref q_foundAddress, .ref q_foundDistance, .ref q_foundParent, .int v_words, .ref q_wordAt]))]) [] [.ref h0] [1] [0] hx hb hml hown hts (mX6_draws l dC dI cI H.size h0 q_parentOf q_addressOf q_depthOf q_marks q_missing q_nodeAddresses q_nodeDistances q_nodeParents q_foundAddress q_foundDistance q_foundParent q_wordAt v_routers v_percent s_random_3 v_distance v_offset v_value v_isMade v_received v_unmarked v_nodes v_found v_words h10) (cwV 0 hts gX6_process_X6_draws rfl rfl rfl (by decide +kernel) ⟨Nat.le_of_ble_eq_true rfl, Nat.le_of_ble_eq_true rfl⟩) hK hN hP hD hS hA rfl rfl (by decide) (by decide) (by decide) rfl rfl rfl hl.1 rfl (Nat.le_of_ble_eq_true rfl) dX6_process_26 ⟨Nat.zero_le _, Nat.zero_le _⟩ (fun H locs hP hD hS hz10 => ?_)
    have hP : va_P (dC, dI) vwCl [(q_addressOf, .inl (cI, 20, .inl a_addressOf)), (h0, .inr (6, [.int v_routers, .ref q_parentOf, .ref q_addressOf, .ref q_depthOf, .int v_percent, .int s_random_10, .int v_distance, .int v_offset, .int v_value, .int v_isMade, .ref q_marks, .int v_received, .int v_unmarked, .ref q_missing, .int v_nodes, .ref q_nodeAddresses, .ref q_nodeDistances, .ref q_nodeParents, .int v_found, .ref q_foundAddress, .ref q_foundDistance, .ref q_foundParent, .int v_words, .ref q_wordAt]))] H := hP
    have hD : va_D A [(q_addressOf, .inl (cI, 20, .inl a_addressOf)), (h0, .inr (6, [.int v_routers, .ref q_parentOf, .ref q_addressOf, .ref q_depthOf, .int v_percent, .int s_random_10, .int v_distance, .int v_offset, .int v_value, .int v_isMade, .ref q_marks, .int v_received, .int v_unmarked, .ref q_missing, .int v_nodes, .ref q_nodeAddresses, .ref q_nodeDistances, .ref q_nodeParents, .int v_found, .ref q_foundAddress, .ref q_foundDistance, .ref q_foundParent, .int v_words, .ref q_wordAt]))] := hD
    refine lv_iconst (v := (4 : Int32)) hx hb dX6_process_29 (by decide) ?_
    refine lv_irem hx hb dX6_process_30 (by decide) ?_
    refine va_put (D := (dC, dI)) (ci := 6) (v := .int (r10 - r10 / (4 : Int32) * (4 : Int32))) (ty := .int) (C := RX6) (T := TX6) (N := 24) hx hb hts hiX6 tyX6 tyX6_ok nmX6 hown hK hP hD hS 1 rfl rfl 7 (by decide) hf86 (fun _ h9 => h9) rfl (by decide +kernel) rfl rfl (Nat.le_of_ble_eq_true rfl) dX6_process_31 (fun H locs hP hD hS => ?_)
    have hP : va_P (dC, dI) vwCl [(q_addressOf, .inl (cI, 20, .inl a_addressOf)), (h0, .inr (6, [.int v_routers, .ref q_parentOf, .ref q_addressOf, .ref q_depthOf, .int v_percent, .int s_random_10, .int v_distance, .int (r10 - r10 / (4 : Int32) * (4 : Int32)), .int v_value, .int v_isMade, .ref q_marks, .int v_received, .int v_unmarked, .ref q_missing, .int v_nodes, .ref q_nodeAddresses, .ref q_nodeDistances, .ref q_nodeParents, .int v_found, .ref q_foundAddress, .ref q_foundDistance, .ref q_foundParent, .int v_words, .ref q_wordAt]))] H := hP
    have hD : va_D A [(q_addressOf, .inl (cI, 20, .inl a_addressOf)), (h0, .inr (6, [.int v_routers, .ref q_parentOf, .ref q_addressOf, .ref q_depthOf, .int v_percent, .int s_random_10, .int v_distance, .int (r10 - r10 / (4 : Int32) * (4 : Int32)), .int v_value, .int v_isMade, .ref q_marks, .int v_received, .int v_unmarked, .ref q_missing, .int v_nodes, .ref q_nodeAddresses, .ref q_nodeDistances, .ref q_nodeParents, .int v_found, .ref q_foundAddress, .ref q_foundDistance, .ref q_foundParent, .int v_words, .ref q_wordAt]))] := hD
    refine lv_aload_n hx hb dX6_process_34 rfl (lv_at hl 1 rfl) ?_
    refine lv_iconst (v := (0 : Int32)) hx hb dX6_process_35 (by decide) ?_
    refine va_put (D := (dC, dI)) (ci := 6) (v := .int (0 : Int32)) (ty := .int) (C := RX6) (T := TX6) (N := 24) hx hb hts hiX6 tyX6 tyX6_ok nmX6 hown hK hP hD hS 1 rfl rfl 6 (by decide) hf89 (fun _ h9 => h9) rfl (by decide +kernel) rfl rfl (Nat.le_of_ble_eq_true rfl) dX6_process_36 (fun H locs hP hD hS => ?_)
    have hP : va_P (dC, dI) vwCl [(q_addressOf, .inl (cI, 20, .inl a_addressOf)), (h0, .inr (6, [.int v_routers, .ref q_parentOf, .ref q_addressOf, .ref q_depthOf, .int v_percent, .int s_random_10, .int (0 : Int32), .int (r10 - r10 / (4 : Int32) * (4 : Int32)), .int v_value, .int v_isMade, .ref q_marks, .int v_received, .int v_unmarked, .ref q_missing, .int v_nodes, .ref q_nodeAddresses, .ref q_nodeDistances, .ref q_nodeParents, .int v_found, .ref q_foundAddress, .ref q_foundDistance, .ref q_foundParent, .int v_words, .ref q_wordAt]))] H := hP
    have hD : va_D A [(q_addressOf, .inl (cI, 20, .inl a_addressOf)), (h0, .inr (6, [.int v_routers, .ref q_parentOf, .ref q_addressOf, .ref q_depthOf, .int v_percent, .int s_random_10, .int (0 : Int32), .int (r10 - r10 / (4 : Int32) * (4 : Int32)), .int v_value, .int v_isMade, .ref q_marks, .int v_received, .int v_unmarked, .ref q_missing, .int v_nodes, .ref q_nodeAddresses, .ref q_nodeDistances, .ref q_nodeParents, .int v_found, .ref q_foundAddress, .ref q_foundDistance, .ref q_foundParent, .int v_words, .ref q_wordAt]))] := hD
    refine lv_aload_n hx hb dX6_process_39 rfl (lv_at hl 1 rfl) ?_
    refine lv_iload_n hx hb dX6_process_40 rfl (lv_at hl 0 rfl) ?_
    refine lv_aload_n hx hb dX6_process_41 rfl (lv_at hl 1 rfl) ?_
    refine va_get (D := (dC, dI)) (ci := 6) (v := .int (r10 - r10 / (4 : Int32) * (4 : Int32))) (C := RX6) (T := TX6) (N := 24) hx hb hts hiX6 hown hK hP 1 rfl rfl 7 (by decide) hf86 (fun _ h9 => h9) rfl dX6_process_42 ?_
    obtain ⟨r11, h11, h⟩ := bd1_e h
    refine ca_Si (wc := []) (wr := [(q_addressOf, .inl (cI, 20, .inl a_addressOf)), (h0, .inr (6, [.int v_routers, .ref q_parentOf, .ref q_addressOf, .ref q_depthOf, .int v_percent, .int s_random_10, .int (0 : Int32), .int (r10 - r10 / (4 : Int32) * (4 : Int32)), .int v_value, .int v_isMade, .ref q_marks, .int v_received, .int v_unmarked, .ref q_missing, .int v_nodes, .ref q_nodeAddresses, .ref q_nodeDistances, .ref q_nodeParents, .int v_found, .ref q_foundAddress, .ref q_foundDistance, .ref q_foundParent, .int v_words, .ref q_wordAt]))]) (w1 := []) [.int r2, .int (r10 - r10 / (4 : Int32) * (4 : Int32))] [.ref h0] [] [0, 1] hx hb hml hown hts (mX6_fragmentOf l dC dI cI H.size r2 (r10 - r10 / (4 : Int32) * (4 : Int32)) h11) (va_cwS 2 hts gX6_process_X6_fragmentOf rfl rfl rfl (by decide +kernel) ⟨Nat.le_of_ble_eq_true rfl, Nat.le_of_ble_eq_true rfl⟩) hK hN hP hD hS hA rfl rfl (by decide) (by decide) (by decide) rfl hl.1 rfl (Nat.le_of_ble_eq_true rfl) dX6_process_45 ⟨Nat.zero_le _, Nat.zero_le _⟩ (fun H locs hP hD hS hz11 => ?_)
    have hP : va_P (dC, dI) vwCl [(q_addressOf, .inl (cI, 20, .inl a_addressOf)), (h0, .inr (6, [.int v_routers, .ref q_parentOf, .ref q_addressOf, .ref q_depthOf, .int v_percent, .int s_random_10, .int (0 : Int32), .int (r10 - r10 / (4 : Int32) * (4 : Int32)), .int v_value, .int v_isMade, .ref q_marks, .int v_received, .int v_unmarked, .ref q_missing, .int v_nodes, .ref q_nodeAddresses, .ref q_nodeDistances, .ref q_nodeParents, .int v_found, .ref q_foundAddress, .ref q_foundDistance, .ref q_foundParent, .int v_words, .ref q_wordAt]))] H := hP
    have hD : va_D A [(q_addressOf, .inl (cI, 20, .inl a_addressOf)), (h0, .inr (6, [.int v_routers, .ref q_parentOf, .ref q_addressOf, .ref q_depthOf, .int v_percent, .int s_random_10, .int (0 : Int32), .int (r10 - r10 / (4 : Int32) * (4 : Int32)), .int v_value, .int v_isMade, .ref q_marks, .int v_received, .int v_unmarked, .ref q_missing, .int v_nodes, .ref q_nodeAddresses, .ref q_nodeDistances, .ref q_nodeParents, .int v_found, .ref q_foundAddress, .ref q_foundDistance, .ref q_foundParent, .int v_words, .ref q_wordAt]))] := hD
    refine va_put (D := (dC, dI)) (ci := 6) (v := .int r11) (ty := .int) (C := RX6) (T := TX6) (N := 24) hx hb hts hiX6 tyX6 tyX6_ok nmX6 hown hK hP hD hS 1 rfl rfl 8 (by decide) hf92 (fun _ h9 => h9) rfl (by decide +kernel) rfl rfl (Nat.le_of_ble_eq_true rfl) dX6_process_48 (fun H locs hP hD hS => ?_)
    have hP : va_P (dC, dI) vwCl [(q_addressOf, .inl (cI, 20, .inl a_addressOf)), (h0, .inr (6, [.int v_routers, .ref q_parentOf, .ref q_addressOf, .ref q_depthOf, .int v_percent, .int s_random_10, .int (0 : Int32), .int (r10 - r10 / (4 : Int32) * (4 : Int32)), .int r11, .int v_isMade, .ref q_marks, .int v_received, .int v_unmarked, .ref q_missing, .int v_nodes, .ref q_nodeAddresses, .ref q_nodeDistances, .ref q_nodeParents, .int v_found, .ref q_foundAddress, .ref q_foundDistance, .ref q_foundParent, .int v_words, .ref q_wordAt]))] H := hP
    have hD : va_D A [(q_addressOf, .inl (cI, 20, .inl a_addressOf)), (h0, .inr (6, [.int v_routers, .ref q_parentOf, .ref q_addressOf, .ref q_depthOf, .int v_percent, .int s_random_10, .int (0 : Int32), .int (r10 - r10 / (4 : Int32) * (4 : Int32)), .int r11, .int v_isMade, .ref q_marks, .int v_received, .int v_unmarked, .ref q_missing, .int v_nodes, .ref q_nodeAddresses, .ref q_nodeDistances, .ref q_nodeParents, .int v_found, .ref q_foundAddress, .ref q_foundDistance, .ref q_foundParent, .int v_words, .ref q_wordAt]))] := hD
    refine lv_aload_n hx hb dX6_process_51 rfl (lv_at hl 1 rfl) ?_
    refine lv_iconst (v := (1 : Int32)) hx hb dX6_process_52 (by decide) ?_
    refine va_put (D := (dC, dI)) (ci := 6) (v := .int (1 : Int32)) (ty := .boolean) (C := RX6) (T := TX6) (N := 24) hx hb hts hiX6 tyX6 tyX6_ok nmX6 hown hK hP hD hS 1 rfl rfl 9 (by decide) hf95 (fun _ h9 => h9) rfl (by decide +kernel) rfl rfl (Nat.le_of_ble_eq_true rfl) dX6_process_53 (fun H locs hP hD hS => ?_)
    have hP : va_P (dC, dI) vwCl [(q_addressOf, .inl (cI, 20, .inl a_addressOf)), (h0, .inr (6, [.int v_routers, .ref q_parentOf, .ref q_addressOf, .ref q_depthOf, .int v_percent, .int s_random_10, .int (0 : Int32), .int (r10 - r10 / (4 : Int32) * (4 : Int32)), .int r11, .int (1 : Int32), .ref q_marks, .int v_received, .int v_unmarked, .ref q_missing, .int v_nodes, .ref q_nodeAddresses, .ref q_nodeDistances, .ref q_nodeParents, .int v_found, .ref q_foundAddress, .ref q_foundDistance, .ref q_foundParent, .int v_words, .ref q_wordAt]))] H := hP
    have hD : va_D A [(q_addressOf, .inl (cI, 20, .inl a_addressOf)), (h0, .inr (6, [.int v_routers, .ref q_parentOf, .ref q_addressOf, .ref q_depthOf, .int v_percent, .int s_random_10, .int (0 : Int32), .int (r10 - r10 / (4 : Int32) * (4 : Int32)), .int r11, .int (1 : Int32), .ref q_marks, .int v_received, .int v_unmarked, .ref q_missing, .int v_nodes, .ref q_nodeAddresses, .ref q_nodeDistances, .ref q_nodeParents, .int v_found, .ref q_foundAddress, .ref q_foundDistance, .ref q_foundParent, .int v_words, .ref q_wordAt]))] := hD
    refine lv_goto (tgt := 125) hx hb dX6_process_56 (by decide) ?_
    have hk0 := Option.some.inj h
    cases hk0
    exact re_v [1, 0] hx hb hr hlocks hP hD hS rfl (by decide) dX6_process_125
def bX6_travels_2 (v_percent : Int32) (a_parentOf : Nat → Int32) (a_addressOf : Nat → Int32) (y2_2 : Int32) (v_random_2 : Int32) (v_distance_2 : Int32) (v_offset_2 : Int32) (v_value_2 : Int32) (v_isMade_2 : Int32) : Option ((Int32 × Int32 × Int32 × Int32 × Int32 × Int32) ⊕ (Int32 × Int32 × Int32 × Int32 × Int32)) :=
  if y2_2 = (-7 : Int32) then
    some (.inr (v_random_2, v_distance_2, v_offset_2, v_value_2, v_isMade_2))
  else
    bd5 (fX6_process y2_2 v_percent v_random_2 v_distance_2 v_offset_2 v_value_2 v_isMade_2 a_addressOf) fun s_random_2 s_distance_2 s_offset_2 s_value_2 s_isMade_2 =>
    if ¬ (y2_2 < 0 ∨ 20 ≤ y2_2.toNatClampNeg) then
      nm ((a_parentOf y2_2.toNatClampNeg)) fun x4 =>
      some (.inl (x4, s_random_2, s_distance_2, s_offset_2, s_value_2, s_isMade_2))
    else none
def fX6_travels (N : Nat) (p1 : Int32) (v_percent : Int32) (v_random : Int32) (v_distance : Int32) (v_offset : Int32) (v_value : Int32) (v_isMade : Int32) (a_parentOf : Nat → Int32) (a_addressOf : Nat → Int32) : Option (Int32 × Int32 × Int32 × Int32 × Int32) :=
  lp (fun s => bX6_travels_2 v_percent a_parentOf a_addressOf s.1 s.2.1 s.2.2.1 s.2.2.2.1 s.2.2.2.2.1 s.2.2.2.2.2) N (p1, v_random, v_distance, v_offset, v_value, v_isMade)
set_option maxHeartbeats 4000000 in
set_option maxRecDepth 100000 in
theorem mX6_travels (l : Launch) (dC : Nat → ClassId) (dI : Nat → Nat → Nat) (cI : ClassId) (sz : Nat) (N : Nat) (h0 : Nat) (q_parentOf : Nat) (q_addressOf : Nat) (q_depthOf : Nat) (q_marks : Nat) (q_missing : Nat) (q_nodeAddresses : Nat) (q_nodeDistances : Nat) (q_nodeParents : Nat) (q_foundAddress : Nat) (q_foundDistance : Nat) (q_foundParent : Nat) (q_wordAt : Nat) (v_routers : Int32) (v_percent : Int32) (v_random : Int32) (v_distance : Int32) (v_offset : Int32) (v_value : Int32) (v_isMade : Int32) (v_received : Int32) (v_unmarked : Int32) (v_nodes : Int32) (v_found : Int32) (v_words : Int32) (a_parentOf : Nat → Int32) (a_addressOf : Nat → Int32) (p1 : Int32) {o_random : Int32} {o_distance : Int32} {o_offset : Int32} {o_value : Int32} {o_isMade : Int32} (h : fX6_travels N p1 v_percent v_random v_distance v_offset v_value v_isMade a_parentOf a_addressOf = some (o_random, o_distance, o_offset, o_value, o_isMade)) : Met l yX6_travels wsX6_travels ({ frames := 3, cells := 0, slots := 0, locals := 62 } : Room) (prX dC dI cI [.ref h0, .int p1] sz [(h0, .inr (6, [.int v_routers, .ref q_parentOf, .ref q_addressOf, .ref q_depthOf, .int v_percent, .int v_random, .int v_distance, .int v_offset, .int v_value, .int v_isMade, .ref q_marks, .int v_received, .int v_unmarked, .ref q_missing, .int v_nodes, .ref q_nodeAddresses, .ref q_nodeDistances, .ref q_nodeParents, .int v_found, .ref q_foundAddress, .ref q_foundDistance, .ref q_foundParent, .int v_words, .ref q_wordAt])), (q_parentOf, .inl (cI, 20, .inl a_parentOf)), (q_addressOf, .inl (cI, 20, .inl a_addressOf))]) (poV dC dI [(h0, .inr (6, [.int v_routers, .ref q_parentOf, .ref q_addressOf, .ref q_depthOf, .int v_percent, .int o_random, .int o_distance, .int o_offset, .int o_value, .int o_isMade, .ref q_marks, .int v_received, .int v_unmarked, .ref q_missing, .int v_nodes, .ref q_nodeAddresses, .ref q_nodeDistances, .ref q_nodeParents, .int v_found, .ref q_foundAddress, .ref q_foundDistance, .ref q_foundParent, .int v_words, .ref q_wordAt])), (q_parentOf, .inl (cI, 20, .inl a_parentOf)), (q_addressOf, .inl (cI, 20, .inl a_addressOf))] (va_A [(h0, .inr (6, [.int v_routers, .ref q_parentOf, .ref q_addressOf, .ref q_depthOf, .int v_percent, .int v_random, .int v_distance, .int v_offset, .int v_value, .int v_isMade, .ref q_marks, .int v_received, .int v_unmarked, .ref q_missing, .int v_nodes, .ref q_nodeAddresses, .ref q_nodeDistances, .ref q_nodeParents, .int v_found, .ref q_foundAddress, .ref q_foundDistance, .ref q_foundParent, .int v_words, .ref q_wordAt])), (q_parentOf, .inl (cI, 20, .inl a_parentOf)), (q_addressOf, .inl (cI, 20, .inl a_addressOf))] sz)) 0 0 (va_A [(h0, .inr (6, [.int v_routers, .ref q_parentOf, .ref q_addressOf, .ref q_depthOf, .int v_percent, .int v_random, .int v_distance, .int v_offset, .int v_value, .int v_isMade, .ref q_marks, .int v_received, .int v_unmarked, .ref q_missing, .int v_nodes, .ref q_nodeAddresses, .ref q_nodeDistances, .ref q_nodeParents, .int v_found, .ref q_foundAddress, .ref q_foundDistance, .ref q_foundParent, .int v_words, .ref q_wordAt])), (q_parentOf, .inl (cI, 20, .inl a_parentOf)), (q_addressOf, .inl (cI, 20, .inl a_addressOf))] sz) := by
  refine ofX (cc := cX6_travels) (maxL := 3) (ret := none) (lv0 := [(0, .ref h0), (1, .int p1)]) (QA := fun A => poV dC dI [(h0, .inr (6, [.int v_routers, .ref q_parentOf, .ref q_addressOf, .ref q_depthOf, .int v_percent, .int o_random, .int o_distance, .int o_offset, .int o_value, .int o_isMade, .ref q_marks, .int v_received, .int v_unmarked, .ref q_missing, .int v_nodes, .ref q_nodeAddresses, .ref q_nodeDistances, .ref q_nodeParents, .int v_found, .ref q_foundAddress, .ref q_foundDistance, .ref q_foundParent, .int v_words, .ref q_wordAt])), (q_parentOf, .inl (cI, 20, .inl a_parentOf)), (q_addressOf, .inl (cI, 20, .inl a_addressOf))] A) (by decide) rfl (Nat.le_of_ble_eq_true rfl) rfl ?_
  intro p e s m below meth c A ls H locs hx hb hr hml hown hts hlocks hin hK hN hA hP hD hS hl
  have hown : s.vm.findClass RX6 = some m.cls := hown
  unfold fX6_travels at h
  have hiX6 : ∀ w ∈ u_ws RX6 TX6 24, w ∈ wsX6_travels := fun _ h => List.mem_cons_of_mem _ (List.mem_append_right _ h)
  have hf7 := (hts (.fieldLink RX6 7 "PacketTracebackModel" "parentOf" "[I") (List.mem_of_getElem? (i := 1) (by decide +kernel)))
  refine lv_iload_n hx hb dX6_travels_0 rfl (lv_at hl 1 rfl) ?_
  refine lv_istore_n (lv' := [(2, .int p1), (0, .ref h0), (1, .int p1)]) hx hb dX6_travels_1 rfl hl (by decide) rfl (fun ls hl => ?_)
  have key2 : ∀ (n1 : Nat) (y2_2 : Int32) (v_random_2 : Int32) (v_distance_2 : Int32) (v_offset_2 : Int32) (v_value_2 : Int32) (v_isMade_2 : Int32) (H : Heap) (locs : List Loc) (ls : Array Slot), lp (fun s => bX6_travels_2 v_percent a_parentOf a_addressOf s.1 s.2.1 s.2.2.1 s.2.2.2.1 s.2.2.2.2.1 s.2.2.2.2.2) n1 (y2_2, v_random_2, v_distance_2, v_offset_2, v_value_2, v_isMade_2) = some (o_random, o_distance, o_offset, o_value, o_isMade) → va_P (dC, dI) vwCl [(h0, .inr (6, [.int v_routers, .ref q_parentOf, .ref q_addressOf, .ref q_depthOf, .int v_percent, .int v_random_2, .int v_distance_2, .int v_offset_2, .int v_value_2, .int v_isMade_2, .ref q_marks, .int v_received, .int v_unmarked, .ref q_missing, .int v_nodes, .ref q_nodeAddresses, .ref q_nodeDistances, .ref q_nodeParents, .int v_found, .ref q_foundAddress, .ref q_foundDistance, .ref q_foundParent, .int v_words, .ref q_wordAt])), (q_parentOf, .inl (cI, 20, .inl a_parentOf)), (q_addressOf, .inl (cI, 20, .inl a_addressOf))] H → va_D A [(h0, .inr (6, [.int v_routers, .ref q_parentOf, .ref q_addressOf, .ref q_depthOf, .int v_percent, .int v_random_2, .int v_distance_2, .int v_offset_2, .int v_value_2, .int v_isMade_2, .ref q_marks, .int v_received, .int v_unmarked, .ref q_missing, .int v_nodes, .ref q_nodeAddresses, .ref q_nodeDistances, .ref q_nodeParents, .int v_found, .ref q_foundAddress, .ref q_foundDistance, .ref q_foundParent, .int v_words, .ref q_wordAt])), (q_parentOf, .inl (cI, 20, .inl a_parentOf)), (q_addressOf, .inl (cI, 20, .inl a_addressOf))] → va_S A s.heap H locs → lv_has ls 3 [(2, .int y2_2), (0, .ref h0), (1, .int p1)] → W p l e ({ frames := 3, cells := 0, slots := 0, locals := 62 } : Room) s m [.ref h0, .int p1].toArray below meth c H locs 0 0 (MQ below (poV dC dI [(h0, .inr (6, [.int v_routers, .ref q_parentOf, .ref q_addressOf, .ref q_depthOf, .int v_percent, .int o_random, .int o_distance, .int o_offset, .int o_value, .int o_isMade, .ref q_marks, .int v_received, .int v_unmarked, .ref q_missing, .int v_nodes, .ref q_nodeAddresses, .ref q_nodeDistances, .ref q_nodeParents, .int v_found, .ref q_foundAddress, .ref q_foundDistance, .ref q_foundParent, .int v_words, .ref q_wordAt])), (q_parentOf, .inl (cI, 20, .inl a_parentOf)), (q_addressOf, .inl (cI, 20, .inl a_addressOf))] A) [.ref h0, .int p1].toArray s 0 0 A) (F0 m 2 ls []) := by
    intro n1
    induction n1 with
    | zero =>
      intro y2_2 v_random_2 v_distance_2 v_offset_2 v_value_2 v_isMade_2 H locs ls h
      exact (lp_0 h).elim
    | succ n1 ih1 =>
      intro y2_2 v_random_2 v_distance_2 v_offset_2 v_value_2 v_isMade_2 H locs ls h hP hD hS hl
      obtain ⟨o1, h, hk1⟩ := lp_s h
      unfold bX6_travels_2 at h
      try dsimp only at h
      refine lv_iload_n hx hb dX6_travels_2 rfl (lv_at hl 0 rfl) ?_
      refine lv_bipush (v := (-7 : Int32)) hx hb dX6_travels_3 (by decide) ?_
      refine lv_icmp_eq (tgt := 23) hx hb dX6_travels_5 (by decide) (fun c1 => ?_) (fun c1 => ?_)
      · have h := it_p c1 h
        cases Option.some.inj h
        have hk1 := un_r hk1
        cases hk1
        exact re_v [0, 1, 2] hx hb hr hlocks hP hD hS rfl (by decide) dX6_travels_23
      · have h := it_n c1 h
        refine lv_aload_n hx hb dX6_travels_8 rfl (lv_at hl 1 rfl) ?_
        refine lv_iload_n hx hb dX6_travels_9 rfl (lv_at hl 0 rfl) ?_
        obtain ⟨s_random_2, s_distance_2, s_offset_2, s_value_2, s_isMade_2, h2, h⟩ := bd5_e h
        refine ca_Vv (wc := [(h0, .inr (6, [.int v_routers, .ref q_parentOf, .ref q_addressOf, .ref q_depthOf, .int v_percent, .int v_random_2, .int v_distance_2, .int v_offset_2, .int v_value_2, .int v_isMade_2, .ref q_marks, .int v_received, .int v_unmarked, .ref q_missing, .int v_nodes, .ref q_nodeAddresses, .ref q_nodeDistances, .ref q_nodeParents, .int v_found, .ref q_foundAddress, .ref q_foundDistance, .ref q_foundParent, .int v_words, .ref q_wordAt])), (q_addressOf, .inl (cI, 20, .inl a_addressOf))]) (wr := [(q_parentOf, .inl (cI, 20, .inl a_parentOf))]) (w1 := [(h0, .inr (6, [.int v_routers, .ref q_parentOf, .ref q_addressOf, .ref q_depthOf, .int v_percent, .int s_random_2, .int s_distance_2, .int s_offset_2, .int s_value_2, .int s_isMade_2, .ref q_marks, .int v_received, .int v_unmarked, .ref q_missing, .int v_nodes, .ref q_nodeAddresses, .ref q_nodeDistances, .ref q_nodeParents, .int v_found, .ref q_foundAddress, .ref q_foundDistance, .ref q_foundParent, .int v_words, .ref q_wordAt])), (q_addressOf, .inl (cI, 20, .inl a_addressOf))]) [.int y2_2] [] [0, 2] [1] hx hb hml hown hts (mX6_process l dC dI cI H.size h0 q_parentOf q_addressOf q_depthOf q_marks q_missing q_nodeAddresses q_nodeDistances q_nodeParents q_foundAddress q_foundDistance q_foundParent q_wordAt v_routers v_percent v_random_2 v_distance_2 v_offset_2 v_value_2 v_isMade_2 v_received v_unmarked v_nodes v_found v_words a_addressOf y2_2 h2) (cwV 1 hts gX6_travels_X6_process rfl rfl rfl (by decide +kernel) ⟨Nat.le_of_ble_eq_true rfl, Nat.le_of_ble_eq_true rfl⟩) hK hN hP hD hS hA rfl rfl (by decide) (by decide) (by decide) rfl rfl rfl hl.1 rfl (Nat.le_of_ble_eq_true rfl) dX6_travels_10 ⟨Nat.zero_le _, Nat.zero_le _⟩ (fun H locs hP hD hS => ?_)
        have hP : va_P (dC, dI) vwCl [(q_parentOf, .inl (cI, 20, .inl a_parentOf)), (h0, .inr (6, [.int v_routers, .ref q_parentOf, .ref q_addressOf, .ref q_depthOf, .int v_percent, .int s_random_2, .int s_distance_2, .int s_offset_2, .int s_value_2, .int s_isMade_2, .ref q_marks, .int v_received, .int v_unmarked, .ref q_missing, .int v_nodes, .ref q_nodeAddresses, .ref q_nodeDistances, .ref q_nodeParents, .int v_found, .ref q_foundAddress, .ref q_foundDistance, .ref q_foundParent, .int v_words, .ref q_wordAt])), (q_addressOf, .inl (cI, 20, .inl a_addressOf))] H := hP
        have hD : va_D A [(q_parentOf, .inl (cI, 20, .inl a_parentOf)), (h0, .inr (6, [.int v_routers, .ref q_parentOf, .ref q_addressOf, .ref q_depthOf, .int v_percent, .int s_random_2, .int s_distance_2, .int s_offset_2, .int s_value_2, .int s_isMade_2, .ref q_marks, .int v_received, .int v_unmarked, .ref q_missing, .int v_nodes, .ref q_nodeAddresses, .ref q_nodeDistances, .ref q_nodeParents, .int v_found, .ref q_foundAddress, .ref q_foundDistance, .ref q_foundParent, .int v_words, .ref q_wordAt])), (q_addressOf, .inl (cI, 20, .inl a_addressOf))] := hD
        refine lv_aload_n hx hb dX6_travels_13 rfl (lv_at hl 1 rfl) ?_
        refine va_get (D := (dC, dI)) (ci := 6) (v := .ref q_parentOf) (C := RX6) (T := TX6) (N := 24) hx hb hts hiX6 hown hK hP 1 rfl rfl 1 (by decide) hf7 (fun _ h9 => h9) rfl dX6_travels_14 ?_
        refine lv_iload_n hx hb dX6_travels_17 rfl (lv_at hl 0 rfl) ?_
        obtain ⟨g3, h⟩ := gd_e h
        refine va_iald hx hb hK hP 0 0 rfl rfl g3 dX6_travels_18 ?_
        refine lv_topi (fun x4 ex4 => ?_)
        have h := nm_u ex4 h
        refine lv_istore_n (lv' := [(2, .int x4), (0, .ref h0), (1, .int p1)]) hx hb dX6_travels_19 rfl hl (by decide) rfl (fun ls hl => ?_)
        refine lv_goto (tgt := 2) hx hb dX6_travels_20 (by decide) ?_
        cases Option.some.inj h
        exact ih1 _ _ _ _ _ _ _ _ _ (un_l hk1) (hP.sub [1, 0, 2] rfl) (hD.sub [1, 0, 2] (by decide) rfl) hS (lv_sub hl [0, 1, 2] rfl)
  exact key2 N _ _ _ _ _ _ _ _ _ h hP hD hS hl
def fX6_placeOf (p0 : Int32) (p1 : Int32) (p2 : Int32) : Option (Int32) :=
  some ((((128 : Int32) * p0) + ((32 : Int32) * p1)) + p2)
set_option maxHeartbeats 4000000 in
set_option maxRecDepth 100000 in
theorem mX6_placeOf (l : Launch) (dC : Nat → ClassId) (dI : Nat → Nat → Nat) (cI : ClassId) (sz : Nat) (p0 : Int32) (p1 : Int32) (p2 : Int32) {rr : Int32} (h : fX6_placeOf p0 p1 p2 = some rr) : Met l yX6_placeOf wsX6_placeOf ({ frames := 0, cells := 0, slots := 0, locals := 0 } : Room) (prX dC dI cI [.int p0, .int p1, .int p2] sz []) (poI dC dI .int rr [] (va_A [] sz)) 0 0 (va_A [] sz) := by
  refine ofX (cc := cX6_placeOf) (maxL := 3) (ret := (some .int)) (lv0 := [(0, .int p0), (1, .int p1), (2, .int p2)]) (QA := fun A => poI dC dI .int rr [] A) (by decide) rfl (Nat.le_of_ble_eq_true rfl) rfl ?_
  intro p e s m below meth c A ls H locs hx hb hr hml hown hts hlocks hin hK hN hA hP hD hS hl
  have hown : s.vm.findClass RX6 = some m.cls := hown
  unfold fX6_placeOf at h
  refine lv_sipush (v := (128 : Int32)) hx hb dX6_placeOf_0 (by decide) ?_
  refine lv_iload_n hx hb dX6_placeOf_3 rfl (lv_at hl 0 rfl) ?_
  refine lv_imul hx hb dX6_placeOf_4 ?_
  refine lv_bipush (v := (32 : Int32)) hx hb dX6_placeOf_5 (by decide) ?_
  refine lv_iload_n hx hb dX6_placeOf_7 rfl (lv_at hl 1 rfl) ?_
  refine lv_imul hx hb dX6_placeOf_8 ?_
  refine lv_iadd hx hb dX6_placeOf_9 ?_
  refine lv_iload_n hx hb dX6_placeOf_10 rfl (lv_at hl 2 rfl) ?_
  refine lv_iadd hx hb dX6_placeOf_11 ?_
  have hk0 := Option.some.inj h
  cases hk0
  exact re_i [] hx hb hr hlocks rfl hP hD hS rfl (by decide) rfl dX6_placeOf_12
def fX6_records (v_distance : Int32) (v_offset : Int32) (v_value : Int32) (v_received : Int32) (v_unmarked : Int32) (a_marks : Nat → Int32) : Option (Int32 × Int32 × (Nat → Int32)) :=
  if v_distance = (-7 : Int32) then
    some ((v_received + (1 : Int32)), (v_unmarked + (1 : Int32)), a_marks)
  else
    bd1 (fX6_placeOf v_distance v_offset v_value) fun r2 =>
    if ¬ (r2 < 0 ∨ 4096 ≤ r2.toNatClampNeg) then
      some ((v_received + (1 : Int32)), v_unmarked, (upd a_marks r2.toNatClampNeg ((a_marks r2.toNatClampNeg) + (1 : Int32))))
    else none
set_option maxHeartbeats 4000000 in
set_option maxRecDepth 100000 in
theorem mX6_records (l : Launch) (dC : Nat → ClassId) (dI : Nat → Nat → Nat) (cI : ClassId) (sz : Nat) (h0 : Nat) (q_parentOf : Nat) (q_addressOf : Nat) (q_depthOf : Nat) (q_marks : Nat) (q_missing : Nat) (q_nodeAddresses : Nat) (q_nodeDistances : Nat) (q_nodeParents : Nat) (q_foundAddress : Nat) (q_foundDistance : Nat) (q_foundParent : Nat) (q_wordAt : Nat) (v_routers : Int32) (v_percent : Int32) (v_random : Int32) (v_distance : Int32) (v_offset : Int32) (v_value : Int32) (v_isMade : Int32) (v_received : Int32) (v_unmarked : Int32) (v_nodes : Int32) (v_found : Int32) (v_words : Int32) (a_marks : Nat → Int32) {o_received : Int32} {o_unmarked : Int32} {o_marks : Nat → Int32} (h : fX6_records v_distance v_offset v_value v_received v_unmarked a_marks = some (o_received, o_unmarked, o_marks)) : Met l yX6_records wsX6_records ({ frames := 1, cells := 0, slots := 0, locals := 22 } : Room) (prX dC dI cI [.ref h0] sz [(h0, .inr (6, [.int v_routers, .ref q_parentOf, .ref q_addressOf, .ref q_depthOf, .int v_percent, .int v_random, .int v_distance, .int v_offset, .int v_value, .int v_isMade, .ref q_marks, .int v_received, .int v_unmarked, .ref q_missing, .int v_nodes, .ref q_nodeAddresses, .ref q_nodeDistances, .ref q_nodeParents, .int v_found, .ref q_foundAddress, .ref q_foundDistance, .ref q_foundParent, .int v_words, .ref q_wordAt])), (q_marks, .inl (cI, 4096, .inl a_marks))]) (poV dC dI [(h0, .inr (6, [.int v_routers, .ref q_parentOf, .ref q_addressOf, .ref q_depthOf, .int v_percent, .int v_random, .int v_distance, .int v_offset, .int v_value, .int v_isMade, .ref q_marks, .int o_received, .int o_unmarked, .ref q_missing, .int v_nodes, .ref q_nodeAddresses, .ref q_nodeDistances, .ref q_nodeParents, .int v_found, .ref q_foundAddress, .ref q_foundDistance, .ref q_foundParent, .int v_words, .ref q_wordAt])), (q_marks, .inl (cI, 4096, .inl o_marks))] (va_A [(h0, .inr (6, [.int v_routers, .ref q_parentOf, .ref q_addressOf, .ref q_depthOf, .int v_percent, .int v_random, .int v_distance, .int v_offset, .int v_value, .int v_isMade, .ref q_marks, .int v_received, .int v_unmarked, .ref q_missing, .int v_nodes, .ref q_nodeAddresses, .ref q_nodeDistances, .ref q_nodeParents, .int v_found, .ref q_foundAddress, .ref q_foundDistance, .ref q_foundParent, .int v_words, .ref q_wordAt])), (q_marks, .inl (cI, 4096, .inl a_marks))] sz)) 0 0 (va_A [(h0, .inr (6, [.int v_routers, .ref q_parentOf, .ref q_addressOf, .ref q_depthOf, .int v_percent, .int v_random, .int v_distance, .int v_offset, .int v_value, .int v_isMade, .ref q_marks, .int v_received, .int v_unmarked, .ref q_missing, .int v_nodes, .ref q_nodeAddresses, .ref q_nodeDistances, .ref q_nodeParents, .int v_found, .ref q_foundAddress, .ref q_foundDistance, .ref q_foundParent, .int v_words, .ref q_wordAt])), (q_marks, .inl (cI, 4096, .inl a_marks))] sz) := by
  refine ofX (cc := cX6_records) (maxL := 1) (ret := none) (lv0 := [(0, .ref h0)]) (QA := fun A => poV dC dI [(h0, .inr (6, [.int v_routers, .ref q_parentOf, .ref q_addressOf, .ref q_depthOf, .int v_percent, .int v_random, .int v_distance, .int v_offset, .int v_value, .int v_isMade, .ref q_marks, .int o_received, .int o_unmarked, .ref q_missing, .int v_nodes, .ref q_nodeAddresses, .ref q_nodeDistances, .ref q_nodeParents, .int v_found, .ref q_foundAddress, .ref q_foundDistance, .ref q_foundParent, .int v_words, .ref q_wordAt])), (q_marks, .inl (cI, 4096, .inl o_marks))] A) (by decide) rfl (Nat.le_of_ble_eq_true rfl) rfl ?_
  intro p e s m below meth c A ls H locs hx hb hr hml hown hts hlocks hin hK hN hA hP hD hS hl
  have hown : s.vm.findClass RX6 = some m.cls := hown
  unfold fX6_records at h
  have hiX6 : ∀ w ∈ u_ws RX6 TX6 24, w ∈ wsX6_records := fun _ h => List.mem_cons_of_mem _ (List.mem_append_right _ h)
  have hf103 := (hts (.fieldLink RX6 103 "PacketTracebackModel" "received" "I") (List.mem_of_getElem? (i := 1) (by decide +kernel)))
  have hf89 := (hts (.fieldLink RX6 89 "PacketTracebackModel" "distance" "I") (List.mem_of_getElem? (i := 2) (by decide +kernel)))
  have hf19 := (hts (.fieldLink RX6 19 "PacketTracebackModel" "marks" "[I") (List.mem_of_getElem? (i := 4) (by decide +kernel)))
  have hf86 := (hts (.fieldLink RX6 86 "PacketTracebackModel" "offset" "I") (List.mem_of_getElem? (i := 5) (by decide +kernel)))
  have hf92 := (hts (.fieldLink RX6 92 "PacketTracebackModel" "value" "I") (List.mem_of_getElem? (i := 6) (by decide +kernel)))
  have hf106 := (hts (.fieldLink RX6 106 "PacketTracebackModel" "unmarked" "I") (List.mem_of_getElem? (i := 3) (by decide +kernel)))
  refine lv_aload_n hx hb dX6_records_0 rfl (lv_at hl 0 rfl) ?_
  refine lv_dup hx hb dX6_records_1 rfl ?_
  refine va_get (D := (dC, dI)) (ci := 6) (v := .int v_received) (C := RX6) (T := TX6) (N := 24) hx hb hts hiX6 hown hK hP 0 rfl rfl 11 (by decide) hf103 (fun _ h9 => h9) rfl dX6_records_2 ?_
  refine lv_iconst (v := (1 : Int32)) hx hb dX6_records_5 (by decide) ?_
  refine lv_iadd hx hb dX6_records_6 ?_
  refine va_put (D := (dC, dI)) (ci := 6) (v := .int (v_received + (1 : Int32))) (ty := .int) (C := RX6) (T := TX6) (N := 24) hx hb hts hiX6 tyX6 tyX6_ok nmX6 hown hK hP hD hS 0 rfl rfl 11 (by decide) hf103 (fun _ h9 => h9) rfl (by decide +kernel) rfl rfl (Nat.le_of_ble_eq_true rfl) dX6_records_7 (fun H locs hP hD hS => ?_)
  have hP : va_P (dC, dI) vwCl [(h0, .inr (6, [.int v_routers, .ref q_parentOf, .ref q_addressOf, .ref q_depthOf, .int v_percent, .int v_random, .int v_distance, .int v_offset, .int v_value, .int v_isMade, .ref q_marks, .int (v_received + (1 : Int32)), .int v_unmarked, .ref q_missing, .int v_nodes, .ref q_nodeAddresses, .ref q_nodeDistances, .ref q_nodeParents, .int v_found, .ref q_foundAddress, .ref q_foundDistance, .ref q_foundParent, .int v_words, .ref q_wordAt])), (q_marks, .inl (cI, 4096, .inl a_marks))] H := hP
  have hD : va_D A [(h0, .inr (6, [.int v_routers, .ref q_parentOf, .ref q_addressOf, .ref q_depthOf, .int v_percent, .int v_random, .int v_distance, .int v_offset, .int v_value, .int v_isMade, .ref q_marks, .int (v_received + (1 : Int32)), .int v_unmarked, .ref q_missing, .int v_nodes, .ref q_nodeAddresses, .ref q_nodeDistances, .ref q_nodeParents, .int v_found, .ref q_foundAddress, .ref q_foundDistance, .ref q_foundParent, .int v_words, .ref q_wordAt])), (q_marks, .inl (cI, 4096, .inl a_marks))] := hD
  refine lv_aload_n hx hb dX6_records_10 rfl (lv_at hl 0 rfl) ?_
  refine va_get (D := (dC, dI)) (ci := 6) (v := .int v_distance) (C := RX6) (T := TX6) (N := 24) hx hb hts hiX6 hown hK hP 0 rfl rfl 6 (by decide) hf89 (fun _ h9 => h9) rfl dX6_records_11 ?_
  refine lv_bipush (v := (-7 : Int32)) hx hb dX6_records_14 (by decide) ?_
  refine lv_icmp_ne (tgt := 32) hx hb dX6_records_16 (by decide) (fun c1 => ?_) (fun c1 => ?_)
  · have h := it_n c1 h
    refine lv_aload_n hx hb dX6_records_32 rfl (lv_at hl 0 rfl) ?_
    refine va_get (D := (dC, dI)) (ci := 6) (v := .ref q_marks) (C := RX6) (T := TX6) (N := 24) hx hb hts hiX6 hown hK hP 0 rfl rfl 10 (by decide) hf19 (fun _ h9 => h9) rfl dX6_records_33 ?_
    refine lv_aload_n hx hb dX6_records_36 rfl (lv_at hl 0 rfl) ?_
    refine va_get (D := (dC, dI)) (ci := 6) (v := .int v_distance) (C := RX6) (T := TX6) (N := 24) hx hb hts hiX6 hown hK hP 0 rfl rfl 6 (by decide) hf89 (fun _ h9 => h9) rfl dX6_records_37 ?_
    refine lv_aload_n hx hb dX6_records_40 rfl (lv_at hl 0 rfl) ?_
    refine va_get (D := (dC, dI)) (ci := 6) (v := .int v_offset) (C := RX6) (T := TX6) (N := 24) hx hb hts hiX6 hown hK hP 0 rfl rfl 7 (by decide) hf86 (fun _ h9 => h9) rfl dX6_records_41 ?_
    refine lv_aload_n hx hb dX6_records_44 rfl (lv_at hl 0 rfl) ?_
    refine va_get (D := (dC, dI)) (ci := 6) (v := .int v_value) (C := RX6) (T := TX6) (N := 24) hx hb hts hiX6 hown hK hP 0 rfl rfl 8 (by decide) hf92 (fun _ h9 => h9) rfl dX6_records_45 ?_
    obtain ⟨r2, h2, h⟩ := bd1_e h
    refine ca_Si (wc := []) (wr := [(h0, .inr (6, [.int v_routers, .ref q_parentOf, .ref q_addressOf, .ref q_depthOf, .int v_percent, .int v_random, .int v_distance, .int v_offset, .int v_value, .int v_isMade, .ref q_marks, .int (v_received + (1 : Int32)), .int v_unmarked, .ref q_missing, .int v_nodes, .ref q_nodeAddresses, .ref q_nodeDistances, .ref q_nodeParents, .int v_found, .ref q_foundAddress, .ref q_foundDistance, .ref q_foundParent, .int v_words, .ref q_wordAt])), (q_marks, .inl (cI, 4096, .inl a_marks))]) (w1 := []) [.int v_distance, .int v_offset, .int v_value] [.ref q_marks] [] [0, 1] hx hb hml hown hts (mX6_placeOf l dC dI cI H.size v_distance v_offset v_value h2) (va_cwS 3 hts gX6_records_X6_placeOf rfl rfl rfl (by decide +kernel) ⟨Nat.le_of_ble_eq_true rfl, Nat.le_of_ble_eq_true rfl⟩) hK hN hP hD hS hA rfl rfl (by decide) (by decide) (by decide) rfl hl.1 rfl (Nat.le_of_ble_eq_true rfl) dX6_records_48 ⟨Nat.zero_le _, Nat.zero_le _⟩ (fun H locs hP hD hS hz2 => ?_)
    have hP : va_P (dC, dI) vwCl [(h0, .inr (6, [.int v_routers, .ref q_parentOf, .ref q_addressOf, .ref q_depthOf, .int v_percent, .int v_random, .int v_distance, .int v_offset, .int v_value, .int v_isMade, .ref q_marks, .int (v_received + (1 : Int32)), .int v_unmarked, .ref q_missing, .int v_nodes, .ref q_nodeAddresses, .ref q_nodeDistances, .ref q_nodeParents, .int v_found, .ref q_foundAddress, .ref q_foundDistance, .ref q_foundParent, .int v_words, .ref q_wordAt])), (q_marks, .inl (cI, 4096, .inl a_marks))] H := hP
    have hD : va_D A [(h0, .inr (6, [.int v_routers, .ref q_parentOf, .ref q_addressOf, .ref q_depthOf, .int v_percent, .int v_random, .int v_distance, .int v_offset, .int v_value, .int v_isMade, .ref q_marks, .int (v_received + (1 : Int32)), .int v_unmarked, .ref q_missing, .int v_nodes, .ref q_nodeAddresses, .ref q_nodeDistances, .ref q_nodeParents, .int v_found, .ref q_foundAddress, .ref q_foundDistance, .ref q_foundParent, .int v_words, .ref q_wordAt])), (q_marks, .inl (cI, 4096, .inl a_marks))] := hD
    refine lv_dup2_11 hx hb dX6_records_51 rfl rfl ?_
    obtain ⟨g3, h⟩ := gd_e h
    refine va_iald hx hb hK hP 1 0 rfl rfl g3 dX6_records_52 ?_
    refine lv_iconst (v := (1 : Int32)) hx hb dX6_records_53 (by decide) ?_
    refine lv_iadd hx hb dX6_records_54 ?_
    refine va_iast hx hb hK hP hD hS 1 0 rfl rfl g3 dX6_records_55 (fun H locs hP hD hS => ?_)
    have hP : va_P (dC, dI) vwCl [(h0, .inr (6, [.int v_routers, .ref q_parentOf, .ref q_addressOf, .ref q_depthOf, .int v_percent, .int v_random, .int v_distance, .int v_offset, .int v_value, .int v_isMade, .ref q_marks, .int (v_received + (1 : Int32)), .int v_unmarked, .ref q_missing, .int v_nodes, .ref q_nodeAddresses, .ref q_nodeDistances, .ref q_nodeParents, .int v_found, .ref q_foundAddress, .ref q_foundDistance, .ref q_foundParent, .int v_words, .ref q_wordAt])), (q_marks, .inl (cI, 4096, .inl (upd a_marks r2.toNatClampNeg ((a_marks r2.toNatClampNeg) + (1 : Int32)))))] H := hP
    have hD : va_D A [(h0, .inr (6, [.int v_routers, .ref q_parentOf, .ref q_addressOf, .ref q_depthOf, .int v_percent, .int v_random, .int v_distance, .int v_offset, .int v_value, .int v_isMade, .ref q_marks, .int (v_received + (1 : Int32)), .int v_unmarked, .ref q_missing, .int v_nodes, .ref q_nodeAddresses, .ref q_nodeDistances, .ref q_nodeParents, .int v_found, .ref q_foundAddress, .ref q_foundDistance, .ref q_foundParent, .int v_words, .ref q_wordAt])), (q_marks, .inl (cI, 4096, .inl (upd a_marks r2.toNatClampNeg ((a_marks r2.toNatClampNeg) + (1 : Int32)))))] := hD
    have hk0 := Option.some.inj h
    cases hk0
    exact re_v [0, 1] hx hb hr hlocks hP hD hS rfl (by decide) dX6_records_56
  · have h := it_p c1 h
    refine lv_aload_n hx hb dX6_records_19 rfl (lv_at hl 0 rfl) ?_
    refine lv_dup hx hb dX6_records_20 rfl ?_
    refine va_get (D := (dC, dI)) (ci := 6) (v := .int v_unmarked) (C := RX6) (T := TX6) (N := 24) hx hb hts hiX6 hown hK hP 0 rfl rfl 12 (by decide) hf106 (fun _ h9 => h9) rfl dX6_records_21 ?_
    refine lv_iconst (v := (1 : Int32)) hx hb dX6_records_24 (by decide) ?_
    refine lv_iadd hx hb dX6_records_25 ?_
    refine va_put (D := (dC, dI)) (ci := 6) (v := .int (v_unmarked + (1 : Int32))) (ty := .int) (C := RX6) (T := TX6) (N := 24) hx hb hts hiX6 tyX6 tyX6_ok nmX6 hown hK hP hD hS 0 rfl rfl 12 (by decide) hf106 (fun _ h9 => h9) rfl (by decide +kernel) rfl rfl (Nat.le_of_ble_eq_true rfl) dX6_records_26 (fun H locs hP hD hS => ?_)
    have hP : va_P (dC, dI) vwCl [(h0, .inr (6, [.int v_routers, .ref q_parentOf, .ref q_addressOf, .ref q_depthOf, .int v_percent, .int v_random, .int v_distance, .int v_offset, .int v_value, .int v_isMade, .ref q_marks, .int (v_received + (1 : Int32)), .int (v_unmarked + (1 : Int32)), .ref q_missing, .int v_nodes, .ref q_nodeAddresses, .ref q_nodeDistances, .ref q_nodeParents, .int v_found, .ref q_foundAddress, .ref q_foundDistance, .ref q_foundParent, .int v_words, .ref q_wordAt])), (q_marks, .inl (cI, 4096, .inl a_marks))] H := hP
    have hD : va_D A [(h0, .inr (6, [.int v_routers, .ref q_parentOf, .ref q_addressOf, .ref q_depthOf, .int v_percent, .int v_random, .int v_distance, .int v_offset, .int v_value, .int v_isMade, .ref q_marks, .int (v_received + (1 : Int32)), .int (v_unmarked + (1 : Int32)), .ref q_missing, .int v_nodes, .ref q_nodeAddresses, .ref q_nodeDistances, .ref q_nodeParents, .int v_found, .ref q_foundAddress, .ref q_foundDistance, .ref q_foundParent, .int v_words, .ref q_wordAt])), (q_marks, .inl (cI, 4096, .inl a_marks))] := hD
    refine lv_goto (tgt := 56) hx hb dX6_records_29 (by decide) ?_
    have hk0 := Option.some.inj h
    cases hk0
    exact re_v [0, 1] hx hb hr hlocks hP hD hS rfl (by decide) dX6_records_56
def bX6_sendPackets_29 (N : Nat) (p1 : Int32) (p2 : Int32) (v_percent : Int32) (a_parentOf : Nat → Int32) (a_addressOf : Nat → Int32) (y3_29 : Int32) (y4_29 : Int32) (v_random_29 : Int32) (v_distance_29 : Int32) (v_offset_29 : Int32) (v_value_29 : Int32) (v_isMade_29 : Int32) (v_received_29 : Int32) (v_unmarked_29 : Int32) (a_marks_29 : Nat → Int32) : Option ((Int32 × Int32 × Int32 × Int32 × Int32 × Int32 × Int32 × Int32 × Int32 × (Nat → Int32)) ⊕ (Int32 × Int32 × Int32 × Int32 × Int32 × Int32 × Int32 × Int32 × (Nat → Int32))) :=
  if p2 ≤ y4_29 then
    some (.inr (y3_29, v_random_29, v_distance_29, v_offset_29, v_value_29, v_isMade_29, v_received_29, v_unmarked_29, a_marks_29))
  else
    bd5 (fX6_travels N p1 v_percent v_random_29 (-7 : Int32) v_offset_29 v_value_29 v_isMade_29 a_parentOf a_addressOf) fun s_random_6 s_distance_6 s_offset_6 s_value_6 s_isMade_6 =>
    bd3 (fX6_records s_distance_6 s_offset_6 s_value_6 v_received_29 v_unmarked_29 a_marks_29) fun s_received_7 s_unmarked_7 s_marks_7 =>
    if s_distance_6 = (-7 : Int32) then
      nm ((y3_29 + (0 : Int32))) fun x10 =>
      some (.inl (x10, (y4_29 + 1), s_random_6, s_distance_6, s_offset_6, s_value_6, s_isMade_6, s_received_7, s_unmarked_7, s_marks_7))
    else
      nm ((y3_29 + (1 : Int32))) fun x9 =>
      some (.inl (x9, (y4_29 + 1), s_random_6, s_distance_6, s_offset_6, s_value_6, s_isMade_6, s_received_7, s_unmarked_7, s_marks_7))
def fX6_sendPackets (N : Nat) (p1 : Int32) (p2 : Int32) (v_routers : Int32) (v_percent : Int32) (v_random : Int32) (v_distance : Int32) (v_offset : Int32) (v_value : Int32) (v_isMade : Int32) (v_received : Int32) (v_unmarked : Int32) (a_parentOf : Nat → Int32) (a_addressOf : Nat → Int32) (a_marks : Nat → Int32) : Option (Int32 × Int32 × Int32 × Int32 × Int32 × Int32 × Int32 × Int32 × (Nat → Int32)) :=
  bd1 (fX6_isRouter p1 v_routers) fun r1 =>
  if r1 = 0 then
    some ((-1 : Int32), v_random, v_distance, v_offset, v_value, v_isMade, v_received, v_unmarked, a_marks)
  else
    bd1 (fX6_within p2 (1 : Int32) (500 : Int32)) fun r3 =>
    if r3 = 0 then
      some ((-2 : Int32), v_random, v_distance, v_offset, v_value, v_isMade, v_received, v_unmarked, a_marks)
    else
      lp (fun s => bX6_sendPackets_29 N p1 p2 v_percent a_parentOf a_addressOf s.1 s.2.1 s.2.2.1 s.2.2.2.1 s.2.2.2.2.1 s.2.2.2.2.2.1 s.2.2.2.2.2.2.1 s.2.2.2.2.2.2.2.1 s.2.2.2.2.2.2.2.2.1 s.2.2.2.2.2.2.2.2.2) N ((0 : Int32), (0 : Int32), v_random, v_distance, v_offset, v_value, v_isMade, v_received, v_unmarked, a_marks)
set_option maxHeartbeats 4000000 in
set_option maxRecDepth 100000 in
theorem mX6_sendPackets (l : Launch) (dC : Nat → ClassId) (dI : Nat → Nat → Nat) (cI : ClassId) (sz : Nat) (N : Nat) (h0 : Nat) (q_parentOf : Nat) (q_addressOf : Nat) (q_depthOf : Nat) (q_marks : Nat) (q_missing : Nat) (q_nodeAddresses : Nat) (q_nodeDistances : Nat) (q_nodeParents : Nat) (q_foundAddress : Nat) (q_foundDistance : Nat) (q_foundParent : Nat) (q_wordAt : Nat) (v_routers : Int32) (v_percent : Int32) (v_random : Int32) (v_distance : Int32) (v_offset : Int32) (v_value : Int32) (v_isMade : Int32) (v_received : Int32) (v_unmarked : Int32) (v_nodes : Int32) (v_found : Int32) (v_words : Int32) (a_parentOf : Nat → Int32) (a_addressOf : Nat → Int32) (a_marks : Nat → Int32) (p1 : Int32) (p2 : Int32) {rr : Int32} {o_random : Int32} {o_distance : Int32} {o_offset : Int32} {o_value : Int32} {o_isMade : Int32} {o_received : Int32} {o_unmarked : Int32} {o_marks : Nat → Int32} (h : fX6_sendPackets N p1 p2 v_routers v_percent v_random v_distance v_offset v_value v_isMade v_received v_unmarked a_parentOf a_addressOf a_marks = some (rr, o_random, o_distance, o_offset, o_value, o_isMade, o_received, o_unmarked, o_marks)) : Met l yX6_sendPackets wsX6_sendPackets ({ frames := 4, cells := 0, slots := 0, locals := 84 } : Room) (prX dC dI cI [.ref h0, .int p1, .int p2] sz [(h0, .inr (6, [.int v_routers, .ref q_parentOf, .ref q_addressOf, .ref q_depthOf, .int v_percent, .int v_random, .int v_distance, .int v_offset, .int v_value, .int v_isMade, .ref q_marks, .int v_received, .int v_unmarked, .ref q_missing, .int v_nodes, .ref q_nodeAddresses, .ref q_nodeDistances, .ref q_nodeParents, .int v_found, .ref q_foundAddress, .ref q_foundDistance, .ref q_foundParent, .int v_words, .ref q_wordAt])), (q_parentOf, .inl (cI, 20, .inl a_parentOf)), (q_addressOf, .inl (cI, 20, .inl a_addressOf)), (q_marks, .inl (cI, 4096, .inl a_marks))]) (poI dC dI .int rr [(h0, .inr (6, [.int v_routers, .ref q_parentOf, .ref q_addressOf, .ref q_depthOf, .int v_percent, .int o_random, .int o_distance, .int o_offset, .int o_value, .int o_isMade, .ref q_marks, .int o_received, .int o_unmarked, .ref q_missing, .int v_nodes, .ref q_nodeAddresses, .ref q_nodeDistances, .ref q_nodeParents, .int v_found, .ref q_foundAddress, .ref q_foundDistance, .ref q_foundParent, .int v_words, .ref q_wordAt])), (q_parentOf, .inl (cI, 20, .inl a_parentOf)), (q_addressOf, .inl (cI, 20, .inl a_addressOf)), (q_marks, .inl (cI, 4096, .inl o_marks))] (va_A [(h0, .inr (6, [.int v_routers, .ref q_parentOf, .ref q_addressOf, .ref q_depthOf, .int v_percent, .int v_random, .int v_distance, .int v_offset, .int v_value, .int v_isMade, .ref q_marks, .int v_received, .int v_unmarked, .ref q_missing, .int v_nodes, .ref q_nodeAddresses, .ref q_nodeDistances, .ref q_nodeParents, .int v_found, .ref q_foundAddress, .ref q_foundDistance, .ref q_foundParent, .int v_words, .ref q_wordAt])), (q_parentOf, .inl (cI, 20, .inl a_parentOf)), (q_addressOf, .inl (cI, 20, .inl a_addressOf)), (q_marks, .inl (cI, 4096, .inl a_marks))] sz)) 0 0 (va_A [(h0, .inr (6, [.int v_routers, .ref q_parentOf, .ref q_addressOf, .ref q_depthOf, .int v_percent, .int v_random, .int v_distance, .int v_offset, .int v_value, .int v_isMade, .ref q_marks, .int v_received, .int v_unmarked, .ref q_missing, .int v_nodes, .ref q_nodeAddresses, .ref q_nodeDistances, .ref q_nodeParents, .int v_found, .ref q_foundAddress, .ref q_foundDistance, .ref q_foundParent, .int v_words, .ref q_wordAt])), (q_parentOf, .inl (cI, 20, .inl a_parentOf)), (q_addressOf, .inl (cI, 20, .inl a_addressOf)), (q_marks, .inl (cI, 4096, .inl a_marks))] sz) := by
  refine ofX (cc := cX6_sendPackets) (maxL := 5) (ret := (some .int)) (lv0 := [(0, .ref h0), (1, .int p1), (2, .int p2)]) (QA := fun A => poI dC dI .int rr [(h0, .inr (6, [.int v_routers, .ref q_parentOf, .ref q_addressOf, .ref q_depthOf, .int v_percent, .int o_random, .int o_distance, .int o_offset, .int o_value, .int o_isMade, .ref q_marks, .int o_received, .int o_unmarked, .ref q_missing, .int v_nodes, .ref q_nodeAddresses, .ref q_nodeDistances, .ref q_nodeParents, .int v_found, .ref q_foundAddress, .ref q_foundDistance, .ref q_foundParent, .int v_words, .ref q_wordAt])), (q_parentOf, .inl (cI, 20, .inl a_parentOf)), (q_addressOf, .inl (cI, 20, .inl a_addressOf)), (q_marks, .inl (cI, 4096, .inl o_marks))] A) (by decide) rfl (Nat.le_of_ble_eq_true rfl) rfl ?_
  intro p e s m below meth c A ls H locs hx hb hr hml hown hts hlocks hin hK hN hA hP hD hS hl
  have hown : s.vm.findClass RX6 = some m.cls := hown
  unfold fX6_sendPackets at h
  have hiX6 : ∀ w ∈ u_ws RX6 TX6 24, w ∈ wsX6_sendPackets := fun _ h => List.mem_cons_of_mem _ (List.mem_append_right _ h)
  have hf89 := (hts (.fieldLink RX6 89 "PacketTracebackModel" "distance" "I") (List.mem_of_getElem? (i := 1) (by decide +kernel)))
  refine lv_aload_n hx hb dX6_sendPackets_0 rfl (lv_at hl 0 rfl) ?_
  refine lv_iload_n hx hb dX6_sendPackets_1 rfl (lv_at hl 1 rfl) ?_
  obtain ⟨r1, h1, h⟩ := bd1_e h
  refine ca_Vi (wc := [(h0, .inr (6, [.int v_routers, .ref q_parentOf, .ref q_addressOf, .ref q_depthOf, .int v_percent, .int v_random, .int v_distance, .int v_offset, .int v_value, .int v_isMade, .ref q_marks, .int v_received, .int v_unmarked, .ref q_missing, .int v_nodes, .ref q_nodeAddresses, .ref q_nodeDistances, .ref q_nodeParents, .int v_found, .ref q_foundAddress, .ref q_foundDistance, .ref q_foundParent, .int v_words, .ref q_wordAt]))]) (wr := [(q_parentOf, .inl (cI, 20, .inl a_parentOf)), (q_addressOf, .inl (cI, 20, .inl a_addressOf)), (q_marks, .inl (cI, 4096, .inl a_marks))]) (w1 := [(h0, .inr (6, [.int v_routers, .ref q_parentOf, .ref q_addressOf, .ref q_depthOf, .int v_percent, .int v_random, .int v_distance, .int v_offset, .int v_value, .int v_isMade, .ref q_marks, .int v_received, .int v_unmarked, .ref q_missing, .int v_nodes, .ref q_nodeAddresses, .ref q_nodeDistances, .ref q_nodeParents, .int v_found, .ref q_foundAddress, .ref q_foundDistance, .ref q_foundParent, .int v_words, .ref q_wordAt]))]) [.int p1] [] [0] [1, 2, 3] hx hb hml hown hts (mX6_isRouter l dC dI cI H.size h0 q_parentOf q_addressOf q_depthOf q_marks q_missing q_nodeAddresses q_nodeDistances q_nodeParents q_foundAddress q_foundDistance q_foundParent q_wordAt v_routers v_percent v_random v_distance v_offset v_value v_isMade v_received v_unmarked v_nodes v_found v_words p1 h1) (cwV 1 hts gX6_sendPackets_X6_isRouter rfl rfl rfl (by decide +kernel) ⟨Nat.le_of_ble_eq_true rfl, Nat.le_of_ble_eq_true rfl⟩) hK hN hP hD hS hA rfl rfl (by decide) (by decide) (by decide) rfl rfl rfl hl.1 rfl (Nat.le_of_ble_eq_true rfl) dX6_sendPackets_2 ⟨Nat.zero_le _, Nat.zero_le _⟩ (fun H locs hP hD hS hz1 => ?_)
  have hP : va_P (dC, dI) vwCl [(q_parentOf, .inl (cI, 20, .inl a_parentOf)), (q_addressOf, .inl (cI, 20, .inl a_addressOf)), (q_marks, .inl (cI, 4096, .inl a_marks)), (h0, .inr (6, [.int v_routers, .ref q_parentOf, .ref q_addressOf, .ref q_depthOf, .int v_percent, .int v_random, .int v_distance, .int v_offset, .int v_value, .int v_isMade, .ref q_marks, .int v_received, .int v_unmarked, .ref q_missing, .int v_nodes, .ref q_nodeAddresses, .ref q_nodeDistances, .ref q_nodeParents, .int v_found, .ref q_foundAddress, .ref q_foundDistance, .ref q_foundParent, .int v_words, .ref q_wordAt]))] H := hP
  have hD : va_D A [(q_parentOf, .inl (cI, 20, .inl a_parentOf)), (q_addressOf, .inl (cI, 20, .inl a_addressOf)), (q_marks, .inl (cI, 4096, .inl a_marks)), (h0, .inr (6, [.int v_routers, .ref q_parentOf, .ref q_addressOf, .ref q_depthOf, .int v_percent, .int v_random, .int v_distance, .int v_offset, .int v_value, .int v_isMade, .ref q_marks, .int v_received, .int v_unmarked, .ref q_missing, .int v_nodes, .ref q_nodeAddresses, .ref q_nodeDistances, .ref q_nodeParents, .int v_found, .ref q_foundAddress, .ref q_foundDistance, .ref q_foundParent, .int v_words, .ref q_wordAt]))] := hD
  refine lv_if_ne (tgt := 10) hx hb dX6_sendPackets_5 (by decide) (fun c2 => ?_) (fun c2 => ?_)
  · have h := it_n c2 h
    refine lv_iload_n hx hb dX6_sendPackets_10 rfl (lv_at hl 2 rfl) ?_
    refine lv_iconst (v := (1 : Int32)) hx hb dX6_sendPackets_11 (by decide) ?_
    refine lv_sipush (v := (500 : Int32)) hx hb dX6_sendPackets_12 (by decide) ?_
    obtain ⟨r3, h3, h⟩ := bd1_e h
    refine ca_Si (wc := []) (wr := [(q_parentOf, .inl (cI, 20, .inl a_parentOf)), (q_addressOf, .inl (cI, 20, .inl a_addressOf)), (q_marks, .inl (cI, 4096, .inl a_marks)), (h0, .inr (6, [.int v_routers, .ref q_parentOf, .ref q_addressOf, .ref q_depthOf, .int v_percent, .int v_random, .int v_distance, .int v_offset, .int v_value, .int v_isMade, .ref q_marks, .int v_received, .int v_unmarked, .ref q_missing, .int v_nodes, .ref q_nodeAddresses, .ref q_nodeDistances, .ref q_nodeParents, .int v_found, .ref q_foundAddress, .ref q_foundDistance, .ref q_foundParent, .int v_words, .ref q_wordAt]))]) (w1 := []) [.int p2, .int (1 : Int32), .int (500 : Int32)] [] [] [0, 1, 2, 3] hx hb hml hown hts (mX6_within l dC dI cI H.size p2 (1 : Int32) (500 : Int32) h3) (va_cwS 3 hts gX6_sendPackets_X6_within rfl rfl rfl (by decide +kernel) ⟨Nat.le_of_ble_eq_true rfl, Nat.le_of_ble_eq_true rfl⟩) hK hN hP hD hS hA rfl rfl (by decide) (by decide) (by decide) rfl hl.1 rfl (Nat.le_of_ble_eq_true rfl) dX6_sendPackets_15 ⟨Nat.zero_le _, Nat.zero_le _⟩ (fun H locs hP hD hS hz3 => ?_)
    have hP : va_P (dC, dI) vwCl [(q_parentOf, .inl (cI, 20, .inl a_parentOf)), (q_addressOf, .inl (cI, 20, .inl a_addressOf)), (q_marks, .inl (cI, 4096, .inl a_marks)), (h0, .inr (6, [.int v_routers, .ref q_parentOf, .ref q_addressOf, .ref q_depthOf, .int v_percent, .int v_random, .int v_distance, .int v_offset, .int v_value, .int v_isMade, .ref q_marks, .int v_received, .int v_unmarked, .ref q_missing, .int v_nodes, .ref q_nodeAddresses, .ref q_nodeDistances, .ref q_nodeParents, .int v_found, .ref q_foundAddress, .ref q_foundDistance, .ref q_foundParent, .int v_words, .ref q_wordAt]))] H := hP
    have hD : va_D A [(q_parentOf, .inl (cI, 20, .inl a_parentOf)), (q_addressOf, .inl (cI, 20, .inl a_addressOf)), (q_marks, .inl (cI, 4096, .inl a_marks)), (h0, .inr (6, [.int v_routers, .ref q_parentOf, .ref q_addressOf, .ref q_depthOf, .int v_percent, .int v_random, .int v_distance, .int v_offset, .int v_value, .int v_isMade, .ref q_marks, .int v_received, .int v_unmarked, .ref q_missing, .int v_nodes, .ref q_nodeAddresses, .ref q_nodeDistances, .ref q_nodeParents, .int v_found, .ref q_foundAddress, .ref q_foundDistance, .ref q_foundParent, .int v_words, .ref q_wordAt]))] := hD
    refine lv_if_ne (tgt := 24) hx hb dX6_sendPackets_18 (by decide) (fun c4 => ?_) (fun c4 => ?_)
    · have h := it_n c4 h
      refine lv_iconst (v := (0 : Int32)) hx hb dX6_sendPackets_24 (by decide) ?_
      refine lv_istore_n (lv' := [(3, .int (0 : Int32)), (0, .ref h0), (1, .int p1), (2, .int p2)]) hx hb dX6_sendPackets_25 rfl hl (by decide) rfl (fun ls hl => ?_)
      refine lv_iconst (v := (0 : Int32)) hx hb dX6_sendPackets_26 (by decide) ?_
      refine lv_istore (lv' := [(4, .int (0 : Int32)), (3, .int (0 : Int32)), (0, .ref h0), (1, .int p1), (2, .int p2)]) hx hb dX6_sendPackets_27 hl (by decide) rfl (fun ls hl => ?_)
      have key29 : ∀ (n1 : Nat) (y3_29 : Int32) (y4_29 : Int32) (v_random_29 : Int32) (v_distance_29 : Int32) (v_offset_29 : Int32) (v_value_29 : Int32) (v_isMade_29 : Int32) (v_received_29 : Int32) (v_unmarked_29 : Int32) (a_marks_29 : Nat → Int32) (H : Heap) (locs : List Loc) (ls : Array Slot), lp (fun s => bX6_sendPackets_29 N p1 p2 v_percent a_parentOf a_addressOf s.1 s.2.1 s.2.2.1 s.2.2.2.1 s.2.2.2.2.1 s.2.2.2.2.2.1 s.2.2.2.2.2.2.1 s.2.2.2.2.2.2.2.1 s.2.2.2.2.2.2.2.2.1 s.2.2.2.2.2.2.2.2.2) n1 (y3_29, y4_29, v_random_29, v_distance_29, v_offset_29, v_value_29, v_isMade_29, v_received_29, v_unmarked_29, a_marks_29) = some (rr, o_random, o_distance, o_offset, o_value, o_isMade, o_received, o_unmarked, o_marks) → va_P (dC, dI) vwCl [(q_parentOf, .inl (cI, 20, .inl a_parentOf)), (q_addressOf, .inl (cI, 20, .inl a_addressOf)), (q_marks, .inl (cI, 4096, .inl a_marks_29)), (h0, .inr (6, [.int v_routers, .ref q_parentOf, .ref q_addressOf, .ref q_depthOf, .int v_percent, .int v_random_29, .int v_distance_29, .int v_offset_29, .int v_value_29, .int v_isMade_29, .ref q_marks, .int v_received_29, .int v_unmarked_29, .ref q_missing, .int v_nodes, .ref q_nodeAddresses, .ref q_nodeDistances, .ref q_nodeParents, .int v_found, .ref q_foundAddress, .ref q_foundDistance, .ref q_foundParent, .int v_words, .ref q_wordAt]))] H → va_D A [(q_parentOf, .inl (cI, 20, .inl a_parentOf)), (q_addressOf, .inl (cI, 20, .inl a_addressOf)), (q_marks, .inl (cI, 4096, .inl a_marks_29)), (h0, .inr (6, [.int v_routers, .ref q_parentOf, .ref q_addressOf, .ref q_depthOf, .int v_percent, .int v_random_29, .int v_distance_29, .int v_offset_29, .int v_value_29, .int v_isMade_29, .ref q_marks, .int v_received_29, .int v_unmarked_29, .ref q_missing, .int v_nodes, .ref q_nodeAddresses, .ref q_nodeDistances, .ref q_nodeParents, .int v_found, .ref q_foundAddress, .ref q_foundDistance, .ref q_foundParent, .int v_words, .ref q_wordAt]))] → va_S A s.heap H locs → lv_has ls 5 [(4, .int y4_29), (3, .int y3_29), (0, .ref h0), (1, .int p1), (2, .int p2)] → W p l e ({ frames := 4, cells := 0, slots := 0, locals := 84 } : Room) s m [.ref h0, .int p1, .int p2].toArray below meth c H locs 0 0 (MQ below (poI dC dI .int rr [(h0, .inr (6, [.int v_routers, .ref q_parentOf, .ref q_addressOf, .ref q_depthOf, .int v_percent, .int o_random, .int o_distance, .int o_offset, .int o_value, .int o_isMade, .ref q_marks, .int o_received, .int o_unmarked, .ref q_missing, .int v_nodes, .ref q_nodeAddresses, .ref q_nodeDistances, .ref q_nodeParents, .int v_found, .ref q_foundAddress, .ref q_foundDistance, .ref q_foundParent, .int v_words, .ref q_wordAt])), (q_parentOf, .inl (cI, 20, .inl a_parentOf)), (q_addressOf, .inl (cI, 20, .inl a_addressOf)), (q_marks, .inl (cI, 4096, .inl o_marks))] A) [.ref h0, .int p1, .int p2].toArray s 0 0 A) (F0 m 29 ls []) := by
        intro n1
        induction n1 with
        | zero =>
          intro y3_29 y4_29 v_random_29 v_distance_29 v_offset_29 v_value_29 v_isMade_29 v_received_29 v_unmarked_29 a_marks_29 H locs ls h
          exact (lp_0 h).elim
        | succ n1 ih1 =>
          intro y3_29 y4_29 v_random_29 v_distance_29 v_offset_29 v_value_29 v_isMade_29 v_received_29 v_unmarked_29 a_marks_29 H locs ls h hP hD hS hl
          obtain ⟨o1, h, hk1⟩ := lp_s h
          unfold bX6_sendPackets_29 at h
          try dsimp only at h
          refine lv_iload hx hb dX6_sendPackets_29 (lv_at hl 0 rfl) ?_
          refine lv_iload_n hx hb dX6_sendPackets_31 rfl (lv_at hl 4 rfl) ?_
          refine lv_icmp_ge (tgt := 73) hx hb dX6_sendPackets_32 (by decide) (fun c5 => ?_) (fun c5 => ?_)
          · have h := it_p c5 h
            refine lv_iload_n hx hb dX6_sendPackets_73 rfl (lv_at hl 1 rfl) ?_
            cases Option.some.inj h
            have hk1 := un_r hk1
            cases hk1
            exact re_i [3, 0, 1, 2] hx hb hr hlocks rfl hP hD hS rfl (by decide) rfl dX6_sendPackets_74
          · have h := it_n c5 h
            refine lv_aload_n hx hb dX6_sendPackets_35 rfl (lv_at hl 2 rfl) ?_
            refine lv_bipush (v := (-7 : Int32)) hx hb dX6_sendPackets_36 (by decide) ?_
            refine va_put (D := (dC, dI)) (ci := 6) (v := .int (-7 : Int32)) (ty := .int) (C := RX6) (T := TX6) (N := 24) hx hb hts hiX6 tyX6 tyX6_ok nmX6 hown hK hP hD hS 3 rfl rfl 6 (by decide) hf89 (fun _ h9 => h9) rfl (by decide +kernel) rfl rfl (Nat.le_of_ble_eq_true rfl) dX6_sendPackets_38 (fun H locs hP hD hS => ?_)
            have hP : va_P (dC, dI) vwCl [(q_parentOf, .inl (cI, 20, .inl a_parentOf)), (q_addressOf, .inl (cI, 20, .inl a_addressOf)), (q_marks, .inl (cI, 4096, .inl a_marks_29)), (h0, .inr (6, [.int v_routers, .ref q_parentOf, .ref q_addressOf, .ref q_depthOf, .int v_percent, .int v_random_29, .int (-7 : Int32), .int v_offset_29, .int v_value_29, .int v_isMade_29, .ref q_marks, .int v_received_29, .int v_unmarked_29, .ref q_missing, .int v_nodes, .ref q_nodeAddresses, .ref q_nodeDistances, .ref q_nodeParents, .int v_found, .ref q_foundAddress, .ref q_foundDistance, .ref q_foundParent, .int v_words, .ref q_wordAt]))] H := hP
            have hD : va_D A [(q_parentOf, .inl (cI, 20, .inl a_parentOf)), (q_addressOf, .inl (cI, 20, .inl a_addressOf)), (q_marks, .inl (cI, 4096, .inl a_marks_29)), (h0, .inr (6, [.int v_routers, .ref q_parentOf, .ref q_addressOf, .ref q_depthOf, .int v_percent, .int v_random_29, .int (-7 : Int32), .int v_offset_29, .int v_value_29, .int v_isMade_29, .ref q_marks, .int v_received_29, .int v_unmarked_29, .ref q_missing, .int v_nodes, .ref q_nodeAddresses, .ref q_nodeDistances, .ref q_nodeParents, .int v_found, .ref q_foundAddress, .ref q_foundDistance, .ref q_foundParent, .int v_words, .ref q_wordAt]))] := hD
            refine lv_aload_n hx hb dX6_sendPackets_41 rfl (lv_at hl 2 rfl) ?_
            refine lv_iload_n hx hb dX6_sendPackets_42 rfl (lv_at hl 3 rfl) ?_
            obtain ⟨s_random_6, s_distance_6, s_offset_6, s_value_6, s_isMade_6, h6, h⟩ := bd5_e h
            refine ca_Vv (wc := [(h0, .inr (6, [.int v_routers, .ref q_parentOf, .ref q_addressOf, .ref q_depthOf, .int v_percent, .int v_random_29, .int (-7 : Int32), .int v_offset_29, .int v_value_29, .int v_isMade_29, .ref q_marks, .int v_received_29, .int v_unmarked_29, .ref q_missing, .int v_nodes, .ref q_nodeAddresses, .ref q_nodeDistances, .ref q_nodeParents, .int v_found, .ref q_foundAddress, .ref q_foundDistance, .ref q_foundParent, .int v_words, .ref q_wordAt])), (q_parentOf, .inl (cI, 20, .inl a_parentOf)), (q_addressOf, .inl (cI, 20, .inl a_addressOf))]) (wr := [(q_marks, .inl (cI, 4096, .inl a_marks_29))]) (w1 := [(h0, .inr (6, [.int v_routers, .ref q_parentOf, .ref q_addressOf, .ref q_depthOf, .int v_percent, .int s_random_6, .int s_distance_6, .int s_offset_6, .int s_value_6, .int s_isMade_6, .ref q_marks, .int v_received_29, .int v_unmarked_29, .ref q_missing, .int v_nodes, .ref q_nodeAddresses, .ref q_nodeDistances, .ref q_nodeParents, .int v_found, .ref q_foundAddress, .ref q_foundDistance, .ref q_foundParent, .int v_words, .ref q_wordAt])), (q_parentOf, .inl (cI, 20, .inl a_parentOf)), (q_addressOf, .inl (cI, 20, .inl a_addressOf))]) [.int p1] [] [3, 0, 1] [2] hx hb hml hown hts (mX6_travels l dC dI cI H.size N h0 q_parentOf q_addressOf q_depthOf q_marks q_missing q_nodeAddresses q_nodeDistances q_nodeParents q_foundAddress q_foundDistance q_foundParent q_wordAt v_routers v_percent v_random_29 (-7 : Int32) v_offset_29 v_value_29 v_isMade_29 v_received_29 v_unmarked_29 v_nodes v_found v_words a_parentOf a_addressOf p1 h6) (cwV 1 hts gX6_sendPackets_X6_travels rfl rfl rfl (by decide +kernel) ⟨Nat.le_of_ble_eq_true rfl, Nat.le_of_ble_eq_true rfl⟩) hK hN hP hD hS hA rfl rfl (by decide) (by decide) (by decide) rfl rfl rfl hl.1 rfl (Nat.le_of_ble_eq_true rfl) dX6_sendPackets_43 ⟨Nat.zero_le _, Nat.zero_le _⟩ (fun H locs hP hD hS => ?_)
            have hP : va_P (dC, dI) vwCl [(q_marks, .inl (cI, 4096, .inl a_marks_29)), (h0, .inr (6, [.int v_routers, .ref q_parentOf, .ref q_addressOf, .ref q_depthOf, .int v_percent, .int s_random_6, .int s_distance_6, .int s_offset_6, .int s_value_6, .int s_isMade_6, .ref q_marks, .int v_received_29, .int v_unmarked_29, .ref q_missing, .int v_nodes, .ref q_nodeAddresses, .ref q_nodeDistances, .ref q_nodeParents, .int v_found, .ref q_foundAddress, .ref q_foundDistance, .ref q_foundParent, .int v_words, .ref q_wordAt])), (q_parentOf, .inl (cI, 20, .inl a_parentOf)), (q_addressOf, .inl (cI, 20, .inl a_addressOf))] H := hP
            have hD : va_D A [(q_marks, .inl (cI, 4096, .inl a_marks_29)), (h0, .inr (6, [.int v_routers, .ref q_parentOf, .ref q_addressOf, .ref q_depthOf, .int v_percent, .int s_random_6, .int s_distance_6, .int s_offset_6, .int s_value_6, .int s_isMade_6, .ref q_marks, .int v_received_29, .int v_unmarked_29, .ref q_missing, .int v_nodes, .ref q_nodeAddresses, .ref q_nodeDistances, .ref q_nodeParents, .int v_found, .ref q_foundAddress, .ref q_foundDistance, .ref q_foundParent, .int v_words, .ref q_wordAt])), (q_parentOf, .inl (cI, 20, .inl a_parentOf)), (q_addressOf, .inl (cI, 20, .inl a_addressOf))] := hD
            refine lv_aload_n hx hb dX6_sendPackets_46 rfl (lv_at hl 2 rfl) ?_
            obtain ⟨s_received_7, s_unmarked_7, s_marks_7, h7, h⟩ := bd3_e h
            refine ca_Vv (wc := [(h0, .inr (6, [.int v_routers, .ref q_parentOf, .ref q_addressOf, .ref q_depthOf, .int v_percent, .int s_random_6, .int s_distance_6, .int s_offset_6, .int s_value_6, .int s_isMade_6, .ref q_marks, .int v_received_29, .int v_unmarked_29, .ref q_missing, .int v_nodes, .ref q_nodeAddresses, .ref q_nodeDistances, .ref q_nodeParents, .int v_found, .ref q_foundAddress, .ref q_foundDistance, .ref q_foundParent, .int v_words, .ref q_wordAt])), (q_marks, .inl (cI, 4096, .inl a_marks_29))]) (wr := [(q_parentOf, .inl (cI, 20, .inl a_parentOf)), (q_addressOf, .inl (cI, 20, .inl a_addressOf))]) (w1 := [(h0, .inr (6, [.int v_routers, .ref q_parentOf, .ref q_addressOf, .ref q_depthOf, .int v_percent, .int s_random_6, .int s_distance_6, .int s_offset_6, .int s_value_6, .int s_isMade_6, .ref q_marks, .int s_received_7, .int s_unmarked_7, .ref q_missing, .int v_nodes, .ref q_nodeAddresses, .ref q_nodeDistances, .ref q_nodeParents, .int v_found, .ref q_foundAddress, .ref q_foundDistance, .ref q_foundParent, .int v_words, .ref q_wordAt])), (q_marks, .inl (cI, 4096, .inl s_marks_7))]) [] [] [1, 0] [2, 3] hx hb hml hown hts (mX6_records l dC dI cI H.size h0 q_parentOf q_addressOf q_depthOf q_marks q_missing q_nodeAddresses q_nodeDistances q_nodeParents q_foundAddress q_foundDistance q_foundParent q_wordAt v_routers v_percent s_random_6 s_distance_6 s_offset_6 s_value_6 s_isMade_6 v_received_29 v_unmarked_29 v_nodes v_found v_words a_marks_29 h7) (cwV 0 hts gX6_sendPackets_X6_records rfl rfl rfl (by decide +kernel) ⟨Nat.le_of_ble_eq_true rfl, Nat.le_of_ble_eq_true rfl⟩) hK hN hP hD hS hA rfl rfl (by decide) (by decide) (by decide) rfl rfl rfl hl.1 rfl (Nat.le_of_ble_eq_true rfl) dX6_sendPackets_47 ⟨Nat.zero_le _, Nat.zero_le _⟩ (fun H locs hP hD hS => ?_)
            have hP : va_P (dC, dI) vwCl [(q_parentOf, .inl (cI, 20, .inl a_parentOf)), (q_addressOf, .inl (cI, 20, .inl a_addressOf)), (h0, .inr (6, [.int v_routers, .ref q_parentOf, .ref q_addressOf, .ref q_depthOf, .int v_percent, .int s_random_6, .int s_distance_6, .int s_offset_6, .int s_value_6, .int s_isMade_6, .ref q_marks, .int s_received_7, .int s_unmarked_7, .ref q_missing, .int v_nodes, .ref q_nodeAddresses, .ref q_nodeDistances, .ref q_nodeParents, .int v_found, .ref q_foundAddress, .ref q_foundDistance, .ref q_foundParent, .int v_words, .ref q_wordAt])), (q_marks, .inl (cI, 4096, .inl s_marks_7))] H := hP
            have hD : va_D A [(q_parentOf, .inl (cI, 20, .inl a_parentOf)), (q_addressOf, .inl (cI, 20, .inl a_addressOf)), (h0, .inr (6, [.int v_routers, .ref q_parentOf, .ref q_addressOf, .ref q_depthOf, .int v_percent, .int s_random_6, .int s_distance_6, .int s_offset_6, .int s_value_6, .int s_isMade_6, .ref q_marks, .int s_received_7, .int s_unmarked_7, .ref q_missing, .int v_nodes, .ref q_nodeAddresses, .ref q_nodeDistances, .ref q_nodeParents, .int v_found, .ref q_foundAddress, .ref q_foundDistance, .ref q_foundParent, .int v_words, .ref q_wordAt])), (q_marks, .inl (cI, 4096, .inl s_marks_7))] := hD
            refine lv_iload_n hx hb dX6_sendPackets_50 rfl (lv_at hl 1 rfl) ?_
            refine lv_aload_n hx hb dX6_sendPackets_51 rfl (lv_at hl 2 rfl) ?_
            refine va_get (D := (dC, dI)) (ci := 6) (v := .int s_distance_6) (C := RX6) (T := TX6) (N := 24) hx hb hts hiX6 hown hK hP 2 rfl rfl 6 (by decide) hf89 (fun _ h9 => h9) rfl dX6_sendPackets_52 ?_
            refine lv_bipush (v := (-7 : Int32)) hx hb dX6_sendPackets_55 (by decide) ?_
            refine lv_icmp_ne (tgt := 64) hx hb dX6_sendPackets_57 (by decide) (fun c8 => ?_) (fun c8 => ?_)
            · have h := it_n c8 h
              refine lv_iconst (v := (1 : Int32)) hx hb dX6_sendPackets_64 (by decide) ?_
              refine lv_iadd hx hb dX6_sendPackets_65 ?_
              refine lv_topi (fun x9 ex9 => ?_)
              have h := nm_u ex9 h
              refine lv_istore_n (lv' := [(3, .int x9), (4, .int y4_29), (0, .ref h0), (1, .int p1), (2, .int p2)]) hx hb dX6_sendPackets_66 rfl hl (by decide) rfl (fun ls hl => ?_)
              refine lv_iinc (v := y4_29 + 1) (lv' := [(4, .int (y4_29 + 1)), (3, .int x9), (0, .ref h0), (1, .int p1), (2, .int p2)]) hx hb dX6_sendPackets_67 hl (k := 1) rfl rfl (by decide) rfl (fun ls hl => ?_)
              refine lv_goto (tgt := 29) hx hb dX6_sendPackets_70 (by decide) ?_
              cases Option.some.inj h
              exact ih1 _ _ _ _ _ _ _ _ _ _ _ _ _ (un_l hk1) (hP.sub [0, 1, 3, 2] rfl) (hD.sub [0, 1, 3, 2] (by decide) rfl) hS (lv_sub hl [0, 1, 2, 3, 4] rfl)
            · have h := it_p c8 h
              refine lv_iconst (v := (0 : Int32)) hx hb dX6_sendPackets_60 (by decide) ?_
              refine lv_goto (tgt := 65) hx hb dX6_sendPackets_61 (by decide) ?_
              refine lv_iadd hx hb dX6_sendPackets_65 ?_
              refine lv_topi (fun x10 ex10 => ?_)
              have h := nm_u ex10 h
              refine lv_istore_n (lv' := [(3, .int x10), (4, .int y4_29), (0, .ref h0), (1, .int p1), (2, .int p2)]) hx hb dX6_sendPackets_66 rfl hl (by decide) rfl (fun ls hl => ?_)
              refine lv_iinc (v := y4_29 + 1) (lv' := [(4, .int (y4_29 + 1)), (3, .int x10), (0, .ref h0), (1, .int p1), (2, .int p2)]) hx hb dX6_sendPackets_67 hl (k := 1) rfl rfl (by decide) rfl (fun ls hl => ?_)
              refine lv_goto (tgt := 29) hx hb dX6_sendPackets_70 (by decide) ?_
              cases Option.some.inj h
              exact ih1 _ _ _ _ _ _ _ _ _ _ _ _ _ (un_l hk1) (hP.sub [0, 1, 3, 2] rfl) (hD.sub [0, 1, 3, 2] (by decide) rfl) hS (lv_sub hl [0, 1, 2, 3, 4] rfl)
      exact key29 N _ _ _ _ _ _ _ _ _ _ _ _ _ h hP hD hS hl
    · have h := it_p c4 h
      refine lv_bipush (v := (-2 : Int32)) hx hb dX6_sendPackets_21 (by decide) ?_
      have hk0 := Option.some.inj h
      cases hk0
      exact re_i [3, 0, 1, 2] hx hb hr hlocks rfl hP hD hS rfl (by decide) rfl dX6_sendPackets_23
  · have h := it_p c2 h
    refine lv_iconst (v := (-1 : Int32)) hx hb dX6_sendPackets_8 (by decide) ?_
    have hk0 := Option.some.inj h
    cases hk0
    exact re_i [3, 0, 1, 2] hx hb hr hlocks rfl hP hD hS rfl (by decide) rfl dX6_sendPackets_9
def fX6_isMark (p0 : Int32) (p1 : Int32) (p2 : Int32) : Option (Int32) :=
  bd1 (fX6_within p0 (0 : Int32) (31 : Int32)) fun r1 =>
  if r1 = 0 then
    some (0 : Int32)
  else
    bd1 (fX6_within p1 (0 : Int32) (3 : Int32)) fun r3 =>
    if r3 = 0 then
      some (0 : Int32)
    else
      bd1 (fX6_within p2 (0 : Int32) (31 : Int32)) fun r5 =>
      if r5 = 0 then
        some (0 : Int32)
      else
        some (1 : Int32)
set_option maxHeartbeats 4000000 in
set_option maxRecDepth 100000 in
theorem mX6_isMark (l : Launch) (dC : Nat → ClassId) (dI : Nat → Nat → Nat) (cI : ClassId) (sz : Nat) (p0 : Int32) (p1 : Int32) (p2 : Int32) {rr : Int32} (h : fX6_isMark p0 p1 p2 = some rr) : Met l yX6_isMark wsX6_isMark ({ frames := 1, cells := 0, slots := 0, locals := 22 } : Room) (prX dC dI cI [.int p0, .int p1, .int p2] sz []) (poI dC dI .boolean rr [] (va_A [] sz)) 0 0 (va_A [] sz) := by
  refine ofX (cc := cX6_isMark) (maxL := 3) (ret := (some .boolean)) (lv0 := [(0, .int p0), (1, .int p1), (2, .int p2)]) (QA := fun A => poI dC dI .boolean rr [] A) (by decide) rfl (Nat.le_of_ble_eq_true rfl) rfl ?_
  intro p e s m below meth c A ls H locs hx hb hr hml hown hts hlocks hin hK hN hA hP hD hS hl
  have hown : s.vm.findClass RX6 = some m.cls := hown
  unfold fX6_isMark at h
  refine lv_iload_n hx hb dX6_isMark_0 rfl (lv_at hl 0 rfl) ?_
  refine lv_iconst (v := (0 : Int32)) hx hb dX6_isMark_1 (by decide) ?_
  refine lv_bipush (v := (31 : Int32)) hx hb dX6_isMark_2 (by decide) ?_
  obtain ⟨r1, h1, h⟩ := bd1_e h
  refine ca_Si (wc := []) (wr := []) (w1 := []) [.int p0, .int (0 : Int32), .int (31 : Int32)] [] [] [] hx hb hml hown hts (mX6_within l dC dI cI H.size p0 (0 : Int32) (31 : Int32) h1) (va_cwS 3 hts gX6_isMark_X6_within rfl rfl rfl (by decide +kernel) ⟨Nat.le_of_ble_eq_true rfl, Nat.le_of_ble_eq_true rfl⟩) hK hN hP hD hS hA rfl rfl (by decide) (by decide) (by decide) rfl hl.1 rfl (Nat.le_of_ble_eq_true rfl) dX6_isMark_4 ⟨Nat.zero_le _, Nat.zero_le _⟩ (fun H locs hP hD hS hz1 => ?_)
  have hP : va_P (dC, dI) vwCl [] H := hP
  have hD : va_D A [] := hD
  refine lv_if_eq (tgt := 33) hx hb dX6_isMark_7 (by decide) (fun c2 => ?_) (fun c2 => ?_)
  · have h := it_p c2 h
    refine lv_iconst (v := (0 : Int32)) hx hb dX6_isMark_33 (by decide) ?_
    have hk0 := Option.some.inj h
    cases hk0
    exact re_i [] hx hb hr hlocks rfl hP hD hS rfl (by decide) rfl dX6_isMark_34
  · have h := it_n c2 h
    refine lv_iload_n hx hb dX6_isMark_10 rfl (lv_at hl 1 rfl) ?_
    refine lv_iconst (v := (0 : Int32)) hx hb dX6_isMark_11 (by decide) ?_
    refine lv_iconst (v := (3 : Int32)) hx hb dX6_isMark_12 (by decide) ?_
    obtain ⟨r3, h3, h⟩ := bd1_e h
    refine ca_Si (wc := []) (wr := []) (w1 := []) [.int p1, .int (0 : Int32), .int (3 : Int32)] [] [] [] hx hb hml hown hts (mX6_within l dC dI cI H.size p1 (0 : Int32) (3 : Int32) h3) (va_cwS 3 hts gX6_isMark_X6_within rfl rfl rfl (by decide +kernel) ⟨Nat.le_of_ble_eq_true rfl, Nat.le_of_ble_eq_true rfl⟩) hK hN hP hD hS hA rfl rfl (by decide) (by decide) (by decide) rfl hl.1 rfl (Nat.le_of_ble_eq_true rfl) dX6_isMark_13 ⟨Nat.zero_le _, Nat.zero_le _⟩ (fun H locs hP hD hS hz3 => ?_)
    have hP : va_P (dC, dI) vwCl [] H := hP
    have hD : va_D A [] := hD
    refine lv_if_eq (tgt := 33) hx hb dX6_isMark_16 (by decide) (fun c4 => ?_) (fun c4 => ?_)
    · have h := it_p c4 h
      refine lv_iconst (v := (0 : Int32)) hx hb dX6_isMark_33 (by decide) ?_
      have hk0 := Option.some.inj h
      cases hk0
      exact re_i [] hx hb hr hlocks rfl hP hD hS rfl (by decide) rfl dX6_isMark_34
    · have h := it_n c4 h
      refine lv_iload_n hx hb dX6_isMark_19 rfl (lv_at hl 2 rfl) ?_
      refine lv_iconst (v := (0 : Int32)) hx hb dX6_isMark_20 (by decide) ?_
      refine lv_bipush (v := (31 : Int32)) hx hb dX6_isMark_21 (by decide) ?_
      obtain ⟨r5, h5, h⟩ := bd1_e h
      refine ca_Si (wc := []) (wr := []) (w1 := []) [.int p2, .int (0 : Int32), .int (31 : Int32)] [] [] [] hx hb hml hown hts (mX6_within l dC dI cI H.size p2 (0 : Int32) (31 : Int32) h5) (va_cwS 3 hts gX6_isMark_X6_within rfl rfl rfl (by decide +kernel) ⟨Nat.le_of_ble_eq_true rfl, Nat.le_of_ble_eq_true rfl⟩) hK hN hP hD hS hA rfl rfl (by decide) (by decide) (by decide) rfl hl.1 rfl (Nat.le_of_ble_eq_true rfl) dX6_isMark_23 ⟨Nat.zero_le _, Nat.zero_le _⟩ (fun H locs hP hD hS hz5 => ?_)
      have hP : va_P (dC, dI) vwCl [] H := hP
      have hD : va_D A [] := hD
      refine lv_if_eq (tgt := 33) hx hb dX6_isMark_26 (by decide) (fun c6 => ?_) (fun c6 => ?_)
      · have h := it_p c6 h
        refine lv_iconst (v := (0 : Int32)) hx hb dX6_isMark_33 (by decide) ?_
        have hk0 := Option.some.inj h
        cases hk0
        exact re_i [] hx hb hr hlocks rfl hP hD hS rfl (by decide) rfl dX6_isMark_34
      · have h := it_n c6 h
        refine lv_iconst (v := (1 : Int32)) hx hb dX6_isMark_29 (by decide) ?_
        refine lv_goto (tgt := 34) hx hb dX6_isMark_30 (by decide) ?_
        have hk0 := Option.some.inj h
        cases hk0
        exact re_i [] hx hb hr hlocks rfl hP hD hS rfl (by decide) rfl dX6_isMark_34
def bX6_sendForged_41 (N : Nat) (p1 : Int32) (p2 : Int32) (p3 : Int32) (p4 : Int32) (p5 : Int32) (v_percent : Int32) (a_parentOf : Nat → Int32) (a_addressOf : Nat → Int32) (y6_41 : Int32) (y7_41 : Int32) (v_random_41 : Int32) (v_distance_41 : Int32) (v_offset_41 : Int32) (v_value_41 : Int32) (v_isMade_41 : Int32) (v_received_41 : Int32) (v_unmarked_41 : Int32) (a_marks_41 : Nat → Int32) : Option ((Int32 × Int32 × Int32 × Int32 × Int32 × Int32 × Int32 × Int32 × Int32 × (Nat → Int32)) ⊕ (Int32 × Int32 × Int32 × Int32 × Int32 × Int32 × Int32 × Int32 × (Nat → Int32))) :=
  if p2 ≤ y7_41 then
    some (.inr (y6_41, v_random_41, v_distance_41, v_offset_41, v_value_41, v_isMade_41, v_received_41, v_unmarked_41, a_marks_41))
  else
    bd5 (fX6_travels N p1 v_percent v_random_41 p3 p4 p5 (0 : Int32) a_parentOf a_addressOf) fun s_random_8 s_distance_8 s_offset_8 s_value_8 s_isMade_8 =>
    bd3 (fX6_records s_distance_8 s_offset_8 s_value_8 v_received_41 v_unmarked_41 a_marks_41) fun s_received_9 s_unmarked_9 s_marks_9 =>
    if s_isMade_8 = 0 then
      nm ((y6_41 + (0 : Int32))) fun x11 =>
      some (.inl (x11, (y7_41 + 1), s_random_8, s_distance_8, s_offset_8, s_value_8, s_isMade_8, s_received_9, s_unmarked_9, s_marks_9))
    else
      nm ((y6_41 + (1 : Int32))) fun x12 =>
      some (.inl (x12, (y7_41 + 1), s_random_8, s_distance_8, s_offset_8, s_value_8, s_isMade_8, s_received_9, s_unmarked_9, s_marks_9))
def fX6_sendForged (N : Nat) (p1 : Int32) (p2 : Int32) (p3 : Int32) (p4 : Int32) (p5 : Int32) (v_routers : Int32) (v_percent : Int32) (v_random : Int32) (v_distance : Int32) (v_offset : Int32) (v_value : Int32) (v_isMade : Int32) (v_received : Int32) (v_unmarked : Int32) (a_parentOf : Nat → Int32) (a_addressOf : Nat → Int32) (a_marks : Nat → Int32) : Option (Int32 × Int32 × Int32 × Int32 × Int32 × Int32 × Int32 × Int32 × (Nat → Int32)) :=
  bd1 (fX6_isRouter p1 v_routers) fun r1 =>
  if r1 = 0 then
    some ((-1 : Int32), v_random, v_distance, v_offset, v_value, v_isMade, v_received, v_unmarked, a_marks)
  else
    bd1 (fX6_within p2 (1 : Int32) (500 : Int32)) fun r3 =>
    if r3 = 0 then
      some ((-2 : Int32), v_random, v_distance, v_offset, v_value, v_isMade, v_received, v_unmarked, a_marks)
    else
      bd1 (fX6_isMark p3 p4 p5) fun r5 =>
      if r5 = 0 then
        some ((-2 : Int32), v_random, v_distance, v_offset, v_value, v_isMade, v_received, v_unmarked, a_marks)
      else
        lp (fun s => bX6_sendForged_41 N p1 p2 p3 p4 p5 v_percent a_parentOf a_addressOf s.1 s.2.1 s.2.2.1 s.2.2.2.1 s.2.2.2.2.1 s.2.2.2.2.2.1 s.2.2.2.2.2.2.1 s.2.2.2.2.2.2.2.1 s.2.2.2.2.2.2.2.2.1 s.2.2.2.2.2.2.2.2.2) N ((0 : Int32), (0 : Int32), v_random, v_distance, v_offset, v_value, v_isMade, v_received, v_unmarked, a_marks)
set_option maxHeartbeats 4000000 in
set_option maxRecDepth 100000 in
theorem mX6_sendForged (l : Launch) (dC : Nat → ClassId) (dI : Nat → Nat → Nat) (cI : ClassId) (sz : Nat) (N : Nat) (h0 : Nat) (q_parentOf : Nat) (q_addressOf : Nat) (q_depthOf : Nat) (q_marks : Nat) (q_missing : Nat) (q_nodeAddresses : Nat) (q_nodeDistances : Nat) (q_nodeParents : Nat) (q_foundAddress : Nat) (q_foundDistance : Nat) (q_foundParent : Nat) (q_wordAt : Nat) (v_routers : Int32) (v_percent : Int32) (v_random : Int32) (v_distance : Int32) (v_offset : Int32) (v_value : Int32) (v_isMade : Int32) (v_received : Int32) (v_unmarked : Int32) (v_nodes : Int32) (v_found : Int32) (v_words : Int32) (a_parentOf : Nat → Int32) (a_addressOf : Nat → Int32) (a_marks : Nat → Int32) (p1 : Int32) (p2 : Int32) (p3 : Int32) (p4 : Int32) (p5 : Int32) {rr : Int32} {o_random : Int32} {o_distance : Int32} {o_offset : Int32} {o_value : Int32} {o_isMade : Int32} {o_received : Int32} {o_unmarked : Int32} {o_marks : Nat → Int32} (h : fX6_sendForged N p1 p2 p3 p4 p5 v_routers v_percent v_random v_distance v_offset v_value v_isMade v_received v_unmarked a_parentOf a_addressOf a_marks = some (rr, o_random, o_distance, o_offset, o_value, o_isMade, o_received, o_unmarked, o_marks)) : Met l yX6_sendForged wsX6_sendForged ({ frames := 4, cells := 0, slots := 0, locals := 84 } : Room) (prX dC dI cI [.ref h0, .int p1, .int p2, .int p3, .int p4, .int p5] sz [(h0, .inr (6, [.int v_routers, .ref q_parentOf, .ref q_addressOf, .ref q_depthOf, .int v_percent, .int v_random, .int v_distance, .int v_offset, .int v_value, .int v_isMade, .ref q_marks, .int v_received, .int v_unmarked, .ref q_missing, .int v_nodes, .ref q_nodeAddresses, .ref q_nodeDistances, .ref q_nodeParents, .int v_found, .ref q_foundAddress, .ref q_foundDistance, .ref q_foundParent, .int v_words, .ref q_wordAt])), (q_parentOf, .inl (cI, 20, .inl a_parentOf)), (q_addressOf, .inl (cI, 20, .inl a_addressOf)), (q_marks, .inl (cI, 4096, .inl a_marks))]) (poI dC dI .int rr [(h0, .inr (6, [.int v_routers, .ref q_parentOf, .ref q_addressOf, .ref q_depthOf, .int v_percent, .int o_random, .int o_distance, .int o_offset, .int o_value, .int o_isMade, .ref q_marks, .int o_received, .int o_unmarked, .ref q_missing, .int v_nodes, .ref q_nodeAddresses, .ref q_nodeDistances, .ref q_nodeParents, .int v_found, .ref q_foundAddress, .ref q_foundDistance, .ref q_foundParent, .int v_words, .ref q_wordAt])), (q_parentOf, .inl (cI, 20, .inl a_parentOf)), (q_addressOf, .inl (cI, 20, .inl a_addressOf)), (q_marks, .inl (cI, 4096, .inl o_marks))] (va_A [(h0, .inr (6, [.int v_routers, .ref q_parentOf, .ref q_addressOf, .ref q_depthOf, .int v_percent, .int v_random, .int v_distance, .int v_offset, .int v_value, .int v_isMade, .ref q_marks, .int v_received, .int v_unmarked, .ref q_missing, .int v_nodes, .ref q_nodeAddresses, .ref q_nodeDistances, .ref q_nodeParents, .int v_found, .ref q_foundAddress, .ref q_foundDistance, .ref q_foundParent, .int v_words, .ref q_wordAt])), (q_parentOf, .inl (cI, 20, .inl a_parentOf)), (q_addressOf, .inl (cI, 20, .inl a_addressOf)), (q_marks, .inl (cI, 4096, .inl a_marks))] sz)) 0 0 (va_A [(h0, .inr (6, [.int v_routers, .ref q_parentOf, .ref q_addressOf, .ref q_depthOf, .int v_percent, .int v_random, .int v_distance, .int v_offset, .int v_value, .int v_isMade, .ref q_marks, .int v_received, .int v_unmarked, .ref q_missing, .int v_nodes, .ref q_nodeAddresses, .ref q_nodeDistances, .ref q_nodeParents, .int v_found, .ref q_foundAddress, .ref q_foundDistance, .ref q_foundParent, .int v_words, .ref q_wordAt])), (q_parentOf, .inl (cI, 20, .inl a_parentOf)), (q_addressOf, .inl (cI, 20, .inl a_addressOf)), (q_marks, .inl (cI, 4096, .inl a_marks))] sz) := by
  refine ofX (cc := cX6_sendForged) (maxL := 8) (ret := (some .int)) (lv0 := [(0, .ref h0), (1, .int p1), (2, .int p2), (3, .int p3), (4, .int p4), (5, .int p5)]) (QA := fun A => poI dC dI .int rr [(h0, .inr (6, [.int v_routers, .ref q_parentOf, .ref q_addressOf, .ref q_depthOf, .int v_percent, .int o_random, .int o_distance, .int o_offset, .int o_value, .int o_isMade, .ref q_marks, .int o_received, .int o_unmarked, .ref q_missing, .int v_nodes, .ref q_nodeAddresses, .ref q_nodeDistances, .ref q_nodeParents, .int v_found, .ref q_foundAddress, .ref q_foundDistance, .ref q_foundParent, .int v_words, .ref q_wordAt])), (q_parentOf, .inl (cI, 20, .inl a_parentOf)), (q_addressOf, .inl (cI, 20, .inl a_addressOf)), (q_marks, .inl (cI, 4096, .inl o_marks))] A) (by decide) rfl (Nat.le_of_ble_eq_true rfl) rfl ?_
  intro p e s m below meth c A ls H locs hx hb hr hml hown hts hlocks hin hK hN hA hP hD hS hl
  have hown : s.vm.findClass RX6 = some m.cls := hown
  unfold fX6_sendForged at h
  have hiX6 : ∀ w ∈ u_ws RX6 TX6 24, w ∈ wsX6_sendForged := fun _ h => List.mem_cons_of_mem _ (List.mem_append_right _ h)
  have hf89 := (hts (.fieldLink RX6 89 "PacketTracebackModel" "distance" "I") (List.mem_of_getElem? (i := 1) (by decide +kernel)))
  have hf86 := (hts (.fieldLink RX6 86 "PacketTracebackModel" "offset" "I") (List.mem_of_getElem? (i := 2) (by decide +kernel)))
  have hf92 := (hts (.fieldLink RX6 92 "PacketTracebackModel" "value" "I") (List.mem_of_getElem? (i := 3) (by decide +kernel)))
  have hf95 := (hts (.fieldLink RX6 95 "PacketTracebackModel" "isMade" "Z") (List.mem_of_getElem? (i := 4) (by decide +kernel)))
  refine lv_aload_n hx hb dX6_sendForged_0 rfl (lv_at hl 0 rfl) ?_
  refine lv_iload_n hx hb dX6_sendForged_1 rfl (lv_at hl 1 rfl) ?_
  obtain ⟨r1, h1, h⟩ := bd1_e h
  refine ca_Vi (wc := [(h0, .inr (6, [.int v_routers, .ref q_parentOf, .ref q_addressOf, .ref q_depthOf, .int v_percent, .int v_random, .int v_distance, .int v_offset, .int v_value, .int v_isMade, .ref q_marks, .int v_received, .int v_unmarked, .ref q_missing, .int v_nodes, .ref q_nodeAddresses, .ref q_nodeDistances, .ref q_nodeParents, .int v_found, .ref q_foundAddress, .ref q_foundDistance, .ref q_foundParent, .int v_words, .ref q_wordAt]))]) (wr := [(q_parentOf, .inl (cI, 20, .inl a_parentOf)), (q_addressOf, .inl (cI, 20, .inl a_addressOf)), (q_marks, .inl (cI, 4096, .inl a_marks))]) (w1 := [(h0, .inr (6, [.int v_routers, .ref q_parentOf, .ref q_addressOf, .ref q_depthOf, .int v_percent, .int v_random, .int v_distance, .int v_offset, .int v_value, .int v_isMade, .ref q_marks, .int v_received, .int v_unmarked, .ref q_missing, .int v_nodes, .ref q_nodeAddresses, .ref q_nodeDistances, .ref q_nodeParents, .int v_found, .ref q_foundAddress, .ref q_foundDistance, .ref q_foundParent, .int v_words, .ref q_wordAt]))]) [.int p1] [] [0] [1, 2, 3] hx hb hml hown hts (mX6_isRouter l dC dI cI H.size h0 q_parentOf q_addressOf q_depthOf q_marks q_missing q_nodeAddresses q_nodeDistances q_nodeParents q_foundAddress q_foundDistance q_foundParent q_wordAt v_routers v_percent v_random v_distance v_offset v_value v_isMade v_received v_unmarked v_nodes v_found v_words p1 h1) (cwV 1 hts gX6_sendForged_X6_isRouter rfl rfl rfl (by decide +kernel) ⟨Nat.le_of_ble_eq_true rfl, Nat.le_of_ble_eq_true rfl⟩) hK hN hP hD hS hA rfl rfl (by decide) (by decide) (by decide) rfl rfl rfl hl.1 rfl (Nat.le_of_ble_eq_true rfl) dX6_sendForged_2 ⟨Nat.zero_le _, Nat.zero_le _⟩ (fun H locs hP hD hS hz1 => ?_)
  have hP : va_P (dC, dI) vwCl [(q_parentOf, .inl (cI, 20, .inl a_parentOf)), (q_addressOf, .inl (cI, 20, .inl a_addressOf)), (q_marks, .inl (cI, 4096, .inl a_marks)), (h0, .inr (6, [.int v_routers, .ref q_parentOf, .ref q_addressOf, .ref q_depthOf, .int v_percent, .int v_random, .int v_distance, .int v_offset, .int v_value, .int v_isMade, .ref q_marks, .int v_received, .int v_unmarked, .ref q_missing, .int v_nodes, .ref q_nodeAddresses, .ref q_nodeDistances, .ref q_nodeParents, .int v_found, .ref q_foundAddress, .ref q_foundDistance, .ref q_foundParent, .int v_words, .ref q_wordAt]))] H := hP
  have hD : va_D A [(q_parentOf, .inl (cI, 20, .inl a_parentOf)), (q_addressOf, .inl (cI, 20, .inl a_addressOf)), (q_marks, .inl (cI, 4096, .inl a_marks)), (h0, .inr (6, [.int v_routers, .ref q_parentOf, .ref q_addressOf, .ref q_depthOf, .int v_percent, .int v_random, .int v_distance, .int v_offset, .int v_value, .int v_isMade, .ref q_marks, .int v_received, .int v_unmarked, .ref q_missing, .int v_nodes, .ref q_nodeAddresses, .ref q_nodeDistances, .ref q_nodeParents, .int v_found, .ref q_foundAddress, .ref q_foundDistance, .ref q_foundParent, .int v_words, .ref q_wordAt]))] := hD
  refine lv_if_ne (tgt := 10) hx hb dX6_sendForged_5 (by decide) (fun c2 => ?_) (fun c2 => ?_)
  · have h := it_n c2 h
    refine lv_iload_n hx hb dX6_sendForged_10 rfl (lv_at hl 2 rfl) ?_
    refine lv_iconst (v := (1 : Int32)) hx hb dX6_sendForged_11 (by decide) ?_
    refine lv_sipush (v := (500 : Int32)) hx hb dX6_sendForged_12 (by decide) ?_
    obtain ⟨r3, h3, h⟩ := bd1_e h
    refine ca_Si (wc := []) (wr := [(q_parentOf, .inl (cI, 20, .inl a_parentOf)), (q_addressOf, .inl (cI, 20, .inl a_addressOf)), (q_marks, .inl (cI, 4096, .inl a_marks)), (h0, .inr (6, [.int v_routers, .ref q_parentOf, .ref q_addressOf, .ref q_depthOf, .int v_percent, .int v_random, .int v_distance, .int v_offset, .int v_value, .int v_isMade, .ref q_marks, .int v_received, .int v_unmarked, .ref q_missing, .int v_nodes, .ref q_nodeAddresses, .ref q_nodeDistances, .ref q_nodeParents, .int v_found, .ref q_foundAddress, .ref q_foundDistance, .ref q_foundParent, .int v_words, .ref q_wordAt]))]) (w1 := []) [.int p2, .int (1 : Int32), .int (500 : Int32)] [] [] [0, 1, 2, 3] hx hb hml hown hts (mX6_within l dC dI cI H.size p2 (1 : Int32) (500 : Int32) h3) (va_cwS 3 hts gX6_sendForged_X6_within rfl rfl rfl (by decide +kernel) ⟨Nat.le_of_ble_eq_true rfl, Nat.le_of_ble_eq_true rfl⟩) hK hN hP hD hS hA rfl rfl (by decide) (by decide) (by decide) rfl hl.1 rfl (Nat.le_of_ble_eq_true rfl) dX6_sendForged_15 ⟨Nat.zero_le _, Nat.zero_le _⟩ (fun H locs hP hD hS hz3 => ?_)
    have hP : va_P (dC, dI) vwCl [(q_parentOf, .inl (cI, 20, .inl a_parentOf)), (q_addressOf, .inl (cI, 20, .inl a_addressOf)), (q_marks, .inl (cI, 4096, .inl a_marks)), (h0, .inr (6, [.int v_routers, .ref q_parentOf, .ref q_addressOf, .ref q_depthOf, .int v_percent, .int v_random, .int v_distance, .int v_offset, .int v_value, .int v_isMade, .ref q_marks, .int v_received, .int v_unmarked, .ref q_missing, .int v_nodes, .ref q_nodeAddresses, .ref q_nodeDistances, .ref q_nodeParents, .int v_found, .ref q_foundAddress, .ref q_foundDistance, .ref q_foundParent, .int v_words, .ref q_wordAt]))] H := hP
    have hD : va_D A [(q_parentOf, .inl (cI, 20, .inl a_parentOf)), (q_addressOf, .inl (cI, 20, .inl a_addressOf)), (q_marks, .inl (cI, 4096, .inl a_marks)), (h0, .inr (6, [.int v_routers, .ref q_parentOf, .ref q_addressOf, .ref q_depthOf, .int v_percent, .int v_random, .int v_distance, .int v_offset, .int v_value, .int v_isMade, .ref q_marks, .int v_received, .int v_unmarked, .ref q_missing, .int v_nodes, .ref q_nodeAddresses, .ref q_nodeDistances, .ref q_nodeParents, .int v_found, .ref q_foundAddress, .ref q_foundDistance, .ref q_foundParent, .int v_words, .ref q_wordAt]))] := hD
    refine lv_if_eq (tgt := 32) hx hb dX6_sendForged_18 (by decide) (fun c4 => ?_) (fun c4 => ?_)
    · have h := it_p c4 h
      refine lv_bipush (v := (-2 : Int32)) hx hb dX6_sendForged_32 (by decide) ?_
      have hk0 := Option.some.inj h
      cases hk0
      exact re_i [3, 0, 1, 2] hx hb hr hlocks rfl hP hD hS rfl (by decide) rfl dX6_sendForged_34
    · have h := it_n c4 h
      refine lv_iload_n hx hb dX6_sendForged_21 rfl (lv_at hl 3 rfl) ?_
      refine lv_iload hx hb dX6_sendForged_22 (lv_at hl 4 rfl) ?_
      refine lv_iload hx hb dX6_sendForged_24 (lv_at hl 5 rfl) ?_
      obtain ⟨r5, h5, h⟩ := bd1_e h
      refine ca_Si (wc := []) (wr := [(q_parentOf, .inl (cI, 20, .inl a_parentOf)), (q_addressOf, .inl (cI, 20, .inl a_addressOf)), (q_marks, .inl (cI, 4096, .inl a_marks)), (h0, .inr (6, [.int v_routers, .ref q_parentOf, .ref q_addressOf, .ref q_depthOf, .int v_percent, .int v_random, .int v_distance, .int v_offset, .int v_value, .int v_isMade, .ref q_marks, .int v_received, .int v_unmarked, .ref q_missing, .int v_nodes, .ref q_nodeAddresses, .ref q_nodeDistances, .ref q_nodeParents, .int v_found, .ref q_foundAddress, .ref q_foundDistance, .ref q_foundParent, .int v_words, .ref q_wordAt]))]) (w1 := []) [.int p3, .int p4, .int p5] [] [] [0, 1, 2, 3] hx hb hml hown hts (mX6_isMark l dC dI cI H.size p3 p4 p5 h5) (va_cwS 3 hts gX6_sendForged_X6_isMark rfl rfl rfl (by decide +kernel) ⟨Nat.le_of_ble_eq_true rfl, Nat.le_of_ble_eq_true rfl⟩) hK hN hP hD hS hA rfl rfl (by decide) (by decide) (by decide) rfl hl.1 rfl (Nat.le_of_ble_eq_true rfl) dX6_sendForged_26 ⟨Nat.zero_le _, Nat.zero_le _⟩ (fun H locs hP hD hS hz5 => ?_)
      have hP : va_P (dC, dI) vwCl [(q_parentOf, .inl (cI, 20, .inl a_parentOf)), (q_addressOf, .inl (cI, 20, .inl a_addressOf)), (q_marks, .inl (cI, 4096, .inl a_marks)), (h0, .inr (6, [.int v_routers, .ref q_parentOf, .ref q_addressOf, .ref q_depthOf, .int v_percent, .int v_random, .int v_distance, .int v_offset, .int v_value, .int v_isMade, .ref q_marks, .int v_received, .int v_unmarked, .ref q_missing, .int v_nodes, .ref q_nodeAddresses, .ref q_nodeDistances, .ref q_nodeParents, .int v_found, .ref q_foundAddress, .ref q_foundDistance, .ref q_foundParent, .int v_words, .ref q_wordAt]))] H := hP
      have hD : va_D A [(q_parentOf, .inl (cI, 20, .inl a_parentOf)), (q_addressOf, .inl (cI, 20, .inl a_addressOf)), (q_marks, .inl (cI, 4096, .inl a_marks)), (h0, .inr (6, [.int v_routers, .ref q_parentOf, .ref q_addressOf, .ref q_depthOf, .int v_percent, .int v_random, .int v_distance, .int v_offset, .int v_value, .int v_isMade, .ref q_marks, .int v_received, .int v_unmarked, .ref q_missing, .int v_nodes, .ref q_nodeAddresses, .ref q_nodeDistances, .ref q_nodeParents, .int v_found, .ref q_foundAddress, .ref q_foundDistance, .ref q_foundParent, .int v_words, .ref q_wordAt]))] := hD
      refine lv_if_ne (tgt := 35) hx hb dX6_sendForged_29 (by decide) (fun c6 => ?_) (fun c6 => ?_)
      · have h := it_n c6 h
        refine lv_iconst (v := (0 : Int32)) hx hb dX6_sendForged_35 (by decide) ?_
        refine lv_istore (lv' := [(6, .int (0 : Int32)), (0, .ref h0), (1, .int p1), (2, .int p2), (3, .int p3), (4, .int p4), (5, .int p5)]) hx hb dX6_sendForged_36 hl (by decide) rfl (fun ls hl => ?_)
        refine lv_iconst (v := (0 : Int32)) hx hb dX6_sendForged_38 (by decide) ?_
        refine lv_istore (lv' := [(7, .int (0 : Int32)), (6, .int (0 : Int32)), (0, .ref h0), (1, .int p1), (2, .int p2), (3, .int p3), (4, .int p4), (5, .int p5)]) hx hb dX6_sendForged_39 hl (by decide) rfl (fun ls hl => ?_)
        have key41 : ∀ (n1 : Nat) (y6_41 : Int32) (y7_41 : Int32) (v_random_41 : Int32) (v_distance_41 : Int32) (v_offset_41 : Int32) (v_value_41 : Int32) (v_isMade_41 : Int32) (v_received_41 : Int32) (v_unmarked_41 : Int32) (a_marks_41 : Nat → Int32) (H : Heap) (locs : List Loc) (ls : Array Slot), lp (fun s => bX6_sendForged_41 N p1 p2 p3 p4 p5 v_percent a_parentOf a_addressOf s.1 s.2.1 s.2.2.1 s.2.2.2.1 s.2.2.2.2.1 s.2.2.2.2.2.1 s.2.2.2.2.2.2.1 s.2.2.2.2.2.2.2.1 s.2.2.2.2.2.2.2.2.1 s.2.2.2.2.2.2.2.2.2) n1 (y6_41, y7_41, v_random_41, v_distance_41, v_offset_41, v_value_41, v_isMade_41, v_received_41, v_unmarked_41, a_marks_41) = some (rr, o_random, o_distance, o_offset, o_value, o_isMade, o_received, o_unmarked, o_marks) → va_P (dC, dI) vwCl [(q_parentOf, .inl (cI, 20, .inl a_parentOf)), (q_addressOf, .inl (cI, 20, .inl a_addressOf)), (q_marks, .inl (cI, 4096, .inl a_marks_41)), (h0, .inr (6, [.int v_routers, .ref q_parentOf, .ref q_addressOf, .ref q_depthOf, .int v_percent, .int v_random_41, .int v_distance_41, .int v_offset_41, .int v_value_41, .int v_isMade_41, .ref q_marks, .int v_received_41, .int v_unmarked_41, .ref q_missing, .int v_nodes, .ref q_nodeAddresses, .ref q_nodeDistances, .ref q_nodeParents, .int v_found, .ref q_foundAddress, .ref q_foundDistance, .ref q_foundParent, .int v_words, .ref q_wordAt]))] H → va_D A [(q_parentOf, .inl (cI, 20, .inl a_parentOf)), (q_addressOf, .inl (cI, 20, .inl a_addressOf)), (q_marks, .inl (cI, 4096, .inl a_marks_41)), (h0, .inr (6, [.int v_routers, .ref q_parentOf, .ref q_addressOf, .ref q_depthOf, .int v_percent, .int v_random_41, .int v_distance_41, .int v_offset_41, .int v_value_41, .int v_isMade_41, .ref q_marks, .int v_received_41, .int v_unmarked_41, .ref q_missing, .int v_nodes, .ref q_nodeAddresses, .ref q_nodeDistances, .ref q_nodeParents, .int v_found, .ref q_foundAddress, .ref q_foundDistance, .ref q_foundParent, .int v_words, .ref q_wordAt]))] → va_S A s.heap H locs → lv_has ls 8 [(7, .int y7_41), (6, .int y6_41), (0, .ref h0), (1, .int p1), (2, .int p2), (3, .int p3), (4, .int p4), (5, .int p5)] → W p l e ({ frames := 4, cells := 0, slots := 0, locals := 84 } : Room) s m [.ref h0, .int p1, .int p2, .int p3, .int p4, .int p5].toArray below meth c H locs 0 0 (MQ below (poI dC dI .int rr [(h0, .inr (6, [.int v_routers, .ref q_parentOf, .ref q_addressOf, .ref q_depthOf, .int v_percent, .int o_random, .int o_distance, .int o_offset, .int o_value, .int o_isMade, .ref q_marks, .int o_received, .int o_unmarked, .ref q_missing, .int v_nodes, .ref q_nodeAddresses, .ref q_nodeDistances, .ref q_nodeParents, .int v_found, .ref q_foundAddress, .ref q_foundDistance, .ref q_foundParent, .int v_words, .ref q_wordAt])), (q_parentOf, .inl (cI, 20, .inl a_parentOf)), (q_addressOf, .inl (cI, 20, .inl a_addressOf)), (q_marks, .inl (cI, 4096, .inl o_marks))] A) [.ref h0, .int p1, .int p2, .int p3, .int p4, .int p5].toArray s 0 0 A) (F0 m 41 ls []) := by
          intro n1
          induction n1 with
          | zero =>
            intro y6_41 y7_41 v_random_41 v_distance_41 v_offset_41 v_value_41 v_isMade_41 v_received_41 v_unmarked_41 a_marks_41 H locs ls h
            exact (lp_0 h).elim
          | succ n1 ih1 =>
            intro y6_41 y7_41 v_random_41 v_distance_41 v_offset_41 v_value_41 v_isMade_41 v_received_41 v_unmarked_41 a_marks_41 H locs ls h hP hD hS hl
            obtain ⟨o1, h, hk1⟩ := lp_s h
            unfold bX6_sendForged_41 at h
            try dsimp only at h
            refine lv_iload hx hb dX6_sendForged_41 (lv_at hl 0 rfl) ?_
            refine lv_iload_n hx hb dX6_sendForged_43 rfl (lv_at hl 4 rfl) ?_
            refine lv_icmp_ge (tgt := 101) hx hb dX6_sendForged_44 (by decide) (fun c7 => ?_) (fun c7 => ?_)
            · have h := it_p c7 h
              refine lv_iload hx hb dX6_sendForged_101 (lv_at hl 1 rfl) ?_
              cases Option.some.inj h
              have hk1 := un_r hk1
              cases hk1
              exact re_i [3, 0, 1, 2] hx hb hr hlocks rfl hP hD hS rfl (by decide) rfl dX6_sendForged_103
            · have h := it_n c7 h
              refine lv_aload_n hx hb dX6_sendForged_47 rfl (lv_at hl 2 rfl) ?_
              refine lv_iload_n hx hb dX6_sendForged_48 rfl (lv_at hl 5 rfl) ?_
              refine va_put (D := (dC, dI)) (ci := 6) (v := .int p3) (ty := .int) (C := RX6) (T := TX6) (N := 24) hx hb hts hiX6 tyX6 tyX6_ok nmX6 hown hK hP hD hS 3 rfl rfl 6 (by decide) hf89 (fun _ h9 => h9) rfl (by decide +kernel) rfl rfl (Nat.le_of_ble_eq_true rfl) dX6_sendForged_49 (fun H locs hP hD hS => ?_)
              have hP : va_P (dC, dI) vwCl [(q_parentOf, .inl (cI, 20, .inl a_parentOf)), (q_addressOf, .inl (cI, 20, .inl a_addressOf)), (q_marks, .inl (cI, 4096, .inl a_marks_41)), (h0, .inr (6, [.int v_routers, .ref q_parentOf, .ref q_addressOf, .ref q_depthOf, .int v_percent, .int v_random_41, .int p3, .int v_offset_41, .int v_value_41, .int v_isMade_41, .ref q_marks, .int v_received_41, .int v_unmarked_41, .ref q_missing, .int v_nodes, .ref q_nodeAddresses, .ref q_nodeDistances, .ref q_nodeParents, .int v_found, .ref q_foundAddress, .ref q_foundDistance, .ref q_foundParent, .int v_words, .ref q_wordAt]))] H := hP
              have hD : va_D A [(q_parentOf, .inl (cI, 20, .inl a_parentOf)), (q_addressOf, .inl (cI, 20, .inl a_addressOf)), (q_marks, .inl (cI, 4096, .inl a_marks_41)), (h0, .inr (6, [.int v_routers, .ref q_parentOf, .ref q_addressOf, .ref q_depthOf, .int v_percent, .int v_random_41, .int p3, .int v_offset_41, .int v_value_41, .int v_isMade_41, .ref q_marks, .int v_received_41, .int v_unmarked_41, .ref q_missing, .int v_nodes, .ref q_nodeAddresses, .ref q_nodeDistances, .ref q_nodeParents, .int v_found, .ref q_foundAddress, .ref q_foundDistance, .ref q_foundParent, .int v_words, .ref q_wordAt]))] := hD
              refine lv_aload_n hx hb dX6_sendForged_52 rfl (lv_at hl 2 rfl) ?_
              refine lv_iload hx hb dX6_sendForged_53 (lv_at hl 6 rfl) ?_
              refine va_put (D := (dC, dI)) (ci := 6) (v := .int p4) (ty := .int) (C := RX6) (T := TX6) (N := 24) hx hb hts hiX6 tyX6 tyX6_ok nmX6 hown hK hP hD hS 3 rfl rfl 7 (by decide) hf86 (fun _ h9 => h9) rfl (by decide +kernel) rfl rfl (Nat.le_of_ble_eq_true rfl) dX6_sendForged_55 (fun H locs hP hD hS => ?_)
              have hP : va_P (dC, dI) vwCl [(q_parentOf, .inl (cI, 20, .inl a_parentOf)), (q_addressOf, .inl (cI, 20, .inl a_addressOf)), (q_marks, .inl (cI, 4096, .inl a_marks_41)), (h0, .inr (6, [.int v_routers, .ref q_parentOf, .ref q_addressOf, .ref q_depthOf, .int v_percent, .int v_random_41, .int p3, .int p4, .int v_value_41, .int v_isMade_41, .ref q_marks, .int v_received_41, .int v_unmarked_41, .ref q_missing, .int v_nodes, .ref q_nodeAddresses, .ref q_nodeDistances, .ref q_nodeParents, .int v_found, .ref q_foundAddress, .ref q_foundDistance, .ref q_foundParent, .int v_words, .ref q_wordAt]))] H := hP
              have hD : va_D A [(q_parentOf, .inl (cI, 20, .inl a_parentOf)), (q_addressOf, .inl (cI, 20, .inl a_addressOf)), (q_marks, .inl (cI, 4096, .inl a_marks_41)), (h0, .inr (6, [.int v_routers, .ref q_parentOf, .ref q_addressOf, .ref q_depthOf, .int v_percent, .int v_random_41, .int p3, .int p4, .int v_value_41, .int v_isMade_41, .ref q_marks, .int v_received_41, .int v_unmarked_41, .ref q_missing, .int v_nodes, .ref q_nodeAddresses, .ref q_nodeDistances, .ref q_nodeParents, .int v_found, .ref q_foundAddress, .ref q_foundDistance, .ref q_foundParent, .int v_words, .ref q_wordAt]))] := hD
              refine lv_aload_n hx hb dX6_sendForged_58 rfl (lv_at hl 2 rfl) ?_
              refine lv_iload hx hb dX6_sendForged_59 (lv_at hl 7 rfl) ?_
              refine va_put (D := (dC, dI)) (ci := 6) (v := .int p5) (ty := .int) (C := RX6) (T := TX6) (N := 24) hx hb hts hiX6 tyX6 tyX6_ok nmX6 hown hK hP hD hS 3 rfl rfl 8 (by decide) hf92 (fun _ h9 => h9) rfl (by decide +kernel) rfl rfl (Nat.le_of_ble_eq_true rfl) dX6_sendForged_61 (fun H locs hP hD hS => ?_)
              have hP : va_P (dC, dI) vwCl [(q_parentOf, .inl (cI, 20, .inl a_parentOf)), (q_addressOf, .inl (cI, 20, .inl a_addressOf)), (q_marks, .inl (cI, 4096, .inl a_marks_41)), (h0, .inr (6, [.int v_routers, .ref q_parentOf, .ref q_addressOf, .ref q_depthOf, .int v_percent, .int v_random_41, .int p3, .int p4, .int p5, .int v_isMade_41, .ref q_marks, .int v_received_41, .int v_unmarked_41, .ref q_missing, .int v_nodes, .ref q_nodeAddresses, .ref q_nodeDistances, .ref q_nodeParents, .int v_found, .ref q_foundAddress, .ref q_foundDistance, .ref q_foundParent, .int v_words, .ref q_wordAt]))] H := hP
              have hD : va_D A [(q_parentOf, .inl (cI, 20, .inl a_parentOf)), (q_addressOf, .inl (cI, 20, .inl a_addressOf)), (q_marks, .inl (cI, 4096, .inl a_marks_41)), (h0, .inr (6, [.int v_routers, .ref q_parentOf, .ref q_addressOf, .ref q_depthOf, .int v_percent, .int v_random_41, .int p3, .int p4, .int p5, .int v_isMade_41, .ref q_marks, .int v_received_41, .int v_unmarked_41, .ref q_missing, .int v_nodes, .ref q_nodeAddresses, .ref q_nodeDistances, .ref q_nodeParents, .int v_found, .ref q_foundAddress, .ref q_foundDistance, .ref q_foundParent, .int v_words, .ref q_wordAt]))] := hD
              refine lv_aload_n hx hb dX6_sendForged_64 rfl (lv_at hl 2 rfl) ?_
              refine lv_iconst (v := (0 : Int32)) hx hb dX6_sendForged_65 (by decide) ?_
              refine va_put (D := (dC, dI)) (ci := 6) (v := .int (0 : Int32)) (ty := .boolean) (C := RX6) (T := TX6) (N := 24) hx hb hts hiX6 tyX6 tyX6_ok nmX6 hown hK hP hD hS 3 rfl rfl 9 (by decide) hf95 (fun _ h9 => h9) rfl (by decide +kernel) rfl rfl (Nat.le_of_ble_eq_true rfl) dX6_sendForged_66 (fun H locs hP hD hS => ?_)
              have hP : va_P (dC, dI) vwCl [(q_parentOf, .inl (cI, 20, .inl a_parentOf)), (q_addressOf, .inl (cI, 20, .inl a_addressOf)), (q_marks, .inl (cI, 4096, .inl a_marks_41)), (h0, .inr (6, [.int v_routers, .ref q_parentOf, .ref q_addressOf, .ref q_depthOf, .int v_percent, .int v_random_41, .int p3, .int p4, .int p5, .int (0 : Int32), .ref q_marks, .int v_received_41, .int v_unmarked_41, .ref q_missing, .int v_nodes, .ref q_nodeAddresses, .ref q_nodeDistances, .ref q_nodeParents, .int v_found, .ref q_foundAddress, .ref q_foundDistance, .ref q_foundParent, .int v_words, .ref q_wordAt]))] H := hP
              have hD : va_D A [(q_parentOf, .inl (cI, 20, .inl a_parentOf)), (q_addressOf, .inl (cI, 20, .inl a_addressOf)), (q_marks, .inl (cI, 4096, .inl a_marks_41)), (h0, .inr (6, [.int v_routers, .ref q_parentOf, .ref q_addressOf, .ref q_depthOf, .int v_percent, .int v_random_41, .int p3, .int p4, .int p5, .int (0 : Int32), .ref q_marks, .int v_received_41, .int v_unmarked_41, .ref q_missing, .int v_nodes, .ref q_nodeAddresses, .ref q_nodeDistances, .ref q_nodeParents, .int v_found, .ref q_foundAddress, .ref q_foundDistance, .ref q_foundParent, .int v_words, .ref q_wordAt]))] := hD
              refine lv_aload_n hx hb dX6_sendForged_69 rfl (lv_at hl 2 rfl) ?_
              refine lv_iload_n hx hb dX6_sendForged_70 rfl (lv_at hl 3 rfl) ?_
              obtain ⟨s_random_8, s_distance_8, s_offset_8, s_value_8, s_isMade_8, h8, h⟩ := bd5_e h
              refine ca_Vv (wc := [(h0, .inr (6, [.int v_routers, .ref q_parentOf, .ref q_addressOf, .ref q_depthOf, .int v_percent, .int v_random_41, .int p3, .int p4, .int p5, .int (0 : Int32), .ref q_marks, .int v_received_41, .int v_unmarked_41, .ref q_missing, .int v_nodes, .ref q_nodeAddresses, .ref q_nodeDistances, .ref q_nodeParents, .int v_found, .ref q_foundAddress, .ref q_foundDistance, .ref q_foundParent, .int v_words, .ref q_wordAt])), (q_parentOf, .inl (cI, 20, .inl a_parentOf)), (q_addressOf, .inl (cI, 20, .inl a_addressOf))]) (wr := [(q_marks, .inl (cI, 4096, .inl a_marks_41))]) (w1 := [(h0, .inr (6, [.int v_routers, .ref q_parentOf, .ref q_addressOf, .ref q_depthOf, .int v_percent, .int s_random_8, .int s_distance_8, .int s_offset_8, .int s_value_8, .int s_isMade_8, .ref q_marks, .int v_received_41, .int v_unmarked_41, .ref q_missing, .int v_nodes, .ref q_nodeAddresses, .ref q_nodeDistances, .ref q_nodeParents, .int v_found, .ref q_foundAddress, .ref q_foundDistance, .ref q_foundParent, .int v_words, .ref q_wordAt])), (q_parentOf, .inl (cI, 20, .inl a_parentOf)), (q_addressOf, .inl (cI, 20, .inl a_addressOf))]) [.int p1] [] [3, 0, 1] [2] hx hb hml hown hts (mX6_travels l dC dI cI H.size N h0 q_parentOf q_addressOf q_depthOf q_marks q_missing q_nodeAddresses q_nodeDistances q_nodeParents q_foundAddress q_foundDistance q_foundParent q_wordAt v_routers v_percent v_random_41 p3 p4 p5 (0 : Int32) v_received_41 v_unmarked_41 v_nodes v_found v_words a_parentOf a_addressOf p1 h8) (cwV 1 hts gX6_sendForged_X6_travels rfl rfl rfl (by decide +kernel) ⟨Nat.le_of_ble_eq_true rfl, Nat.le_of_ble_eq_true rfl⟩) hK hN hP hD hS hA rfl rfl (by decide) (by decide) (by decide) rfl rfl rfl hl.1 rfl (Nat.le_of_ble_eq_true rfl) dX6_sendForged_71 ⟨Nat.zero_le _, Nat.zero_le _⟩ (fun H locs hP hD hS => ?_)
              have hP : va_P (dC, dI) vwCl [(q_marks, .inl (cI, 4096, .inl a_marks_41)), (h0, .inr (6, [.int v_routers, .ref q_parentOf, .ref q_addressOf, .ref q_depthOf, .int v_percent, .int s_random_8, .int s_distance_8, .int s_offset_8, .int s_value_8, .int s_isMade_8, .ref q_marks, .int v_received_41, .int v_unmarked_41, .ref q_missing, .int v_nodes, .ref q_nodeAddresses, .ref q_nodeDistances, .ref q_nodeParents, .int v_found, .ref q_foundAddress, .ref q_foundDistance, .ref q_foundParent, .int v_words, .ref q_wordAt])), (q_parentOf, .inl (cI, 20, .inl a_parentOf)), (q_addressOf, .inl (cI, 20, .inl a_addressOf))] H := hP
              have hD : va_D A [(q_marks, .inl (cI, 4096, .inl a_marks_41)), (h0, .inr (6, [.int v_routers, .ref q_parentOf, .ref q_addressOf, .ref q_depthOf, .int v_percent, .int s_random_8, .int s_distance_8, .int s_offset_8, .int s_value_8, .int s_isMade_8, .ref q_marks, .int v_received_41, .int v_unmarked_41, .ref q_missing, .int v_nodes, .ref q_nodeAddresses, .ref q_nodeDistances, .ref q_nodeParents, .int v_found, .ref q_foundAddress, .ref q_foundDistance, .ref q_foundParent, .int v_words, .ref q_wordAt])), (q_parentOf, .inl (cI, 20, .inl a_parentOf)), (q_addressOf, .inl (cI, 20, .inl a_addressOf))] := hD
              refine lv_aload_n hx hb dX6_sendForged_74 rfl (lv_at hl 2 rfl) ?_
              obtain ⟨s_received_9, s_unmarked_9, s_marks_9, h9, h⟩ := bd3_e h
              refine ca_Vv (wc := [(h0, .inr (6, [.int v_routers, .ref q_parentOf, .ref q_addressOf, .ref q_depthOf, .int v_percent, .int s_random_8, .int s_distance_8, .int s_offset_8, .int s_value_8, .int s_isMade_8, .ref q_marks, .int v_received_41, .int v_unmarked_41, .ref q_missing, .int v_nodes, .ref q_nodeAddresses, .ref q_nodeDistances, .ref q_nodeParents, .int v_found, .ref q_foundAddress, .ref q_foundDistance, .ref q_foundParent, .int v_words, .ref q_wordAt])), (q_marks, .inl (cI, 4096, .inl a_marks_41))]) (wr := [(q_parentOf, .inl (cI, 20, .inl a_parentOf)), (q_addressOf, .inl (cI, 20, .inl a_addressOf))]) (w1 := [(h0, .inr (6, [.int v_routers, .ref q_parentOf, .ref q_addressOf, .ref q_depthOf, .int v_percent, .int s_random_8, .int s_distance_8, .int s_offset_8, .int s_value_8, .int s_isMade_8, .ref q_marks, .int s_received_9, .int s_unmarked_9, .ref q_missing, .int v_nodes, .ref q_nodeAddresses, .ref q_nodeDistances, .ref q_nodeParents, .int v_found, .ref q_foundAddress, .ref q_foundDistance, .ref q_foundParent, .int v_words, .ref q_wordAt])), (q_marks, .inl (cI, 4096, .inl s_marks_9))]) [] [] [1, 0] [2, 3] hx hb hml hown hts (mX6_records l dC dI cI H.size h0 q_parentOf q_addressOf q_depthOf q_marks q_missing q_nodeAddresses q_nodeDistances q_nodeParents q_foundAddress q_foundDistance q_foundParent q_wordAt v_routers v_percent s_random_8 s_distance_8 s_offset_8 s_value_8 s_isMade_8 v_received_41 v_unmarked_41 v_nodes v_found v_words a_marks_41 h9) (cwV 0 hts gX6_sendForged_X6_records rfl rfl rfl (by decide +kernel) ⟨Nat.le_of_ble_eq_true rfl, Nat.le_of_ble_eq_true rfl⟩) hK hN hP hD hS hA rfl rfl (by decide) (by decide) (by decide) rfl rfl rfl hl.1 rfl (Nat.le_of_ble_eq_true rfl) dX6_sendForged_75 ⟨Nat.zero_le _, Nat.zero_le _⟩ (fun H locs hP hD hS => ?_)
              have hP : va_P (dC, dI) vwCl [(q_parentOf, .inl (cI, 20, .inl a_parentOf)), (q_addressOf, .inl (cI, 20, .inl a_addressOf)), (h0, .inr (6, [.int v_routers, .ref q_parentOf, .ref q_addressOf, .ref q_depthOf, .int v_percent, .int s_random_8, .int s_distance_8, .int s_offset_8, .int s_value_8, .int s_isMade_8, .ref q_marks, .int s_received_9, .int s_unmarked_9, .ref q_missing, .int v_nodes, .ref q_nodeAddresses, .ref q_nodeDistances, .ref q_nodeParents, .int v_found, .ref q_foundAddress, .ref q_foundDistance, .ref q_foundParent, .int v_words, .ref q_wordAt])), (q_marks, .inl (cI, 4096, .inl s_marks_9))] H := hP
              have hD : va_D A [(q_parentOf, .inl (cI, 20, .inl a_parentOf)), (q_addressOf, .inl (cI, 20, .inl a_addressOf)), (h0, .inr (6, [.int v_routers, .ref q_parentOf, .ref q_addressOf, .ref q_depthOf, .int v_percent, .int s_random_8, .int s_distance_8, .int s_offset_8, .int s_value_8, .int s_isMade_8, .ref q_marks, .int s_received_9, .int s_unmarked_9, .ref q_missing, .int v_nodes, .ref q_nodeAddresses, .ref q_nodeDistances, .ref q_nodeParents, .int v_found, .ref q_foundAddress, .ref q_foundDistance, .ref q_foundParent, .int v_words, .ref q_wordAt])), (q_marks, .inl (cI, 4096, .inl s_marks_9))] := hD
              refine lv_iload hx hb dX6_sendForged_78 (lv_at hl 1 rfl) ?_
              refine lv_aload_n hx hb dX6_sendForged_80 rfl (lv_at hl 2 rfl) ?_
              refine va_get (D := (dC, dI)) (ci := 6) (v := .int s_isMade_8) (C := RX6) (T := TX6) (N := 24) hx hb hts hiX6 hown hK hP 2 rfl rfl 9 (by decide) hf95 (fun _ h9 => h9) rfl dX6_sendForged_81 ?_
              refine lv_if_eq (tgt := 91) hx hb dX6_sendForged_84 (by decide) (fun c10 => ?_) (fun c10 => ?_)
              · have h := it_p c10 h
                refine lv_iconst (v := (0 : Int32)) hx hb dX6_sendForged_91 (by decide) ?_
                refine lv_iadd hx hb dX6_sendForged_92 ?_
                refine lv_topi (fun x11 ex11 => ?_)
                have h := nm_u ex11 h
                refine lv_istore (lv' := [(6, .int x11), (7, .int y7_41), (0, .ref h0), (1, .int p1), (2, .int p2), (3, .int p3), (4, .int p4), (5, .int p5)]) hx hb dX6_sendForged_93 hl (by decide) rfl (fun ls hl => ?_)
                refine lv_iinc (v := y7_41 + 1) (lv' := [(7, .int (y7_41 + 1)), (6, .int x11), (0, .ref h0), (1, .int p1), (2, .int p2), (3, .int p3), (4, .int p4), (5, .int p5)]) hx hb dX6_sendForged_95 hl (k := 1) rfl rfl (by decide) rfl (fun ls hl => ?_)
                refine lv_goto (tgt := 41) hx hb dX6_sendForged_98 (by decide) ?_
                cases Option.some.inj h
                exact ih1 _ _ _ _ _ _ _ _ _ _ _ _ _ (un_l hk1) (hP.sub [0, 1, 3, 2] rfl) (hD.sub [0, 1, 3, 2] (by decide) rfl) hS (lv_sub hl [0, 1, 2, 3, 4, 5, 6, 7] rfl)
              · have h := it_n c10 h
                refine lv_iconst (v := (1 : Int32)) hx hb dX6_sendForged_87 (by decide) ?_
                refine lv_goto (tgt := 92) hx hb dX6_sendForged_88 (by decide) ?_
                refine lv_iadd hx hb dX6_sendForged_92 ?_
                refine lv_topi (fun x12 ex12 => ?_)
                have h := nm_u ex12 h
                refine lv_istore (lv' := [(6, .int x12), (7, .int y7_41), (0, .ref h0), (1, .int p1), (2, .int p2), (3, .int p3), (4, .int p4), (5, .int p5)]) hx hb dX6_sendForged_93 hl (by decide) rfl (fun ls hl => ?_)
                refine lv_iinc (v := y7_41 + 1) (lv' := [(7, .int (y7_41 + 1)), (6, .int x12), (0, .ref h0), (1, .int p1), (2, .int p2), (3, .int p3), (4, .int p4), (5, .int p5)]) hx hb dX6_sendForged_95 hl (k := 1) rfl rfl (by decide) rfl (fun ls hl => ?_)
                refine lv_goto (tgt := 41) hx hb dX6_sendForged_98 (by decide) ?_
                cases Option.some.inj h
                exact ih1 _ _ _ _ _ _ _ _ _ _ _ _ _ (un_l hk1) (hP.sub [0, 1, 3, 2] rfl) (hD.sub [0, 1, 3, 2] (by decide) rfl) hS (lv_sub hl [0, 1, 2, 3, 4, 5, 6, 7] rfl)
        exact key41 N _ _ _ _ _ _ _ _ _ _ _ _ _ h hP hD hS hl
      · have h := it_p c6 h
        refine lv_bipush (v := (-2 : Int32)) hx hb dX6_sendForged_32 (by decide) ?_
        have hk0 := Option.some.inj h
        cases hk0
        exact re_i [3, 0, 1, 2] hx hb hr hlocks rfl hP hD hS rfl (by decide) rfl dX6_sendForged_34
  · have h := it_p c2 h
    refine lv_iconst (v := (-1 : Int32)) hx hb dX6_sendForged_8 (by decide) ?_
    have hk0 := Option.some.inj h
    cases hk0
    exact re_i [3, 0, 1, 2] hx hb hr hlocks rfl hP hD hS rfl (by decide) rfl dX6_sendForged_9
def bX6_packetsAt_8 (p1 : Int32) (a_marks : Nat → Int32) (y2_8 : Int32) (y3_8 : Int32) : Option ((Int32 × Int32) ⊕ (Int32)) :=
  if (((128 : Int32) * p1) + (128 : Int32)) ≤ y3_8 then
    some (.inr (y2_8))
  else
    if ¬ (y3_8 < 0 ∨ 4096 ≤ y3_8.toNatClampNeg) then
      nm ((y2_8 + (a_marks y3_8.toNatClampNeg))) fun x4 =>
      some (.inl (x4, (y3_8 + 1)))
    else none
def fX6_packetsAt (N : Nat) (p1 : Int32) (a_marks : Nat → Int32) : Option (Int32) :=
  nm (((128 : Int32) * p1)) fun x1 =>
  lp (fun s => bX6_packetsAt_8 p1 a_marks s.1 s.2) N ((0 : Int32), x1)
set_option maxHeartbeats 4000000 in
set_option maxRecDepth 100000 in
theorem mX6_packetsAt (l : Launch) (dC : Nat → ClassId) (dI : Nat → Nat → Nat) (cI : ClassId) (sz : Nat) (N : Nat) (h0 : Nat) (q_parentOf : Nat) (q_addressOf : Nat) (q_depthOf : Nat) (q_marks : Nat) (q_missing : Nat) (q_nodeAddresses : Nat) (q_nodeDistances : Nat) (q_nodeParents : Nat) (q_foundAddress : Nat) (q_foundDistance : Nat) (q_foundParent : Nat) (q_wordAt : Nat) (v_routers : Int32) (v_percent : Int32) (v_random : Int32) (v_distance : Int32) (v_offset : Int32) (v_value : Int32) (v_isMade : Int32) (v_received : Int32) (v_unmarked : Int32) (v_nodes : Int32) (v_found : Int32) (v_words : Int32) (a_marks : Nat → Int32) (p1 : Int32) {rr : Int32} (h : fX6_packetsAt N p1 a_marks = some rr) : Met l yX6_packetsAt wsX6_packetsAt ({ frames := 0, cells := 0, slots := 0, locals := 0 } : Room) (prX dC dI cI [.ref h0, .int p1] sz [(h0, .inr (6, [.int v_routers, .ref q_parentOf, .ref q_addressOf, .ref q_depthOf, .int v_percent, .int v_random, .int v_distance, .int v_offset, .int v_value, .int v_isMade, .ref q_marks, .int v_received, .int v_unmarked, .ref q_missing, .int v_nodes, .ref q_nodeAddresses, .ref q_nodeDistances, .ref q_nodeParents, .int v_found, .ref q_foundAddress, .ref q_foundDistance, .ref q_foundParent, .int v_words, .ref q_wordAt])), (q_marks, .inl (cI, 4096, .inl a_marks))]) (poI dC dI .int rr [(h0, .inr (6, [.int v_routers, .ref q_parentOf, .ref q_addressOf, .ref q_depthOf, .int v_percent, .int v_random, .int v_distance, .int v_offset, .int v_value, .int v_isMade, .ref q_marks, .int v_received, .int v_unmarked, .ref q_missing, .int v_nodes, .ref q_nodeAddresses, .ref q_nodeDistances, .ref q_nodeParents, .int v_found, .ref q_foundAddress, .ref q_foundDistance, .ref q_foundParent, .int v_words, .ref q_wordAt])), (q_marks, .inl (cI, 4096, .inl a_marks))] (va_A [(h0, .inr (6, [.int v_routers, .ref q_parentOf, .ref q_addressOf, .ref q_depthOf, .int v_percent, .int v_random, .int v_distance, .int v_offset, .int v_value, .int v_isMade, .ref q_marks, .int v_received, .int v_unmarked, .ref q_missing, .int v_nodes, .ref q_nodeAddresses, .ref q_nodeDistances, .ref q_nodeParents, .int v_found, .ref q_foundAddress, .ref q_foundDistance, .ref q_foundParent, .int v_words, .ref q_wordAt])), (q_marks, .inl (cI, 4096, .inl a_marks))] sz)) 0 0 (va_A [(h0, .inr (6, [.int v_routers, .ref q_parentOf, .ref q_addressOf, .ref q_depthOf, .int v_percent, .int v_random, .int v_distance, .int v_offset, .int v_value, .int v_isMade, .ref q_marks, .int v_received, .int v_unmarked, .ref q_missing, .int v_nodes, .ref q_nodeAddresses, .ref q_nodeDistances, .ref q_nodeParents, .int v_found, .ref q_foundAddress, .ref q_foundDistance, .ref q_foundParent, .int v_words, .ref q_wordAt])), (q_marks, .inl (cI, 4096, .inl a_marks))] sz) := by
  refine ofX (cc := cX6_packetsAt) (maxL := 4) (ret := (some .int)) (lv0 := [(0, .ref h0), (1, .int p1)]) (QA := fun A => poI dC dI .int rr [(h0, .inr (6, [.int v_routers, .ref q_parentOf, .ref q_addressOf, .ref q_depthOf, .int v_percent, .int v_random, .int v_distance, .int v_offset, .int v_value, .int v_isMade, .ref q_marks, .int v_received, .int v_unmarked, .ref q_missing, .int v_nodes, .ref q_nodeAddresses, .ref q_nodeDistances, .ref q_nodeParents, .int v_found, .ref q_foundAddress, .ref q_foundDistance, .ref q_foundParent, .int v_words, .ref q_wordAt])), (q_marks, .inl (cI, 4096, .inl a_marks))] A) (by decide) rfl (Nat.le_of_ble_eq_true rfl) rfl ?_
  intro p e s m below meth c A ls H locs hx hb hr hml hown hts hlocks hin hK hN hA hP hD hS hl
  have hown : s.vm.findClass RX6 = some m.cls := hown
  unfold fX6_packetsAt at h
  have hiX6 : ∀ w ∈ u_ws RX6 TX6 24, w ∈ wsX6_packetsAt := fun _ h => List.mem_cons_of_mem _ (List.mem_append_right _ h)
  have hf19 := (hts (.fieldLink RX6 19 "PacketTracebackModel" "marks" "[I") (List.mem_of_getElem? (i := 1) (by decide +kernel)))
  refine lv_iconst (v := (0 : Int32)) hx hb dX6_packetsAt_0 (by decide) ?_
  refine lv_istore_n (lv' := [(2, .int (0 : Int32)), (0, .ref h0), (1, .int p1)]) hx hb dX6_packetsAt_1 rfl hl (by decide) rfl (fun ls hl => ?_)
  refine lv_sipush (v := (128 : Int32)) hx hb dX6_packetsAt_2 (by decide) ?_
  refine lv_iload_n hx hb dX6_packetsAt_5 rfl (lv_at hl 2 rfl) ?_
  refine lv_imul hx hb dX6_packetsAt_6 ?_
  refine lv_topi (fun x1 ex1 => ?_)
  have h := nm_u ex1 h
  refine lv_istore_n (lv' := [(3, .int x1), (2, .int (0 : Int32)), (0, .ref h0), (1, .int p1)]) hx hb dX6_packetsAt_7 rfl hl (by decide) rfl (fun ls hl => ?_)
  have key8 : ∀ (n1 : Nat) (y2_8 : Int32) (y3_8 : Int32) (H : Heap) (locs : List Loc) (ls : Array Slot), lp (fun s => bX6_packetsAt_8 p1 a_marks s.1 s.2) n1 (y2_8, y3_8) = some rr → va_P (dC, dI) vwCl [(h0, .inr (6, [.int v_routers, .ref q_parentOf, .ref q_addressOf, .ref q_depthOf, .int v_percent, .int v_random, .int v_distance, .int v_offset, .int v_value, .int v_isMade, .ref q_marks, .int v_received, .int v_unmarked, .ref q_missing, .int v_nodes, .ref q_nodeAddresses, .ref q_nodeDistances, .ref q_nodeParents, .int v_found, .ref q_foundAddress, .ref q_foundDistance, .ref q_foundParent, .int v_words, .ref q_wordAt])), (q_marks, .inl (cI, 4096, .inl a_marks))] H → va_D A [(h0, .inr (6, [.int v_routers, .ref q_parentOf, .ref q_addressOf, .ref q_depthOf, .int v_percent, .int v_random, .int v_distance, .int v_offset, .int v_value, .int v_isMade, .ref q_marks, .int v_received, .int v_unmarked, .ref q_missing, .int v_nodes, .ref q_nodeAddresses, .ref q_nodeDistances, .ref q_nodeParents, .int v_found, .ref q_foundAddress, .ref q_foundDistance, .ref q_foundParent, .int v_words, .ref q_wordAt])), (q_marks, .inl (cI, 4096, .inl a_marks))] → va_S A s.heap H locs → lv_has ls 4 [(3, .int y3_8), (2, .int y2_8), (0, .ref h0), (1, .int p1)] → W p l e ({ frames := 0, cells := 0, slots := 0, locals := 0 } : Room) s m [.ref h0, .int p1].toArray below meth c H locs 0 0 (MQ below (poI dC dI .int rr [(h0, .inr (6, [.int v_routers, .ref q_parentOf, .ref q_addressOf, .ref q_depthOf, .int v_percent, .int v_random, .int v_distance, .int v_offset, .int v_value, .int v_isMade, .ref q_marks, .int v_received, .int v_unmarked, .ref q_missing, .int v_nodes, .ref q_nodeAddresses, .ref q_nodeDistances, .ref q_nodeParents, .int v_found, .ref q_foundAddress, .ref q_foundDistance, .ref q_foundParent, .int v_words, .ref q_wordAt])), (q_marks, .inl (cI, 4096, .inl a_marks))] A) [.ref h0, .int p1].toArray s 0 0 A) (F0 m 8 ls []) := by
    intro n1
    induction n1 with
    | zero =>
      intro y2_8 y3_8 H locs ls h
      exact (lp_0 h).elim
    | succ n1 ih1 =>
      intro y2_8 y3_8 H locs ls h hP hD hS hl
      obtain ⟨o1, h, hk1⟩ := lp_s h
      unfold bX6_packetsAt_8 at h
      try dsimp only at h
      refine lv_iload_n hx hb dX6_packetsAt_8 rfl (lv_at hl 0 rfl) ?_
      refine lv_sipush (v := (128 : Int32)) hx hb dX6_packetsAt_9 (by decide) ?_
      refine lv_iload_n hx hb dX6_packetsAt_12 rfl (lv_at hl 3 rfl) ?_
      refine lv_imul hx hb dX6_packetsAt_13 ?_
      refine lv_sipush (v := (128 : Int32)) hx hb dX6_packetsAt_14 (by decide) ?_
      refine lv_iadd hx hb dX6_packetsAt_17 ?_
      refine lv_icmp_ge (tgt := 36) hx hb dX6_packetsAt_18 (by decide) (fun c2 => ?_) (fun c2 => ?_)
      · have h := it_p c2 h
        refine lv_iload_n hx hb dX6_packetsAt_36 rfl (lv_at hl 1 rfl) ?_
        cases Option.some.inj h
        have hk1 := un_r hk1
        cases hk1
        exact re_i [0, 1] hx hb hr hlocks rfl hP hD hS rfl (by decide) rfl dX6_packetsAt_37
      · have h := it_n c2 h
        refine lv_iload_n hx hb dX6_packetsAt_21 rfl (lv_at hl 1 rfl) ?_
        refine lv_aload_n hx hb dX6_packetsAt_22 rfl (lv_at hl 2 rfl) ?_
        refine va_get (D := (dC, dI)) (ci := 6) (v := .ref q_marks) (C := RX6) (T := TX6) (N := 24) hx hb hts hiX6 hown hK hP 0 rfl rfl 10 (by decide) hf19 (fun _ h9 => h9) rfl dX6_packetsAt_23 ?_
        refine lv_iload_n hx hb dX6_packetsAt_26 rfl (lv_at hl 0 rfl) ?_
        obtain ⟨g3, h⟩ := gd_e h
        refine va_iald hx hb hK hP 1 0 rfl rfl g3 dX6_packetsAt_27 ?_
        refine lv_iadd hx hb dX6_packetsAt_28 ?_
        refine lv_topi (fun x4 ex4 => ?_)
        have h := nm_u ex4 h
        refine lv_istore_n (lv' := [(2, .int x4), (3, .int y3_8), (0, .ref h0), (1, .int p1)]) hx hb dX6_packetsAt_29 rfl hl (by decide) rfl (fun ls hl => ?_)
        refine lv_iinc (v := y3_8 + 1) (lv' := [(3, .int (y3_8 + 1)), (2, .int x4), (0, .ref h0), (1, .int p1)]) hx hb dX6_packetsAt_30 hl (k := 1) rfl rfl (by decide) rfl (fun ls hl => ?_)
        refine lv_goto (tgt := 8) hx hb dX6_packetsAt_33 (by decide) ?_
        cases Option.some.inj h
        exact ih1 _ _ _ _ _ (un_l hk1) (hP.sub [0, 1] rfl) (hD.sub [0, 1] (by decide) rfl) hS (lv_sub hl [0, 1, 2, 3] rfl)
  exact key8 N _ _ _ _ _ h hP hD hS hl
def fX6_packetsAtDistance (N : Nat) (p1 : Int32) (a_marks : Nat → Int32) : Option (Int32) :=
  bd1 (fX6_within p1 (0 : Int32) (31 : Int32)) fun r1 =>
  if r1 = 0 then
    some (-2 : Int32)
  else
    bd1 (fX6_packetsAt N p1 a_marks) fun r3 =>
    some r3
set_option maxHeartbeats 4000000 in
set_option maxRecDepth 100000 in
theorem mX6_packetsAtDistance (l : Launch) (dC : Nat → ClassId) (dI : Nat → Nat → Nat) (cI : ClassId) (sz : Nat) (N : Nat) (h0 : Nat) (q_parentOf : Nat) (q_addressOf : Nat) (q_depthOf : Nat) (q_marks : Nat) (q_missing : Nat) (q_nodeAddresses : Nat) (q_nodeDistances : Nat) (q_nodeParents : Nat) (q_foundAddress : Nat) (q_foundDistance : Nat) (q_foundParent : Nat) (q_wordAt : Nat) (v_routers : Int32) (v_percent : Int32) (v_random : Int32) (v_distance : Int32) (v_offset : Int32) (v_value : Int32) (v_isMade : Int32) (v_received : Int32) (v_unmarked : Int32) (v_nodes : Int32) (v_found : Int32) (v_words : Int32) (a_marks : Nat → Int32) (p1 : Int32) {rr : Int32} (h : fX6_packetsAtDistance N p1 a_marks = some rr) : Met l yX6_packetsAtDistance wsX6_packetsAtDistance ({ frames := 1, cells := 0, slots := 0, locals := 23 } : Room) (prX dC dI cI [.ref h0, .int p1] sz [(h0, .inr (6, [.int v_routers, .ref q_parentOf, .ref q_addressOf, .ref q_depthOf, .int v_percent, .int v_random, .int v_distance, .int v_offset, .int v_value, .int v_isMade, .ref q_marks, .int v_received, .int v_unmarked, .ref q_missing, .int v_nodes, .ref q_nodeAddresses, .ref q_nodeDistances, .ref q_nodeParents, .int v_found, .ref q_foundAddress, .ref q_foundDistance, .ref q_foundParent, .int v_words, .ref q_wordAt])), (q_marks, .inl (cI, 4096, .inl a_marks))]) (poI dC dI .int rr [(h0, .inr (6, [.int v_routers, .ref q_parentOf, .ref q_addressOf, .ref q_depthOf, .int v_percent, .int v_random, .int v_distance, .int v_offset, .int v_value, .int v_isMade, .ref q_marks, .int v_received, .int v_unmarked, .ref q_missing, .int v_nodes, .ref q_nodeAddresses, .ref q_nodeDistances, .ref q_nodeParents, .int v_found, .ref q_foundAddress, .ref q_foundDistance, .ref q_foundParent, .int v_words, .ref q_wordAt])), (q_marks, .inl (cI, 4096, .inl a_marks))] (va_A [(h0, .inr (6, [.int v_routers, .ref q_parentOf, .ref q_addressOf, .ref q_depthOf, .int v_percent, .int v_random, .int v_distance, .int v_offset, .int v_value, .int v_isMade, .ref q_marks, .int v_received, .int v_unmarked, .ref q_missing, .int v_nodes, .ref q_nodeAddresses, .ref q_nodeDistances, .ref q_nodeParents, .int v_found, .ref q_foundAddress, .ref q_foundDistance, .ref q_foundParent, .int v_words, .ref q_wordAt])), (q_marks, .inl (cI, 4096, .inl a_marks))] sz)) 0 0 (va_A [(h0, .inr (6, [.int v_routers, .ref q_parentOf, .ref q_addressOf, .ref q_depthOf, .int v_percent, .int v_random, .int v_distance, .int v_offset, .int v_value, .int v_isMade, .ref q_marks, .int v_received, .int v_unmarked, .ref q_missing, .int v_nodes, .ref q_nodeAddresses, .ref q_nodeDistances, .ref q_nodeParents, .int v_found, .ref q_foundAddress, .ref q_foundDistance, .ref q_foundParent, .int v_words, .ref q_wordAt])), (q_marks, .inl (cI, 4096, .inl a_marks))] sz) := by
  refine ofX (cc := cX6_packetsAtDistance) (maxL := 2) (ret := (some .int)) (lv0 := [(0, .ref h0), (1, .int p1)]) (QA := fun A => poI dC dI .int rr [(h0, .inr (6, [.int v_routers, .ref q_parentOf, .ref q_addressOf, .ref q_depthOf, .int v_percent, .int v_random, .int v_distance, .int v_offset, .int v_value, .int v_isMade, .ref q_marks, .int v_received, .int v_unmarked, .ref q_missing, .int v_nodes, .ref q_nodeAddresses, .ref q_nodeDistances, .ref q_nodeParents, .int v_found, .ref q_foundAddress, .ref q_foundDistance, .ref q_foundParent, .int v_words, .ref q_wordAt])), (q_marks, .inl (cI, 4096, .inl a_marks))] A) (by decide) rfl (Nat.le_of_ble_eq_true rfl) rfl ?_
  intro p e s m below meth c A ls H locs hx hb hr hml hown hts hlocks hin hK hN hA hP hD hS hl
  have hown : s.vm.findClass RX6 = some m.cls := hown
  unfold fX6_packetsAtDistance at h
  refine lv_iload_n hx hb dX6_packetsAtDistance_0 rfl (lv_at hl 1 rfl) ?_
  refine lv_iconst (v := (0 : Int32)) hx hb dX6_packetsAtDistance_1 (by decide) ?_
  refine lv_bipush (v := (31 : Int32)) hx hb dX6_packetsAtDistance_2 (by decide) ?_
  obtain ⟨r1, h1, h⟩ := bd1_e h
  refine ca_Si (wc := []) (wr := [(h0, .inr (6, [.int v_routers, .ref q_parentOf, .ref q_addressOf, .ref q_depthOf, .int v_percent, .int v_random, .int v_distance, .int v_offset, .int v_value, .int v_isMade, .ref q_marks, .int v_received, .int v_unmarked, .ref q_missing, .int v_nodes, .ref q_nodeAddresses, .ref q_nodeDistances, .ref q_nodeParents, .int v_found, .ref q_foundAddress, .ref q_foundDistance, .ref q_foundParent, .int v_words, .ref q_wordAt])), (q_marks, .inl (cI, 4096, .inl a_marks))]) (w1 := []) [.int p1, .int (0 : Int32), .int (31 : Int32)] [] [] [0, 1] hx hb hml hown hts (mX6_within l dC dI cI H.size p1 (0 : Int32) (31 : Int32) h1) (va_cwS 3 hts gX6_packetsAtDistance_X6_within rfl rfl rfl (by decide +kernel) ⟨Nat.le_of_ble_eq_true rfl, Nat.le_of_ble_eq_true rfl⟩) hK hN hP hD hS hA rfl rfl (by decide) (by decide) (by decide) rfl hl.1 rfl (Nat.le_of_ble_eq_true rfl) dX6_packetsAtDistance_4 ⟨Nat.zero_le _, Nat.zero_le _⟩ (fun H locs hP hD hS hz1 => ?_)
  have hP : va_P (dC, dI) vwCl [(h0, .inr (6, [.int v_routers, .ref q_parentOf, .ref q_addressOf, .ref q_depthOf, .int v_percent, .int v_random, .int v_distance, .int v_offset, .int v_value, .int v_isMade, .ref q_marks, .int v_received, .int v_unmarked, .ref q_missing, .int v_nodes, .ref q_nodeAddresses, .ref q_nodeDistances, .ref q_nodeParents, .int v_found, .ref q_foundAddress, .ref q_foundDistance, .ref q_foundParent, .int v_words, .ref q_wordAt])), (q_marks, .inl (cI, 4096, .inl a_marks))] H := hP
  have hD : va_D A [(h0, .inr (6, [.int v_routers, .ref q_parentOf, .ref q_addressOf, .ref q_depthOf, .int v_percent, .int v_random, .int v_distance, .int v_offset, .int v_value, .int v_isMade, .ref q_marks, .int v_received, .int v_unmarked, .ref q_missing, .int v_nodes, .ref q_nodeAddresses, .ref q_nodeDistances, .ref q_nodeParents, .int v_found, .ref q_foundAddress, .ref q_foundDistance, .ref q_foundParent, .int v_words, .ref q_wordAt])), (q_marks, .inl (cI, 4096, .inl a_marks))] := hD
  refine lv_if_eq (tgt := 18) hx hb dX6_packetsAtDistance_7 (by decide) (fun c2 => ?_) (fun c2 => ?_)
  · have h := it_p c2 h
    refine lv_bipush (v := (-2 : Int32)) hx hb dX6_packetsAtDistance_18 (by decide) ?_
    have hk0 := Option.some.inj h
    cases hk0
    exact re_i [0, 1] hx hb hr hlocks rfl hP hD hS rfl (by decide) rfl dX6_packetsAtDistance_20
  · have h := it_n c2 h
    refine lv_aload_n hx hb dX6_packetsAtDistance_10 rfl (lv_at hl 0 rfl) ?_
    refine lv_iload_n hx hb dX6_packetsAtDistance_11 rfl (lv_at hl 1 rfl) ?_
    obtain ⟨r3, h3, h⟩ := bd1_e h
    refine ca_Vi (wc := [(h0, .inr (6, [.int v_routers, .ref q_parentOf, .ref q_addressOf, .ref q_depthOf, .int v_percent, .int v_random, .int v_distance, .int v_offset, .int v_value, .int v_isMade, .ref q_marks, .int v_received, .int v_unmarked, .ref q_missing, .int v_nodes, .ref q_nodeAddresses, .ref q_nodeDistances, .ref q_nodeParents, .int v_found, .ref q_foundAddress, .ref q_foundDistance, .ref q_foundParent, .int v_words, .ref q_wordAt])), (q_marks, .inl (cI, 4096, .inl a_marks))]) (wr := []) (w1 := [(h0, .inr (6, [.int v_routers, .ref q_parentOf, .ref q_addressOf, .ref q_depthOf, .int v_percent, .int v_random, .int v_distance, .int v_offset, .int v_value, .int v_isMade, .ref q_marks, .int v_received, .int v_unmarked, .ref q_missing, .int v_nodes, .ref q_nodeAddresses, .ref q_nodeDistances, .ref q_nodeParents, .int v_found, .ref q_foundAddress, .ref q_foundDistance, .ref q_foundParent, .int v_words, .ref q_wordAt])), (q_marks, .inl (cI, 4096, .inl a_marks))]) [.int p1] [] [0, 1] [] hx hb hml hown hts (mX6_packetsAt l dC dI cI H.size N h0 q_parentOf q_addressOf q_depthOf q_marks q_missing q_nodeAddresses q_nodeDistances q_nodeParents q_foundAddress q_foundDistance q_foundParent q_wordAt v_routers v_percent v_random v_distance v_offset v_value v_isMade v_received v_unmarked v_nodes v_found v_words a_marks p1 h3) (cwV 1 hts gX6_packetsAtDistance_X6_packetsAt rfl rfl rfl (by decide +kernel) ⟨Nat.le_of_ble_eq_true rfl, Nat.le_of_ble_eq_true rfl⟩) hK hN hP hD hS hA rfl rfl (by decide) (by decide) (by decide) rfl rfl rfl hl.1 rfl (Nat.le_of_ble_eq_true rfl) dX6_packetsAtDistance_12 ⟨Nat.zero_le _, Nat.zero_le _⟩ (fun H locs hP hD hS hz3 => ?_)
    have hP : va_P (dC, dI) vwCl [(h0, .inr (6, [.int v_routers, .ref q_parentOf, .ref q_addressOf, .ref q_depthOf, .int v_percent, .int v_random, .int v_distance, .int v_offset, .int v_value, .int v_isMade, .ref q_marks, .int v_received, .int v_unmarked, .ref q_missing, .int v_nodes, .ref q_nodeAddresses, .ref q_nodeDistances, .ref q_nodeParents, .int v_found, .ref q_foundAddress, .ref q_foundDistance, .ref q_foundParent, .int v_words, .ref q_wordAt])), (q_marks, .inl (cI, 4096, .inl a_marks))] H := hP
    have hD : va_D A [(h0, .inr (6, [.int v_routers, .ref q_parentOf, .ref q_addressOf, .ref q_depthOf, .int v_percent, .int v_random, .int v_distance, .int v_offset, .int v_value, .int v_isMade, .ref q_marks, .int v_received, .int v_unmarked, .ref q_missing, .int v_nodes, .ref q_nodeAddresses, .ref q_nodeDistances, .ref q_nodeParents, .int v_found, .ref q_foundAddress, .ref q_foundDistance, .ref q_foundParent, .int v_words, .ref q_wordAt])), (q_marks, .inl (cI, 4096, .inl a_marks))] := hD
    refine lv_goto (tgt := 20) hx hb dX6_packetsAtDistance_15 (by decide) ?_
    have hk0 := Option.some.inj h
    cases hk0
    exact re_i [0, 1] hx hb hr hlocks rfl hP hD hS rfl (by decide) rfl dX6_packetsAtDistance_20
def fX6_unmarkedCount (v_unmarked : Int32) : Option (Int32) :=
  some v_unmarked
set_option maxHeartbeats 4000000 in
set_option maxRecDepth 100000 in
theorem mX6_unmarkedCount (l : Launch) (dC : Nat → ClassId) (dI : Nat → Nat → Nat) (cI : ClassId) (sz : Nat) (h0 : Nat) (q_parentOf : Nat) (q_addressOf : Nat) (q_depthOf : Nat) (q_marks : Nat) (q_missing : Nat) (q_nodeAddresses : Nat) (q_nodeDistances : Nat) (q_nodeParents : Nat) (q_foundAddress : Nat) (q_foundDistance : Nat) (q_foundParent : Nat) (q_wordAt : Nat) (v_routers : Int32) (v_percent : Int32) (v_random : Int32) (v_distance : Int32) (v_offset : Int32) (v_value : Int32) (v_isMade : Int32) (v_received : Int32) (v_unmarked : Int32) (v_nodes : Int32) (v_found : Int32) (v_words : Int32) {rr : Int32} (h : fX6_unmarkedCount v_unmarked = some rr) : Met l yX6_unmarkedCount wsX6_unmarkedCount ({ frames := 0, cells := 0, slots := 0, locals := 0 } : Room) (prX dC dI cI [.ref h0] sz [(h0, .inr (6, [.int v_routers, .ref q_parentOf, .ref q_addressOf, .ref q_depthOf, .int v_percent, .int v_random, .int v_distance, .int v_offset, .int v_value, .int v_isMade, .ref q_marks, .int v_received, .int v_unmarked, .ref q_missing, .int v_nodes, .ref q_nodeAddresses, .ref q_nodeDistances, .ref q_nodeParents, .int v_found, .ref q_foundAddress, .ref q_foundDistance, .ref q_foundParent, .int v_words, .ref q_wordAt]))]) (poI dC dI .int rr [(h0, .inr (6, [.int v_routers, .ref q_parentOf, .ref q_addressOf, .ref q_depthOf, .int v_percent, .int v_random, .int v_distance, .int v_offset, .int v_value, .int v_isMade, .ref q_marks, .int v_received, .int v_unmarked, .ref q_missing, .int v_nodes, .ref q_nodeAddresses, .ref q_nodeDistances, .ref q_nodeParents, .int v_found, .ref q_foundAddress, .ref q_foundDistance, .ref q_foundParent, .int v_words, .ref q_wordAt]))] (va_A [(h0, .inr (6, [.int v_routers, .ref q_parentOf, .ref q_addressOf, .ref q_depthOf, .int v_percent, .int v_random, .int v_distance, .int v_offset, .int v_value, .int v_isMade, .ref q_marks, .int v_received, .int v_unmarked, .ref q_missing, .int v_nodes, .ref q_nodeAddresses, .ref q_nodeDistances, .ref q_nodeParents, .int v_found, .ref q_foundAddress, .ref q_foundDistance, .ref q_foundParent, .int v_words, .ref q_wordAt]))] sz)) 0 0 (va_A [(h0, .inr (6, [.int v_routers, .ref q_parentOf, .ref q_addressOf, .ref q_depthOf, .int v_percent, .int v_random, .int v_distance, .int v_offset, .int v_value, .int v_isMade, .ref q_marks, .int v_received, .int v_unmarked, .ref q_missing, .int v_nodes, .ref q_nodeAddresses, .ref q_nodeDistances, .ref q_nodeParents, .int v_found, .ref q_foundAddress, .ref q_foundDistance, .ref q_foundParent, .int v_words, .ref q_wordAt]))] sz) := by
  refine ofX (cc := cX6_unmarkedCount) (maxL := 1) (ret := (some .int)) (lv0 := [(0, .ref h0)]) (QA := fun A => poI dC dI .int rr [(h0, .inr (6, [.int v_routers, .ref q_parentOf, .ref q_addressOf, .ref q_depthOf, .int v_percent, .int v_random, .int v_distance, .int v_offset, .int v_value, .int v_isMade, .ref q_marks, .int v_received, .int v_unmarked, .ref q_missing, .int v_nodes, .ref q_nodeAddresses, .ref q_nodeDistances, .ref q_nodeParents, .int v_found, .ref q_foundAddress, .ref q_foundDistance, .ref q_foundParent, .int v_words, .ref q_wordAt]))] A) (by decide) rfl (Nat.le_of_ble_eq_true rfl) rfl ?_
  intro p e s m below meth c A ls H locs hx hb hr hml hown hts hlocks hin hK hN hA hP hD hS hl
  have hown : s.vm.findClass RX6 = some m.cls := hown
  unfold fX6_unmarkedCount at h
  have hiX6 : ∀ w ∈ u_ws RX6 TX6 24, w ∈ wsX6_unmarkedCount := fun _ h => List.mem_cons_of_mem _ (List.mem_append_right _ h)
  have hf106 := (hts (.fieldLink RX6 106 "PacketTracebackModel" "unmarked" "I") (List.mem_of_getElem? (i := 1) (by decide +kernel)))
  refine lv_aload_n hx hb dX6_unmarkedCount_0 rfl (lv_at hl 0 rfl) ?_
  refine va_get (D := (dC, dI)) (ci := 6) (v := .int v_unmarked) (C := RX6) (T := TX6) (N := 24) hx hb hts hiX6 hown hK hP 0 rfl rfl 12 (by decide) hf106 (fun _ h9 => h9) rfl dX6_unmarkedCount_1 ?_
  have hk0 := Option.some.inj h
  cases hk0
  exact re_i [0] hx hb hr hlocks rfl hP hD hS rfl (by decide) rfl dX6_unmarkedCount_4
def fX6_markCount (p1 : Int32) (p2 : Int32) (p3 : Int32) (a_marks : Nat → Int32) : Option (Int32) :=
  bd1 (fX6_isMark p1 p2 p3) fun r1 =>
  if r1 = 0 then
    some (-2 : Int32)
  else
    bd1 (fX6_placeOf p1 p2 p3) fun r3 =>
    if ¬ (r3 < 0 ∨ 4096 ≤ r3.toNatClampNeg) then
      some (a_marks r3.toNatClampNeg)
    else none
set_option maxHeartbeats 4000000 in
set_option maxRecDepth 100000 in
theorem mX6_markCount (l : Launch) (dC : Nat → ClassId) (dI : Nat → Nat → Nat) (cI : ClassId) (sz : Nat) (h0 : Nat) (q_parentOf : Nat) (q_addressOf : Nat) (q_depthOf : Nat) (q_marks : Nat) (q_missing : Nat) (q_nodeAddresses : Nat) (q_nodeDistances : Nat) (q_nodeParents : Nat) (q_foundAddress : Nat) (q_foundDistance : Nat) (q_foundParent : Nat) (q_wordAt : Nat) (v_routers : Int32) (v_percent : Int32) (v_random : Int32) (v_distance : Int32) (v_offset : Int32) (v_value : Int32) (v_isMade : Int32) (v_received : Int32) (v_unmarked : Int32) (v_nodes : Int32) (v_found : Int32) (v_words : Int32) (a_marks : Nat → Int32) (p1 : Int32) (p2 : Int32) (p3 : Int32) {rr : Int32} (h : fX6_markCount p1 p2 p3 a_marks = some rr) : Met l yX6_markCount wsX6_markCount ({ frames := 2, cells := 0, slots := 0, locals := 44 } : Room) (prX dC dI cI [.ref h0, .int p1, .int p2, .int p3] sz [(h0, .inr (6, [.int v_routers, .ref q_parentOf, .ref q_addressOf, .ref q_depthOf, .int v_percent, .int v_random, .int v_distance, .int v_offset, .int v_value, .int v_isMade, .ref q_marks, .int v_received, .int v_unmarked, .ref q_missing, .int v_nodes, .ref q_nodeAddresses, .ref q_nodeDistances, .ref q_nodeParents, .int v_found, .ref q_foundAddress, .ref q_foundDistance, .ref q_foundParent, .int v_words, .ref q_wordAt])), (q_marks, .inl (cI, 4096, .inl a_marks))]) (poI dC dI .int rr [(h0, .inr (6, [.int v_routers, .ref q_parentOf, .ref q_addressOf, .ref q_depthOf, .int v_percent, .int v_random, .int v_distance, .int v_offset, .int v_value, .int v_isMade, .ref q_marks, .int v_received, .int v_unmarked, .ref q_missing, .int v_nodes, .ref q_nodeAddresses, .ref q_nodeDistances, .ref q_nodeParents, .int v_found, .ref q_foundAddress, .ref q_foundDistance, .ref q_foundParent, .int v_words, .ref q_wordAt])), (q_marks, .inl (cI, 4096, .inl a_marks))] (va_A [(h0, .inr (6, [.int v_routers, .ref q_parentOf, .ref q_addressOf, .ref q_depthOf, .int v_percent, .int v_random, .int v_distance, .int v_offset, .int v_value, .int v_isMade, .ref q_marks, .int v_received, .int v_unmarked, .ref q_missing, .int v_nodes, .ref q_nodeAddresses, .ref q_nodeDistances, .ref q_nodeParents, .int v_found, .ref q_foundAddress, .ref q_foundDistance, .ref q_foundParent, .int v_words, .ref q_wordAt])), (q_marks, .inl (cI, 4096, .inl a_marks))] sz)) 0 0 (va_A [(h0, .inr (6, [.int v_routers, .ref q_parentOf, .ref q_addressOf, .ref q_depthOf, .int v_percent, .int v_random, .int v_distance, .int v_offset, .int v_value, .int v_isMade, .ref q_marks, .int v_received, .int v_unmarked, .ref q_missing, .int v_nodes, .ref q_nodeAddresses, .ref q_nodeDistances, .ref q_nodeParents, .int v_found, .ref q_foundAddress, .ref q_foundDistance, .ref q_foundParent, .int v_words, .ref q_wordAt])), (q_marks, .inl (cI, 4096, .inl a_marks))] sz) := by
  refine ofX (cc := cX6_markCount) (maxL := 4) (ret := (some .int)) (lv0 := [(0, .ref h0), (1, .int p1), (2, .int p2), (3, .int p3)]) (QA := fun A => poI dC dI .int rr [(h0, .inr (6, [.int v_routers, .ref q_parentOf, .ref q_addressOf, .ref q_depthOf, .int v_percent, .int v_random, .int v_distance, .int v_offset, .int v_value, .int v_isMade, .ref q_marks, .int v_received, .int v_unmarked, .ref q_missing, .int v_nodes, .ref q_nodeAddresses, .ref q_nodeDistances, .ref q_nodeParents, .int v_found, .ref q_foundAddress, .ref q_foundDistance, .ref q_foundParent, .int v_words, .ref q_wordAt])), (q_marks, .inl (cI, 4096, .inl a_marks))] A) (by decide) rfl (Nat.le_of_ble_eq_true rfl) rfl ?_
  intro p e s m below meth c A ls H locs hx hb hr hml hown hts hlocks hin hK hN hA hP hD hS hl
  have hown : s.vm.findClass RX6 = some m.cls := hown
  unfold fX6_markCount at h
  have hiX6 : ∀ w ∈ u_ws RX6 TX6 24, w ∈ wsX6_markCount := fun _ h => List.mem_cons_of_mem _ (List.mem_append_right _ h)
  have hf19 := (hts (.fieldLink RX6 19 "PacketTracebackModel" "marks" "[I") (List.mem_of_getElem? (i := 1) (by decide +kernel)))
  refine lv_iload_n hx hb dX6_markCount_0 rfl (lv_at hl 1 rfl) ?_
  refine lv_iload_n hx hb dX6_markCount_1 rfl (lv_at hl 2 rfl) ?_
  refine lv_iload_n hx hb dX6_markCount_2 rfl (lv_at hl 3 rfl) ?_
  obtain ⟨r1, h1, h⟩ := bd1_e h
  refine ca_Si (wc := []) (wr := [(h0, .inr (6, [.int v_routers, .ref q_parentOf, .ref q_addressOf, .ref q_depthOf, .int v_percent, .int v_random, .int v_distance, .int v_offset, .int v_value, .int v_isMade, .ref q_marks, .int v_received, .int v_unmarked, .ref q_missing, .int v_nodes, .ref q_nodeAddresses, .ref q_nodeDistances, .ref q_nodeParents, .int v_found, .ref q_foundAddress, .ref q_foundDistance, .ref q_foundParent, .int v_words, .ref q_wordAt])), (q_marks, .inl (cI, 4096, .inl a_marks))]) (w1 := []) [.int p1, .int p2, .int p3] [] [] [0, 1] hx hb hml hown hts (mX6_isMark l dC dI cI H.size p1 p2 p3 h1) (va_cwS 3 hts gX6_markCount_X6_isMark rfl rfl rfl (by decide +kernel) ⟨Nat.le_of_ble_eq_true rfl, Nat.le_of_ble_eq_true rfl⟩) hK hN hP hD hS hA rfl rfl (by decide) (by decide) (by decide) rfl hl.1 rfl (Nat.le_of_ble_eq_true rfl) dX6_markCount_3 ⟨Nat.zero_le _, Nat.zero_le _⟩ (fun H locs hP hD hS hz1 => ?_)
  have hP : va_P (dC, dI) vwCl [(h0, .inr (6, [.int v_routers, .ref q_parentOf, .ref q_addressOf, .ref q_depthOf, .int v_percent, .int v_random, .int v_distance, .int v_offset, .int v_value, .int v_isMade, .ref q_marks, .int v_received, .int v_unmarked, .ref q_missing, .int v_nodes, .ref q_nodeAddresses, .ref q_nodeDistances, .ref q_nodeParents, .int v_found, .ref q_foundAddress, .ref q_foundDistance, .ref q_foundParent, .int v_words, .ref q_wordAt])), (q_marks, .inl (cI, 4096, .inl a_marks))] H := hP
  have hD : va_D A [(h0, .inr (6, [.int v_routers, .ref q_parentOf, .ref q_addressOf, .ref q_depthOf, .int v_percent, .int v_random, .int v_distance, .int v_offset, .int v_value, .int v_isMade, .ref q_marks, .int v_received, .int v_unmarked, .ref q_missing, .int v_nodes, .ref q_nodeAddresses, .ref q_nodeDistances, .ref q_nodeParents, .int v_found, .ref q_foundAddress, .ref q_foundDistance, .ref q_foundParent, .int v_words, .ref q_wordAt])), (q_marks, .inl (cI, 4096, .inl a_marks))] := hD
  refine lv_if_eq (tgt := 23) hx hb dX6_markCount_6 (by decide) (fun c2 => ?_) (fun c2 => ?_)
  · have h := it_p c2 h
    refine lv_bipush (v := (-2 : Int32)) hx hb dX6_markCount_23 (by decide) ?_
    have hk0 := Option.some.inj h
    cases hk0
    exact re_i [0, 1] hx hb hr hlocks rfl hP hD hS rfl (by decide) rfl dX6_markCount_25
  · have h := it_n c2 h
    refine lv_aload_n hx hb dX6_markCount_9 rfl (lv_at hl 0 rfl) ?_
    refine va_get (D := (dC, dI)) (ci := 6) (v := .ref q_marks) (C := RX6) (T := TX6) (N := 24) hx hb hts hiX6 hown hK hP 0 rfl rfl 10 (by decide) hf19 (fun _ h9 => h9) rfl dX6_markCount_10 ?_
    refine lv_iload_n hx hb dX6_markCount_13 rfl (lv_at hl 1 rfl) ?_
    refine lv_iload_n hx hb dX6_markCount_14 rfl (lv_at hl 2 rfl) ?_
    refine lv_iload_n hx hb dX6_markCount_15 rfl (lv_at hl 3 rfl) ?_
    obtain ⟨r3, h3, h⟩ := bd1_e h
    refine ca_Si (wc := []) (wr := [(h0, .inr (6, [.int v_routers, .ref q_parentOf, .ref q_addressOf, .ref q_depthOf, .int v_percent, .int v_random, .int v_distance, .int v_offset, .int v_value, .int v_isMade, .ref q_marks, .int v_received, .int v_unmarked, .ref q_missing, .int v_nodes, .ref q_nodeAddresses, .ref q_nodeDistances, .ref q_nodeParents, .int v_found, .ref q_foundAddress, .ref q_foundDistance, .ref q_foundParent, .int v_words, .ref q_wordAt])), (q_marks, .inl (cI, 4096, .inl a_marks))]) (w1 := []) [.int p1, .int p2, .int p3] [.ref q_marks] [] [0, 1] hx hb hml hown hts (mX6_placeOf l dC dI cI H.size p1 p2 p3 h3) (va_cwS 3 hts gX6_markCount_X6_placeOf rfl rfl rfl (by decide +kernel) ⟨Nat.le_of_ble_eq_true rfl, Nat.le_of_ble_eq_true rfl⟩) hK hN hP hD hS hA rfl rfl (by decide) (by decide) (by decide) rfl hl.1 rfl (Nat.le_of_ble_eq_true rfl) dX6_markCount_16 ⟨Nat.zero_le _, Nat.zero_le _⟩ (fun H locs hP hD hS hz3 => ?_)
    have hP : va_P (dC, dI) vwCl [(h0, .inr (6, [.int v_routers, .ref q_parentOf, .ref q_addressOf, .ref q_depthOf, .int v_percent, .int v_random, .int v_distance, .int v_offset, .int v_value, .int v_isMade, .ref q_marks, .int v_received, .int v_unmarked, .ref q_missing, .int v_nodes, .ref q_nodeAddresses, .ref q_nodeDistances, .ref q_nodeParents, .int v_found, .ref q_foundAddress, .ref q_foundDistance, .ref q_foundParent, .int v_words, .ref q_wordAt])), (q_marks, .inl (cI, 4096, .inl a_marks))] H := hP
    have hD : va_D A [(h0, .inr (6, [.int v_routers, .ref q_parentOf, .ref q_addressOf, .ref q_depthOf, .int v_percent, .int v_random, .int v_distance, .int v_offset, .int v_value, .int v_isMade, .ref q_marks, .int v_received, .int v_unmarked, .ref q_missing, .int v_nodes, .ref q_nodeAddresses, .ref q_nodeDistances, .ref q_nodeParents, .int v_found, .ref q_foundAddress, .ref q_foundDistance, .ref q_foundParent, .int v_words, .ref q_wordAt])), (q_marks, .inl (cI, 4096, .inl a_marks))] := hD
    obtain ⟨g4, h⟩ := gd_e h
    refine va_iald hx hb hK hP 1 0 rfl rfl g4 dX6_markCount_19 ?_
    refine lv_goto (tgt := 25) hx hb dX6_markCount_20 (by decide) ?_
    have hk0 := Option.some.inj h
    cases hk0
    exact re_i [0, 1] hx hb hr hlocks rfl hP hD hS rfl (by decide) rfl dX6_markCount_25
def bX6_different_5 (p1 : Int32) (p2 : Int32) (a_marks : Nat → Int32) (y3_5 : Int32) (y4_5 : Int32) : Option ((Int32 × Int32) ⊕ (Int32)) :=
  if (32 : Int32) ≤ y4_5 then
    some (.inr (y3_5))
  else
    bd1 (fX6_placeOf p1 p2 y4_5) fun r2 =>
    if ¬ (r2 < 0 ∨ 4096 ≤ r2.toNatClampNeg) then
      if (a_marks r2.toNatClampNeg) ≤ 0 then
        nm ((y3_5 + (0 : Int32))) fun x5 =>
        some (.inl (x5, (y4_5 + 1)))
      else
        nm ((y3_5 + (1 : Int32))) fun x6 =>
        some (.inl (x6, (y4_5 + 1)))
    else none
def fX6_different (N : Nat) (p1 : Int32) (p2 : Int32) (a_marks : Nat → Int32) : Option (Int32) :=
  lp (fun s => bX6_different_5 p1 p2 a_marks s.1 s.2) N ((0 : Int32), (0 : Int32))
set_option maxHeartbeats 4000000 in
set_option maxRecDepth 100000 in
theorem mX6_different (l : Launch) (dC : Nat → ClassId) (dI : Nat → Nat → Nat) (cI : ClassId) (sz : Nat) (N : Nat) (h0 : Nat) (q_parentOf : Nat) (q_addressOf : Nat) (q_depthOf : Nat) (q_marks : Nat) (q_missing : Nat) (q_nodeAddresses : Nat) (q_nodeDistances : Nat) (q_nodeParents : Nat) (q_foundAddress : Nat) (q_foundDistance : Nat) (q_foundParent : Nat) (q_wordAt : Nat) (v_routers : Int32) (v_percent : Int32) (v_random : Int32) (v_distance : Int32) (v_offset : Int32) (v_value : Int32) (v_isMade : Int32) (v_received : Int32) (v_unmarked : Int32) (v_nodes : Int32) (v_found : Int32) (v_words : Int32) (a_marks : Nat → Int32) (p1 : Int32) (p2 : Int32) {rr : Int32} (h : fX6_different N p1 p2 a_marks = some rr) : Met l yX6_different wsX6_different ({ frames := 1, cells := 0, slots := 0, locals := 22 } : Room) (prX dC dI cI [.ref h0, .int p1, .int p2] sz [(h0, .inr (6, [.int v_routers, .ref q_parentOf, .ref q_addressOf, .ref q_depthOf, .int v_percent, .int v_random, .int v_distance, .int v_offset, .int v_value, .int v_isMade, .ref q_marks, .int v_received, .int v_unmarked, .ref q_missing, .int v_nodes, .ref q_nodeAddresses, .ref q_nodeDistances, .ref q_nodeParents, .int v_found, .ref q_foundAddress, .ref q_foundDistance, .ref q_foundParent, .int v_words, .ref q_wordAt])), (q_marks, .inl (cI, 4096, .inl a_marks))]) (poI dC dI .int rr [(h0, .inr (6, [.int v_routers, .ref q_parentOf, .ref q_addressOf, .ref q_depthOf, .int v_percent, .int v_random, .int v_distance, .int v_offset, .int v_value, .int v_isMade, .ref q_marks, .int v_received, .int v_unmarked, .ref q_missing, .int v_nodes, .ref q_nodeAddresses, .ref q_nodeDistances, .ref q_nodeParents, .int v_found, .ref q_foundAddress, .ref q_foundDistance, .ref q_foundParent, .int v_words, .ref q_wordAt])), (q_marks, .inl (cI, 4096, .inl a_marks))] (va_A [(h0, .inr (6, [.int v_routers, .ref q_parentOf, .ref q_addressOf, .ref q_depthOf, .int v_percent, .int v_random, .int v_distance, .int v_offset, .int v_value, .int v_isMade, .ref q_marks, .int v_received, .int v_unmarked, .ref q_missing, .int v_nodes, .ref q_nodeAddresses, .ref q_nodeDistances, .ref q_nodeParents, .int v_found, .ref q_foundAddress, .ref q_foundDistance, .ref q_foundParent, .int v_words, .ref q_wordAt])), (q_marks, .inl (cI, 4096, .inl a_marks))] sz)) 0 0 (va_A [(h0, .inr (6, [.int v_routers, .ref q_parentOf, .ref q_addressOf, .ref q_depthOf, .int v_percent, .int v_random, .int v_distance, .int v_offset, .int v_value, .int v_isMade, .ref q_marks, .int v_received, .int v_unmarked, .ref q_missing, .int v_nodes, .ref q_nodeAddresses, .ref q_nodeDistances, .ref q_nodeParents, .int v_found, .ref q_foundAddress, .ref q_foundDistance, .ref q_foundParent, .int v_words, .ref q_wordAt])), (q_marks, .inl (cI, 4096, .inl a_marks))] sz) := by
  refine ofX (cc := cX6_different) (maxL := 5) (ret := (some .int)) (lv0 := [(0, .ref h0), (1, .int p1), (2, .int p2)]) (QA := fun A => poI dC dI .int rr [(h0, .inr (6, [.int v_routers, .ref q_parentOf, .ref q_addressOf, .ref q_depthOf, .int v_percent, .int v_random, .int v_distance, .int v_offset, .int v_value, .int v_isMade, .ref q_marks, .int v_received, .int v_unmarked, .ref q_missing, .int v_nodes, .ref q_nodeAddresses, .ref q_nodeDistances, .ref q_nodeParents, .int v_found, .ref q_foundAddress, .ref q_foundDistance, .ref q_foundParent, .int v_words, .ref q_wordAt])), (q_marks, .inl (cI, 4096, .inl a_marks))] A) (by decide) rfl (Nat.le_of_ble_eq_true rfl) rfl ?_
  intro p e s m below meth c A ls H locs hx hb hr hml hown hts hlocks hin hK hN hA hP hD hS hl
  have hown : s.vm.findClass RX6 = some m.cls := hown
  unfold fX6_different at h
  have hiX6 : ∀ w ∈ u_ws RX6 TX6 24, w ∈ wsX6_different := fun _ h => List.mem_cons_of_mem _ (List.mem_append_right _ h)
  have hf19 := (hts (.fieldLink RX6 19 "PacketTracebackModel" "marks" "[I") (List.mem_of_getElem? (i := 1) (by decide +kernel)))
  refine lv_iconst (v := (0 : Int32)) hx hb dX6_different_0 (by decide) ?_
  refine lv_istore_n (lv' := [(3, .int (0 : Int32)), (0, .ref h0), (1, .int p1), (2, .int p2)]) hx hb dX6_different_1 rfl hl (by decide) rfl (fun ls hl => ?_)
  refine lv_iconst (v := (0 : Int32)) hx hb dX6_different_2 (by decide) ?_
  refine lv_istore (lv' := [(4, .int (0 : Int32)), (3, .int (0 : Int32)), (0, .ref h0), (1, .int p1), (2, .int p2)]) hx hb dX6_different_3 hl (by decide) rfl (fun ls hl => ?_)
  have key5 : ∀ (n1 : Nat) (y3_5 : Int32) (y4_5 : Int32) (H : Heap) (locs : List Loc) (ls : Array Slot), lp (fun s => bX6_different_5 p1 p2 a_marks s.1 s.2) n1 (y3_5, y4_5) = some rr → va_P (dC, dI) vwCl [(h0, .inr (6, [.int v_routers, .ref q_parentOf, .ref q_addressOf, .ref q_depthOf, .int v_percent, .int v_random, .int v_distance, .int v_offset, .int v_value, .int v_isMade, .ref q_marks, .int v_received, .int v_unmarked, .ref q_missing, .int v_nodes, .ref q_nodeAddresses, .ref q_nodeDistances, .ref q_nodeParents, .int v_found, .ref q_foundAddress, .ref q_foundDistance, .ref q_foundParent, .int v_words, .ref q_wordAt])), (q_marks, .inl (cI, 4096, .inl a_marks))] H → va_D A [(h0, .inr (6, [.int v_routers, .ref q_parentOf, .ref q_addressOf, .ref q_depthOf, .int v_percent, .int v_random, .int v_distance, .int v_offset, .int v_value, .int v_isMade, .ref q_marks, .int v_received, .int v_unmarked, .ref q_missing, .int v_nodes, .ref q_nodeAddresses, .ref q_nodeDistances, .ref q_nodeParents, .int v_found, .ref q_foundAddress, .ref q_foundDistance, .ref q_foundParent, .int v_words, .ref q_wordAt])), (q_marks, .inl (cI, 4096, .inl a_marks))] → va_S A s.heap H locs → lv_has ls 5 [(4, .int y4_5), (3, .int y3_5), (0, .ref h0), (1, .int p1), (2, .int p2)] → W p l e ({ frames := 1, cells := 0, slots := 0, locals := 22 } : Room) s m [.ref h0, .int p1, .int p2].toArray below meth c H locs 0 0 (MQ below (poI dC dI .int rr [(h0, .inr (6, [.int v_routers, .ref q_parentOf, .ref q_addressOf, .ref q_depthOf, .int v_percent, .int v_random, .int v_distance, .int v_offset, .int v_value, .int v_isMade, .ref q_marks, .int v_received, .int v_unmarked, .ref q_missing, .int v_nodes, .ref q_nodeAddresses, .ref q_nodeDistances, .ref q_nodeParents, .int v_found, .ref q_foundAddress, .ref q_foundDistance, .ref q_foundParent, .int v_words, .ref q_wordAt])), (q_marks, .inl (cI, 4096, .inl a_marks))] A) [.ref h0, .int p1, .int p2].toArray s 0 0 A) (F0 m 5 ls []) := by
    intro n1
    induction n1 with
    | zero =>
      intro y3_5 y4_5 H locs ls h
      exact (lp_0 h).elim
    | succ n1 ih1 =>
      intro y3_5 y4_5 H locs ls h hP hD hS hl
      obtain ⟨o1, h, hk1⟩ := lp_s h
      unfold bX6_different_5 at h
      try dsimp only at h
      refine lv_iload hx hb dX6_different_5 (lv_at hl 0 rfl) ?_
      refine lv_bipush (v := (32 : Int32)) hx hb dX6_different_7 (by decide) ?_
      refine lv_icmp_ge (tgt := 41) hx hb dX6_different_9 (by decide) (fun c1 => ?_) (fun c1 => ?_)
      · have h := it_p c1 h
        refine lv_iload_n hx hb dX6_different_41 rfl (lv_at hl 1 rfl) ?_
        cases Option.some.inj h
        have hk1 := un_r hk1
        cases hk1
        exact re_i [0, 1] hx hb hr hlocks rfl hP hD hS rfl (by decide) rfl dX6_different_42
      · have h := it_n c1 h
        refine lv_iload_n hx hb dX6_different_12 rfl (lv_at hl 1 rfl) ?_
        refine lv_aload_n hx hb dX6_different_13 rfl (lv_at hl 2 rfl) ?_
        refine va_get (D := (dC, dI)) (ci := 6) (v := .ref q_marks) (C := RX6) (T := TX6) (N := 24) hx hb hts hiX6 hown hK hP 0 rfl rfl 10 (by decide) hf19 (fun _ h9 => h9) rfl dX6_different_14 ?_
        refine lv_iload_n hx hb dX6_different_17 rfl (lv_at hl 3 rfl) ?_
        refine lv_iload_n hx hb dX6_different_18 rfl (lv_at hl 4 rfl) ?_
        refine lv_iload hx hb dX6_different_19 (lv_at hl 0 rfl) ?_
        obtain ⟨r2, h2, h⟩ := bd1_e h
        refine ca_Si (wc := []) (wr := [(h0, .inr (6, [.int v_routers, .ref q_parentOf, .ref q_addressOf, .ref q_depthOf, .int v_percent, .int v_random, .int v_distance, .int v_offset, .int v_value, .int v_isMade, .ref q_marks, .int v_received, .int v_unmarked, .ref q_missing, .int v_nodes, .ref q_nodeAddresses, .ref q_nodeDistances, .ref q_nodeParents, .int v_found, .ref q_foundAddress, .ref q_foundDistance, .ref q_foundParent, .int v_words, .ref q_wordAt])), (q_marks, .inl (cI, 4096, .inl a_marks))]) (w1 := []) [.int p1, .int p2, .int y4_5] [.ref q_marks, .int y3_5] [] [0, 1] hx hb hml hown hts (mX6_placeOf l dC dI cI H.size p1 p2 y4_5 h2) (va_cwS 3 hts gX6_different_X6_placeOf rfl rfl rfl (by decide +kernel) ⟨Nat.le_of_ble_eq_true rfl, Nat.le_of_ble_eq_true rfl⟩) hK hN hP hD hS hA rfl rfl (by decide) (by decide) (by decide) rfl hl.1 rfl (Nat.le_of_ble_eq_true rfl) dX6_different_21 ⟨Nat.zero_le _, Nat.zero_le _⟩ (fun H locs hP hD hS hz2 => ?_)
        have hP : va_P (dC, dI) vwCl [(h0, .inr (6, [.int v_routers, .ref q_parentOf, .ref q_addressOf, .ref q_depthOf, .int v_percent, .int v_random, .int v_distance, .int v_offset, .int v_value, .int v_isMade, .ref q_marks, .int v_received, .int v_unmarked, .ref q_missing, .int v_nodes, .ref q_nodeAddresses, .ref q_nodeDistances, .ref q_nodeParents, .int v_found, .ref q_foundAddress, .ref q_foundDistance, .ref q_foundParent, .int v_words, .ref q_wordAt])), (q_marks, .inl (cI, 4096, .inl a_marks))] H := hP
        have hD : va_D A [(h0, .inr (6, [.int v_routers, .ref q_parentOf, .ref q_addressOf, .ref q_depthOf, .int v_percent, .int v_random, .int v_distance, .int v_offset, .int v_value, .int v_isMade, .ref q_marks, .int v_received, .int v_unmarked, .ref q_missing, .int v_nodes, .ref q_nodeAddresses, .ref q_nodeDistances, .ref q_nodeParents, .int v_found, .ref q_foundAddress, .ref q_foundDistance, .ref q_foundParent, .int v_words, .ref q_wordAt])), (q_marks, .inl (cI, 4096, .inl a_marks))] := hD
        obtain ⟨g3, h⟩ := gd_e h
        refine va_iald hx hb hK hP 1 0 rfl rfl g3 dX6_different_24 ?_
        refine lv_if_le (tgt := 32) hx hb dX6_different_25 (by decide) (fun c4 => ?_) (fun c4 => ?_)
        · have h := it_p c4 h
          refine lv_iconst (v := (0 : Int32)) hx hb dX6_different_32 (by decide) ?_
          refine lv_iadd hx hb dX6_different_33 ?_
          refine lv_topi (fun x5 ex5 => ?_)
          have h := nm_u ex5 h
          refine lv_istore_n (lv' := [(3, .int x5), (4, .int y4_5), (0, .ref h0), (1, .int p1), (2, .int p2)]) hx hb dX6_different_34 rfl hl (by decide) rfl (fun ls hl => ?_)
          refine lv_iinc (v := y4_5 + 1) (lv' := [(4, .int (y4_5 + 1)), (3, .int x5), (0, .ref h0), (1, .int p1), (2, .int p2)]) hx hb dX6_different_35 hl (k := 1) rfl rfl (by decide) rfl (fun ls hl => ?_)
          refine lv_goto (tgt := 5) hx hb dX6_different_38 (by decide) ?_
          cases Option.some.inj h
          exact ih1 _ _ _ _ _ (un_l hk1) (hP.sub [0, 1] rfl) (hD.sub [0, 1] (by decide) rfl) hS (lv_sub hl [0, 1, 2, 3, 4] rfl)
        · have h := it_n c4 h
          refine lv_iconst (v := (1 : Int32)) hx hb dX6_different_28 (by decide) ?_
          refine lv_goto (tgt := 33) hx hb dX6_different_29 (by decide) ?_
          refine lv_iadd hx hb dX6_different_33 ?_
          refine lv_topi (fun x6 ex6 => ?_)
          have h := nm_u ex6 h
          refine lv_istore_n (lv' := [(3, .int x6), (4, .int y4_5), (0, .ref h0), (1, .int p1), (2, .int p2)]) hx hb dX6_different_34 rfl hl (by decide) rfl (fun ls hl => ?_)
          refine lv_iinc (v := y4_5 + 1) (lv' := [(4, .int (y4_5 + 1)), (3, .int x6), (0, .ref h0), (1, .int p1), (2, .int p2)]) hx hb dX6_different_35 hl (k := 1) rfl rfl (by decide) rfl (fun ls hl => ?_)
          refine lv_goto (tgt := 5) hx hb dX6_different_38 (by decide) ?_
          cases Option.some.inj h
          exact ih1 _ _ _ _ _ (un_l hk1) (hP.sub [0, 1] rfl) (hD.sub [0, 1] (by decide) rfl) hS (lv_sub hl [0, 1, 2, 3, 4] rfl)
  exact key5 N _ _ _ _ _ h hP hD hS hl
def fX6_fragmentCount (N : Nat) (p1 : Int32) (p2 : Int32) (a_marks : Nat → Int32) : Option (Int32) :=
  bd1 (fX6_isMark p1 p2 (0 : Int32)) fun r1 =>
  if r1 = 0 then
    some (-2 : Int32)
  else
    bd1 (fX6_different N p1 p2 a_marks) fun r3 =>
    some r3
set_option maxHeartbeats 4000000 in
set_option maxRecDepth 100000 in
theorem mX6_fragmentCount (l : Launch) (dC : Nat → ClassId) (dI : Nat → Nat → Nat) (cI : ClassId) (sz : Nat) (N : Nat) (h0 : Nat) (q_parentOf : Nat) (q_addressOf : Nat) (q_depthOf : Nat) (q_marks : Nat) (q_missing : Nat) (q_nodeAddresses : Nat) (q_nodeDistances : Nat) (q_nodeParents : Nat) (q_foundAddress : Nat) (q_foundDistance : Nat) (q_foundParent : Nat) (q_wordAt : Nat) (v_routers : Int32) (v_percent : Int32) (v_random : Int32) (v_distance : Int32) (v_offset : Int32) (v_value : Int32) (v_isMade : Int32) (v_received : Int32) (v_unmarked : Int32) (v_nodes : Int32) (v_found : Int32) (v_words : Int32) (a_marks : Nat → Int32) (p1 : Int32) (p2 : Int32) {rr : Int32} (h : fX6_fragmentCount N p1 p2 a_marks = some rr) : Met l yX6_fragmentCount wsX6_fragmentCount ({ frames := 2, cells := 0, slots := 0, locals := 46 } : Room) (prX dC dI cI [.ref h0, .int p1, .int p2] sz [(h0, .inr (6, [.int v_routers, .ref q_parentOf, .ref q_addressOf, .ref q_depthOf, .int v_percent, .int v_random, .int v_distance, .int v_offset, .int v_value, .int v_isMade, .ref q_marks, .int v_received, .int v_unmarked, .ref q_missing, .int v_nodes, .ref q_nodeAddresses, .ref q_nodeDistances, .ref q_nodeParents, .int v_found, .ref q_foundAddress, .ref q_foundDistance, .ref q_foundParent, .int v_words, .ref q_wordAt])), (q_marks, .inl (cI, 4096, .inl a_marks))]) (poI dC dI .int rr [(h0, .inr (6, [.int v_routers, .ref q_parentOf, .ref q_addressOf, .ref q_depthOf, .int v_percent, .int v_random, .int v_distance, .int v_offset, .int v_value, .int v_isMade, .ref q_marks, .int v_received, .int v_unmarked, .ref q_missing, .int v_nodes, .ref q_nodeAddresses, .ref q_nodeDistances, .ref q_nodeParents, .int v_found, .ref q_foundAddress, .ref q_foundDistance, .ref q_foundParent, .int v_words, .ref q_wordAt])), (q_marks, .inl (cI, 4096, .inl a_marks))] (va_A [(h0, .inr (6, [.int v_routers, .ref q_parentOf, .ref q_addressOf, .ref q_depthOf, .int v_percent, .int v_random, .int v_distance, .int v_offset, .int v_value, .int v_isMade, .ref q_marks, .int v_received, .int v_unmarked, .ref q_missing, .int v_nodes, .ref q_nodeAddresses, .ref q_nodeDistances, .ref q_nodeParents, .int v_found, .ref q_foundAddress, .ref q_foundDistance, .ref q_foundParent, .int v_words, .ref q_wordAt])), (q_marks, .inl (cI, 4096, .inl a_marks))] sz)) 0 0 (va_A [(h0, .inr (6, [.int v_routers, .ref q_parentOf, .ref q_addressOf, .ref q_depthOf, .int v_percent, .int v_random, .int v_distance, .int v_offset, .int v_value, .int v_isMade, .ref q_marks, .int v_received, .int v_unmarked, .ref q_missing, .int v_nodes, .ref q_nodeAddresses, .ref q_nodeDistances, .ref q_nodeParents, .int v_found, .ref q_foundAddress, .ref q_foundDistance, .ref q_foundParent, .int v_words, .ref q_wordAt])), (q_marks, .inl (cI, 4096, .inl a_marks))] sz) := by
  refine ofX (cc := cX6_fragmentCount) (maxL := 3) (ret := (some .int)) (lv0 := [(0, .ref h0), (1, .int p1), (2, .int p2)]) (QA := fun A => poI dC dI .int rr [(h0, .inr (6, [.int v_routers, .ref q_parentOf, .ref q_addressOf, .ref q_depthOf, .int v_percent, .int v_random, .int v_distance, .int v_offset, .int v_value, .int v_isMade, .ref q_marks, .int v_received, .int v_unmarked, .ref q_missing, .int v_nodes, .ref q_nodeAddresses, .ref q_nodeDistances, .ref q_nodeParents, .int v_found, .ref q_foundAddress, .ref q_foundDistance, .ref q_foundParent, .int v_words, .ref q_wordAt])), (q_marks, .inl (cI, 4096, .inl a_marks))] A) (by decide) rfl (Nat.le_of_ble_eq_true rfl) rfl ?_
  intro p e s m below meth c A ls H locs hx hb hr hml hown hts hlocks hin hK hN hA hP hD hS hl
  have hown : s.vm.findClass RX6 = some m.cls := hown
  unfold fX6_fragmentCount at h
  refine lv_iload_n hx hb dX6_fragmentCount_0 rfl (lv_at hl 1 rfl) ?_
  refine lv_iload_n hx hb dX6_fragmentCount_1 rfl (lv_at hl 2 rfl) ?_
  refine lv_iconst (v := (0 : Int32)) hx hb dX6_fragmentCount_2 (by decide) ?_
  obtain ⟨r1, h1, h⟩ := bd1_e h
  refine ca_Si (wc := []) (wr := [(h0, .inr (6, [.int v_routers, .ref q_parentOf, .ref q_addressOf, .ref q_depthOf, .int v_percent, .int v_random, .int v_distance, .int v_offset, .int v_value, .int v_isMade, .ref q_marks, .int v_received, .int v_unmarked, .ref q_missing, .int v_nodes, .ref q_nodeAddresses, .ref q_nodeDistances, .ref q_nodeParents, .int v_found, .ref q_foundAddress, .ref q_foundDistance, .ref q_foundParent, .int v_words, .ref q_wordAt])), (q_marks, .inl (cI, 4096, .inl a_marks))]) (w1 := []) [.int p1, .int p2, .int (0 : Int32)] [] [] [0, 1] hx hb hml hown hts (mX6_isMark l dC dI cI H.size p1 p2 (0 : Int32) h1) (va_cwS 3 hts gX6_fragmentCount_X6_isMark rfl rfl rfl (by decide +kernel) ⟨Nat.le_of_ble_eq_true rfl, Nat.le_of_ble_eq_true rfl⟩) hK hN hP hD hS hA rfl rfl (by decide) (by decide) (by decide) rfl hl.1 rfl (Nat.le_of_ble_eq_true rfl) dX6_fragmentCount_3 ⟨Nat.zero_le _, Nat.zero_le _⟩ (fun H locs hP hD hS hz1 => ?_)
  have hP : va_P (dC, dI) vwCl [(h0, .inr (6, [.int v_routers, .ref q_parentOf, .ref q_addressOf, .ref q_depthOf, .int v_percent, .int v_random, .int v_distance, .int v_offset, .int v_value, .int v_isMade, .ref q_marks, .int v_received, .int v_unmarked, .ref q_missing, .int v_nodes, .ref q_nodeAddresses, .ref q_nodeDistances, .ref q_nodeParents, .int v_found, .ref q_foundAddress, .ref q_foundDistance, .ref q_foundParent, .int v_words, .ref q_wordAt])), (q_marks, .inl (cI, 4096, .inl a_marks))] H := hP
  have hD : va_D A [(h0, .inr (6, [.int v_routers, .ref q_parentOf, .ref q_addressOf, .ref q_depthOf, .int v_percent, .int v_random, .int v_distance, .int v_offset, .int v_value, .int v_isMade, .ref q_marks, .int v_received, .int v_unmarked, .ref q_missing, .int v_nodes, .ref q_nodeAddresses, .ref q_nodeDistances, .ref q_nodeParents, .int v_found, .ref q_foundAddress, .ref q_foundDistance, .ref q_foundParent, .int v_words, .ref q_wordAt])), (q_marks, .inl (cI, 4096, .inl a_marks))] := hD
  refine lv_if_eq (tgt := 18) hx hb dX6_fragmentCount_6 (by decide) (fun c2 => ?_) (fun c2 => ?_)
  · have h := it_p c2 h
    refine lv_bipush (v := (-2 : Int32)) hx hb dX6_fragmentCount_18 (by decide) ?_
    have hk0 := Option.some.inj h
    cases hk0
    exact re_i [0, 1] hx hb hr hlocks rfl hP hD hS rfl (by decide) rfl dX6_fragmentCount_20
  · have h := it_n c2 h
    refine lv_aload_n hx hb dX6_fragmentCount_9 rfl (lv_at hl 0 rfl) ?_
    refine lv_iload_n hx hb dX6_fragmentCount_10 rfl (lv_at hl 1 rfl) ?_
    refine lv_iload_n hx hb dX6_fragmentCount_11 rfl (lv_at hl 2 rfl) ?_
    obtain ⟨r3, h3, h⟩ := bd1_e h
    refine ca_Vi (wc := [(h0, .inr (6, [.int v_routers, .ref q_parentOf, .ref q_addressOf, .ref q_depthOf, .int v_percent, .int v_random, .int v_distance, .int v_offset, .int v_value, .int v_isMade, .ref q_marks, .int v_received, .int v_unmarked, .ref q_missing, .int v_nodes, .ref q_nodeAddresses, .ref q_nodeDistances, .ref q_nodeParents, .int v_found, .ref q_foundAddress, .ref q_foundDistance, .ref q_foundParent, .int v_words, .ref q_wordAt])), (q_marks, .inl (cI, 4096, .inl a_marks))]) (wr := []) (w1 := [(h0, .inr (6, [.int v_routers, .ref q_parentOf, .ref q_addressOf, .ref q_depthOf, .int v_percent, .int v_random, .int v_distance, .int v_offset, .int v_value, .int v_isMade, .ref q_marks, .int v_received, .int v_unmarked, .ref q_missing, .int v_nodes, .ref q_nodeAddresses, .ref q_nodeDistances, .ref q_nodeParents, .int v_found, .ref q_foundAddress, .ref q_foundDistance, .ref q_foundParent, .int v_words, .ref q_wordAt])), (q_marks, .inl (cI, 4096, .inl a_marks))]) [.int p1, .int p2] [] [0, 1] [] hx hb hml hown hts (mX6_different l dC dI cI H.size N h0 q_parentOf q_addressOf q_depthOf q_marks q_missing q_nodeAddresses q_nodeDistances q_nodeParents q_foundAddress q_foundDistance q_foundParent q_wordAt v_routers v_percent v_random v_distance v_offset v_value v_isMade v_received v_unmarked v_nodes v_found v_words a_marks p1 p2 h3) (cwV 2 hts gX6_fragmentCount_X6_different rfl rfl rfl (by decide +kernel) ⟨Nat.le_of_ble_eq_true rfl, Nat.le_of_ble_eq_true rfl⟩) hK hN hP hD hS hA rfl rfl (by decide) (by decide) (by decide) rfl rfl rfl hl.1 rfl (Nat.le_of_ble_eq_true rfl) dX6_fragmentCount_12 ⟨Nat.zero_le _, Nat.zero_le _⟩ (fun H locs hP hD hS hz3 => ?_)
    have hP : va_P (dC, dI) vwCl [(h0, .inr (6, [.int v_routers, .ref q_parentOf, .ref q_addressOf, .ref q_depthOf, .int v_percent, .int v_random, .int v_distance, .int v_offset, .int v_value, .int v_isMade, .ref q_marks, .int v_received, .int v_unmarked, .ref q_missing, .int v_nodes, .ref q_nodeAddresses, .ref q_nodeDistances, .ref q_nodeParents, .int v_found, .ref q_foundAddress, .ref q_foundDistance, .ref q_foundParent, .int v_words, .ref q_wordAt])), (q_marks, .inl (cI, 4096, .inl a_marks))] H := hP
    have hD : va_D A [(h0, .inr (6, [.int v_routers, .ref q_parentOf, .ref q_addressOf, .ref q_depthOf, .int v_percent, .int v_random, .int v_distance, .int v_offset, .int v_value, .int v_isMade, .ref q_marks, .int v_received, .int v_unmarked, .ref q_missing, .int v_nodes, .ref q_nodeAddresses, .ref q_nodeDistances, .ref q_nodeParents, .int v_found, .ref q_foundAddress, .ref q_foundDistance, .ref q_foundParent, .int v_words, .ref q_wordAt])), (q_marks, .inl (cI, 4096, .inl a_marks))] := hD
    refine lv_goto (tgt := 20) hx hb dX6_fragmentCount_15 (by decide) ?_
    have hk0 := Option.some.inj h
    cases hk0
    exact re_i [0, 1] hx hb hr hlocks rfl hP hD hS rfl (by decide) rfl dX6_fragmentCount_20
def bX6_greatestDistance_3 (N : Nat) (a_marks : Nat → Int32) (y1_3 : Int32) : Option ((Int32) ⊕ (Int32)) :=
  if y1_3 < 0 then
    some (.inr (-7 : Int32))
  else
    bd1 (fX6_packetsAt N y1_3 a_marks) fun r2 =>
    if r2 ≤ 0 then
      some (.inl (y1_3 + (-1 : Int32)))
    else
      some (.inr (y1_3))
def fX6_greatestDistance (N : Nat) (a_marks : Nat → Int32) : Option (Int32) :=
  lp (fun s => bX6_greatestDistance_3 N a_marks s) N (31 : Int32)
set_option maxHeartbeats 4000000 in
set_option maxRecDepth 100000 in
theorem mX6_greatestDistance (l : Launch) (dC : Nat → ClassId) (dI : Nat → Nat → Nat) (cI : ClassId) (sz : Nat) (N : Nat) (h0 : Nat) (q_parentOf : Nat) (q_addressOf : Nat) (q_depthOf : Nat) (q_marks : Nat) (q_missing : Nat) (q_nodeAddresses : Nat) (q_nodeDistances : Nat) (q_nodeParents : Nat) (q_foundAddress : Nat) (q_foundDistance : Nat) (q_foundParent : Nat) (q_wordAt : Nat) (v_routers : Int32) (v_percent : Int32) (v_random : Int32) (v_distance : Int32) (v_offset : Int32) (v_value : Int32) (v_isMade : Int32) (v_received : Int32) (v_unmarked : Int32) (v_nodes : Int32) (v_found : Int32) (v_words : Int32) (a_marks : Nat → Int32) {rr : Int32} (h : fX6_greatestDistance N a_marks = some rr) : Met l yX6_greatestDistance wsX6_greatestDistance ({ frames := 1, cells := 0, slots := 0, locals := 23 } : Room) (prX dC dI cI [.ref h0] sz [(h0, .inr (6, [.int v_routers, .ref q_parentOf, .ref q_addressOf, .ref q_depthOf, .int v_percent, .int v_random, .int v_distance, .int v_offset, .int v_value, .int v_isMade, .ref q_marks, .int v_received, .int v_unmarked, .ref q_missing, .int v_nodes, .ref q_nodeAddresses, .ref q_nodeDistances, .ref q_nodeParents, .int v_found, .ref q_foundAddress, .ref q_foundDistance, .ref q_foundParent, .int v_words, .ref q_wordAt])), (q_marks, .inl (cI, 4096, .inl a_marks))]) (poI dC dI .int rr [(h0, .inr (6, [.int v_routers, .ref q_parentOf, .ref q_addressOf, .ref q_depthOf, .int v_percent, .int v_random, .int v_distance, .int v_offset, .int v_value, .int v_isMade, .ref q_marks, .int v_received, .int v_unmarked, .ref q_missing, .int v_nodes, .ref q_nodeAddresses, .ref q_nodeDistances, .ref q_nodeParents, .int v_found, .ref q_foundAddress, .ref q_foundDistance, .ref q_foundParent, .int v_words, .ref q_wordAt])), (q_marks, .inl (cI, 4096, .inl a_marks))] (va_A [(h0, .inr (6, [.int v_routers, .ref q_parentOf, .ref q_addressOf, .ref q_depthOf, .int v_percent, .int v_random, .int v_distance, .int v_offset, .int v_value, .int v_isMade, .ref q_marks, .int v_received, .int v_unmarked, .ref q_missing, .int v_nodes, .ref q_nodeAddresses, .ref q_nodeDistances, .ref q_nodeParents, .int v_found, .ref q_foundAddress, .ref q_foundDistance, .ref q_foundParent, .int v_words, .ref q_wordAt])), (q_marks, .inl (cI, 4096, .inl a_marks))] sz)) 0 0 (va_A [(h0, .inr (6, [.int v_routers, .ref q_parentOf, .ref q_addressOf, .ref q_depthOf, .int v_percent, .int v_random, .int v_distance, .int v_offset, .int v_value, .int v_isMade, .ref q_marks, .int v_received, .int v_unmarked, .ref q_missing, .int v_nodes, .ref q_nodeAddresses, .ref q_nodeDistances, .ref q_nodeParents, .int v_found, .ref q_foundAddress, .ref q_foundDistance, .ref q_foundParent, .int v_words, .ref q_wordAt])), (q_marks, .inl (cI, 4096, .inl a_marks))] sz) := by
  refine ofX (cc := cX6_greatestDistance) (maxL := 2) (ret := (some .int)) (lv0 := [(0, .ref h0)]) (QA := fun A => poI dC dI .int rr [(h0, .inr (6, [.int v_routers, .ref q_parentOf, .ref q_addressOf, .ref q_depthOf, .int v_percent, .int v_random, .int v_distance, .int v_offset, .int v_value, .int v_isMade, .ref q_marks, .int v_received, .int v_unmarked, .ref q_missing, .int v_nodes, .ref q_nodeAddresses, .ref q_nodeDistances, .ref q_nodeParents, .int v_found, .ref q_foundAddress, .ref q_foundDistance, .ref q_foundParent, .int v_words, .ref q_wordAt])), (q_marks, .inl (cI, 4096, .inl a_marks))] A) (by decide) rfl (Nat.le_of_ble_eq_true rfl) rfl ?_
  intro p e s m below meth c A ls H locs hx hb hr hml hown hts hlocks hin hK hN hA hP hD hS hl
  have hown : s.vm.findClass RX6 = some m.cls := hown
  unfold fX6_greatestDistance at h
  refine lv_bipush (v := (31 : Int32)) hx hb dX6_greatestDistance_0 (by decide) ?_
  refine lv_istore_n (lv' := [(1, .int (31 : Int32)), (0, .ref h0)]) hx hb dX6_greatestDistance_2 rfl hl (by decide) rfl (fun ls hl => ?_)
  have key3 : ∀ (n1 : Nat) (y1_3 : Int32) (H : Heap) (locs : List Loc) (ls : Array Slot), lp (fun s => bX6_greatestDistance_3 N a_marks s) n1 y1_3 = some rr → va_P (dC, dI) vwCl [(h0, .inr (6, [.int v_routers, .ref q_parentOf, .ref q_addressOf, .ref q_depthOf, .int v_percent, .int v_random, .int v_distance, .int v_offset, .int v_value, .int v_isMade, .ref q_marks, .int v_received, .int v_unmarked, .ref q_missing, .int v_nodes, .ref q_nodeAddresses, .ref q_nodeDistances, .ref q_nodeParents, .int v_found, .ref q_foundAddress, .ref q_foundDistance, .ref q_foundParent, .int v_words, .ref q_wordAt])), (q_marks, .inl (cI, 4096, .inl a_marks))] H → va_D A [(h0, .inr (6, [.int v_routers, .ref q_parentOf, .ref q_addressOf, .ref q_depthOf, .int v_percent, .int v_random, .int v_distance, .int v_offset, .int v_value, .int v_isMade, .ref q_marks, .int v_received, .int v_unmarked, .ref q_missing, .int v_nodes, .ref q_nodeAddresses, .ref q_nodeDistances, .ref q_nodeParents, .int v_found, .ref q_foundAddress, .ref q_foundDistance, .ref q_foundParent, .int v_words, .ref q_wordAt])), (q_marks, .inl (cI, 4096, .inl a_marks))] → va_S A s.heap H locs → lv_has ls 2 [(1, .int y1_3), (0, .ref h0)] → W p l e ({ frames := 1, cells := 0, slots := 0, locals := 23 } : Room) s m [.ref h0].toArray below meth c H locs 0 0 (MQ below (poI dC dI .int rr [(h0, .inr (6, [.int v_routers, .ref q_parentOf, .ref q_addressOf, .ref q_depthOf, .int v_percent, .int v_random, .int v_distance, .int v_offset, .int v_value, .int v_isMade, .ref q_marks, .int v_received, .int v_unmarked, .ref q_missing, .int v_nodes, .ref q_nodeAddresses, .ref q_nodeDistances, .ref q_nodeParents, .int v_found, .ref q_foundAddress, .ref q_foundDistance, .ref q_foundParent, .int v_words, .ref q_wordAt])), (q_marks, .inl (cI, 4096, .inl a_marks))] A) [.ref h0].toArray s 0 0 A) (F0 m 3 ls []) := by
    intro n1
    induction n1 with
    | zero =>
      intro y1_3 H locs ls h
      exact (lp_0 h).elim
    | succ n1 ih1 =>
      intro y1_3 H locs ls h hP hD hS hl
      obtain ⟨o1, h, hk1⟩ := lp_s h
      unfold bX6_greatestDistance_3 at h
      try dsimp only at h
      refine lv_iload_n hx hb dX6_greatestDistance_3 rfl (lv_at hl 0 rfl) ?_
      refine lv_if_lt (tgt := 23) hx hb dX6_greatestDistance_4 (by decide) (fun c1 => ?_) (fun c1 => ?_)
      · have h := it_p c1 h
        refine lv_bipush (v := (-7 : Int32)) hx hb dX6_greatestDistance_23 (by decide) ?_
        cases Option.some.inj h
        have hk1 := un_r hk1
        cases hk1
        exact re_i [0, 1] hx hb hr hlocks rfl hP hD hS rfl (by decide) rfl dX6_greatestDistance_25
      · have h := it_n c1 h
        refine lv_aload_n hx hb dX6_greatestDistance_7 rfl (lv_at hl 1 rfl) ?_
        refine lv_iload_n hx hb dX6_greatestDistance_8 rfl (lv_at hl 0 rfl) ?_
        obtain ⟨r2, h2, h⟩ := bd1_e h
        refine ca_Vi (wc := [(h0, .inr (6, [.int v_routers, .ref q_parentOf, .ref q_addressOf, .ref q_depthOf, .int v_percent, .int v_random, .int v_distance, .int v_offset, .int v_value, .int v_isMade, .ref q_marks, .int v_received, .int v_unmarked, .ref q_missing, .int v_nodes, .ref q_nodeAddresses, .ref q_nodeDistances, .ref q_nodeParents, .int v_found, .ref q_foundAddress, .ref q_foundDistance, .ref q_foundParent, .int v_words, .ref q_wordAt])), (q_marks, .inl (cI, 4096, .inl a_marks))]) (wr := []) (w1 := [(h0, .inr (6, [.int v_routers, .ref q_parentOf, .ref q_addressOf, .ref q_depthOf, .int v_percent, .int v_random, .int v_distance, .int v_offset, .int v_value, .int v_isMade, .ref q_marks, .int v_received, .int v_unmarked, .ref q_missing, .int v_nodes, .ref q_nodeAddresses, .ref q_nodeDistances, .ref q_nodeParents, .int v_found, .ref q_foundAddress, .ref q_foundDistance, .ref q_foundParent, .int v_words, .ref q_wordAt])), (q_marks, .inl (cI, 4096, .inl a_marks))]) [.int y1_3] [] [0, 1] [] hx hb hml hown hts (mX6_packetsAt l dC dI cI H.size N h0 q_parentOf q_addressOf q_depthOf q_marks q_missing q_nodeAddresses q_nodeDistances q_nodeParents q_foundAddress q_foundDistance q_foundParent q_wordAt v_routers v_percent v_random v_distance v_offset v_value v_isMade v_received v_unmarked v_nodes v_found v_words a_marks y1_3 h2) (cwV 1 hts gX6_greatestDistance_X6_packetsAt rfl rfl rfl (by decide +kernel) ⟨Nat.le_of_ble_eq_true rfl, Nat.le_of_ble_eq_true rfl⟩) hK hN hP hD hS hA rfl rfl (by decide) (by decide) (by decide) rfl rfl rfl hl.1 rfl (Nat.le_of_ble_eq_true rfl) dX6_greatestDistance_9 ⟨Nat.zero_le _, Nat.zero_le _⟩ (fun H locs hP hD hS hz2 => ?_)
        have hP : va_P (dC, dI) vwCl [(h0, .inr (6, [.int v_routers, .ref q_parentOf, .ref q_addressOf, .ref q_depthOf, .int v_percent, .int v_random, .int v_distance, .int v_offset, .int v_value, .int v_isMade, .ref q_marks, .int v_received, .int v_unmarked, .ref q_missing, .int v_nodes, .ref q_nodeAddresses, .ref q_nodeDistances, .ref q_nodeParents, .int v_found, .ref q_foundAddress, .ref q_foundDistance, .ref q_foundParent, .int v_words, .ref q_wordAt])), (q_marks, .inl (cI, 4096, .inl a_marks))] H := hP
        have hD : va_D A [(h0, .inr (6, [.int v_routers, .ref q_parentOf, .ref q_addressOf, .ref q_depthOf, .int v_percent, .int v_random, .int v_distance, .int v_offset, .int v_value, .int v_isMade, .ref q_marks, .int v_received, .int v_unmarked, .ref q_missing, .int v_nodes, .ref q_nodeAddresses, .ref q_nodeDistances, .ref q_nodeParents, .int v_found, .ref q_foundAddress, .ref q_foundDistance, .ref q_foundParent, .int v_words, .ref q_wordAt])), (q_marks, .inl (cI, 4096, .inl a_marks))] := hD
        refine lv_if_le (tgt := 17) hx hb dX6_greatestDistance_12 (by decide) (fun c3 => ?_) (fun c3 => ?_)
        · have h := it_p c3 h
          refine lv_iinc (v := y1_3 + (-1 : Int32)) (lv' := [(1, .int (y1_3 + (-1 : Int32))), (0, .ref h0)]) hx hb dX6_greatestDistance_17 hl (k := 0) rfl rfl (by decide) rfl (fun ls hl => ?_)
          refine lv_goto (tgt := 3) hx hb dX6_greatestDistance_20 (by decide) ?_
          cases Option.some.inj h
          exact ih1 _ _ _ _ (un_l hk1) (hP.sub [0, 1] rfl) (hD.sub [0, 1] (by decide) rfl) hS (lv_sub hl [0, 1] rfl)
        · have h := it_n c3 h
          refine lv_iload_n hx hb dX6_greatestDistance_15 rfl (lv_at hl 0 rfl) ?_
          cases Option.some.inj h
          have hk1 := un_r hk1
          cases hk1
          exact re_i [0, 1] hx hb hr hlocks rfl hP hD hS rfl (by decide) rfl dX6_greatestDistance_16
  exact key3 N _ _ _ _ h hP hD hS hl
