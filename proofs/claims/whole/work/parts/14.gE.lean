def fX6_trueFragment (p1 : Int32) (p2 : Int32) (a_parentOf : Nat → Int32) (a_addressOf : Nat → Int32) : Option (Int32) :=
  if ¬ (p1 < 0 ∨ 20 ≤ p1.toNatClampNeg) then
    bd1 (fX6_wordOf (a_addressOf p1.toNatClampNeg)) fun r2 =>
    bd1 (fX6_fragmentOf r2 p2) fun r3 =>
    if ¬ (p1 < 0 ∨ 20 ≤ p1.toNatClampNeg) then
      if (a_parentOf p1.toNatClampNeg) = (-7 : Int32) then
        some r3
      else
        if ¬ (p1 < 0 ∨ 20 ≤ p1.toNatClampNeg) then
          if ¬ ((a_parentOf p1.toNatClampNeg) < 0 ∨ 20 ≤ (a_parentOf p1.toNatClampNeg).toNatClampNeg) then
            bd1 (fX6_wordOf (a_addressOf (a_parentOf p1.toNatClampNeg).toNatClampNeg)) fun r8 =>
            bd1 (fX6_fragmentOf r8 p2) fun r9 =>
            some (r3 ^^^ r9)
          else none
        else none
    else none
  else none
set_option maxHeartbeats 4000000 in
set_option maxRecDepth 100000 in
theorem mX6_trueFragment (l : Launch) (dC : Nat → ClassId) (dI : Nat → Nat → Nat) (cI : ClassId) (sz : Nat) (h0 : Nat) (q_parentOf : Nat) (q_addressOf : Nat) (q_depthOf : Nat) (q_marks : Nat) (q_missing : Nat) (q_nodeAddresses : Nat) (q_nodeDistances : Nat) (q_nodeParents : Nat) (q_foundAddress : Nat) (q_foundDistance : Nat) (q_foundParent : Nat) (q_wordAt : Nat) (v_routers : Int32) (v_percent : Int32) (v_random : Int32) (v_distance : Int32) (v_offset : Int32) (v_value : Int32) (v_isMade : Int32) (v_received : Int32) (v_unmarked : Int32) (v_nodes : Int32) (v_found : Int32) (v_words : Int32) (a_parentOf : Nat → Int32) (a_addressOf : Nat → Int32) (p1 : Int32) (p2 : Int32) {rr : Int32} (h : fX6_trueFragment p1 p2 a_parentOf a_addressOf = some rr) : Met l yX6_trueFragment wsX6_trueFragment ({ frames := 2, cells := 0, slots := 0, locals := 40 } : Room) (prX dC dI cI [.ref h0, .int p1, .int p2] sz [(h0, .inr (6, [.int v_routers, .ref q_parentOf, .ref q_addressOf, .ref q_depthOf, .int v_percent, .int v_random, .int v_distance, .int v_offset, .int v_value, .int v_isMade, .ref q_marks, .int v_received, .int v_unmarked, .ref q_missing, .int v_nodes, .ref q_nodeAddresses, .ref q_nodeDistances, .ref q_nodeParents, .int v_found, .ref q_foundAddress, .ref q_foundDistance, .ref q_foundParent, .int v_words, .ref q_wordAt])), (q_parentOf, .inl (cI, 20, .inl a_parentOf)), (q_addressOf, .inl (cI, 20, .inl a_addressOf))]) (poI dC dI .int rr [(h0, .inr (6, [.int v_routers, .ref q_parentOf, .ref q_addressOf, .ref q_depthOf, .int v_percent, .int v_random, .int v_distance, .int v_offset, .int v_value, .int v_isMade, .ref q_marks, .int v_received, .int v_unmarked, .ref q_missing, .int v_nodes, .ref q_nodeAddresses, .ref q_nodeDistances, .ref q_nodeParents, .int v_found, .ref q_foundAddress, .ref q_foundDistance, .ref q_foundParent, .int v_words, .ref q_wordAt])), (q_parentOf, .inl (cI, 20, .inl a_parentOf)), (q_addressOf, .inl (cI, 20, .inl a_addressOf))] (va_A [(h0, .inr (6, [.int v_routers, .ref q_parentOf, .ref q_addressOf, .ref q_depthOf, .int v_percent, .int v_random, .int v_distance, .int v_offset, .int v_value, .int v_isMade, .ref q_marks, .int v_received, .int v_unmarked, .ref q_missing, .int v_nodes, .ref q_nodeAddresses, .ref q_nodeDistances, .ref q_nodeParents, .int v_found, .ref q_foundAddress, .ref q_foundDistance, .ref q_foundParent, .int v_words, .ref q_wordAt])), (q_parentOf, .inl (cI, 20, .inl a_parentOf)), (q_addressOf, .inl (cI, 20, .inl a_addressOf))] sz)) 0 0 (va_A [(h0, .inr (6, [.int v_routers, .ref q_parentOf, .ref q_addressOf, .ref q_depthOf, .int v_percent, .int v_random, .int v_distance, .int v_offset, .int v_value, .int v_isMade, .ref q_marks, .int v_received, .int v_unmarked, .ref q_missing, .int v_nodes, .ref q_nodeAddresses, .ref q_nodeDistances, .ref q_nodeParents, .int v_found, .ref q_foundAddress, .ref q_foundDistance, .ref q_foundParent, .int v_words, .ref q_wordAt])), (q_parentOf, .inl (cI, 20, .inl a_parentOf)), (q_addressOf, .inl (cI, 20, .inl a_addressOf))] sz) := by
  refine ofX (cc := cX6_trueFragment) (maxL := 4) (ret := (some .int)) (lv0 := [(0, .ref h0), (1, .int p1), (2, .int p2)]) (QA := fun A => poI dC dI .int rr [(h0, .inr (6, [.int v_routers, .ref q_parentOf, .ref q_addressOf, .ref q_depthOf, .int v_percent, .int v_random, .int v_distance, .int v_offset, .int v_value, .int v_isMade, .ref q_marks, .int v_received, .int v_unmarked, .ref q_missing, .int v_nodes, .ref q_nodeAddresses, .ref q_nodeDistances, .ref q_nodeParents, .int v_found, .ref q_foundAddress, .ref q_foundDistance, .ref q_foundParent, .int v_words, .ref q_wordAt])), (q_parentOf, .inl (cI, 20, .inl a_parentOf)), (q_addressOf, .inl (cI, 20, .inl a_addressOf))] A) (by decide) rfl (Nat.le_of_ble_eq_true rfl) rfl ?_
  intro p e s m below meth c A ls H locs hx hb hr hml hown hts hlocks hin hK hN hA hP hD hS hl
  have hown : s.vm.findClass RX6 = some m.cls := hown
  unfold fX6_trueFragment at h
  have hiX6 : ∀ w ∈ u_ws RX6 TX6 24, w ∈ wsX6_trueFragment := fun _ h => List.mem_cons_of_mem _ (List.mem_append_right _ h)
  have hf13 := (hts (.fieldLink RX6 13 "PacketTracebackModel" "addressOf" "[I") (List.mem_of_getElem? (i := 1) (by decide +kernel)))
  have hf7 := (hts (.fieldLink RX6 7 "PacketTracebackModel" "parentOf" "[I") (List.mem_of_getElem? (i := 2) (by decide +kernel)))
  refine lv_aload_n hx hb dX6_trueFragment_0 rfl (lv_at hl 0 rfl) ?_
  refine va_get (D := (dC, dI)) (ci := 6) (v := .ref q_addressOf) (C := RX6) (T := TX6) (N := 24) hx hb hts hiX6 hown hK hP 0 rfl rfl 2 (by decide) hf13 (fun _ h9 => h9) rfl dX6_trueFragment_1 ?_
  refine lv_iload_n hx hb dX6_trueFragment_4 rfl (lv_at hl 1 rfl) ?_
  obtain ⟨g1, h⟩ := gd_e h
  refine va_iald hx hb hK hP 2 0 rfl rfl g1 dX6_trueFragment_5 ?_
  obtain ⟨r2, h2, h⟩ := bd1_e h
  refine ca_Si (wc := []) (wr := [(h0, .inr (6, [.int v_routers, .ref q_parentOf, .ref q_addressOf, .ref q_depthOf, .int v_percent, .int v_random, .int v_distance, .int v_offset, .int v_value, .int v_isMade, .ref q_marks, .int v_received, .int v_unmarked, .ref q_missing, .int v_nodes, .ref q_nodeAddresses, .ref q_nodeDistances, .ref q_nodeParents, .int v_found, .ref q_foundAddress, .ref q_foundDistance, .ref q_foundParent, .int v_words, .ref q_wordAt])), (q_parentOf, .inl (cI, 20, .inl a_parentOf)), (q_addressOf, .inl (cI, 20, .inl a_addressOf))]) (w1 := []) [.int (a_addressOf p1.toNatClampNeg)] [] [] [0, 1, 2] hx hb hml hown hts (mX6_wordOf l dC dI cI H.size (a_addressOf p1.toNatClampNeg) h2) (va_cwS 1 hts gX6_trueFragment_X6_wordOf rfl rfl rfl (by decide +kernel) ⟨Nat.le_of_ble_eq_true rfl, Nat.le_of_ble_eq_true rfl⟩) hK hN hP hD hS hA rfl rfl (by decide) (by decide) (by decide) rfl hl.1 rfl (Nat.le_of_ble_eq_true rfl) dX6_trueFragment_6 ⟨Nat.zero_le _, Nat.zero_le _⟩ (fun H locs hP hD hS hz2 => ?_)
  have hP : va_P (dC, dI) vwCl [(h0, .inr (6, [.int v_routers, .ref q_parentOf, .ref q_addressOf, .ref q_depthOf, .int v_percent, .int v_random, .int v_distance, .int v_offset, .int v_value, .int v_isMade, .ref q_marks, .int v_received, .int v_unmarked, .ref q_missing, .int v_nodes, .ref q_nodeAddresses, .ref q_nodeDistances, .ref q_nodeParents, .int v_found, .ref q_foundAddress, .ref q_foundDistance, .ref q_foundParent, .int v_words, .ref q_wordAt])), (q_parentOf, .inl (cI, 20, .inl a_parentOf)), (q_addressOf, .inl (cI, 20, .inl a_addressOf))] H := hP
  have hD : va_D A [(h0, .inr (6, [.int v_routers, .ref q_parentOf, .ref q_addressOf, .ref q_depthOf, .int v_percent, .int v_random, .int v_distance, .int v_offset, .int v_value, .int v_isMade, .ref q_marks, .int v_received, .int v_unmarked, .ref q_missing, .int v_nodes, .ref q_nodeAddresses, .ref q_nodeDistances, .ref q_nodeParents, .int v_found, .ref q_foundAddress, .ref q_foundDistance, .ref q_foundParent, .int v_words, .ref q_wordAt])), (q_parentOf, .inl (cI, 20, .inl a_parentOf)), (q_addressOf, .inl (cI, 20, .inl a_addressOf))] := hD
  refine lv_iload_n hx hb dX6_trueFragment_9 rfl (lv_at hl 2 rfl) ?_
  obtain ⟨r3, h3, h⟩ := bd1_e h
  refine ca_Si (wc := []) (wr := [(h0, .inr (6, [.int v_routers, .ref q_parentOf, .ref q_addressOf, .ref q_depthOf, .int v_percent, .int v_random, .int v_distance, .int v_offset, .int v_value, .int v_isMade, .ref q_marks, .int v_received, .int v_unmarked, .ref q_missing, .int v_nodes, .ref q_nodeAddresses, .ref q_nodeDistances, .ref q_nodeParents, .int v_found, .ref q_foundAddress, .ref q_foundDistance, .ref q_foundParent, .int v_words, .ref q_wordAt])), (q_parentOf, .inl (cI, 20, .inl a_parentOf)), (q_addressOf, .inl (cI, 20, .inl a_addressOf))]) (w1 := []) [.int r2, .int p2] [] [] [0, 1, 2] hx hb hml hown hts (mX6_fragmentOf l dC dI cI H.size r2 p2 h3) (va_cwS 2 hts gX6_trueFragment_X6_fragmentOf rfl rfl rfl (by decide +kernel) ⟨Nat.le_of_ble_eq_true rfl, Nat.le_of_ble_eq_true rfl⟩) hK hN hP hD hS hA rfl rfl (by decide) (by decide) (by decide) rfl hl.1 rfl (Nat.le_of_ble_eq_true rfl) dX6_trueFragment_10 ⟨Nat.zero_le _, Nat.zero_le _⟩ (fun H locs hP hD hS hz3 => ?_)
  have hP : va_P (dC, dI) vwCl [(h0, .inr (6, [.int v_routers, .ref q_parentOf, .ref q_addressOf, .ref q_depthOf, .int v_percent, .int v_random, .int v_distance, .int v_offset, .int v_value, .int v_isMade, .ref q_marks, .int v_received, .int v_unmarked, .ref q_missing, .int v_nodes, .ref q_nodeAddresses, .ref q_nodeDistances, .ref q_nodeParents, .int v_found, .ref q_foundAddress, .ref q_foundDistance, .ref q_foundParent, .int v_words, .ref q_wordAt])), (q_parentOf, .inl (cI, 20, .inl a_parentOf)), (q_addressOf, .inl (cI, 20, .inl a_addressOf))] H := hP
  have hD : va_D A [(h0, .inr (6, [.int v_routers, .ref q_parentOf, .ref q_addressOf, .ref q_depthOf, .int v_percent, .int v_random, .int v_distance, .int v_offset, .int v_value, .int v_isMade, .ref q_marks, .int v_received, .int v_unmarked, .ref q_missing, .int v_nodes, .ref q_nodeAddresses, .ref q_nodeDistances, .ref q_nodeParents, .int v_found, .ref q_foundAddress, .ref q_foundDistance, .ref q_foundParent, .int v_words, .ref q_wordAt])), (q_parentOf, .inl (cI, 20, .inl a_parentOf)), (q_addressOf, .inl (cI, 20, .inl a_addressOf))] := hD
  refine lv_istore_n (lv' := [(3, .int r3), (0, .ref h0), (1, .int p1), (2, .int p2)]) hx hb dX6_trueFragment_13 rfl hl (by decide) rfl (fun ls hl => ?_)
  refine lv_aload_n hx hb dX6_trueFragment_14 rfl (lv_at hl 1 rfl) ?_
  refine va_get (D := (dC, dI)) (ci := 6) (v := .ref q_parentOf) (C := RX6) (T := TX6) (N := 24) hx hb hts hiX6 hown hK hP 0 rfl rfl 1 (by decide) hf7 (fun _ h9 => h9) rfl dX6_trueFragment_15 ?_
  refine lv_iload_n hx hb dX6_trueFragment_18 rfl (lv_at hl 2 rfl) ?_
  obtain ⟨g4, h⟩ := gd_e h
  refine va_iald hx hb hK hP 1 0 rfl rfl g4 dX6_trueFragment_19 ?_
  refine lv_bipush (v := (-7 : Int32)) hx hb dX6_trueFragment_20 (by decide) ?_
  refine lv_icmp_ne (tgt := 29) hx hb dX6_trueFragment_22 (by decide) (fun c5 => ?_) (fun c5 => ?_)
  · have h := it_n c5 h
    refine lv_iload_n hx hb dX6_trueFragment_29 rfl (lv_at hl 0 rfl) ?_
    refine lv_aload_n hx hb dX6_trueFragment_30 rfl (lv_at hl 1 rfl) ?_
    refine va_get (D := (dC, dI)) (ci := 6) (v := .ref q_addressOf) (C := RX6) (T := TX6) (N := 24) hx hb hts hiX6 hown hK hP 0 rfl rfl 2 (by decide) hf13 (fun _ h9 => h9) rfl dX6_trueFragment_31 ?_
    refine lv_aload_n hx hb dX6_trueFragment_34 rfl (lv_at hl 1 rfl) ?_
    refine va_get (D := (dC, dI)) (ci := 6) (v := .ref q_parentOf) (C := RX6) (T := TX6) (N := 24) hx hb hts hiX6 hown hK hP 0 rfl rfl 1 (by decide) hf7 (fun _ h9 => h9) rfl dX6_trueFragment_35 ?_
    refine lv_iload_n hx hb dX6_trueFragment_38 rfl (lv_at hl 2 rfl) ?_
    obtain ⟨g6, h⟩ := gd_e h
    refine va_iald hx hb hK hP 1 0 rfl rfl g6 dX6_trueFragment_39 ?_
    obtain ⟨g7, h⟩ := gd_e h
    refine va_iald hx hb hK hP 2 0 rfl rfl g7 dX6_trueFragment_40 ?_
    obtain ⟨r8, h8, h⟩ := bd1_e h
    refine ca_Si (wc := []) (wr := [(h0, .inr (6, [.int v_routers, .ref q_parentOf, .ref q_addressOf, .ref q_depthOf, .int v_percent, .int v_random, .int v_distance, .int v_offset, .int v_value, .int v_isMade, .ref q_marks, .int v_received, .int v_unmarked, .ref q_missing, .int v_nodes, .ref q_nodeAddresses, .ref q_nodeDistances, .ref q_nodeParents, .int v_found, .ref q_foundAddress, .ref q_foundDistance, .ref q_foundParent, .int v_words, .ref q_wordAt])), (q_parentOf, .inl (cI, 20, .inl a_parentOf)), (q_addressOf, .inl (cI, 20, .inl a_addressOf))]) (w1 := []) [.int (a_addressOf (a_parentOf p1.toNatClampNeg).toNatClampNeg)] [.int r3] [] [0, 1, 2] hx hb hml hown hts (mX6_wordOf l dC dI cI H.size (a_addressOf (a_parentOf p1.toNatClampNeg).toNatClampNeg) h8) (va_cwS 1 hts gX6_trueFragment_X6_wordOf rfl rfl rfl (by decide +kernel) ⟨Nat.le_of_ble_eq_true rfl, Nat.le_of_ble_eq_true rfl⟩) hK hN hP hD hS hA rfl rfl (by decide) (by decide) (by decide) rfl hl.1 rfl (Nat.le_of_ble_eq_true rfl) dX6_trueFragment_41 ⟨Nat.zero_le _, Nat.zero_le _⟩ (fun H locs hP hD hS hz8 => ?_)
    have hP : va_P (dC, dI) vwCl [(h0, .inr (6, [.int v_routers, .ref q_parentOf, .ref q_addressOf, .ref q_depthOf, .int v_percent, .int v_random, .int v_distance, .int v_offset, .int v_value, .int v_isMade, .ref q_marks, .int v_received, .int v_unmarked, .ref q_missing, .int v_nodes, .ref q_nodeAddresses, .ref q_nodeDistances, .ref q_nodeParents, .int v_found, .ref q_foundAddress, .ref q_foundDistance, .ref q_foundParent, .int v_words, .ref q_wordAt])), (q_parentOf, .inl (cI, 20, .inl a_parentOf)), (q_addressOf, .inl (cI, 20, .inl a_addressOf))] H := hP
    have hD : va_D A [(h0, .inr (6, [.int v_routers, .ref q_parentOf, .ref q_addressOf, .ref q_depthOf, .int v_percent, .int v_random, .int v_distance, .int v_offset, .int v_value, .int v_isMade, .ref q_marks, .int v_received, .int v_unmarked, .ref q_missing, .int v_nodes, .ref q_nodeAddresses, .ref q_nodeDistances, .ref q_nodeParents, .int v_found, .ref q_foundAddress, .ref q_foundDistance, .ref q_foundParent, .int v_words, .ref q_wordAt])), (q_parentOf, .inl (cI, 20, .inl a_parentOf)), (q_addressOf, .inl (cI, 20, .inl a_addressOf))] := hD
    refine lv_iload_n hx hb dX6_trueFragment_44 rfl (lv_at hl 3 rfl) ?_
    obtain ⟨r9, h9, h⟩ := bd1_e h
    refine ca_Si (wc := []) (wr := [(h0, .inr (6, [.int v_routers, .ref q_parentOf, .ref q_addressOf, .ref q_depthOf, .int v_percent, .int v_random, .int v_distance, .int v_offset, .int v_value, .int v_isMade, .ref q_marks, .int v_received, .int v_unmarked, .ref q_missing, .int v_nodes, .ref q_nodeAddresses, .ref q_nodeDistances, .ref q_nodeParents, .int v_found, .ref q_foundAddress, .ref q_foundDistance, .ref q_foundParent, .int v_words, .ref q_wordAt])), (q_parentOf, .inl (cI, 20, .inl a_parentOf)), (q_addressOf, .inl (cI, 20, .inl a_addressOf))]) (w1 := []) [.int r8, .int p2] [.int r3] [] [0, 1, 2] hx hb hml hown hts (mX6_fragmentOf l dC dI cI H.size r8 p2 h9) (va_cwS 2 hts gX6_trueFragment_X6_fragmentOf rfl rfl rfl (by decide +kernel) ⟨Nat.le_of_ble_eq_true rfl, Nat.le_of_ble_eq_true rfl⟩) hK hN hP hD hS hA rfl rfl (by decide) (by decide) (by decide) rfl hl.1 rfl (Nat.le_of_ble_eq_true rfl) dX6_trueFragment_45 ⟨Nat.zero_le _, Nat.zero_le _⟩ (fun H locs hP hD hS hz9 => ?_)
    have hP : va_P (dC, dI) vwCl [(h0, .inr (6, [.int v_routers, .ref q_parentOf, .ref q_addressOf, .ref q_depthOf, .int v_percent, .int v_random, .int v_distance, .int v_offset, .int v_value, .int v_isMade, .ref q_marks, .int v_received, .int v_unmarked, .ref q_missing, .int v_nodes, .ref q_nodeAddresses, .ref q_nodeDistances, .ref q_nodeParents, .int v_found, .ref q_foundAddress, .ref q_foundDistance, .ref q_foundParent, .int v_words, .ref q_wordAt])), (q_parentOf, .inl (cI, 20, .inl a_parentOf)), (q_addressOf, .inl (cI, 20, .inl a_addressOf))] H := hP
    have hD : va_D A [(h0, .inr (6, [.int v_routers, .ref q_parentOf, .ref q_addressOf, .ref q_depthOf, .int v_percent, .int v_random, .int v_distance, .int v_offset, .int v_value, .int v_isMade, .ref q_marks, .int v_received, .int v_unmarked, .ref q_missing, .int v_nodes, .ref q_nodeAddresses, .ref q_nodeDistances, .ref q_nodeParents, .int v_found, .ref q_foundAddress, .ref q_foundDistance, .ref q_foundParent, .int v_words, .ref q_wordAt])), (q_parentOf, .inl (cI, 20, .inl a_parentOf)), (q_addressOf, .inl (cI, 20, .inl a_addressOf))] := hD
    refine lv_ixor hx hb dX6_trueFragment_48 ?_
    have hk0 := Option.some.inj h
    cases hk0
    exact re_i [0, 1, 2] hx hb hr hlocks rfl hP hD hS rfl (by decide) rfl dX6_trueFragment_49
  · have h := it_p c5 h
    refine lv_iload_n hx hb dX6_trueFragment_25 rfl (lv_at hl 0 rfl) ?_
    refine lv_goto (tgt := 49) hx hb dX6_trueFragment_26 (by decide) ?_
    have hk0 := Option.some.inj h
    cases hk0
    exact re_i [0, 1, 2] hx hb hr hlocks rfl hP hD hS rfl (by decide) rfl dX6_trueFragment_49
def bX6_isPathComplete_20 (a_parentOf : Nat → Int32) (a_addressOf : Nat → Int32) (a_depthOf : Nat → Int32) (a_marks : Nat → Int32) (y2_20 : Int32) (y3_20 : Int32) : Option ((Int32) ⊕ (((Int32) ⊕ (Int32)))) :=
  if (4 : Int32) ≤ y3_20 then
    if ¬ (y2_20 < 0 ∨ 20 ≤ y2_20.toNatClampNeg) then
      nm ((a_parentOf y2_20.toNatClampNeg)) fun x6 =>
      some (.inr (.inl x6))
    else none
  else
    if ¬ (y2_20 < 0 ∨ 20 ≤ y2_20.toNatClampNeg) then
      bd1 (fX6_trueFragment y2_20 y3_20 a_parentOf a_addressOf) fun r8 =>
      bd1 (fX6_placeOf (a_depthOf y2_20.toNatClampNeg) y3_20 r8) fun r9 =>
      if ¬ (r9 < 0 ∨ 4096 ≤ r9.toNatClampNeg) then
        if (a_marks r9.toNatClampNeg) = 0 then
          some (.inr (.inr (0 : Int32)))
        else
          some (.inl (y3_20 + 1))
      else none
    else none
def bX6_isPathComplete_12 (N : Nat) (a_parentOf : Nat → Int32) (a_addressOf : Nat → Int32) (a_depthOf : Nat → Int32) (a_marks : Nat → Int32) (y2_12 : Int32) : Option ((Int32) ⊕ (Int32)) :=
  if y2_12 = (-7 : Int32) then
    some (.inr (1 : Int32))
  else
    lp (fun s => bX6_isPathComplete_20 a_parentOf a_addressOf a_depthOf a_marks y2_12 s) N (0 : Int32)
def fX6_isPathComplete (N : Nat) (p1 : Int32) (v_routers : Int32) (a_parentOf : Nat → Int32) (a_addressOf : Nat → Int32) (a_depthOf : Nat → Int32) (a_marks : Nat → Int32) : Option (Int32) :=
  bd1 (fX6_isRouter p1 v_routers) fun r1 =>
  if r1 = 0 then
    some (-1 : Int32)
  else
    lp (fun s => bX6_isPathComplete_12 N a_parentOf a_addressOf a_depthOf a_marks s) N p1
set_option maxHeartbeats 4000000 in
set_option maxRecDepth 100000 in
theorem mX6_isPathComplete (l : Launch) (dC : Nat → ClassId) (dI : Nat → Nat → Nat) (cI : ClassId) (sz : Nat) (N : Nat) (h0 : Nat) (q_parentOf : Nat) (q_addressOf : Nat) (q_depthOf : Nat) (q_marks : Nat) (q_missing : Nat) (q_nodeAddresses : Nat) (q_nodeDistances : Nat) (q_nodeParents : Nat) (q_foundAddress : Nat) (q_foundDistance : Nat) (q_foundParent : Nat) (q_wordAt : Nat) (v_routers : Int32) (v_percent : Int32) (v_random : Int32) (v_distance : Int32) (v_offset : Int32) (v_value : Int32) (v_isMade : Int32) (v_received : Int32) (v_unmarked : Int32) (v_nodes : Int32) (v_found : Int32) (v_words : Int32) (a_parentOf : Nat → Int32) (a_addressOf : Nat → Int32) (a_depthOf : Nat → Int32) (a_marks : Nat → Int32) (p1 : Int32) {rr : Int32} (h : fX6_isPathComplete N p1 v_routers a_parentOf a_addressOf a_depthOf a_marks = some rr) : Met l yX6_isPathComplete wsX6_isPathComplete ({ frames := 3, cells := 0, slots := 0, locals := 63 } : Room) (prX dC dI cI [.ref h0, .int p1] sz [(h0, .inr (6, [.int v_routers, .ref q_parentOf, .ref q_addressOf, .ref q_depthOf, .int v_percent, .int v_random, .int v_distance, .int v_offset, .int v_value, .int v_isMade, .ref q_marks, .int v_received, .int v_unmarked, .ref q_missing, .int v_nodes, .ref q_nodeAddresses, .ref q_nodeDistances, .ref q_nodeParents, .int v_found, .ref q_foundAddress, .ref q_foundDistance, .ref q_foundParent, .int v_words, .ref q_wordAt])), (q_parentOf, .inl (cI, 20, .inl a_parentOf)), (q_addressOf, .inl (cI, 20, .inl a_addressOf)), (q_depthOf, .inl (cI, 20, .inl a_depthOf)), (q_marks, .inl (cI, 4096, .inl a_marks))]) (poI dC dI .int rr [(h0, .inr (6, [.int v_routers, .ref q_parentOf, .ref q_addressOf, .ref q_depthOf, .int v_percent, .int v_random, .int v_distance, .int v_offset, .int v_value, .int v_isMade, .ref q_marks, .int v_received, .int v_unmarked, .ref q_missing, .int v_nodes, .ref q_nodeAddresses, .ref q_nodeDistances, .ref q_nodeParents, .int v_found, .ref q_foundAddress, .ref q_foundDistance, .ref q_foundParent, .int v_words, .ref q_wordAt])), (q_parentOf, .inl (cI, 20, .inl a_parentOf)), (q_addressOf, .inl (cI, 20, .inl a_addressOf)), (q_depthOf, .inl (cI, 20, .inl a_depthOf)), (q_marks, .inl (cI, 4096, .inl a_marks))] (va_A [(h0, .inr (6, [.int v_routers, .ref q_parentOf, .ref q_addressOf, .ref q_depthOf, .int v_percent, .int v_random, .int v_distance, .int v_offset, .int v_value, .int v_isMade, .ref q_marks, .int v_received, .int v_unmarked, .ref q_missing, .int v_nodes, .ref q_nodeAddresses, .ref q_nodeDistances, .ref q_nodeParents, .int v_found, .ref q_foundAddress, .ref q_foundDistance, .ref q_foundParent, .int v_words, .ref q_wordAt])), (q_parentOf, .inl (cI, 20, .inl a_parentOf)), (q_addressOf, .inl (cI, 20, .inl a_addressOf)), (q_depthOf, .inl (cI, 20, .inl a_depthOf)), (q_marks, .inl (cI, 4096, .inl a_marks))] sz)) 0 0 (va_A [(h0, .inr (6, [.int v_routers, .ref q_parentOf, .ref q_addressOf, .ref q_depthOf, .int v_percent, .int v_random, .int v_distance, .int v_offset, .int v_value, .int v_isMade, .ref q_marks, .int v_received, .int v_unmarked, .ref q_missing, .int v_nodes, .ref q_nodeAddresses, .ref q_nodeDistances, .ref q_nodeParents, .int v_found, .ref q_foundAddress, .ref q_foundDistance, .ref q_foundParent, .int v_words, .ref q_wordAt])), (q_parentOf, .inl (cI, 20, .inl a_parentOf)), (q_addressOf, .inl (cI, 20, .inl a_addressOf)), (q_depthOf, .inl (cI, 20, .inl a_depthOf)), (q_marks, .inl (cI, 4096, .inl a_marks))] sz) := by
  refine ofX (cc := cX6_isPathComplete) (maxL := 4) (ret := (some .int)) (lv0 := [(0, .ref h0), (1, .int p1)]) (QA := fun A => poI dC dI .int rr [(h0, .inr (6, [.int v_routers, .ref q_parentOf, .ref q_addressOf, .ref q_depthOf, .int v_percent, .int v_random, .int v_distance, .int v_offset, .int v_value, .int v_isMade, .ref q_marks, .int v_received, .int v_unmarked, .ref q_missing, .int v_nodes, .ref q_nodeAddresses, .ref q_nodeDistances, .ref q_nodeParents, .int v_found, .ref q_foundAddress, .ref q_foundDistance, .ref q_foundParent, .int v_words, .ref q_wordAt])), (q_parentOf, .inl (cI, 20, .inl a_parentOf)), (q_addressOf, .inl (cI, 20, .inl a_addressOf)), (q_depthOf, .inl (cI, 20, .inl a_depthOf)), (q_marks, .inl (cI, 4096, .inl a_marks))] A) (by decide) rfl (Nat.le_of_ble_eq_true rfl) rfl ?_
  intro p e s m below meth c A ls H locs hx hb hr hml hown hts hlocks hin hK hN hA hP hD hS hl
  have hown : s.vm.findClass RX6 = some m.cls := hown
  unfold fX6_isPathComplete at h
  have hiX6 : ∀ w ∈ u_ws RX6 TX6 24, w ∈ wsX6_isPathComplete := fun _ h => List.mem_cons_of_mem _ (List.mem_append_right _ h)
  have hf7 := (hts (.fieldLink RX6 7 "PacketTracebackModel" "parentOf" "[I") (List.mem_of_getElem? (i := 3) (by decide +kernel)))
  have hf19 := (hts (.fieldLink RX6 19 "PacketTracebackModel" "marks" "[I") (List.mem_of_getElem? (i := 1) (by decide +kernel)))
  have hf16 := (hts (.fieldLink RX6 16 "PacketTracebackModel" "depthOf" "[I") (List.mem_of_getElem? (i := 2) (by decide +kernel)))
  refine lv_aload_n hx hb dX6_isPathComplete_0 rfl (lv_at hl 0 rfl) ?_
  refine lv_iload_n hx hb dX6_isPathComplete_1 rfl (lv_at hl 1 rfl) ?_
  obtain ⟨r1, h1, h⟩ := bd1_e h
  refine ca_Vi (wc := [(h0, .inr (6, [.int v_routers, .ref q_parentOf, .ref q_addressOf, .ref q_depthOf, .int v_percent, .int v_random, .int v_distance, .int v_offset, .int v_value, .int v_isMade, .ref q_marks, .int v_received, .int v_unmarked, .ref q_missing, .int v_nodes, .ref q_nodeAddresses, .ref q_nodeDistances, .ref q_nodeParents, .int v_found, .ref q_foundAddress, .ref q_foundDistance, .ref q_foundParent, .int v_words, .ref q_wordAt]))]) (wr := [(q_parentOf, .inl (cI, 20, .inl a_parentOf)), (q_addressOf, .inl (cI, 20, .inl a_addressOf)), (q_depthOf, .inl (cI, 20, .inl a_depthOf)), (q_marks, .inl (cI, 4096, .inl a_marks))]) (w1 := [(h0, .inr (6, [.int v_routers, .ref q_parentOf, .ref q_addressOf, .ref q_depthOf, .int v_percent, .int v_random, .int v_distance, .int v_offset, .int v_value, .int v_isMade, .ref q_marks, .int v_received, .int v_unmarked, .ref q_missing, .int v_nodes, .ref q_nodeAddresses, .ref q_nodeDistances, .ref q_nodeParents, .int v_found, .ref q_foundAddress, .ref q_foundDistance, .ref q_foundParent, .int v_words, .ref q_wordAt]))]) [.int p1] [] [0] [1, 2, 3, 4] hx hb hml hown hts (mX6_isRouter l dC dI cI H.size h0 q_parentOf q_addressOf q_depthOf q_marks q_missing q_nodeAddresses q_nodeDistances q_nodeParents q_foundAddress q_foundDistance q_foundParent q_wordAt v_routers v_percent v_random v_distance v_offset v_value v_isMade v_received v_unmarked v_nodes v_found v_words p1 h1) (cwV 1 hts gX6_isPathComplete_X6_isRouter rfl rfl rfl (by decide +kernel) ⟨Nat.le_of_ble_eq_true rfl, Nat.le_of_ble_eq_true rfl⟩) hK hN hP hD hS hA rfl rfl (by decide) (by decide) (by decide) rfl rfl rfl hl.1 rfl (Nat.le_of_ble_eq_true rfl) dX6_isPathComplete_2 ⟨Nat.zero_le _, Nat.zero_le _⟩ (fun H locs hP hD hS hz1 => ?_)
  have hP : va_P (dC, dI) vwCl [(q_parentOf, .inl (cI, 20, .inl a_parentOf)), (q_addressOf, .inl (cI, 20, .inl a_addressOf)), (q_depthOf, .inl (cI, 20, .inl a_depthOf)), (q_marks, .inl (cI, 4096, .inl a_marks)), (h0, .inr (6, [.int v_routers, .ref q_parentOf, .ref q_addressOf, .ref q_depthOf, .int v_percent, .int v_random, .int v_distance, .int v_offset, .int v_value, .int v_isMade, .ref q_marks, .int v_received, .int v_unmarked, .ref q_missing, .int v_nodes, .ref q_nodeAddresses, .ref q_nodeDistances, .ref q_nodeParents, .int v_found, .ref q_foundAddress, .ref q_foundDistance, .ref q_foundParent, .int v_words, .ref q_wordAt]))] H := hP
  have hD : va_D A [(q_parentOf, .inl (cI, 20, .inl a_parentOf)), (q_addressOf, .inl (cI, 20, .inl a_addressOf)), (q_depthOf, .inl (cI, 20, .inl a_depthOf)), (q_marks, .inl (cI, 4096, .inl a_marks)), (h0, .inr (6, [.int v_routers, .ref q_parentOf, .ref q_addressOf, .ref q_depthOf, .int v_percent, .int v_random, .int v_distance, .int v_offset, .int v_value, .int v_isMade, .ref q_marks, .int v_received, .int v_unmarked, .ref q_missing, .int v_nodes, .ref q_nodeAddresses, .ref q_nodeDistances, .ref q_nodeParents, .int v_found, .ref q_foundAddress, .ref q_foundDistance, .ref q_foundParent, .int v_words, .ref q_wordAt]))] := hD
  refine lv_if_ne (tgt := 10) hx hb dX6_isPathComplete_5 (by decide) (fun c2 => ?_) (fun c2 => ?_)
  · have h := it_n c2 h
    refine lv_iload_n hx hb dX6_isPathComplete_10 rfl (lv_at hl 1 rfl) ?_
    refine lv_istore_n (lv' := [(2, .int p1), (0, .ref h0), (1, .int p1)]) hx hb dX6_isPathComplete_11 rfl hl (by decide) rfl (fun ls hl => ?_)
    have key12 : ∀ (n1 : Nat) (y2_12 : Int32) (H : Heap) (locs : List Loc) (ls : Array Slot), lp (fun s => bX6_isPathComplete_12 N a_parentOf a_addressOf a_depthOf a_marks s) n1 y2_12 = some rr → va_P (dC, dI) vwCl [(q_parentOf, .inl (cI, 20, .inl a_parentOf)), (q_addressOf, .inl (cI, 20, .inl a_addressOf)), (q_depthOf, .inl (cI, 20, .inl a_depthOf)), (q_marks, .inl (cI, 4096, .inl a_marks)), (h0, .inr (6, [.int v_routers, .ref q_parentOf, .ref q_addressOf, .ref q_depthOf, .int v_percent, .int v_random, .int v_distance, .int v_offset, .int v_value, .int v_isMade, .ref q_marks, .int v_received, .int v_unmarked, .ref q_missing, .int v_nodes, .ref q_nodeAddresses, .ref q_nodeDistances, .ref q_nodeParents, .int v_found, .ref q_foundAddress, .ref q_foundDistance, .ref q_foundParent, .int v_words, .ref q_wordAt]))] H → va_D A [(q_parentOf, .inl (cI, 20, .inl a_parentOf)), (q_addressOf, .inl (cI, 20, .inl a_addressOf)), (q_depthOf, .inl (cI, 20, .inl a_depthOf)), (q_marks, .inl (cI, 4096, .inl a_marks)), (h0, .inr (6, [.int v_routers, .ref q_parentOf, .ref q_addressOf, .ref q_depthOf, .int v_percent, .int v_random, .int v_distance, .int v_offset, .int v_value, .int v_isMade, .ref q_marks, .int v_received, .int v_unmarked, .ref q_missing, .int v_nodes, .ref q_nodeAddresses, .ref q_nodeDistances, .ref q_nodeParents, .int v_found, .ref q_foundAddress, .ref q_foundDistance, .ref q_foundParent, .int v_words, .ref q_wordAt]))] → va_S A s.heap H locs → lv_has ls 4 [(2, .int y2_12), (0, .ref h0), (1, .int p1)] → W p l e ({ frames := 3, cells := 0, slots := 0, locals := 63 } : Room) s m [.ref h0, .int p1].toArray below meth c H locs 0 0 (MQ below (poI dC dI .int rr [(h0, .inr (6, [.int v_routers, .ref q_parentOf, .ref q_addressOf, .ref q_depthOf, .int v_percent, .int v_random, .int v_distance, .int v_offset, .int v_value, .int v_isMade, .ref q_marks, .int v_received, .int v_unmarked, .ref q_missing, .int v_nodes, .ref q_nodeAddresses, .ref q_nodeDistances, .ref q_nodeParents, .int v_found, .ref q_foundAddress, .ref q_foundDistance, .ref q_foundParent, .int v_words, .ref q_wordAt])), (q_parentOf, .inl (cI, 20, .inl a_parentOf)), (q_addressOf, .inl (cI, 20, .inl a_addressOf)), (q_depthOf, .inl (cI, 20, .inl a_depthOf)), (q_marks, .inl (cI, 4096, .inl a_marks))] A) [.ref h0, .int p1].toArray s 0 0 A) (F0 m 12 ls []) := by
      intro n1
      induction n1 with
      | zero =>
        intro y2_12 H locs ls h
        exact (lp_0 h).elim
      | succ n1 ih1 =>
        intro y2_12 H locs ls h hP hD hS hl
        obtain ⟨o1, h, hk1⟩ := lp_s h
        unfold bX6_isPathComplete_12 at h
        try dsimp only at h
        refine lv_iload_n hx hb dX6_isPathComplete_12 rfl (lv_at hl 0 rfl) ?_
        refine lv_bipush (v := (-7 : Int32)) hx hb dX6_isPathComplete_13 (by decide) ?_
        refine lv_icmp_eq (tgt := 67) hx hb dX6_isPathComplete_15 (by decide) (fun c3 => ?_) (fun c3 => ?_)
        · have h := it_p c3 h
          refine lv_iconst (v := (1 : Int32)) hx hb dX6_isPathComplete_67 (by decide) ?_
          cases Option.some.inj h
          have hk1 := un_r hk1
          cases hk1
          exact re_i [4, 0, 1, 2, 3] hx hb hr hlocks rfl hP hD hS rfl (by decide) rfl dX6_isPathComplete_68
        · have h := it_n c3 h
          refine lv_iconst (v := (0 : Int32)) hx hb dX6_isPathComplete_18 (by decide) ?_
          refine lv_istore_n (lv' := [(3, .int (0 : Int32)), (2, .int y2_12), (0, .ref h0), (1, .int p1)]) hx hb dX6_isPathComplete_19 rfl hl (by decide) rfl (fun ls hl => ?_)
          have key20 : ∀ (y2_20 : Int32) (n2 : Nat) (y3_20 : Int32) (H : Heap) (locs : List Loc) (ls : Array Slot), lp (fun s => bX6_isPathComplete_20 a_parentOf a_addressOf a_depthOf a_marks y2_20 s) n2 y3_20 = some o1 → va_P (dC, dI) vwCl [(q_parentOf, .inl (cI, 20, .inl a_parentOf)), (q_addressOf, .inl (cI, 20, .inl a_addressOf)), (q_depthOf, .inl (cI, 20, .inl a_depthOf)), (q_marks, .inl (cI, 4096, .inl a_marks)), (h0, .inr (6, [.int v_routers, .ref q_parentOf, .ref q_addressOf, .ref q_depthOf, .int v_percent, .int v_random, .int v_distance, .int v_offset, .int v_value, .int v_isMade, .ref q_marks, .int v_received, .int v_unmarked, .ref q_missing, .int v_nodes, .ref q_nodeAddresses, .ref q_nodeDistances, .ref q_nodeParents, .int v_found, .ref q_foundAddress, .ref q_foundDistance, .ref q_foundParent, .int v_words, .ref q_wordAt]))] H → va_D A [(q_parentOf, .inl (cI, 20, .inl a_parentOf)), (q_addressOf, .inl (cI, 20, .inl a_addressOf)), (q_depthOf, .inl (cI, 20, .inl a_depthOf)), (q_marks, .inl (cI, 4096, .inl a_marks)), (h0, .inr (6, [.int v_routers, .ref q_parentOf, .ref q_addressOf, .ref q_depthOf, .int v_percent, .int v_random, .int v_distance, .int v_offset, .int v_value, .int v_isMade, .ref q_marks, .int v_received, .int v_unmarked, .ref q_missing, .int v_nodes, .ref q_nodeAddresses, .ref q_nodeDistances, .ref q_nodeParents, .int v_found, .ref q_foundAddress, .ref q_foundDistance, .ref q_foundParent, .int v_words, .ref q_wordAt]))] → va_S A s.heap H locs → lv_has ls 4 [(3, .int y3_20), (2, .int y2_20), (0, .ref h0), (1, .int p1)] → W p l e ({ frames := 3, cells := 0, slots := 0, locals := 63 } : Room) s m [.ref h0, .int p1].toArray below meth c H locs 0 0 (MQ below (poI dC dI .int rr [(h0, .inr (6, [.int v_routers, .ref q_parentOf, .ref q_addressOf, .ref q_depthOf, .int v_percent, .int v_random, .int v_distance, .int v_offset, .int v_value, .int v_isMade, .ref q_marks, .int v_received, .int v_unmarked, .ref q_missing, .int v_nodes, .ref q_nodeAddresses, .ref q_nodeDistances, .ref q_nodeParents, .int v_found, .ref q_foundAddress, .ref q_foundDistance, .ref q_foundParent, .int v_words, .ref q_wordAt])), (q_parentOf, .inl (cI, 20, .inl a_parentOf)), (q_addressOf, .inl (cI, 20, .inl a_addressOf)), (q_depthOf, .inl (cI, 20, .inl a_depthOf)), (q_marks, .inl (cI, 4096, .inl a_marks))] A) [.ref h0, .int p1].toArray s 0 0 A) (F0 m 20 ls []) := by
            intro y2_20
            intro n2
            induction n2 with
            | zero =>
              intro y3_20 H locs ls h
              exact (lp_0 h).elim
            | succ n2 ih2 =>
              intro y3_20 H locs ls h hP hD hS hl
              obtain ⟨o2, h, hk2⟩ := lp_s h
              unfold bX6_isPathComplete_20 at h
              try dsimp only at h
              refine lv_iload_n hx hb dX6_isPathComplete_20 rfl (lv_at hl 0 rfl) ?_
              refine lv_iconst (v := (4 : Int32)) hx hb dX6_isPathComplete_21 (by decide) ?_
              refine lv_icmp_ge (tgt := 57) hx hb dX6_isPathComplete_22 (by decide) (fun c4 => ?_) (fun c4 => ?_)
              · have h := it_p c4 h
                refine lv_aload_n hx hb dX6_isPathComplete_57 rfl (lv_at hl 2 rfl) ?_
                refine va_get (D := (dC, dI)) (ci := 6) (v := .ref q_parentOf) (C := RX6) (T := TX6) (N := 24) hx hb hts hiX6 hown hK hP 4 rfl rfl 1 (by decide) hf7 (fun _ h9 => h9) rfl dX6_isPathComplete_58 ?_
                refine lv_iload_n hx hb dX6_isPathComplete_61 rfl (lv_at hl 1 rfl) ?_
                obtain ⟨g5, h⟩ := gd_e h
                refine va_iald hx hb hK hP 0 0 rfl rfl g5 dX6_isPathComplete_62 ?_
                refine lv_topi (fun x6 ex6 => ?_)
                have h := nm_u ex6 h
                refine lv_istore_n (lv' := [(2, .int x6), (3, .int y3_20), (0, .ref h0), (1, .int p1)]) hx hb dX6_isPathComplete_63 rfl hl (by decide) rfl (fun ls hl => ?_)
                refine lv_goto (tgt := 12) hx hb dX6_isPathComplete_64 (by decide) ?_
                cases Option.some.inj h
                have hk2 := un_r hk2
                cases hk2
                exact ih1 _ _ _ _ (un_l hk1) (hP.sub [0, 1, 2, 3, 4] rfl) (hD.sub [0, 1, 2, 3, 4] (by decide) rfl) hS (lv_sub hl [0, 2, 3] rfl)
              · have h := it_n c4 h
                refine lv_aload_n hx hb dX6_isPathComplete_25 rfl (lv_at hl 2 rfl) ?_
                refine va_get (D := (dC, dI)) (ci := 6) (v := .ref q_marks) (C := RX6) (T := TX6) (N := 24) hx hb hts hiX6 hown hK hP 4 rfl rfl 10 (by decide) hf19 (fun _ h9 => h9) rfl dX6_isPathComplete_26 ?_
                refine lv_aload_n hx hb dX6_isPathComplete_29 rfl (lv_at hl 2 rfl) ?_
                refine va_get (D := (dC, dI)) (ci := 6) (v := .ref q_depthOf) (C := RX6) (T := TX6) (N := 24) hx hb hts hiX6 hown hK hP 4 rfl rfl 3 (by decide) hf16 (fun _ h9 => h9) rfl dX6_isPathComplete_30 ?_
                refine lv_iload_n hx hb dX6_isPathComplete_33 rfl (lv_at hl 1 rfl) ?_
                obtain ⟨g7, h⟩ := gd_e h
                refine va_iald hx hb hK hP 2 0 rfl rfl g7 dX6_isPathComplete_34 ?_
                refine lv_iload_n hx hb dX6_isPathComplete_35 rfl (lv_at hl 0 rfl) ?_
                refine lv_aload_n hx hb dX6_isPathComplete_36 rfl (lv_at hl 2 rfl) ?_
                refine lv_iload_n hx hb dX6_isPathComplete_37 rfl (lv_at hl 1 rfl) ?_
                refine lv_iload_n hx hb dX6_isPathComplete_38 rfl (lv_at hl 0 rfl) ?_
                obtain ⟨r8, h8, h⟩ := bd1_e h
                refine ca_Vi (wc := [(h0, .inr (6, [.int v_routers, .ref q_parentOf, .ref q_addressOf, .ref q_depthOf, .int v_percent, .int v_random, .int v_distance, .int v_offset, .int v_value, .int v_isMade, .ref q_marks, .int v_received, .int v_unmarked, .ref q_missing, .int v_nodes, .ref q_nodeAddresses, .ref q_nodeDistances, .ref q_nodeParents, .int v_found, .ref q_foundAddress, .ref q_foundDistance, .ref q_foundParent, .int v_words, .ref q_wordAt])), (q_parentOf, .inl (cI, 20, .inl a_parentOf)), (q_addressOf, .inl (cI, 20, .inl a_addressOf))]) (wr := [(q_depthOf, .inl (cI, 20, .inl a_depthOf)), (q_marks, .inl (cI, 4096, .inl a_marks))]) (w1 := [(h0, .inr (6, [.int v_routers, .ref q_parentOf, .ref q_addressOf, .ref q_depthOf, .int v_percent, .int v_random, .int v_distance, .int v_offset, .int v_value, .int v_isMade, .ref q_marks, .int v_received, .int v_unmarked, .ref q_missing, .int v_nodes, .ref q_nodeAddresses, .ref q_nodeDistances, .ref q_nodeParents, .int v_found, .ref q_foundAddress, .ref q_foundDistance, .ref q_foundParent, .int v_words, .ref q_wordAt])), (q_parentOf, .inl (cI, 20, .inl a_parentOf)), (q_addressOf, .inl (cI, 20, .inl a_addressOf))]) [.int y2_20, .int y3_20] [.int y3_20, .int (a_depthOf y2_20.toNatClampNeg), .ref q_marks] [4, 0, 1] [2, 3] hx hb hml hown hts (mX6_trueFragment l dC dI cI H.size h0 q_parentOf q_addressOf q_depthOf q_marks q_missing q_nodeAddresses q_nodeDistances q_nodeParents q_foundAddress q_foundDistance q_foundParent q_wordAt v_routers v_percent v_random v_distance v_offset v_value v_isMade v_received v_unmarked v_nodes v_found v_words a_parentOf a_addressOf y2_20 y3_20 h8) (cwV 2 hts gX6_isPathComplete_X6_trueFragment rfl rfl rfl (by decide +kernel) ⟨Nat.le_of_ble_eq_true rfl, Nat.le_of_ble_eq_true rfl⟩) hK hN hP hD hS hA rfl rfl (by decide) (by decide) (by decide) rfl rfl rfl hl.1 rfl (Nat.le_of_ble_eq_true rfl) dX6_isPathComplete_39 ⟨Nat.zero_le _, Nat.zero_le _⟩ (fun H locs hP hD hS hz8 => ?_)
                have hP : va_P (dC, dI) vwCl [(q_depthOf, .inl (cI, 20, .inl a_depthOf)), (q_marks, .inl (cI, 4096, .inl a_marks)), (h0, .inr (6, [.int v_routers, .ref q_parentOf, .ref q_addressOf, .ref q_depthOf, .int v_percent, .int v_random, .int v_distance, .int v_offset, .int v_value, .int v_isMade, .ref q_marks, .int v_received, .int v_unmarked, .ref q_missing, .int v_nodes, .ref q_nodeAddresses, .ref q_nodeDistances, .ref q_nodeParents, .int v_found, .ref q_foundAddress, .ref q_foundDistance, .ref q_foundParent, .int v_words, .ref q_wordAt])), (q_parentOf, .inl (cI, 20, .inl a_parentOf)), (q_addressOf, .inl (cI, 20, .inl a_addressOf))] H := hP
                have hD : va_D A [(q_depthOf, .inl (cI, 20, .inl a_depthOf)), (q_marks, .inl (cI, 4096, .inl a_marks)), (h0, .inr (6, [.int v_routers, .ref q_parentOf, .ref q_addressOf, .ref q_depthOf, .int v_percent, .int v_random, .int v_distance, .int v_offset, .int v_value, .int v_isMade, .ref q_marks, .int v_received, .int v_unmarked, .ref q_missing, .int v_nodes, .ref q_nodeAddresses, .ref q_nodeDistances, .ref q_nodeParents, .int v_found, .ref q_foundAddress, .ref q_foundDistance, .ref q_foundParent, .int v_words, .ref q_wordAt])), (q_parentOf, .inl (cI, 20, .inl a_parentOf)), (q_addressOf, .inl (cI, 20, .inl a_addressOf))] := hD
                obtain ⟨r9, h9, h⟩ := bd1_e h
                refine ca_Si (wc := []) (wr := [(q_depthOf, .inl (cI, 20, .inl a_depthOf)), (q_marks, .inl (cI, 4096, .inl a_marks)), (h0, .inr (6, [.int v_routers, .ref q_parentOf, .ref q_addressOf, .ref q_depthOf, .int v_percent, .int v_random, .int v_distance, .int v_offset, .int v_value, .int v_isMade, .ref q_marks, .int v_received, .int v_unmarked, .ref q_missing, .int v_nodes, .ref q_nodeAddresses, .ref q_nodeDistances, .ref q_nodeParents, .int v_found, .ref q_foundAddress, .ref q_foundDistance, .ref q_foundParent, .int v_words, .ref q_wordAt])), (q_parentOf, .inl (cI, 20, .inl a_parentOf)), (q_addressOf, .inl (cI, 20, .inl a_addressOf))]) (w1 := []) [.int (a_depthOf y2_20.toNatClampNeg), .int y3_20, .int r8] [.ref q_marks] [] [0, 1, 2, 3, 4] hx hb hml hown hts (mX6_placeOf l dC dI cI H.size (a_depthOf y2_20.toNatClampNeg) y3_20 r8 h9) (va_cwS 3 hts gX6_isPathComplete_X6_placeOf rfl rfl rfl (by decide +kernel) ⟨Nat.le_of_ble_eq_true rfl, Nat.le_of_ble_eq_true rfl⟩) hK hN hP hD hS hA rfl rfl (by decide) (by decide) (by decide) rfl hl.1 rfl (Nat.le_of_ble_eq_true rfl) dX6_isPathComplete_42 ⟨Nat.zero_le _, Nat.zero_le _⟩ (fun H locs hP hD hS hz9 => ?_)
                have hP : va_P (dC, dI) vwCl [(q_depthOf, .inl (cI, 20, .inl a_depthOf)), (q_marks, .inl (cI, 4096, .inl a_marks)), (h0, .inr (6, [.int v_routers, .ref q_parentOf, .ref q_addressOf, .ref q_depthOf, .int v_percent, .int v_random, .int v_distance, .int v_offset, .int v_value, .int v_isMade, .ref q_marks, .int v_received, .int v_unmarked, .ref q_missing, .int v_nodes, .ref q_nodeAddresses, .ref q_nodeDistances, .ref q_nodeParents, .int v_found, .ref q_foundAddress, .ref q_foundDistance, .ref q_foundParent, .int v_words, .ref q_wordAt])), (q_parentOf, .inl (cI, 20, .inl a_parentOf)), (q_addressOf, .inl (cI, 20, .inl a_addressOf))] H := hP
                have hD : va_D A [(q_depthOf, .inl (cI, 20, .inl a_depthOf)), (q_marks, .inl (cI, 4096, .inl a_marks)), (h0, .inr (6, [.int v_routers, .ref q_parentOf, .ref q_addressOf, .ref q_depthOf, .int v_percent, .int v_random, .int v_distance, .int v_offset, .int v_value, .int v_isMade, .ref q_marks, .int v_received, .int v_unmarked, .ref q_missing, .int v_nodes, .ref q_nodeAddresses, .ref q_nodeDistances, .ref q_nodeParents, .int v_found, .ref q_foundAddress, .ref q_foundDistance, .ref q_foundParent, .int v_words, .ref q_wordAt])), (q_parentOf, .inl (cI, 20, .inl a_parentOf)), (q_addressOf, .inl (cI, 20, .inl a_addressOf))] := hD
                obtain ⟨g10, h⟩ := gd_e h
                refine va_iald hx hb hK hP 1 0 rfl rfl g10 dX6_isPathComplete_45 ?_
                refine lv_if_ne (tgt := 51) hx hb dX6_isPathComplete_46 (by decide) (fun c11 => ?_) (fun c11 => ?_)
                · have h := it_n c11 h
                  refine lv_iinc (v := y3_20 + 1) (lv' := [(3, .int (y3_20 + 1)), (2, .int y2_20), (0, .ref h0), (1, .int p1)]) hx hb dX6_isPathComplete_51 hl (k := 0) rfl rfl (by decide) rfl (fun ls hl => ?_)
                  refine lv_goto (tgt := 20) hx hb dX6_isPathComplete_54 (by decide) ?_
                  cases Option.some.inj h
                  exact ih2 _ _ _ _ (un_l hk2) (hP.sub [3, 4, 0, 1, 2] rfl) (hD.sub [3, 4, 0, 1, 2] (by decide) rfl) hS (lv_sub hl [0, 1, 2, 3] rfl)
                · have h := it_p c11 h
                  refine lv_iconst (v := (0 : Int32)) hx hb dX6_isPathComplete_49 (by decide) ?_
                  cases Option.some.inj h
                  have hk2 := un_r hk2
                  cases hk2
                  have hk1 := un_r hk1
                  cases hk1
                  exact re_i [2, 3, 4, 0, 1] hx hb hr hlocks rfl hP hD hS rfl (by decide) rfl dX6_isPathComplete_50
          exact key20 y2_12 N _ _ _ _ h hP hD hS hl
    exact key12 N _ _ _ _ h hP hD hS hl
  · have h := it_p c2 h
    refine lv_iconst (v := (-1 : Int32)) hx hb dX6_isPathComplete_8 (by decide) ?_
    have hk0 := Option.some.inj h
    cases hk0
    exact re_i [4, 0, 1, 2, 3] hx hb hr hlocks rfl hP hD hS rfl (by decide) rfl dX6_isPathComplete_9
def bX6_startsTrial_2 (p1 : Int32) (a_depthOf : Nat → Int32) (y2_2 : Int32) (a_missing_2 : Nat → Int32) : Option ((Int32 × (Nat → Int32)) ⊕ ((Nat → Int32))) :=
  if (20 : Int32) ≤ y2_2 then
    some (.inr (a_missing_2))
  else
    if ¬ (p1 < 0 ∨ 20 ≤ p1.toNatClampNeg) then
      if (a_depthOf p1.toNatClampNeg) < y2_2 then
        if ¬ (y2_2 < 0 ∨ 20 ≤ y2_2.toNatClampNeg) then
          some (.inl ((y2_2 + 1), (upd a_missing_2 y2_2.toNatClampNeg (0 : Int32))))
        else none
      else
        if ¬ (y2_2 < 0 ∨ 20 ≤ y2_2.toNatClampNeg) then
          some (.inl ((y2_2 + 1), (upd a_missing_2 y2_2.toNatClampNeg (15 : Int32))))
        else none
    else none
def fX6_startsTrial (N : Nat) (p1 : Int32) (a_depthOf : Nat → Int32) (a_missing : Nat → Int32) : Option ((Nat → Int32)) :=
  lp (fun s => bX6_startsTrial_2 p1 a_depthOf s.1 s.2) N ((0 : Int32), a_missing)
set_option maxHeartbeats 4000000 in
set_option maxRecDepth 100000 in
theorem mX6_startsTrial (l : Launch) (dC : Nat → ClassId) (dI : Nat → Nat → Nat) (cI : ClassId) (sz : Nat) (N : Nat) (h0 : Nat) (q_parentOf : Nat) (q_addressOf : Nat) (q_depthOf : Nat) (q_marks : Nat) (q_missing : Nat) (q_nodeAddresses : Nat) (q_nodeDistances : Nat) (q_nodeParents : Nat) (q_foundAddress : Nat) (q_foundDistance : Nat) (q_foundParent : Nat) (q_wordAt : Nat) (v_routers : Int32) (v_percent : Int32) (v_random : Int32) (v_distance : Int32) (v_offset : Int32) (v_value : Int32) (v_isMade : Int32) (v_received : Int32) (v_unmarked : Int32) (v_nodes : Int32) (v_found : Int32) (v_words : Int32) (a_depthOf : Nat → Int32) (a_missing : Nat → Int32) (p1 : Int32) {o_missing : Nat → Int32} (h : fX6_startsTrial N p1 a_depthOf a_missing = some o_missing) : Met l yX6_startsTrial wsX6_startsTrial ({ frames := 0, cells := 0, slots := 0, locals := 0 } : Room) (prX dC dI cI [.ref h0, .int p1] sz [(h0, .inr (6, [.int v_routers, .ref q_parentOf, .ref q_addressOf, .ref q_depthOf, .int v_percent, .int v_random, .int v_distance, .int v_offset, .int v_value, .int v_isMade, .ref q_marks, .int v_received, .int v_unmarked, .ref q_missing, .int v_nodes, .ref q_nodeAddresses, .ref q_nodeDistances, .ref q_nodeParents, .int v_found, .ref q_foundAddress, .ref q_foundDistance, .ref q_foundParent, .int v_words, .ref q_wordAt])), (q_depthOf, .inl (cI, 20, .inl a_depthOf)), (q_missing, .inl (cI, 20, .inl a_missing))]) (poV dC dI [(h0, .inr (6, [.int v_routers, .ref q_parentOf, .ref q_addressOf, .ref q_depthOf, .int v_percent, .int v_random, .int v_distance, .int v_offset, .int v_value, .int v_isMade, .ref q_marks, .int v_received, .int v_unmarked, .ref q_missing, .int v_nodes, .ref q_nodeAddresses, .ref q_nodeDistances, .ref q_nodeParents, .int v_found, .ref q_foundAddress, .ref q_foundDistance, .ref q_foundParent, .int v_words, .ref q_wordAt])), (q_depthOf, .inl (cI, 20, .inl a_depthOf)), (q_missing, .inl (cI, 20, .inl o_missing))] (va_A [(h0, .inr (6, [.int v_routers, .ref q_parentOf, .ref q_addressOf, .ref q_depthOf, .int v_percent, .int v_random, .int v_distance, .int v_offset, .int v_value, .int v_isMade, .ref q_marks, .int v_received, .int v_unmarked, .ref q_missing, .int v_nodes, .ref q_nodeAddresses, .ref q_nodeDistances, .ref q_nodeParents, .int v_found, .ref q_foundAddress, .ref q_foundDistance, .ref q_foundParent, .int v_words, .ref q_wordAt])), (q_depthOf, .inl (cI, 20, .inl a_depthOf)), (q_missing, .inl (cI, 20, .inl a_missing))] sz)) 0 0 (va_A [(h0, .inr (6, [.int v_routers, .ref q_parentOf, .ref q_addressOf, .ref q_depthOf, .int v_percent, .int v_random, .int v_distance, .int v_offset, .int v_value, .int v_isMade, .ref q_marks, .int v_received, .int v_unmarked, .ref q_missing, .int v_nodes, .ref q_nodeAddresses, .ref q_nodeDistances, .ref q_nodeParents, .int v_found, .ref q_foundAddress, .ref q_foundDistance, .ref q_foundParent, .int v_words, .ref q_wordAt])), (q_depthOf, .inl (cI, 20, .inl a_depthOf)), (q_missing, .inl (cI, 20, .inl a_missing))] sz) := by
  refine ofX (cc := cX6_startsTrial) (maxL := 3) (ret := none) (lv0 := [(0, .ref h0), (1, .int p1)]) (QA := fun A => poV dC dI [(h0, .inr (6, [.int v_routers, .ref q_parentOf, .ref q_addressOf, .ref q_depthOf, .int v_percent, .int v_random, .int v_distance, .int v_offset, .int v_value, .int v_isMade, .ref q_marks, .int v_received, .int v_unmarked, .ref q_missing, .int v_nodes, .ref q_nodeAddresses, .ref q_nodeDistances, .ref q_nodeParents, .int v_found, .ref q_foundAddress, .ref q_foundDistance, .ref q_foundParent, .int v_words, .ref q_wordAt])), (q_depthOf, .inl (cI, 20, .inl a_depthOf)), (q_missing, .inl (cI, 20, .inl o_missing))] A) (by decide) rfl (Nat.le_of_ble_eq_true rfl) rfl ?_
  intro p e s m below meth c A ls H locs hx hb hr hml hown hts hlocks hin hK hN hA hP hD hS hl
  have hown : s.vm.findClass RX6 = some m.cls := hown
  unfold fX6_startsTrial at h
  have hiX6 : ∀ w ∈ u_ws RX6 TX6 24, w ∈ wsX6_startsTrial := fun _ h => List.mem_cons_of_mem _ (List.mem_append_right _ h)
  have hf22 := (hts (.fieldLink RX6 22 "PacketTracebackModel" "missing" "[I") (List.mem_of_getElem? (i := 1) (by decide +kernel)))
  have hf16 := (hts (.fieldLink RX6 16 "PacketTracebackModel" "depthOf" "[I") (List.mem_of_getElem? (i := 2) (by decide +kernel)))
  refine lv_iconst (v := (0 : Int32)) hx hb dX6_startsTrial_0 (by decide) ?_
  refine lv_istore_n (lv' := [(2, .int (0 : Int32)), (0, .ref h0), (1, .int p1)]) hx hb dX6_startsTrial_1 rfl hl (by decide) rfl (fun ls hl => ?_)
  have key2 : ∀ (n1 : Nat) (y2_2 : Int32) (a_missing_2 : Nat → Int32) (H : Heap) (locs : List Loc) (ls : Array Slot), lp (fun s => bX6_startsTrial_2 p1 a_depthOf s.1 s.2) n1 (y2_2, a_missing_2) = some o_missing → va_P (dC, dI) vwCl [(h0, .inr (6, [.int v_routers, .ref q_parentOf, .ref q_addressOf, .ref q_depthOf, .int v_percent, .int v_random, .int v_distance, .int v_offset, .int v_value, .int v_isMade, .ref q_marks, .int v_received, .int v_unmarked, .ref q_missing, .int v_nodes, .ref q_nodeAddresses, .ref q_nodeDistances, .ref q_nodeParents, .int v_found, .ref q_foundAddress, .ref q_foundDistance, .ref q_foundParent, .int v_words, .ref q_wordAt])), (q_depthOf, .inl (cI, 20, .inl a_depthOf)), (q_missing, .inl (cI, 20, .inl a_missing_2))] H → va_D A [(h0, .inr (6, [.int v_routers, .ref q_parentOf, .ref q_addressOf, .ref q_depthOf, .int v_percent, .int v_random, .int v_distance, .int v_offset, .int v_value, .int v_isMade, .ref q_marks, .int v_received, .int v_unmarked, .ref q_missing, .int v_nodes, .ref q_nodeAddresses, .ref q_nodeDistances, .ref q_nodeParents, .int v_found, .ref q_foundAddress, .ref q_foundDistance, .ref q_foundParent, .int v_words, .ref q_wordAt])), (q_depthOf, .inl (cI, 20, .inl a_depthOf)), (q_missing, .inl (cI, 20, .inl a_missing_2))] → va_S A s.heap H locs → lv_has ls 3 [(2, .int y2_2), (0, .ref h0), (1, .int p1)] → W p l e ({ frames := 0, cells := 0, slots := 0, locals := 0 } : Room) s m [.ref h0, .int p1].toArray below meth c H locs 0 0 (MQ below (poV dC dI [(h0, .inr (6, [.int v_routers, .ref q_parentOf, .ref q_addressOf, .ref q_depthOf, .int v_percent, .int v_random, .int v_distance, .int v_offset, .int v_value, .int v_isMade, .ref q_marks, .int v_received, .int v_unmarked, .ref q_missing, .int v_nodes, .ref q_nodeAddresses, .ref q_nodeDistances, .ref q_nodeParents, .int v_found, .ref q_foundAddress, .ref q_foundDistance, .ref q_foundParent, .int v_words, .ref q_wordAt])), (q_depthOf, .inl (cI, 20, .inl a_depthOf)), (q_missing, .inl (cI, 20, .inl o_missing))] A) [.ref h0, .int p1].toArray s 0 0 A) (F0 m 2 ls []) := by
    intro n1
    induction n1 with
    | zero =>
      intro y2_2 a_missing_2 H locs ls h
      exact (lp_0 h).elim
    | succ n1 ih1 =>
      intro y2_2 a_missing_2 H locs ls h hP hD hS hl
      obtain ⟨o1, h, hk1⟩ := lp_s h
      unfold bX6_startsTrial_2 at h
      try dsimp only at h
      refine lv_iload_n hx hb dX6_startsTrial_2 rfl (lv_at hl 0 rfl) ?_
      refine lv_bipush (v := (20 : Int32)) hx hb dX6_startsTrial_3 (by decide) ?_
      refine lv_icmp_ge (tgt := 36) hx hb dX6_startsTrial_5 (by decide) (fun c1 => ?_) (fun c1 => ?_)
      · have h := it_p c1 h
        cases Option.some.inj h
        have hk1 := un_r hk1
        cases hk1
        exact re_v [0, 1, 2] hx hb hr hlocks hP hD hS rfl (by decide) dX6_startsTrial_36
      · have h := it_n c1 h
        refine lv_aload_n hx hb dX6_startsTrial_8 rfl (lv_at hl 1 rfl) ?_
        refine va_get (D := (dC, dI)) (ci := 6) (v := .ref q_missing) (C := RX6) (T := TX6) (N := 24) hx hb hts hiX6 hown hK hP 0 rfl rfl 13 (by decide) hf22 (fun _ h9 => h9) rfl dX6_startsTrial_9 ?_
        refine lv_iload_n hx hb dX6_startsTrial_12 rfl (lv_at hl 0 rfl) ?_
        refine lv_iload_n hx hb dX6_startsTrial_13 rfl (lv_at hl 0 rfl) ?_
        refine lv_aload_n hx hb dX6_startsTrial_14 rfl (lv_at hl 1 rfl) ?_
        refine va_get (D := (dC, dI)) (ci := 6) (v := .ref q_depthOf) (C := RX6) (T := TX6) (N := 24) hx hb hts hiX6 hown hK hP 0 rfl rfl 3 (by decide) hf16 (fun _ h9 => h9) rfl dX6_startsTrial_15 ?_
        refine lv_iload_n hx hb dX6_startsTrial_18 rfl (lv_at hl 2 rfl) ?_
        obtain ⟨g2, h⟩ := gd_e h
        refine va_iald hx hb hK hP 1 0 rfl rfl g2 dX6_startsTrial_19 ?_
        refine lv_icmp_gt (tgt := 28) hx hb dX6_startsTrial_20 (by decide) (fun c3 => ?_) (fun c3 => ?_)
        · have h := it_p c3 h
          refine lv_iconst (v := (0 : Int32)) hx hb dX6_startsTrial_28 (by decide) ?_
          obtain ⟨g4, h⟩ := gd_e h
          refine va_iast hx hb hK hP hD hS 2 0 rfl rfl g4 dX6_startsTrial_29 (fun H locs hP hD hS => ?_)
          have hP : va_P (dC, dI) vwCl [(h0, .inr (6, [.int v_routers, .ref q_parentOf, .ref q_addressOf, .ref q_depthOf, .int v_percent, .int v_random, .int v_distance, .int v_offset, .int v_value, .int v_isMade, .ref q_marks, .int v_received, .int v_unmarked, .ref q_missing, .int v_nodes, .ref q_nodeAddresses, .ref q_nodeDistances, .ref q_nodeParents, .int v_found, .ref q_foundAddress, .ref q_foundDistance, .ref q_foundParent, .int v_words, .ref q_wordAt])), (q_depthOf, .inl (cI, 20, .inl a_depthOf)), (q_missing, .inl (cI, 20, .inl (upd a_missing_2 y2_2.toNatClampNeg (0 : Int32))))] H := hP
          have hD : va_D A [(h0, .inr (6, [.int v_routers, .ref q_parentOf, .ref q_addressOf, .ref q_depthOf, .int v_percent, .int v_random, .int v_distance, .int v_offset, .int v_value, .int v_isMade, .ref q_marks, .int v_received, .int v_unmarked, .ref q_missing, .int v_nodes, .ref q_nodeAddresses, .ref q_nodeDistances, .ref q_nodeParents, .int v_found, .ref q_foundAddress, .ref q_foundDistance, .ref q_foundParent, .int v_words, .ref q_wordAt])), (q_depthOf, .inl (cI, 20, .inl a_depthOf)), (q_missing, .inl (cI, 20, .inl (upd a_missing_2 y2_2.toNatClampNeg (0 : Int32))))] := hD
          refine lv_iinc (v := y2_2 + 1) (lv' := [(2, .int (y2_2 + 1)), (0, .ref h0), (1, .int p1)]) hx hb dX6_startsTrial_30 hl (k := 0) rfl rfl (by decide) rfl (fun ls hl => ?_)
          refine lv_goto (tgt := 2) hx hb dX6_startsTrial_33 (by decide) ?_
          cases Option.some.inj h
          exact ih1 _ _ _ _ _ (un_l hk1) (hP.sub [0, 1, 2] rfl) (hD.sub [0, 1, 2] (by decide) rfl) hS (lv_sub hl [0, 1, 2] rfl)
        · have h := it_n c3 h
          refine lv_bipush (v := (15 : Int32)) hx hb dX6_startsTrial_23 (by decide) ?_
          refine lv_goto (tgt := 29) hx hb dX6_startsTrial_25 (by decide) ?_
          obtain ⟨g5, h⟩ := gd_e h
          refine va_iast hx hb hK hP hD hS 2 0 rfl rfl g5 dX6_startsTrial_29 (fun H locs hP hD hS => ?_)
          have hP : va_P (dC, dI) vwCl [(h0, .inr (6, [.int v_routers, .ref q_parentOf, .ref q_addressOf, .ref q_depthOf, .int v_percent, .int v_random, .int v_distance, .int v_offset, .int v_value, .int v_isMade, .ref q_marks, .int v_received, .int v_unmarked, .ref q_missing, .int v_nodes, .ref q_nodeAddresses, .ref q_nodeDistances, .ref q_nodeParents, .int v_found, .ref q_foundAddress, .ref q_foundDistance, .ref q_foundParent, .int v_words, .ref q_wordAt])), (q_depthOf, .inl (cI, 20, .inl a_depthOf)), (q_missing, .inl (cI, 20, .inl (upd a_missing_2 y2_2.toNatClampNeg (15 : Int32))))] H := hP
          have hD : va_D A [(h0, .inr (6, [.int v_routers, .ref q_parentOf, .ref q_addressOf, .ref q_depthOf, .int v_percent, .int v_random, .int v_distance, .int v_offset, .int v_value, .int v_isMade, .ref q_marks, .int v_received, .int v_unmarked, .ref q_missing, .int v_nodes, .ref q_nodeAddresses, .ref q_nodeDistances, .ref q_nodeParents, .int v_found, .ref q_foundAddress, .ref q_foundDistance, .ref q_foundParent, .int v_words, .ref q_wordAt])), (q_depthOf, .inl (cI, 20, .inl a_depthOf)), (q_missing, .inl (cI, 20, .inl (upd a_missing_2 y2_2.toNatClampNeg (15 : Int32))))] := hD
          refine lv_iinc (v := y2_2 + 1) (lv' := [(2, .int (y2_2 + 1)), (0, .ref h0), (1, .int p1)]) hx hb dX6_startsTrial_30 hl (k := 0) rfl rfl (by decide) rfl (fun ls hl => ?_)
          refine lv_goto (tgt := 2) hx hb dX6_startsTrial_33 (by decide) ?_
          cases Option.some.inj h
          exact ih1 _ _ _ _ _ (un_l hk1) (hP.sub [0, 1, 2] rfl) (hD.sub [0, 1, 2] (by decide) rfl) hS (lv_sub hl [0, 1, 2] rfl)
  exact key2 N _ _ _ _ _ h hP hD hS hl
def bX6_isTrialComplete_2 (a_missing : Nat → Int32) (y1_2 : Int32) : Option ((Int32) ⊕ (Int32)) :=
  if (20 : Int32) ≤ y1_2 then
    some (.inr (1 : Int32))
  else
    if ¬ (y1_2 < 0 ∨ 20 ≤ y1_2.toNatClampNeg) then
      if (a_missing y1_2.toNatClampNeg) = 0 then
        some (.inl (y1_2 + 1))
      else
        some (.inr (0 : Int32))
    else none
def fX6_isTrialComplete (N : Nat) (a_missing : Nat → Int32) : Option (Int32) :=
  lp (fun s => bX6_isTrialComplete_2 a_missing s) N (0 : Int32)
set_option maxHeartbeats 4000000 in
set_option maxRecDepth 100000 in
theorem mX6_isTrialComplete (l : Launch) (dC : Nat → ClassId) (dI : Nat → Nat → Nat) (cI : ClassId) (sz : Nat) (N : Nat) (h0 : Nat) (q_parentOf : Nat) (q_addressOf : Nat) (q_depthOf : Nat) (q_marks : Nat) (q_missing : Nat) (q_nodeAddresses : Nat) (q_nodeDistances : Nat) (q_nodeParents : Nat) (q_foundAddress : Nat) (q_foundDistance : Nat) (q_foundParent : Nat) (q_wordAt : Nat) (v_routers : Int32) (v_percent : Int32) (v_random : Int32) (v_distance : Int32) (v_offset : Int32) (v_value : Int32) (v_isMade : Int32) (v_received : Int32) (v_unmarked : Int32) (v_nodes : Int32) (v_found : Int32) (v_words : Int32) (a_missing : Nat → Int32) {rr : Int32} (h : fX6_isTrialComplete N a_missing = some rr) : Met l yX6_isTrialComplete wsX6_isTrialComplete ({ frames := 0, cells := 0, slots := 0, locals := 0 } : Room) (prX dC dI cI [.ref h0] sz [(h0, .inr (6, [.int v_routers, .ref q_parentOf, .ref q_addressOf, .ref q_depthOf, .int v_percent, .int v_random, .int v_distance, .int v_offset, .int v_value, .int v_isMade, .ref q_marks, .int v_received, .int v_unmarked, .ref q_missing, .int v_nodes, .ref q_nodeAddresses, .ref q_nodeDistances, .ref q_nodeParents, .int v_found, .ref q_foundAddress, .ref q_foundDistance, .ref q_foundParent, .int v_words, .ref q_wordAt])), (q_missing, .inl (cI, 20, .inl a_missing))]) (poI dC dI .boolean rr [(h0, .inr (6, [.int v_routers, .ref q_parentOf, .ref q_addressOf, .ref q_depthOf, .int v_percent, .int v_random, .int v_distance, .int v_offset, .int v_value, .int v_isMade, .ref q_marks, .int v_received, .int v_unmarked, .ref q_missing, .int v_nodes, .ref q_nodeAddresses, .ref q_nodeDistances, .ref q_nodeParents, .int v_found, .ref q_foundAddress, .ref q_foundDistance, .ref q_foundParent, .int v_words, .ref q_wordAt])), (q_missing, .inl (cI, 20, .inl a_missing))] (va_A [(h0, .inr (6, [.int v_routers, .ref q_parentOf, .ref q_addressOf, .ref q_depthOf, .int v_percent, .int v_random, .int v_distance, .int v_offset, .int v_value, .int v_isMade, .ref q_marks, .int v_received, .int v_unmarked, .ref q_missing, .int v_nodes, .ref q_nodeAddresses, .ref q_nodeDistances, .ref q_nodeParents, .int v_found, .ref q_foundAddress, .ref q_foundDistance, .ref q_foundParent, .int v_words, .ref q_wordAt])), (q_missing, .inl (cI, 20, .inl a_missing))] sz)) 0 0 (va_A [(h0, .inr (6, [.int v_routers, .ref q_parentOf, .ref q_addressOf, .ref q_depthOf, .int v_percent, .int v_random, .int v_distance, .int v_offset, .int v_value, .int v_isMade, .ref q_marks, .int v_received, .int v_unmarked, .ref q_missing, .int v_nodes, .ref q_nodeAddresses, .ref q_nodeDistances, .ref q_nodeParents, .int v_found, .ref q_foundAddress, .ref q_foundDistance, .ref q_foundParent, .int v_words, .ref q_wordAt])), (q_missing, .inl (cI, 20, .inl a_missing))] sz) := by
  refine ofX (cc := cX6_isTrialComplete) (maxL := 2) (ret := (some .boolean)) (lv0 := [(0, .ref h0)]) (QA := fun A => poI dC dI .boolean rr [(h0, .inr (6, [.int v_routers, .ref q_parentOf, .ref q_addressOf, .ref q_depthOf, .int v_percent, .int v_random, .int v_distance, .int v_offset, .int v_value, .int v_isMade, .ref q_marks, .int v_received, .int v_unmarked, .ref q_missing, .int v_nodes, .ref q_nodeAddresses, .ref q_nodeDistances, .ref q_nodeParents, .int v_found, .ref q_foundAddress, .ref q_foundDistance, .ref q_foundParent, .int v_words, .ref q_wordAt])), (q_missing, .inl (cI, 20, .inl a_missing))] A) (by decide) rfl (Nat.le_of_ble_eq_true rfl) rfl ?_
  intro p e s m below meth c A ls H locs hx hb hr hml hown hts hlocks hin hK hN hA hP hD hS hl
  have hown : s.vm.findClass RX6 = some m.cls := hown
  unfold fX6_isTrialComplete at h
  have hiX6 : ∀ w ∈ u_ws RX6 TX6 24, w ∈ wsX6_isTrialComplete := fun _ h => List.mem_cons_of_mem _ (List.mem_append_right _ h)
  have hf22 := (hts (.fieldLink RX6 22 "PacketTracebackModel" "missing" "[I") (List.mem_of_getElem? (i := 1) (by decide +kernel)))
  refine lv_iconst (v := (0 : Int32)) hx hb dX6_isTrialComplete_0 (by decide) ?_
  refine lv_istore_n (lv' := [(1, .int (0 : Int32)), (0, .ref h0)]) hx hb dX6_isTrialComplete_1 rfl hl (by decide) rfl (fun ls hl => ?_)
  have key2 : ∀ (n1 : Nat) (y1_2 : Int32) (H : Heap) (locs : List Loc) (ls : Array Slot), lp (fun s => bX6_isTrialComplete_2 a_missing s) n1 y1_2 = some rr → va_P (dC, dI) vwCl [(h0, .inr (6, [.int v_routers, .ref q_parentOf, .ref q_addressOf, .ref q_depthOf, .int v_percent, .int v_random, .int v_distance, .int v_offset, .int v_value, .int v_isMade, .ref q_marks, .int v_received, .int v_unmarked, .ref q_missing, .int v_nodes, .ref q_nodeAddresses, .ref q_nodeDistances, .ref q_nodeParents, .int v_found, .ref q_foundAddress, .ref q_foundDistance, .ref q_foundParent, .int v_words, .ref q_wordAt])), (q_missing, .inl (cI, 20, .inl a_missing))] H → va_D A [(h0, .inr (6, [.int v_routers, .ref q_parentOf, .ref q_addressOf, .ref q_depthOf, .int v_percent, .int v_random, .int v_distance, .int v_offset, .int v_value, .int v_isMade, .ref q_marks, .int v_received, .int v_unmarked, .ref q_missing, .int v_nodes, .ref q_nodeAddresses, .ref q_nodeDistances, .ref q_nodeParents, .int v_found, .ref q_foundAddress, .ref q_foundDistance, .ref q_foundParent, .int v_words, .ref q_wordAt])), (q_missing, .inl (cI, 20, .inl a_missing))] → va_S A s.heap H locs → lv_has ls 2 [(1, .int y1_2), (0, .ref h0)] → W p l e ({ frames := 0, cells := 0, slots := 0, locals := 0 } : Room) s m [.ref h0].toArray below meth c H locs 0 0 (MQ below (poI dC dI .boolean rr [(h0, .inr (6, [.int v_routers, .ref q_parentOf, .ref q_addressOf, .ref q_depthOf, .int v_percent, .int v_random, .int v_distance, .int v_offset, .int v_value, .int v_isMade, .ref q_marks, .int v_received, .int v_unmarked, .ref q_missing, .int v_nodes, .ref q_nodeAddresses, .ref q_nodeDistances, .ref q_nodeParents, .int v_found, .ref q_foundAddress, .ref q_foundDistance, .ref q_foundParent, .int v_words, .ref q_wordAt])), (q_missing, .inl (cI, 20, .inl a_missing))] A) [.ref h0].toArray s 0 0 A) (F0 m 2 ls []) := by
    intro n1
    induction n1 with
    | zero =>
      intro y1_2 H locs ls h
      exact (lp_0 h).elim
    | succ n1 ih1 =>
      intro y1_2 H locs ls h hP hD hS hl
      obtain ⟨o1, h, hk1⟩ := lp_s h
      unfold bX6_isTrialComplete_2 at h
      try dsimp only at h
      refine lv_iload_n hx hb dX6_isTrialComplete_2 rfl (lv_at hl 0 rfl) ?_
      refine lv_bipush (v := (20 : Int32)) hx hb dX6_isTrialComplete_3 (by decide) ?_
      refine lv_icmp_ge (tgt := 25) hx hb dX6_isTrialComplete_5 (by decide) (fun c1 => ?_) (fun c1 => ?_)
      · have h := it_p c1 h
        refine lv_iconst (v := (1 : Int32)) hx hb dX6_isTrialComplete_25 (by decide) ?_
        cases Option.some.inj h
        have hk1 := un_r hk1
        cases hk1
        exact re_i [0, 1] hx hb hr hlocks rfl hP hD hS rfl (by decide) rfl dX6_isTrialComplete_26
      · have h := it_n c1 h
        refine lv_aload_n hx hb dX6_isTrialComplete_8 rfl (lv_at hl 1 rfl) ?_
        refine va_get (D := (dC, dI)) (ci := 6) (v := .ref q_missing) (C := RX6) (T := TX6) (N := 24) hx hb hts hiX6 hown hK hP 0 rfl rfl 13 (by decide) hf22 (fun _ h9 => h9) rfl dX6_isTrialComplete_9 ?_
        refine lv_iload_n hx hb dX6_isTrialComplete_12 rfl (lv_at hl 0 rfl) ?_
        obtain ⟨g2, h⟩ := gd_e h
        refine va_iald hx hb hK hP 1 0 rfl rfl g2 dX6_isTrialComplete_13 ?_
        refine lv_if_eq (tgt := 19) hx hb dX6_isTrialComplete_14 (by decide) (fun c3 => ?_) (fun c3 => ?_)
        · have h := it_p c3 h
          refine lv_iinc (v := y1_2 + 1) (lv' := [(1, .int (y1_2 + 1)), (0, .ref h0)]) hx hb dX6_isTrialComplete_19 hl (k := 0) rfl rfl (by decide) rfl (fun ls hl => ?_)
          refine lv_goto (tgt := 2) hx hb dX6_isTrialComplete_22 (by decide) ?_
          cases Option.some.inj h
          exact ih1 _ _ _ _ (un_l hk1) (hP.sub [0, 1] rfl) (hD.sub [0, 1] (by decide) rfl) hS (lv_sub hl [0, 1] rfl)
        · have h := it_n c3 h
          refine lv_iconst (v := (0 : Int32)) hx hb dX6_isTrialComplete_17 (by decide) ?_
          cases Option.some.inj h
          have hk1 := un_r hk1
          cases hk1
          exact re_i [0, 1] hx hb hr hlocks rfl hP hD hS rfl (by decide) rfl dX6_isTrialComplete_18
  exact key2 N _ _ _ _ h hP hD hS hl
def bX6_packetsNeeded_37 (N : Nat) (p1 : Int32) (p2 : Int32) (v_percent : Int32) (a_parentOf : Nat → Int32) (a_addressOf : Nat → Int32) (y3_37 : Int32) (y4_37 : Int32) (v_random_37 : Int32) (v_distance_37 : Int32) (v_offset_37 : Int32) (v_value_37 : Int32) (v_isMade_37 : Int32) (a_missing_37 : Nat → Int32) : Option ((Int32 × Int32 × Int32 × Int32 × Int32 × Int32 × (Nat → Int32)) ⊕ (Int32 × Int32 × Int32 × Int32 × Int32 × Int32 × (Nat → Int32))) :=
  if p2 ≤ y4_37 then
    bd1 (fX6_isTrialComplete N a_missing_37) fun r7 =>
    if r7 = 0 then
      some (.inr ((-7 : Int32), y3_37, v_distance_37, v_offset_37, v_value_37, v_isMade_37, a_missing_37))
    else
      some (.inr (y4_37, y3_37, v_distance_37, v_offset_37, v_value_37, v_isMade_37, a_missing_37))
  else
    bd1 (fX6_isTrialComplete N a_missing_37) fun r9 =>
    if r9 = 0 then
      bd5 (fX6_travels N p1 v_percent v_random_37 (-7 : Int32) v_offset_37 v_value_37 v_isMade_37 a_parentOf a_addressOf) fun s_random_13 s_distance_13 s_offset_13 s_value_13 s_isMade_13 =>
      if s_distance_13 = (-7 : Int32) then
        some (.inl ((y4_37 + 1), s_random_13, s_distance_13, s_offset_13, s_value_13, s_isMade_13, a_missing_37))
      else
        if ¬ (s_distance_13 < 0 ∨ 20 ≤ s_distance_13.toNatClampNeg) then
          if ¬ (s_distance_13 < 0 ∨ 20 ≤ s_distance_13.toNatClampNeg) then
            some (.inl ((y4_37 + 1), s_random_13, s_distance_13, s_offset_13, s_value_13, s_isMade_13, (upd a_missing_37 s_distance_13.toNatClampNeg ((a_missing_37 s_distance_13.toNatClampNeg) &&& (((1 : Int32) <<< (s_offset_13 &&& 31)) ^^^ (-1 : Int32))))))
          else none
        else none
    else
      bd1 (fX6_isTrialComplete N a_missing_37) fun r11 =>
      if r11 = 0 then
        some (.inr ((-7 : Int32), y3_37, v_distance_37, v_offset_37, v_value_37, v_isMade_37, a_missing_37))
      else
        some (.inr (y4_37, y3_37, v_distance_37, v_offset_37, v_value_37, v_isMade_37, a_missing_37))
def fX6_packetsNeeded (N : Nat) (p1 : Int32) (p2 : Int32) (v_routers : Int32) (v_percent : Int32) (v_random : Int32) (v_distance : Int32) (v_offset : Int32) (v_value : Int32) (v_isMade : Int32) (a_parentOf : Nat → Int32) (a_addressOf : Nat → Int32) (a_depthOf : Nat → Int32) (a_missing : Nat → Int32) : Option (Int32 × Int32 × Int32 × Int32 × Int32 × Int32 × (Nat → Int32)) :=
  bd1 (fX6_isRouter p1 v_routers) fun r1 =>
  if r1 = 0 then
    some ((-1 : Int32), v_random, v_distance, v_offset, v_value, v_isMade, a_missing)
  else
    bd1 (fX6_within p2 (1 : Int32) (2000 : Int32)) fun r3 =>
    if r3 = 0 then
      some ((-2 : Int32), v_random, v_distance, v_offset, v_value, v_isMade, a_missing)
    else
      bd1 (fX6_startsTrial N p1 a_depthOf a_missing) fun s_missing_5 =>
      lp (fun s => bX6_packetsNeeded_37 N p1 p2 v_percent a_parentOf a_addressOf v_random s.1 s.2.1 s.2.2.1 s.2.2.2.1 s.2.2.2.2.1 s.2.2.2.2.2.1 s.2.2.2.2.2.2) N ((0 : Int32), v_random, v_distance, v_offset, v_value, v_isMade, s_missing_5)
set_option maxHeartbeats 4000000 in
set_option maxRecDepth 100000 in
theorem mX6_packetsNeeded (l : Launch) (dC : Nat → ClassId) (dI : Nat → Nat → Nat) (cI : ClassId) (sz : Nat) (N : Nat) (h0 : Nat) (q_parentOf : Nat) (q_addressOf : Nat) (q_depthOf : Nat) (q_marks : Nat) (q_missing : Nat) (q_nodeAddresses : Nat) (q_nodeDistances : Nat) (q_nodeParents : Nat) (q_foundAddress : Nat) (q_foundDistance : Nat) (q_foundParent : Nat) (q_wordAt : Nat) (v_routers : Int32) (v_percent : Int32) (v_random : Int32) (v_distance : Int32) (v_offset : Int32) (v_value : Int32) (v_isMade : Int32) (v_received : Int32) (v_unmarked : Int32) (v_nodes : Int32) (v_found : Int32) (v_words : Int32) (a_parentOf : Nat → Int32) (a_addressOf : Nat → Int32) (a_depthOf : Nat → Int32) (a_missing : Nat → Int32) (p1 : Int32) (p2 : Int32) {rr : Int32} {o_random : Int32} {o_distance : Int32} {o_offset : Int32} {o_value : Int32} {o_isMade : Int32} {o_missing : Nat → Int32} (h : fX6_packetsNeeded N p1 p2 v_routers v_percent v_random v_distance v_offset v_value v_isMade a_parentOf a_addressOf a_depthOf a_missing = some (rr, o_random, o_distance, o_offset, o_value, o_isMade, o_missing)) : Met l yX6_packetsNeeded wsX6_packetsNeeded ({ frames := 4, cells := 0, slots := 0, locals := 84 } : Room) (prX dC dI cI [.ref h0, .int p1, .int p2] sz [(h0, .inr (6, [.int v_routers, .ref q_parentOf, .ref q_addressOf, .ref q_depthOf, .int v_percent, .int v_random, .int v_distance, .int v_offset, .int v_value, .int v_isMade, .ref q_marks, .int v_received, .int v_unmarked, .ref q_missing, .int v_nodes, .ref q_nodeAddresses, .ref q_nodeDistances, .ref q_nodeParents, .int v_found, .ref q_foundAddress, .ref q_foundDistance, .ref q_foundParent, .int v_words, .ref q_wordAt])), (q_parentOf, .inl (cI, 20, .inl a_parentOf)), (q_addressOf, .inl (cI, 20, .inl a_addressOf)), (q_depthOf, .inl (cI, 20, .inl a_depthOf)), (q_missing, .inl (cI, 20, .inl a_missing))]) (poI dC dI .int rr [(h0, .inr (6, [.int v_routers, .ref q_parentOf, .ref q_addressOf, .ref q_depthOf, .int v_percent, .int o_random, .int o_distance, .int o_offset, .int o_value, .int o_isMade, .ref q_marks, .int v_received, .int v_unmarked, .ref q_missing, .int v_nodes, .ref q_nodeAddresses, .ref q_nodeDistances, .ref q_nodeParents, .int v_found, .ref q_foundAddress, .ref q_foundDistance, .ref q_foundParent, .int v_words, .ref q_wordAt])), (q_parentOf, .inl (cI, 20, .inl a_parentOf)), (q_addressOf, .inl (cI, 20, .inl a_addressOf)), (q_depthOf, .inl (cI, 20, .inl a_depthOf)), (q_missing, .inl (cI, 20, .inl o_missing))] (va_A [(h0, .inr (6, [.int v_routers, .ref q_parentOf, .ref q_addressOf, .ref q_depthOf, .int v_percent, .int v_random, .int v_distance, .int v_offset, .int v_value, .int v_isMade, .ref q_marks, .int v_received, .int v_unmarked, .ref q_missing, .int v_nodes, .ref q_nodeAddresses, .ref q_nodeDistances, .ref q_nodeParents, .int v_found, .ref q_foundAddress, .ref q_foundDistance, .ref q_foundParent, .int v_words, .ref q_wordAt])), (q_parentOf, .inl (cI, 20, .inl a_parentOf)), (q_addressOf, .inl (cI, 20, .inl a_addressOf)), (q_depthOf, .inl (cI, 20, .inl a_depthOf)), (q_missing, .inl (cI, 20, .inl a_missing))] sz)) 0 0 (va_A [(h0, .inr (6, [.int v_routers, .ref q_parentOf, .ref q_addressOf, .ref q_depthOf, .int v_percent, .int v_random, .int v_distance, .int v_offset, .int v_value, .int v_isMade, .ref q_marks, .int v_received, .int v_unmarked, .ref q_missing, .int v_nodes, .ref q_nodeAddresses, .ref q_nodeDistances, .ref q_nodeParents, .int v_found, .ref q_foundAddress, .ref q_foundDistance, .ref q_foundParent, .int v_words, .ref q_wordAt])), (q_parentOf, .inl (cI, 20, .inl a_parentOf)), (q_addressOf, .inl (cI, 20, .inl a_addressOf)), (q_depthOf, .inl (cI, 20, .inl a_depthOf)), (q_missing, .inl (cI, 20, .inl a_missing))] sz) := by
  refine ofX (cc := cX6_packetsNeeded) (maxL := 5) (ret := (some .int)) (lv0 := [(0, .ref h0), (1, .int p1), (2, .int p2)]) (QA := fun A => poI dC dI .int rr [(h0, .inr (6, [.int v_routers, .ref q_parentOf, .ref q_addressOf, .ref q_depthOf, .int v_percent, .int o_random, .int o_distance, .int o_offset, .int o_value, .int o_isMade, .ref q_marks, .int v_received, .int v_unmarked, .ref q_missing, .int v_nodes, .ref q_nodeAddresses, .ref q_nodeDistances, .ref q_nodeParents, .int v_found, .ref q_foundAddress, .ref q_foundDistance, .ref q_foundParent, .int v_words, .ref q_wordAt])), (q_parentOf, .inl (cI, 20, .inl a_parentOf)), (q_addressOf, .inl (cI, 20, .inl a_addressOf)), (q_depthOf, .inl (cI, 20, .inl a_depthOf)), (q_missing, .inl (cI, 20, .inl o_missing))] A) (by decide) rfl (Nat.le_of_ble_eq_true rfl) rfl ?_
  intro p e s m below meth c A ls H locs hx hb hr hml hown hts hlocks hin hK hN hA hP hD hS hl
  have hown : s.vm.findClass RX6 = some m.cls := hown
  unfold fX6_packetsNeeded at h
  have hiX6 : ∀ w ∈ u_ws RX6 TX6 24, w ∈ wsX6_packetsNeeded := fun _ h => List.mem_cons_of_mem _ (List.mem_append_right _ h)
  have hf50 := (hts (.fieldLink RX6 50 "PacketTracebackModel" "random" "I") (List.mem_of_getElem? (i := 1) (by decide +kernel)))
  have hf89 := (hts (.fieldLink RX6 89 "PacketTracebackModel" "distance" "I") (List.mem_of_getElem? (i := 2) (by decide +kernel)))
  have hf22 := (hts (.fieldLink RX6 22 "PacketTracebackModel" "missing" "[I") (List.mem_of_getElem? (i := 3) (by decide +kernel)))
  have hf86 := (hts (.fieldLink RX6 86 "PacketTracebackModel" "offset" "I") (List.mem_of_getElem? (i := 4) (by decide +kernel)))
  refine lv_aload_n hx hb dX6_packetsNeeded_0 rfl (lv_at hl 0 rfl) ?_
  refine lv_iload_n hx hb dX6_packetsNeeded_1 rfl (lv_at hl 1 rfl) ?_
  obtain ⟨r1, h1, h⟩ := bd1_e h
  refine ca_Vi (wc := [(h0, .inr (6, [.int v_routers, .ref q_parentOf, .ref q_addressOf, .ref q_depthOf, .int v_percent, .int v_random, .int v_distance, .int v_offset, .int v_value, .int v_isMade, .ref q_marks, .int v_received, .int v_unmarked, .ref q_missing, .int v_nodes, .ref q_nodeAddresses, .ref q_nodeDistances, .ref q_nodeParents, .int v_found, .ref q_foundAddress, .ref q_foundDistance, .ref q_foundParent, .int v_words, .ref q_wordAt]))]) (wr := [(q_parentOf, .inl (cI, 20, .inl a_parentOf)), (q_addressOf, .inl (cI, 20, .inl a_addressOf)), (q_depthOf, .inl (cI, 20, .inl a_depthOf)), (q_missing, .inl (cI, 20, .inl a_missing))]) (w1 := [(h0, .inr (6, [.int v_routers, .ref q_parentOf, .ref q_addressOf, .ref q_depthOf, .int v_percent, .int v_random, .int v_distance, .int v_offset, .int v_value, .int v_isMade, .ref q_marks, .int v_received, .int v_unmarked, .ref q_missing, .int v_nodes, .ref q_nodeAddresses, .ref q_nodeDistances, .ref q_nodeParents, .int v_found, .ref q_foundAddress, .ref q_foundDistance, .ref q_foundParent, .int v_words, .ref q_wordAt]))]) [.int p1] [] [0] [1, 2, 3, 4] hx hb hml hown hts (mX6_isRouter l dC dI cI H.size h0 q_parentOf q_addressOf q_depthOf q_marks q_missing q_nodeAddresses q_nodeDistances q_nodeParents q_foundAddress q_foundDistance q_foundParent q_wordAt v_routers v_percent v_random v_distance v_offset v_value v_isMade v_received v_unmarked v_nodes v_found v_words p1 h1) (cwV 1 hts gX6_packetsNeeded_X6_isRouter rfl rfl rfl (by decide +kernel) ⟨Nat.le_of_ble_eq_true rfl, Nat.le_of_ble_eq_true rfl⟩) hK hN hP hD hS hA rfl rfl (by decide) (by decide) (by decide) rfl rfl rfl hl.1 rfl (Nat.le_of_ble_eq_true rfl) dX6_packetsNeeded_2 ⟨Nat.zero_le _, Nat.zero_le _⟩ (fun H locs hP hD hS hz1 => ?_)
  have hP : va_P (dC, dI) vwCl [(q_parentOf, .inl (cI, 20, .inl a_parentOf)), (q_addressOf, .inl (cI, 20, .inl a_addressOf)), (q_depthOf, .inl (cI, 20, .inl a_depthOf)), (q_missing, .inl (cI, 20, .inl a_missing)), (h0, .inr (6, [.int v_routers, .ref q_parentOf, .ref q_addressOf, .ref q_depthOf, .int v_percent, .int v_random, .int v_distance, .int v_offset, .int v_value, .int v_isMade, .ref q_marks, .int v_received, .int v_unmarked, .ref q_missing, .int v_nodes, .ref q_nodeAddresses, .ref q_nodeDistances, .ref q_nodeParents, .int v_found, .ref q_foundAddress, .ref q_foundDistance, .ref q_foundParent, .int v_words, .ref q_wordAt]))] H := hP
  have hD : va_D A [(q_parentOf, .inl (cI, 20, .inl a_parentOf)), (q_addressOf, .inl (cI, 20, .inl a_addressOf)), (q_depthOf, .inl (cI, 20, .inl a_depthOf)), (q_missing, .inl (cI, 20, .inl a_missing)), (h0, .inr (6, [.int v_routers, .ref q_parentOf, .ref q_addressOf, .ref q_depthOf, .int v_percent, .int v_random, .int v_distance, .int v_offset, .int v_value, .int v_isMade, .ref q_marks, .int v_received, .int v_unmarked, .ref q_missing, .int v_nodes, .ref q_nodeAddresses, .ref q_nodeDistances, .ref q_nodeParents, .int v_found, .ref q_foundAddress, .ref q_foundDistance, .ref q_foundParent, .int v_words, .ref q_wordAt]))] := hD
  refine lv_if_ne (tgt := 10) hx hb dX6_packetsNeeded_5 (by decide) (fun c2 => ?_) (fun c2 => ?_)
  · have h := it_n c2 h
    refine lv_iload_n hx hb dX6_packetsNeeded_10 rfl (lv_at hl 2 rfl) ?_
    refine lv_iconst (v := (1 : Int32)) hx hb dX6_packetsNeeded_11 (by decide) ?_
    refine lv_sipush (v := (2000 : Int32)) hx hb dX6_packetsNeeded_12 (by decide) ?_
    obtain ⟨r3, h3, h⟩ := bd1_e h
    refine ca_Si (wc := []) (wr := [(q_parentOf, .inl (cI, 20, .inl a_parentOf)), (q_addressOf, .inl (cI, 20, .inl a_addressOf)), (q_depthOf, .inl (cI, 20, .inl a_depthOf)), (q_missing, .inl (cI, 20, .inl a_missing)), (h0, .inr (6, [.int v_routers, .ref q_parentOf, .ref q_addressOf, .ref q_depthOf, .int v_percent, .int v_random, .int v_distance, .int v_offset, .int v_value, .int v_isMade, .ref q_marks, .int v_received, .int v_unmarked, .ref q_missing, .int v_nodes, .ref q_nodeAddresses, .ref q_nodeDistances, .ref q_nodeParents, .int v_found, .ref q_foundAddress, .ref q_foundDistance, .ref q_foundParent, .int v_words, .ref q_wordAt]))]) (w1 := []) [.int p2, .int (1 : Int32), .int (2000 : Int32)] [] [] [0, 1, 2, 3, 4] hx hb hml hown hts (mX6_within l dC dI cI H.size p2 (1 : Int32) (2000 : Int32) h3) (va_cwS 3 hts gX6_packetsNeeded_X6_within rfl rfl rfl (by decide +kernel) ⟨Nat.le_of_ble_eq_true rfl, Nat.le_of_ble_eq_true rfl⟩) hK hN hP hD hS hA rfl rfl (by decide) (by decide) (by decide) rfl hl.1 rfl (Nat.le_of_ble_eq_true rfl) dX6_packetsNeeded_15 ⟨Nat.zero_le _, Nat.zero_le _⟩ (fun H locs hP hD hS hz3 => ?_)
    have hP : va_P (dC, dI) vwCl [(q_parentOf, .inl (cI, 20, .inl a_parentOf)), (q_addressOf, .inl (cI, 20, .inl a_addressOf)), (q_depthOf, .inl (cI, 20, .inl a_depthOf)), (q_missing, .inl (cI, 20, .inl a_missing)), (h0, .inr (6, [.int v_routers, .ref q_parentOf, .ref q_addressOf, .ref q_depthOf, .int v_percent, .int v_random, .int v_distance, .int v_offset, .int v_value, .int v_isMade, .ref q_marks, .int v_received, .int v_unmarked, .ref q_missing, .int v_nodes, .ref q_nodeAddresses, .ref q_nodeDistances, .ref q_nodeParents, .int v_found, .ref q_foundAddress, .ref q_foundDistance, .ref q_foundParent, .int v_words, .ref q_wordAt]))] H := hP
    have hD : va_D A [(q_parentOf, .inl (cI, 20, .inl a_parentOf)), (q_addressOf, .inl (cI, 20, .inl a_addressOf)), (q_depthOf, .inl (cI, 20, .inl a_depthOf)), (q_missing, .inl (cI, 20, .inl a_missing)), (h0, .inr (6, [.int v_routers, .ref q_parentOf, .ref q_addressOf, .ref q_depthOf, .int v_percent, .int v_random, .int v_distance, .int v_offset, .int v_value, .int v_isMade, .ref q_marks, .int v_received, .int v_unmarked, .ref q_missing, .int v_nodes, .ref q_nodeAddresses, .ref q_nodeDistances, .ref q_nodeParents, .int v_found, .ref q_foundAddress, .ref q_foundDistance, .ref q_foundParent, .int v_words, .ref q_wordAt]))] := hD
    refine lv_if_ne (tgt := 24) hx hb dX6_packetsNeeded_18 (by decide) (fun c4 => ?_) (fun c4 => ?_)
    · have h := it_n c4 h
      refine lv_aload_n hx hb dX6_packetsNeeded_24 rfl (lv_at hl 0 rfl) ?_
      refine va_get (D := (dC, dI)) (ci := 6) (v := .int v_random) (C := RX6) (T := TX6) (N := 24) hx hb hts hiX6 hown hK hP 4 rfl rfl 5 (by decide) hf50 (fun _ h9 => h9) rfl dX6_packetsNeeded_25 ?_
      refine lv_istore_n (lv' := [(3, .int v_random), (0, .ref h0), (1, .int p1), (2, .int p2)]) hx hb dX6_packetsNeeded_28 rfl hl (by decide) rfl (fun ls hl => ?_)
      refine lv_iconst (v := (0 : Int32)) hx hb dX6_packetsNeeded_29 (by decide) ?_
      refine lv_istore (lv' := [(4, .int (0 : Int32)), (3, .int v_random), (0, .ref h0), (1, .int p1), (2, .int p2)]) hx hb dX6_packetsNeeded_30 hl (by decide) rfl (fun ls hl => ?_)
      refine lv_aload_n hx hb dX6_packetsNeeded_32 rfl (lv_at hl 2 rfl) ?_
      refine lv_iload_n hx hb dX6_packetsNeeded_33 rfl (lv_at hl 3 rfl) ?_
      obtain ⟨s_missing_5, h5, h⟩ := bd1_e h
      refine ca_Vv (wc := [(h0, .inr (6, [.int v_routers, .ref q_parentOf, .ref q_addressOf, .ref q_depthOf, .int v_percent, .int v_random, .int v_distance, .int v_offset, .int v_value, .int v_isMade, .ref q_marks, .int v_received, .int v_unmarked, .ref q_missing, .int v_nodes, .ref q_nodeAddresses, .ref q_nodeDistances, .ref q_nodeParents, .int v_found, .ref q_foundAddress, .ref q_foundDistance, .ref q_foundParent, .int v_words, .ref q_wordAt])), (q_depthOf, .inl (cI, 20, .inl a_depthOf)), (q_missing, .inl (cI, 20, .inl a_missing))]) (wr := [(q_parentOf, .inl (cI, 20, .inl a_parentOf)), (q_addressOf, .inl (cI, 20, .inl a_addressOf))]) (w1 := [(h0, .inr (6, [.int v_routers, .ref q_parentOf, .ref q_addressOf, .ref q_depthOf, .int v_percent, .int v_random, .int v_distance, .int v_offset, .int v_value, .int v_isMade, .ref q_marks, .int v_received, .int v_unmarked, .ref q_missing, .int v_nodes, .ref q_nodeAddresses, .ref q_nodeDistances, .ref q_nodeParents, .int v_found, .ref q_foundAddress, .ref q_foundDistance, .ref q_foundParent, .int v_words, .ref q_wordAt])), (q_depthOf, .inl (cI, 20, .inl a_depthOf)), (q_missing, .inl (cI, 20, .inl s_missing_5))]) [.int p1] [] [4, 2, 3] [0, 1] hx hb hml hown hts (mX6_startsTrial l dC dI cI H.size N h0 q_parentOf q_addressOf q_depthOf q_marks q_missing q_nodeAddresses q_nodeDistances q_nodeParents q_foundAddress q_foundDistance q_foundParent q_wordAt v_routers v_percent v_random v_distance v_offset v_value v_isMade v_received v_unmarked v_nodes v_found v_words a_depthOf a_missing p1 h5) (cwV 1 hts gX6_packetsNeeded_X6_startsTrial rfl rfl rfl (by decide +kernel) ⟨Nat.le_of_ble_eq_true rfl, Nat.le_of_ble_eq_true rfl⟩) hK hN hP hD hS hA rfl rfl (by decide) (by decide) (by decide) rfl rfl rfl hl.1 rfl (Nat.le_of_ble_eq_true rfl) dX6_packetsNeeded_34 ⟨Nat.zero_le _, Nat.zero_le _⟩ (fun H locs hP hD hS => ?_)
      have hP : va_P (dC, dI) vwCl [(q_parentOf, .inl (cI, 20, .inl a_parentOf)), (q_addressOf, .inl (cI, 20, .inl a_addressOf)), (h0, .inr (6, [.int v_routers, .ref q_parentOf, .ref q_addressOf, .ref q_depthOf, .int v_percent, .int v_random, .int v_distance, .int v_offset, .int v_value, .int v_isMade, .ref q_marks, .int v_received, .int v_unmarked, .ref q_missing, .int v_nodes, .ref q_nodeAddresses, .ref q_nodeDistances, .ref q_nodeParents, .int v_found, .ref q_foundAddress, .ref q_foundDistance, .ref q_foundParent, .int v_words, .ref q_wordAt])), (q_depthOf, .inl (cI, 20, .inl a_depthOf)), (q_missing, .inl (cI, 20, .inl s_missing_5))] H := hP
      have hD : va_D A [(q_parentOf, .inl (cI, 20, .inl a_parentOf)), (q_addressOf, .inl (cI, 20, .inl a_addressOf)), (h0, .inr (6, [.int v_routers, .ref q_parentOf, .ref q_addressOf, .ref q_depthOf, .int v_percent, .int v_random, .int v_distance, .int v_offset, .int v_value, .int v_isMade, .ref q_marks, .int v_received, .int v_unmarked, .ref q_missing, .int v_nodes, .ref q_nodeAddresses, .ref q_nodeDistances, .ref q_nodeParents, .int v_found, .ref q_foundAddress, .ref q_foundDistance, .ref q_foundParent, .int v_words, .ref q_wordAt])), (q_depthOf, .inl (cI, 20, .inl a_depthOf)), (q_missing, .inl (cI, 20, .inl s_missing_5))] := hD
      have key37 : ∀ (y3_37 : Int32) (n1 : Nat) (y4_37 : Int32) (v_random_37 : Int32) (v_distance_37 : Int32) (v_offset_37 : Int32) (v_value_37 : Int32) (v_isMade_37 : Int32) (a_missing_37 : Nat → Int32) (H : Heap) (locs : List Loc) (ls : Array Slot), lp (fun s => bX6_packetsNeeded_37 N p1 p2 v_percent a_parentOf a_addressOf y3_37 s.1 s.2.1 s.2.2.1 s.2.2.2.1 s.2.2.2.2.1 s.2.2.2.2.2.1 s.2.2.2.2.2.2) n1 (y4_37, v_random_37, v_distance_37, v_offset_37, v_value_37, v_isMade_37, a_missing_37) = some (rr, o_random, o_distance, o_offset, o_value, o_isMade, o_missing) → va_P (dC, dI) vwCl [(q_parentOf, .inl (cI, 20, .inl a_parentOf)), (q_addressOf, .inl (cI, 20, .inl a_addressOf)), (h0, .inr (6, [.int v_routers, .ref q_parentOf, .ref q_addressOf, .ref q_depthOf, .int v_percent, .int v_random_37, .int v_distance_37, .int v_offset_37, .int v_value_37, .int v_isMade_37, .ref q_marks, .int v_received, .int v_unmarked, .ref q_missing, .int v_nodes, .ref q_nodeAddresses, .ref q_nodeDistances, .ref q_nodeParents, .int v_found, .ref q_foundAddress, .ref q_foundDistance, .ref q_foundParent, .int v_words, .ref q_wordAt])), (q_depthOf, .inl (cI, 20, .inl a_depthOf)), (q_missing, .inl (cI, 20, .inl a_missing_37))] H → va_D A [(q_parentOf, .inl (cI, 20, .inl a_parentOf)), (q_addressOf, .inl (cI, 20, .inl a_addressOf)), (h0, .inr (6, [.int v_routers, .ref q_parentOf, .ref q_addressOf, .ref q_depthOf, .int v_percent, .int v_random_37, .int v_distance_37, .int v_offset_37, .int v_value_37, .int v_isMade_37, .ref q_marks, .int v_received, .int v_unmarked, .ref q_missing, .int v_nodes, .ref q_nodeAddresses, .ref q_nodeDistances, .ref q_nodeParents, .int v_found, .ref q_foundAddress, .ref q_foundDistance, .ref q_foundParent, .int v_words, .ref q_wordAt])), (q_depthOf, .inl (cI, 20, .inl a_depthOf)), (q_missing, .inl (cI, 20, .inl a_missing_37))] → va_S A s.heap H locs → lv_has ls 5 [(4, .int y4_37), (3, .int y3_37), (0, .ref h0), (1, .int p1), (2, .int p2)] → W p l e ({ frames := 4, cells := 0, slots := 0, locals := 84 } : Room) s m [.ref h0, .int p1, .int p2].toArray below meth c H locs 0 0 (MQ below (poI dC dI .int rr [(h0, .inr (6, [.int v_routers, .ref q_parentOf, .ref q_addressOf, .ref q_depthOf, .int v_percent, .int o_random, .int o_distance, .int o_offset, .int o_value, .int o_isMade, .ref q_marks, .int v_received, .int v_unmarked, .ref q_missing, .int v_nodes, .ref q_nodeAddresses, .ref q_nodeDistances, .ref q_nodeParents, .int v_found, .ref q_foundAddress, .ref q_foundDistance, .ref q_foundParent, .int v_words, .ref q_wordAt])), (q_parentOf, .inl (cI, 20, .inl a_parentOf)), (q_addressOf, .inl (cI, 20, .inl a_addressOf)), (q_depthOf, .inl (cI, 20, .inl a_depthOf)), (q_missing, .inl (cI, 20, .inl o_missing))] A) [.ref h0, .int p1, .int p2].toArray s 0 0 A) (F0 m 37 ls []) := by
        intro y3_37
        intro n1
        induction n1 with
        | zero =>
          intro y4_37 v_random_37 v_distance_37 v_offset_37 v_value_37 v_isMade_37 a_missing_37 H locs ls h
          exact (lp_0 h).elim
        | succ n1 ih1 =>
          intro y4_37 v_random_37 v_distance_37 v_offset_37 v_value_37 v_isMade_37 a_missing_37 H locs ls h hP hD hS hl
          obtain ⟨o1, h, hk1⟩ := lp_s h
          unfold bX6_packetsNeeded_37 at h
          try dsimp only at h
          refine lv_iload hx hb dX6_packetsNeeded_37 (lv_at hl 0 rfl) ?_
          refine lv_iload_n hx hb dX6_packetsNeeded_39 rfl (lv_at hl 4 rfl) ?_
          refine lv_icmp_ge (tgt := 96) hx hb dX6_packetsNeeded_40 (by decide) (fun c6 => ?_) (fun c6 => ?_)
          · have h := it_p c6 h
            refine lv_aload_n hx hb dX6_packetsNeeded_96 rfl (lv_at hl 2 rfl) ?_
            refine lv_iload_n hx hb dX6_packetsNeeded_97 rfl (lv_at hl 1 rfl) ?_
            refine va_put (D := (dC, dI)) (ci := 6) (v := .int y3_37) (ty := .int) (C := RX6) (T := TX6) (N := 24) hx hb hts hiX6 tyX6 tyX6_ok nmX6 hown hK hP hD hS 2 rfl rfl 5 (by decide) hf50 (fun _ h9 => h9) rfl (by decide +kernel) rfl rfl (Nat.le_of_ble_eq_true rfl) dX6_packetsNeeded_98 (fun H locs hP hD hS => ?_)
            have hP : va_P (dC, dI) vwCl [(q_parentOf, .inl (cI, 20, .inl a_parentOf)), (q_addressOf, .inl (cI, 20, .inl a_addressOf)), (h0, .inr (6, [.int v_routers, .ref q_parentOf, .ref q_addressOf, .ref q_depthOf, .int v_percent, .int y3_37, .int v_distance_37, .int v_offset_37, .int v_value_37, .int v_isMade_37, .ref q_marks, .int v_received, .int v_unmarked, .ref q_missing, .int v_nodes, .ref q_nodeAddresses, .ref q_nodeDistances, .ref q_nodeParents, .int v_found, .ref q_foundAddress, .ref q_foundDistance, .ref q_foundParent, .int v_words, .ref q_wordAt])), (q_depthOf, .inl (cI, 20, .inl a_depthOf)), (q_missing, .inl (cI, 20, .inl a_missing_37))] H := hP
            have hD : va_D A [(q_parentOf, .inl (cI, 20, .inl a_parentOf)), (q_addressOf, .inl (cI, 20, .inl a_addressOf)), (h0, .inr (6, [.int v_routers, .ref q_parentOf, .ref q_addressOf, .ref q_depthOf, .int v_percent, .int y3_37, .int v_distance_37, .int v_offset_37, .int v_value_37, .int v_isMade_37, .ref q_marks, .int v_received, .int v_unmarked, .ref q_missing, .int v_nodes, .ref q_nodeAddresses, .ref q_nodeDistances, .ref q_nodeParents, .int v_found, .ref q_foundAddress, .ref q_foundDistance, .ref q_foundParent, .int v_words, .ref q_wordAt])), (q_depthOf, .inl (cI, 20, .inl a_depthOf)), (q_missing, .inl (cI, 20, .inl a_missing_37))] := hD
            refine lv_aload_n hx hb dX6_packetsNeeded_101 rfl (lv_at hl 2 rfl) ?_
            obtain ⟨r7, h7, h⟩ := bd1_e h
            refine ca_Vi (wc := [(h0, .inr (6, [.int v_routers, .ref q_parentOf, .ref q_addressOf, .ref q_depthOf, .int v_percent, .int y3_37, .int v_distance_37, .int v_offset_37, .int v_value_37, .int v_isMade_37, .ref q_marks, .int v_received, .int v_unmarked, .ref q_missing, .int v_nodes, .ref q_nodeAddresses, .ref q_nodeDistances, .ref q_nodeParents, .int v_found, .ref q_foundAddress, .ref q_foundDistance, .ref q_foundParent, .int v_words, .ref q_wordAt])), (q_missing, .inl (cI, 20, .inl a_missing_37))]) (wr := [(q_parentOf, .inl (cI, 20, .inl a_parentOf)), (q_addressOf, .inl (cI, 20, .inl a_addressOf)), (q_depthOf, .inl (cI, 20, .inl a_depthOf))]) (w1 := [(h0, .inr (6, [.int v_routers, .ref q_parentOf, .ref q_addressOf, .ref q_depthOf, .int v_percent, .int y3_37, .int v_distance_37, .int v_offset_37, .int v_value_37, .int v_isMade_37, .ref q_marks, .int v_received, .int v_unmarked, .ref q_missing, .int v_nodes, .ref q_nodeAddresses, .ref q_nodeDistances, .ref q_nodeParents, .int v_found, .ref q_foundAddress, .ref q_foundDistance, .ref q_foundParent, .int v_words, .ref q_wordAt])), (q_missing, .inl (cI, 20, .inl a_missing_37))]) [] [] [2, 4] [0, 1, 3] hx hb hml hown hts (mX6_isTrialComplete l dC dI cI H.size N h0 q_parentOf q_addressOf q_depthOf q_marks q_missing q_nodeAddresses q_nodeDistances q_nodeParents q_foundAddress q_foundDistance q_foundParent q_wordAt v_routers v_percent y3_37 v_distance_37 v_offset_37 v_value_37 v_isMade_37 v_received v_unmarked v_nodes v_found v_words a_missing_37 h7) (cwV 0 hts gX6_packetsNeeded_X6_isTrialComplete rfl rfl rfl (by decide +kernel) ⟨Nat.le_of_ble_eq_true rfl, Nat.le_of_ble_eq_true rfl⟩) hK hN hP hD hS hA rfl rfl (by decide) (by decide) (by decide) rfl rfl rfl hl.1 rfl (Nat.le_of_ble_eq_true rfl) dX6_packetsNeeded_102 ⟨Nat.zero_le _, Nat.zero_le _⟩ (fun H locs hP hD hS hz7 => ?_)
            have hP : va_P (dC, dI) vwCl [(q_parentOf, .inl (cI, 20, .inl a_parentOf)), (q_addressOf, .inl (cI, 20, .inl a_addressOf)), (q_depthOf, .inl (cI, 20, .inl a_depthOf)), (h0, .inr (6, [.int v_routers, .ref q_parentOf, .ref q_addressOf, .ref q_depthOf, .int v_percent, .int y3_37, .int v_distance_37, .int v_offset_37, .int v_value_37, .int v_isMade_37, .ref q_marks, .int v_received, .int v_unmarked, .ref q_missing, .int v_nodes, .ref q_nodeAddresses, .ref q_nodeDistances, .ref q_nodeParents, .int v_found, .ref q_foundAddress, .ref q_foundDistance, .ref q_foundParent, .int v_words, .ref q_wordAt])), (q_missing, .inl (cI, 20, .inl a_missing_37))] H := hP
            have hD : va_D A [(q_parentOf, .inl (cI, 20, .inl a_parentOf)), (q_addressOf, .inl (cI, 20, .inl a_addressOf)), (q_depthOf, .inl (cI, 20, .inl a_depthOf)), (h0, .inr (6, [.int v_routers, .ref q_parentOf, .ref q_addressOf, .ref q_depthOf, .int v_percent, .int y3_37, .int v_distance_37, .int v_offset_37, .int v_value_37, .int v_isMade_37, .ref q_marks, .int v_received, .int v_unmarked, .ref q_missing, .int v_nodes, .ref q_nodeAddresses, .ref q_nodeDistances, .ref q_nodeParents, .int v_found, .ref q_foundAddress, .ref q_foundDistance, .ref q_foundParent, .int v_words, .ref q_wordAt])), (q_missing, .inl (cI, 20, .inl a_missing_37))] := hD
            refine lv_if_eq (tgt := 113) hx hb dX6_packetsNeeded_105 (by decide) (fun c8 => ?_) (fun c8 => ?_)
            · have h := it_p c8 h
              refine lv_bipush (v := (-7 : Int32)) hx hb dX6_packetsNeeded_113 (by decide) ?_
              cases Option.some.inj h
              have hk1 := un_r hk1
              cases hk1
              exact re_i [3, 0, 1, 2, 4] hx hb hr hlocks rfl hP hD hS rfl (by decide) rfl dX6_packetsNeeded_115
            · have h := it_n c8 h
              refine lv_iload hx hb dX6_packetsNeeded_108 (lv_at hl 0 rfl) ?_
              refine lv_goto (tgt := 115) hx hb dX6_packetsNeeded_110 (by decide) ?_
              cases Option.some.inj h
              have hk1 := un_r hk1
              cases hk1
              exact re_i [3, 0, 1, 2, 4] hx hb hr hlocks rfl hP hD hS rfl (by decide) rfl dX6_packetsNeeded_115
          · have h := it_n c6 h
            refine lv_aload_n hx hb dX6_packetsNeeded_43 rfl (lv_at hl 2 rfl) ?_
            obtain ⟨r9, h9, h⟩ := bd1_e h
            refine ca_Vi (wc := [(h0, .inr (6, [.int v_routers, .ref q_parentOf, .ref q_addressOf, .ref q_depthOf, .int v_percent, .int v_random_37, .int v_distance_37, .int v_offset_37, .int v_value_37, .int v_isMade_37, .ref q_marks, .int v_received, .int v_unmarked, .ref q_missing, .int v_nodes, .ref q_nodeAddresses, .ref q_nodeDistances, .ref q_nodeParents, .int v_found, .ref q_foundAddress, .ref q_foundDistance, .ref q_foundParent, .int v_words, .ref q_wordAt])), (q_missing, .inl (cI, 20, .inl a_missing_37))]) (wr := [(q_parentOf, .inl (cI, 20, .inl a_parentOf)), (q_addressOf, .inl (cI, 20, .inl a_addressOf)), (q_depthOf, .inl (cI, 20, .inl a_depthOf))]) (w1 := [(h0, .inr (6, [.int v_routers, .ref q_parentOf, .ref q_addressOf, .ref q_depthOf, .int v_percent, .int v_random_37, .int v_distance_37, .int v_offset_37, .int v_value_37, .int v_isMade_37, .ref q_marks, .int v_received, .int v_unmarked, .ref q_missing, .int v_nodes, .ref q_nodeAddresses, .ref q_nodeDistances, .ref q_nodeParents, .int v_found, .ref q_foundAddress, .ref q_foundDistance, .ref q_foundParent, .int v_words, .ref q_wordAt])), (q_missing, .inl (cI, 20, .inl a_missing_37))]) [] [] [2, 4] [0, 1, 3] hx hb hml hown hts (mX6_isTrialComplete l dC dI cI H.size N h0 q_parentOf q_addressOf q_depthOf q_marks q_missing q_nodeAddresses q_nodeDistances q_nodeParents q_foundAddress q_foundDistance q_foundParent q_wordAt v_routers v_percent v_random_37 v_distance_37 v_offset_37 v_value_37 v_isMade_37 v_received v_unmarked v_nodes v_found v_words a_missing_37 h9) (cwV 0 hts gX6_packetsNeeded_X6_isTrialComplete rfl rfl rfl (by decide +kernel) ⟨Nat.le_of_ble_eq_true rfl, Nat.le_of_ble_eq_true rfl⟩) hK hN hP hD hS hA rfl rfl (by decide) (by decide) (by decide) rfl rfl rfl hl.1 rfl (Nat.le_of_ble_eq_true rfl) dX6_packetsNeeded_44 ⟨Nat.zero_le _, Nat.zero_le _⟩ (fun H locs hP hD hS hz9 => ?_)
            have hP : va_P (dC, dI) vwCl [(q_parentOf, .inl (cI, 20, .inl a_parentOf)), (q_addressOf, .inl (cI, 20, .inl a_addressOf)), (q_depthOf, .inl (cI, 20, .inl a_depthOf)), (h0, .inr (6, [.int v_routers, .ref q_parentOf, .ref q_addressOf, .ref q_depthOf, .int v_percent, .int v_random_37, .int v_distance_37, .int v_offset_37, .int v_value_37, .int v_isMade_37, .ref q_marks, .int v_received, .int v_unmarked, .ref q_missing, .int v_nodes, .ref q_nodeAddresses, .ref q_nodeDistances, .ref q_nodeParents, .int v_found, .ref q_foundAddress, .ref q_foundDistance, .ref q_foundParent, .int v_words, .ref q_wordAt])), (q_missing, .inl (cI, 20, .inl a_missing_37))] H := hP
            have hD : va_D A [(q_parentOf, .inl (cI, 20, .inl a_parentOf)), (q_addressOf, .inl (cI, 20, .inl a_addressOf)), (q_depthOf, .inl (cI, 20, .inl a_depthOf)), (h0, .inr (6, [.int v_routers, .ref q_parentOf, .ref q_addressOf, .ref q_depthOf, .int v_percent, .int v_random_37, .int v_distance_37, .int v_offset_37, .int v_value_37, .int v_isMade_37, .ref q_marks, .int v_received, .int v_unmarked, .ref q_missing, .int v_nodes, .ref q_nodeAddresses, .ref q_nodeDistances, .ref q_nodeParents, .int v_found, .ref q_foundAddress, .ref q_foundDistance, .ref q_foundParent, .int v_words, .ref q_wordAt])), (q_missing, .inl (cI, 20, .inl a_missing_37))] := hD
            refine lv_if_ne (tgt := 96) hx hb dX6_packetsNeeded_47 (by decide) (fun c10 => ?_) (fun c10 => ?_)
            · have h := it_n c10 h
              refine lv_aload_n hx hb dX6_packetsNeeded_96 rfl (lv_at hl 2 rfl) ?_
              refine lv_iload_n hx hb dX6_packetsNeeded_97 rfl (lv_at hl 1 rfl) ?_
              refine va_put (D := (dC, dI)) (ci := 6) (v := .int y3_37) (ty := .int) (C := RX6) (T := TX6) (N := 24) hx hb hts hiX6 tyX6 tyX6_ok nmX6 hown hK hP hD hS 3 rfl rfl 5 (by decide) hf50 (fun _ h9 => h9) rfl (by decide +kernel) rfl rfl (Nat.le_of_ble_eq_true rfl) dX6_packetsNeeded_98 (fun H locs hP hD hS => ?_)
              have hP : va_P (dC, dI) vwCl [(q_parentOf, .inl (cI, 20, .inl a_parentOf)), (q_addressOf, .inl (cI, 20, .inl a_addressOf)), (q_depthOf, .inl (cI, 20, .inl a_depthOf)), (h0, .inr (6, [.int v_routers, .ref q_parentOf, .ref q_addressOf, .ref q_depthOf, .int v_percent, .int y3_37, .int v_distance_37, .int v_offset_37, .int v_value_37, .int v_isMade_37, .ref q_marks, .int v_received, .int v_unmarked, .ref q_missing, .int v_nodes, .ref q_nodeAddresses, .ref q_nodeDistances, .ref q_nodeParents, .int v_found, .ref q_foundAddress, .ref q_foundDistance, .ref q_foundParent, .int v_words, .ref q_wordAt])), (q_missing, .inl (cI, 20, .inl a_missing_37))] H := hP
              have hD : va_D A [(q_parentOf, .inl (cI, 20, .inl a_parentOf)), (q_addressOf, .inl (cI, 20, .inl a_addressOf)), (q_depthOf, .inl (cI, 20, .inl a_depthOf)), (h0, .inr (6, [.int v_routers, .ref q_parentOf, .ref q_addressOf, .ref q_depthOf, .int v_percent, .int y3_37, .int v_distance_37, .int v_offset_37, .int v_value_37, .int v_isMade_37, .ref q_marks, .int v_received, .int v_unmarked, .ref q_missing, .int v_nodes, .ref q_nodeAddresses, .ref q_nodeDistances, .ref q_nodeParents, .int v_found, .ref q_foundAddress, .ref q_foundDistance, .ref q_foundParent, .int v_words, .ref q_wordAt])), (q_missing, .inl (cI, 20, .inl a_missing_37))] := hD
              refine lv_aload_n hx hb dX6_packetsNeeded_101 rfl (lv_at hl 2 rfl) ?_
              obtain ⟨r11, h11, h⟩ := bd1_e h
              refine ca_Vi (wc := [(h0, .inr (6, [.int v_routers, .ref q_parentOf, .ref q_addressOf, .ref q_depthOf, .int v_percent, .int y3_37, .int v_distance_37, .int v_offset_37, .int v_value_37, .int v_isMade_37, .ref q_marks, .int v_received, .int v_unmarked, .ref q_missing, .int v_nodes, .ref q_nodeAddresses, .ref q_nodeDistances, .ref q_nodeParents, .int v_found, .ref q_foundAddress, .ref q_foundDistance, .ref q_foundParent, .int v_words, .ref q_wordAt])), (q_missing, .inl (cI, 20, .inl a_missing_37))]) (wr := [(q_parentOf, .inl (cI, 20, .inl a_parentOf)), (q_addressOf, .inl (cI, 20, .inl a_addressOf)), (q_depthOf, .inl (cI, 20, .inl a_depthOf))]) (w1 := [(h0, .inr (6, [.int v_routers, .ref q_parentOf, .ref q_addressOf, .ref q_depthOf, .int v_percent, .int y3_37, .int v_distance_37, .int v_offset_37, .int v_value_37, .int v_isMade_37, .ref q_marks, .int v_received, .int v_unmarked, .ref q_missing, .int v_nodes, .ref q_nodeAddresses, .ref q_nodeDistances, .ref q_nodeParents, .int v_found, .ref q_foundAddress, .ref q_foundDistance, .ref q_foundParent, .int v_words, .ref q_wordAt])), (q_missing, .inl (cI, 20, .inl a_missing_37))]) [] [] [3, 4] [0, 1, 2] hx hb hml hown hts (mX6_isTrialComplete l dC dI cI H.size N h0 q_parentOf q_addressOf q_depthOf q_marks q_missing q_nodeAddresses q_nodeDistances q_nodeParents q_foundAddress q_foundDistance q_foundParent q_wordAt v_routers v_percent y3_37 v_distance_37 v_offset_37 v_value_37 v_isMade_37 v_received v_unmarked v_nodes v_found v_words a_missing_37 h11) (cwV 0 hts gX6_packetsNeeded_X6_isTrialComplete rfl rfl rfl (by decide +kernel) ⟨Nat.le_of_ble_eq_true rfl, Nat.le_of_ble_eq_true rfl⟩) hK hN hP hD hS hA rfl rfl (by decide) (by decide) (by decide) rfl rfl rfl hl.1 rfl (Nat.le_of_ble_eq_true rfl) dX6_packetsNeeded_102 ⟨Nat.zero_le _, Nat.zero_le _⟩ (fun H locs hP hD hS hz11 => ?_)
              have hP : va_P (dC, dI) vwCl [(q_parentOf, .inl (cI, 20, .inl a_parentOf)), (q_addressOf, .inl (cI, 20, .inl a_addressOf)), (q_depthOf, .inl (cI, 20, .inl a_depthOf)), (h0, .inr (6, [.int v_routers, .ref q_parentOf, .ref q_addressOf, .ref q_depthOf, .int v_percent, .int y3_37, .int v_distance_37, .int v_offset_37, .int v_value_37, .int v_isMade_37, .ref q_marks, .int v_received, .int v_unmarked, .ref q_missing, .int v_nodes, .ref q_nodeAddresses, .ref q_nodeDistances, .ref q_nodeParents, .int v_found, .ref q_foundAddress, .ref q_foundDistance, .ref q_foundParent, .int v_words, .ref q_wordAt])), (q_missing, .inl (cI, 20, .inl a_missing_37))] H := hP
              have hD : va_D A [(q_parentOf, .inl (cI, 20, .inl a_parentOf)), (q_addressOf, .inl (cI, 20, .inl a_addressOf)), (q_depthOf, .inl (cI, 20, .inl a_depthOf)), (h0, .inr (6, [.int v_routers, .ref q_parentOf, .ref q_addressOf, .ref q_depthOf, .int v_percent, .int y3_37, .int v_distance_37, .int v_offset_37, .int v_value_37, .int v_isMade_37, .ref q_marks, .int v_received, .int v_unmarked, .ref q_missing, .int v_nodes, .ref q_nodeAddresses, .ref q_nodeDistances, .ref q_nodeParents, .int v_found, .ref q_foundAddress, .ref q_foundDistance, .ref q_foundParent, .int v_words, .ref q_wordAt])), (q_missing, .inl (cI, 20, .inl a_missing_37))] := hD
              refine lv_if_eq (tgt := 113) hx hb dX6_packetsNeeded_105 (by decide) (fun c12 => ?_) (fun c12 => ?_)
              · have h := it_p c12 h
                refine lv_bipush (v := (-7 : Int32)) hx hb dX6_packetsNeeded_113 (by decide) ?_
                cases Option.some.inj h
                have hk1 := un_r hk1
                cases hk1
                exact re_i [3, 0, 1, 2, 4] hx hb hr hlocks rfl hP hD hS rfl (by decide) rfl dX6_packetsNeeded_115
              · have h := it_n c12 h
                refine lv_iload hx hb dX6_packetsNeeded_108 (lv_at hl 0 rfl) ?_
                refine lv_goto (tgt := 115) hx hb dX6_packetsNeeded_110 (by decide) ?_
                cases Option.some.inj h
                have hk1 := un_r hk1
                cases hk1
                exact re_i [3, 0, 1, 2, 4] hx hb hr hlocks rfl hP hD hS rfl (by decide) rfl dX6_packetsNeeded_115
            · have h := it_p c10 h
              refine lv_aload_n hx hb dX6_packetsNeeded_50 rfl (lv_at hl 2 rfl) ?_
              refine lv_bipush (v := (-7 : Int32)) hx hb dX6_packetsNeeded_51 (by decide) ?_
              refine va_put (D := (dC, dI)) (ci := 6) (v := .int (-7 : Int32)) (ty := .int) (C := RX6) (T := TX6) (N := 24) hx hb hts hiX6 tyX6 tyX6_ok nmX6 hown hK hP hD hS 3 rfl rfl 6 (by decide) hf89 (fun _ h9 => h9) rfl (by decide +kernel) rfl rfl (Nat.le_of_ble_eq_true rfl) dX6_packetsNeeded_53 (fun H locs hP hD hS => ?_)
              have hP : va_P (dC, dI) vwCl [(q_parentOf, .inl (cI, 20, .inl a_parentOf)), (q_addressOf, .inl (cI, 20, .inl a_addressOf)), (q_depthOf, .inl (cI, 20, .inl a_depthOf)), (h0, .inr (6, [.int v_routers, .ref q_parentOf, .ref q_addressOf, .ref q_depthOf, .int v_percent, .int v_random_37, .int (-7 : Int32), .int v_offset_37, .int v_value_37, .int v_isMade_37, .ref q_marks, .int v_received, .int v_unmarked, .ref q_missing, .int v_nodes, .ref q_nodeAddresses, .ref q_nodeDistances, .ref q_nodeParents, .int v_found, .ref q_foundAddress, .ref q_foundDistance, .ref q_foundParent, .int v_words, .ref q_wordAt])), (q_missing, .inl (cI, 20, .inl a_missing_37))] H := hP
              have hD : va_D A [(q_parentOf, .inl (cI, 20, .inl a_parentOf)), (q_addressOf, .inl (cI, 20, .inl a_addressOf)), (q_depthOf, .inl (cI, 20, .inl a_depthOf)), (h0, .inr (6, [.int v_routers, .ref q_parentOf, .ref q_addressOf, .ref q_depthOf, .int v_percent, .int v_random_37, .int (-7 : Int32), .int v_offset_37, .int v_value_37, .int v_isMade_37, .ref q_marks, .int v_received, .int v_unmarked, .ref q_missing, .int v_nodes, .ref q_nodeAddresses, .ref q_nodeDistances, .ref q_nodeParents, .int v_found, .ref q_foundAddress, .ref q_foundDistance, .ref q_foundParent, .int v_words, .ref q_wordAt])), (q_missing, .inl (cI, 20, .inl a_missing_37))] := hD
              refine lv_aload_n hx hb dX6_packetsNeeded_56 rfl (lv_at hl 2 rfl) ?_
              refine lv_iload_n hx hb dX6_packetsNeeded_57 rfl (lv_at hl 3 rfl) ?_
              obtain ⟨s_random_13, s_distance_13, s_offset_13, s_value_13, s_isMade_13, h13, h⟩ := bd5_e h
              refine ca_Vv (wc := [(h0, .inr (6, [.int v_routers, .ref q_parentOf, .ref q_addressOf, .ref q_depthOf, .int v_percent, .int v_random_37, .int (-7 : Int32), .int v_offset_37, .int v_value_37, .int v_isMade_37, .ref q_marks, .int v_received, .int v_unmarked, .ref q_missing, .int v_nodes, .ref q_nodeAddresses, .ref q_nodeDistances, .ref q_nodeParents, .int v_found, .ref q_foundAddress, .ref q_foundDistance, .ref q_foundParent, .int v_words, .ref q_wordAt])), (q_parentOf, .inl (cI, 20, .inl a_parentOf)), (q_addressOf, .inl (cI, 20, .inl a_addressOf))]) (wr := [(q_depthOf, .inl (cI, 20, .inl a_depthOf)), (q_missing, .inl (cI, 20, .inl a_missing_37))]) (w1 := [(h0, .inr (6, [.int v_routers, .ref q_parentOf, .ref q_addressOf, .ref q_depthOf, .int v_percent, .int s_random_13, .int s_distance_13, .int s_offset_13, .int s_value_13, .int s_isMade_13, .ref q_marks, .int v_received, .int v_unmarked, .ref q_missing, .int v_nodes, .ref q_nodeAddresses, .ref q_nodeDistances, .ref q_nodeParents, .int v_found, .ref q_foundAddress, .ref q_foundDistance, .ref q_foundParent, .int v_words, .ref q_wordAt])), (q_parentOf, .inl (cI, 20, .inl a_parentOf)), (q_addressOf, .inl (cI, 20, .inl a_addressOf))]) [.int p1] [] [3, 0, 1] [2, 4] hx hb hml hown hts (mX6_travels l dC dI cI H.size N h0 q_parentOf q_addressOf q_depthOf q_marks q_missing q_nodeAddresses q_nodeDistances q_nodeParents q_foundAddress q_foundDistance q_foundParent q_wordAt v_routers v_percent v_random_37 (-7 : Int32) v_offset_37 v_value_37 v_isMade_37 v_received v_unmarked v_nodes v_found v_words a_parentOf a_addressOf p1 h13) (cwV 1 hts gX6_packetsNeeded_X6_travels rfl rfl rfl (by decide +kernel) ⟨Nat.le_of_ble_eq_true rfl, Nat.le_of_ble_eq_true rfl⟩) hK hN hP hD hS hA rfl rfl (by decide) (by decide) (by decide) rfl rfl rfl hl.1 rfl (Nat.le_of_ble_eq_true rfl) dX6_packetsNeeded_58 ⟨Nat.zero_le _, Nat.zero_le _⟩ (fun H locs hP hD hS => ?_)
              have hP : va_P (dC, dI) vwCl [(q_depthOf, .inl (cI, 20, .inl a_depthOf)), (q_missing, .inl (cI, 20, .inl a_missing_37)), (h0, .inr (6, [.int v_routers, .ref q_parentOf, .ref q_addressOf, .ref q_depthOf, .int v_percent, .int s_random_13, .int s_distance_13, .int s_offset_13, .int s_value_13, .int s_isMade_13, .ref q_marks, .int v_received, .int v_unmarked, .ref q_missing, .int v_nodes, .ref q_nodeAddresses, .ref q_nodeDistances, .ref q_nodeParents, .int v_found, .ref q_foundAddress, .ref q_foundDistance, .ref q_foundParent, .int v_words, .ref q_wordAt])), (q_parentOf, .inl (cI, 20, .inl a_parentOf)), (q_addressOf, .inl (cI, 20, .inl a_addressOf))] H := hP
              have hD : va_D A [(q_depthOf, .inl (cI, 20, .inl a_depthOf)), (q_missing, .inl (cI, 20, .inl a_missing_37)), (h0, .inr (6, [.int v_routers, .ref q_parentOf, .ref q_addressOf, .ref q_depthOf, .int v_percent, .int s_random_13, .int s_distance_13, .int s_offset_13, .int s_value_13, .int s_isMade_13, .ref q_marks, .int v_received, .int v_unmarked, .ref q_missing, .int v_nodes, .ref q_nodeAddresses, .ref q_nodeDistances, .ref q_nodeParents, .int v_found, .ref q_foundAddress, .ref q_foundDistance, .ref q_foundParent, .int v_words, .ref q_wordAt])), (q_parentOf, .inl (cI, 20, .inl a_parentOf)), (q_addressOf, .inl (cI, 20, .inl a_addressOf))] := hD
              refine lv_iinc (v := y4_37 + 1) (lv' := [(4, .int (y4_37 + 1)), (3, .int y3_37), (0, .ref h0), (1, .int p1), (2, .int p2)]) hx hb dX6_packetsNeeded_61 hl (k := 0) rfl rfl (by decide) rfl (fun ls hl => ?_)
              refine lv_aload_n hx hb dX6_packetsNeeded_64 rfl (lv_at hl 2 rfl) ?_
              refine va_get (D := (dC, dI)) (ci := 6) (v := .int s_distance_13) (C := RX6) (T := TX6) (N := 24) hx hb hts hiX6 hown hK hP 2 rfl rfl 6 (by decide) hf89 (fun _ h9 => h9) rfl dX6_packetsNeeded_65 ?_
              refine lv_bipush (v := (-7 : Int32)) hx hb dX6_packetsNeeded_68 (by decide) ?_
              refine lv_icmp_eq (tgt := 37) hx hb dX6_packetsNeeded_70 (by decide) (fun c14 => ?_) (fun c14 => ?_)
              · have h := it_p c14 h
                cases Option.some.inj h
                exact ih1 _ _ _ _ _ _ _ _ _ _ (un_l hk1) (hP.sub [3, 4, 2, 0, 1] rfl) (hD.sub [3, 4, 2, 0, 1] (by decide) rfl) hS (lv_sub hl [0, 1, 2, 3, 4] rfl)
              · have h := it_n c14 h
                refine lv_aload_n hx hb dX6_packetsNeeded_73 rfl (lv_at hl 2 rfl) ?_
                refine va_get (D := (dC, dI)) (ci := 6) (v := .ref q_missing) (C := RX6) (T := TX6) (N := 24) hx hb hts hiX6 hown hK hP 2 rfl rfl 13 (by decide) hf22 (fun _ h9 => h9) rfl dX6_packetsNeeded_74 ?_
                refine lv_aload_n hx hb dX6_packetsNeeded_77 rfl (lv_at hl 2 rfl) ?_
                refine va_get (D := (dC, dI)) (ci := 6) (v := .int s_distance_13) (C := RX6) (T := TX6) (N := 24) hx hb hts hiX6 hown hK hP 2 rfl rfl 6 (by decide) hf89 (fun _ h9 => h9) rfl dX6_packetsNeeded_78 ?_
                refine lv_dup2_11 hx hb dX6_packetsNeeded_81 rfl rfl ?_
                obtain ⟨g15, h⟩ := gd_e h
                refine va_iald hx hb hK hP 1 0 rfl rfl g15 dX6_packetsNeeded_82 ?_
                refine lv_iconst (v := (1 : Int32)) hx hb dX6_packetsNeeded_83 (by decide) ?_
                refine lv_aload_n hx hb dX6_packetsNeeded_84 rfl (lv_at hl 2 rfl) ?_
                refine va_get (D := (dC, dI)) (ci := 6) (v := .int s_offset_13) (C := RX6) (T := TX6) (N := 24) hx hb hts hiX6 hown hK hP 2 rfl rfl 7 (by decide) hf86 (fun _ h9 => h9) rfl dX6_packetsNeeded_85 ?_
                refine lv_ishl hx hb dX6_packetsNeeded_88 ?_
                refine lv_iconst (v := (-1 : Int32)) hx hb dX6_packetsNeeded_89 (by decide) ?_
                refine lv_ixor hx hb dX6_packetsNeeded_90 ?_
                refine lv_iand hx hb dX6_packetsNeeded_91 ?_
                obtain ⟨g16, h⟩ := gd_e h
                refine va_iast hx hb hK hP hD hS 1 0 rfl rfl g16 dX6_packetsNeeded_92 (fun H locs hP hD hS => ?_)
                have hP : va_P (dC, dI) vwCl [(q_depthOf, .inl (cI, 20, .inl a_depthOf)), (q_missing, .inl (cI, 20, .inl (upd a_missing_37 s_distance_13.toNatClampNeg ((a_missing_37 s_distance_13.toNatClampNeg) &&& (((1 : Int32) <<< (s_offset_13 &&& 31)) ^^^ (-1 : Int32)))))), (h0, .inr (6, [.int v_routers, .ref q_parentOf, .ref q_addressOf, .ref q_depthOf, .int v_percent, .int s_random_13, .int s_distance_13, .int s_offset_13, .int s_value_13, .int s_isMade_13, .ref q_marks, .int v_received, .int v_unmarked, .ref q_missing, .int v_nodes, .ref q_nodeAddresses, .ref q_nodeDistances, .ref q_nodeParents, .int v_found, .ref q_foundAddress, .ref q_foundDistance, .ref q_foundParent, .int v_words, .ref q_wordAt])), (q_parentOf, .inl (cI, 20, .inl a_parentOf)), (q_addressOf, .inl (cI, 20, .inl a_addressOf))] H := hP
                have hD : va_D A [(q_depthOf, .inl (cI, 20, .inl a_depthOf)), (q_missing, .inl (cI, 20, .inl (upd a_missing_37 s_distance_13.toNatClampNeg ((a_missing_37 s_distance_13.toNatClampNeg) &&& (((1 : Int32) <<< (s_offset_13 &&& 31)) ^^^ (-1 : Int32)))))), (h0, .inr (6, [.int v_routers, .ref q_parentOf, .ref q_addressOf, .ref q_depthOf, .int v_percent, .int s_random_13, .int s_distance_13, .int s_offset_13, .int s_value_13, .int s_isMade_13, .ref q_marks, .int v_received, .int v_unmarked, .ref q_missing, .int v_nodes, .ref q_nodeAddresses, .ref q_nodeDistances, .ref q_nodeParents, .int v_found, .ref q_foundAddress, .ref q_foundDistance, .ref q_foundParent, .int v_words, .ref q_wordAt])), (q_parentOf, .inl (cI, 20, .inl a_parentOf)), (q_addressOf, .inl (cI, 20, .inl a_addressOf))] := hD
                refine lv_goto (tgt := 37) hx hb dX6_packetsNeeded_93 (by decide) ?_
                cases Option.some.inj h
                exact ih1 _ _ _ _ _ _ _ _ _ _ (un_l hk1) (hP.sub [3, 4, 2, 0, 1] rfl) (hD.sub [3, 4, 2, 0, 1] (by decide) rfl) hS (lv_sub hl [0, 1, 2, 3, 4] rfl)
      exact key37 v_random N _ _ _ _ _ _ _ _ _ _ h hP hD hS hl
    · have h := it_p c4 h
      refine lv_bipush (v := (-2 : Int32)) hx hb dX6_packetsNeeded_21 (by decide) ?_
      have hk0 := Option.some.inj h
      cases hk0
      exact re_i [4, 0, 1, 2, 3] hx hb hr hlocks rfl hP hD hS rfl (by decide) rfl dX6_packetsNeeded_23
  · have h := it_p c2 h
    refine lv_iconst (v := (-1 : Int32)) hx hb dX6_packetsNeeded_8 (by decide) ?_
    have hk0 := Option.some.inj h
    cases hk0
    exact re_i [4, 0, 1, 2, 3] hx hb hr hlocks rfl hP hD hS rfl (by decide) rfl dX6_packetsNeeded_9
def bX6_combinations_4 (N : Nat) (p1 : Int32) (a_marks : Nat → Int32) (y2_4 : Int32) (y3_4 : Int32) : Option ((Int32 × Int32) ⊕ (Int32)) :=
  if (4 : Int32) ≤ y3_4 then
    some (.inr (y2_4))
  else
    bd1 (fX6_different N p1 y3_4 a_marks) fun r2 =>
    nm ((y2_4 * r2)) fun x3 =>
    some (.inl (x3, (y3_4 + 1)))
def fX6_combinations (N : Nat) (p1 : Int32) (a_marks : Nat → Int32) : Option (Int32) :=
  lp (fun s => bX6_combinations_4 N p1 a_marks s.1 s.2) N ((1 : Int32), (0 : Int32))
set_option maxHeartbeats 4000000 in
set_option maxRecDepth 100000 in
theorem mX6_combinations (l : Launch) (dC : Nat → ClassId) (dI : Nat → Nat → Nat) (cI : ClassId) (sz : Nat) (N : Nat) (h0 : Nat) (q_parentOf : Nat) (q_addressOf : Nat) (q_depthOf : Nat) (q_marks : Nat) (q_missing : Nat) (q_nodeAddresses : Nat) (q_nodeDistances : Nat) (q_nodeParents : Nat) (q_foundAddress : Nat) (q_foundDistance : Nat) (q_foundParent : Nat) (q_wordAt : Nat) (v_routers : Int32) (v_percent : Int32) (v_random : Int32) (v_distance : Int32) (v_offset : Int32) (v_value : Int32) (v_isMade : Int32) (v_received : Int32) (v_unmarked : Int32) (v_nodes : Int32) (v_found : Int32) (v_words : Int32) (a_marks : Nat → Int32) (p1 : Int32) {rr : Int32} (h : fX6_combinations N p1 a_marks = some rr) : Met l yX6_combinations wsX6_combinations ({ frames := 2, cells := 0, slots := 0, locals := 46 } : Room) (prX dC dI cI [.ref h0, .int p1] sz [(h0, .inr (6, [.int v_routers, .ref q_parentOf, .ref q_addressOf, .ref q_depthOf, .int v_percent, .int v_random, .int v_distance, .int v_offset, .int v_value, .int v_isMade, .ref q_marks, .int v_received, .int v_unmarked, .ref q_missing, .int v_nodes, .ref q_nodeAddresses, .ref q_nodeDistances, .ref q_nodeParents, .int v_found, .ref q_foundAddress, .ref q_foundDistance, .ref q_foundParent, .int v_words, .ref q_wordAt])), (q_marks, .inl (cI, 4096, .inl a_marks))]) (poI dC dI .int rr [(h0, .inr (6, [.int v_routers, .ref q_parentOf, .ref q_addressOf, .ref q_depthOf, .int v_percent, .int v_random, .int v_distance, .int v_offset, .int v_value, .int v_isMade, .ref q_marks, .int v_received, .int v_unmarked, .ref q_missing, .int v_nodes, .ref q_nodeAddresses, .ref q_nodeDistances, .ref q_nodeParents, .int v_found, .ref q_foundAddress, .ref q_foundDistance, .ref q_foundParent, .int v_words, .ref q_wordAt])), (q_marks, .inl (cI, 4096, .inl a_marks))] (va_A [(h0, .inr (6, [.int v_routers, .ref q_parentOf, .ref q_addressOf, .ref q_depthOf, .int v_percent, .int v_random, .int v_distance, .int v_offset, .int v_value, .int v_isMade, .ref q_marks, .int v_received, .int v_unmarked, .ref q_missing, .int v_nodes, .ref q_nodeAddresses, .ref q_nodeDistances, .ref q_nodeParents, .int v_found, .ref q_foundAddress, .ref q_foundDistance, .ref q_foundParent, .int v_words, .ref q_wordAt])), (q_marks, .inl (cI, 4096, .inl a_marks))] sz)) 0 0 (va_A [(h0, .inr (6, [.int v_routers, .ref q_parentOf, .ref q_addressOf, .ref q_depthOf, .int v_percent, .int v_random, .int v_distance, .int v_offset, .int v_value, .int v_isMade, .ref q_marks, .int v_received, .int v_unmarked, .ref q_missing, .int v_nodes, .ref q_nodeAddresses, .ref q_nodeDistances, .ref q_nodeParents, .int v_found, .ref q_foundAddress, .ref q_foundDistance, .ref q_foundParent, .int v_words, .ref q_wordAt])), (q_marks, .inl (cI, 4096, .inl a_marks))] sz) := by
  refine ofX (cc := cX6_combinations) (maxL := 4) (ret := (some .int)) (lv0 := [(0, .ref h0), (1, .int p1)]) (QA := fun A => poI dC dI .int rr [(h0, .inr (6, [.int v_routers, .ref q_parentOf, .ref q_addressOf, .ref q_depthOf, .int v_percent, .int v_random, .int v_distance, .int v_offset, .int v_value, .int v_isMade, .ref q_marks, .int v_received, .int v_unmarked, .ref q_missing, .int v_nodes, .ref q_nodeAddresses, .ref q_nodeDistances, .ref q_nodeParents, .int v_found, .ref q_foundAddress, .ref q_foundDistance, .ref q_foundParent, .int v_words, .ref q_wordAt])), (q_marks, .inl (cI, 4096, .inl a_marks))] A) (by decide) rfl (Nat.le_of_ble_eq_true rfl) rfl ?_
  intro p e s m below meth c A ls H locs hx hb hr hml hown hts hlocks hin hK hN hA hP hD hS hl
  have hown : s.vm.findClass RX6 = some m.cls := hown
  unfold fX6_combinations at h
  refine lv_iconst (v := (1 : Int32)) hx hb dX6_combinations_0 (by decide) ?_
  refine lv_istore_n (lv' := [(2, .int (1 : Int32)), (0, .ref h0), (1, .int p1)]) hx hb dX6_combinations_1 rfl hl (by decide) rfl (fun ls hl => ?_)
  refine lv_iconst (v := (0 : Int32)) hx hb dX6_combinations_2 (by decide) ?_
  refine lv_istore_n (lv' := [(3, .int (0 : Int32)), (2, .int (1 : Int32)), (0, .ref h0), (1, .int p1)]) hx hb dX6_combinations_3 rfl hl (by decide) rfl (fun ls hl => ?_)
  have key4 : ∀ (n1 : Nat) (y2_4 : Int32) (y3_4 : Int32) (H : Heap) (locs : List Loc) (ls : Array Slot), lp (fun s => bX6_combinations_4 N p1 a_marks s.1 s.2) n1 (y2_4, y3_4) = some rr → va_P (dC, dI) vwCl [(h0, .inr (6, [.int v_routers, .ref q_parentOf, .ref q_addressOf, .ref q_depthOf, .int v_percent, .int v_random, .int v_distance, .int v_offset, .int v_value, .int v_isMade, .ref q_marks, .int v_received, .int v_unmarked, .ref q_missing, .int v_nodes, .ref q_nodeAddresses, .ref q_nodeDistances, .ref q_nodeParents, .int v_found, .ref q_foundAddress, .ref q_foundDistance, .ref q_foundParent, .int v_words, .ref q_wordAt])), (q_marks, .inl (cI, 4096, .inl a_marks))] H → va_D A [(h0, .inr (6, [.int v_routers, .ref q_parentOf, .ref q_addressOf, .ref q_depthOf, .int v_percent, .int v_random, .int v_distance, .int v_offset, .int v_value, .int v_isMade, .ref q_marks, .int v_received, .int v_unmarked, .ref q_missing, .int v_nodes, .ref q_nodeAddresses, .ref q_nodeDistances, .ref q_nodeParents, .int v_found, .ref q_foundAddress, .ref q_foundDistance, .ref q_foundParent, .int v_words, .ref q_wordAt])), (q_marks, .inl (cI, 4096, .inl a_marks))] → va_S A s.heap H locs → lv_has ls 4 [(3, .int y3_4), (2, .int y2_4), (0, .ref h0), (1, .int p1)] → W p l e ({ frames := 2, cells := 0, slots := 0, locals := 46 } : Room) s m [.ref h0, .int p1].toArray below meth c H locs 0 0 (MQ below (poI dC dI .int rr [(h0, .inr (6, [.int v_routers, .ref q_parentOf, .ref q_addressOf, .ref q_depthOf, .int v_percent, .int v_random, .int v_distance, .int v_offset, .int v_value, .int v_isMade, .ref q_marks, .int v_received, .int v_unmarked, .ref q_missing, .int v_nodes, .ref q_nodeAddresses, .ref q_nodeDistances, .ref q_nodeParents, .int v_found, .ref q_foundAddress, .ref q_foundDistance, .ref q_foundParent, .int v_words, .ref q_wordAt])), (q_marks, .inl (cI, 4096, .inl a_marks))] A) [.ref h0, .int p1].toArray s 0 0 A) (F0 m 4 ls []) := by
    intro n1
    induction n1 with
    | zero =>
      intro y2_4 y3_4 H locs ls h
      exact (lp_0 h).elim
    | succ n1 ih1 =>
      intro y2_4 y3_4 H locs ls h hP hD hS hl
      obtain ⟨o1, h, hk1⟩ := lp_s h
      unfold bX6_combinations_4 at h
      try dsimp only at h
      refine lv_iload_n hx hb dX6_combinations_4 rfl (lv_at hl 0 rfl) ?_
      refine lv_iconst (v := (4 : Int32)) hx hb dX6_combinations_5 (by decide) ?_
      refine lv_icmp_ge (tgt := 24) hx hb dX6_combinations_6 (by decide) (fun c1 => ?_) (fun c1 => ?_)
      · have h := it_p c1 h
        refine lv_iload_n hx hb dX6_combinations_24 rfl (lv_at hl 1 rfl) ?_
        cases Option.some.inj h
        have hk1 := un_r hk1
        cases hk1
        exact re_i [0, 1] hx hb hr hlocks rfl hP hD hS rfl (by decide) rfl dX6_combinations_25
      · have h := it_n c1 h
        refine lv_iload_n hx hb dX6_combinations_9 rfl (lv_at hl 1 rfl) ?_
        refine lv_aload_n hx hb dX6_combinations_10 rfl (lv_at hl 2 rfl) ?_
        refine lv_iload_n hx hb dX6_combinations_11 rfl (lv_at hl 3 rfl) ?_
        refine lv_iload_n hx hb dX6_combinations_12 rfl (lv_at hl 0 rfl) ?_
        obtain ⟨r2, h2, h⟩ := bd1_e h
        refine ca_Vi (wc := [(h0, .inr (6, [.int v_routers, .ref q_parentOf, .ref q_addressOf, .ref q_depthOf, .int v_percent, .int v_random, .int v_distance, .int v_offset, .int v_value, .int v_isMade, .ref q_marks, .int v_received, .int v_unmarked, .ref q_missing, .int v_nodes, .ref q_nodeAddresses, .ref q_nodeDistances, .ref q_nodeParents, .int v_found, .ref q_foundAddress, .ref q_foundDistance, .ref q_foundParent, .int v_words, .ref q_wordAt])), (q_marks, .inl (cI, 4096, .inl a_marks))]) (wr := []) (w1 := [(h0, .inr (6, [.int v_routers, .ref q_parentOf, .ref q_addressOf, .ref q_depthOf, .int v_percent, .int v_random, .int v_distance, .int v_offset, .int v_value, .int v_isMade, .ref q_marks, .int v_received, .int v_unmarked, .ref q_missing, .int v_nodes, .ref q_nodeAddresses, .ref q_nodeDistances, .ref q_nodeParents, .int v_found, .ref q_foundAddress, .ref q_foundDistance, .ref q_foundParent, .int v_words, .ref q_wordAt])), (q_marks, .inl (cI, 4096, .inl a_marks))]) [.int p1, .int y3_4] [.int y2_4] [0, 1] [] hx hb hml hown hts (mX6_different l dC dI cI H.size N h0 q_parentOf q_addressOf q_depthOf q_marks q_missing q_nodeAddresses q_nodeDistances q_nodeParents q_foundAddress q_foundDistance q_foundParent q_wordAt v_routers v_percent v_random v_distance v_offset v_value v_isMade v_received v_unmarked v_nodes v_found v_words a_marks p1 y3_4 h2) (cwV 2 hts gX6_combinations_X6_different rfl rfl rfl (by decide +kernel) ⟨Nat.le_of_ble_eq_true rfl, Nat.le_of_ble_eq_true rfl⟩) hK hN hP hD hS hA rfl rfl (by decide) (by decide) (by decide) rfl rfl rfl hl.1 rfl (Nat.le_of_ble_eq_true rfl) dX6_combinations_13 ⟨Nat.zero_le _, Nat.zero_le _⟩ (fun H locs hP hD hS hz2 => ?_)
        have hP : va_P (dC, dI) vwCl [(h0, .inr (6, [.int v_routers, .ref q_parentOf, .ref q_addressOf, .ref q_depthOf, .int v_percent, .int v_random, .int v_distance, .int v_offset, .int v_value, .int v_isMade, .ref q_marks, .int v_received, .int v_unmarked, .ref q_missing, .int v_nodes, .ref q_nodeAddresses, .ref q_nodeDistances, .ref q_nodeParents, .int v_found, .ref q_foundAddress, .ref q_foundDistance, .ref q_foundParent, .int v_words, .ref q_wordAt])), (q_marks, .inl (cI, 4096, .inl a_marks))] H := hP
        have hD : va_D A [(h0, .inr (6, [.int v_routers, .ref q_parentOf, .ref q_addressOf, .ref q_depthOf, .int v_percent, .int v_random, .int v_distance, .int v_offset, .int v_value, .int v_isMade, .ref q_marks, .int v_received, .int v_unmarked, .ref q_missing, .int v_nodes, .ref q_nodeAddresses, .ref q_nodeDistances, .ref q_nodeParents, .int v_found, .ref q_foundAddress, .ref q_foundDistance, .ref q_foundParent, .int v_words, .ref q_wordAt])), (q_marks, .inl (cI, 4096, .inl a_marks))] := hD
        refine lv_imul hx hb dX6_combinations_16 ?_
        refine lv_topi (fun x3 ex3 => ?_)
        have h := nm_u ex3 h
        refine lv_istore_n (lv' := [(2, .int x3), (3, .int y3_4), (0, .ref h0), (1, .int p1)]) hx hb dX6_combinations_17 rfl hl (by decide) rfl (fun ls hl => ?_)
        refine lv_iinc (v := y3_4 + 1) (lv' := [(3, .int (y3_4 + 1)), (2, .int x3), (0, .ref h0), (1, .int p1)]) hx hb dX6_combinations_18 hl (k := 1) rfl rfl (by decide) rfl (fun ls hl => ?_)
        refine lv_goto (tgt := 4) hx hb dX6_combinations_21 (by decide) ?_
        cases Option.some.inj h
        exact ih1 _ _ _ _ _ (un_l hk1) (hP.sub [0, 1] rfl) (hD.sub [0, 1] (by decide) rfl) hS (lv_sub hl [0, 1, 2, 3] rfl)
  exact key4 N _ _ _ _ _ h hP hD hS hl
def bX6_fragmentAt_6 (p1 : Int32) (p2 : Int32) (a_marks : Nat → Int32) (y4_6 : Int32) (y5_6 : Int32) : Option ((Int32 × Int32) ⊕ (Int32)) :=
  if (32 : Int32) ≤ y5_6 then
    some (.inr (-7 : Int32))
  else
    bd1 (fX6_placeOf p1 p2 y5_6) fun r2 =>
    if ¬ (r2 < 0 ∨ 4096 ≤ r2.toNatClampNeg) then
      if (a_marks r2.toNatClampNeg) ≤ 0 then
        some (.inl (y4_6, (y5_6 + 1)))
      else
        if y4_6 = 0 then
          some (.inr (y5_6))
        else
          some (.inl ((y4_6 + (-1 : Int32)), (y5_6 + 1)))
    else none
def fX6_fragmentAt (N : Nat) (p1 : Int32) (p2 : Int32) (p3 : Int32) (a_marks : Nat → Int32) : Option (Int32) :=
  lp (fun s => bX6_fragmentAt_6 p1 p2 a_marks s.1 s.2) N (p3, (0 : Int32))
set_option maxHeartbeats 4000000 in
set_option maxRecDepth 100000 in
theorem mX6_fragmentAt (l : Launch) (dC : Nat → ClassId) (dI : Nat → Nat → Nat) (cI : ClassId) (sz : Nat) (N : Nat) (h0 : Nat) (q_parentOf : Nat) (q_addressOf : Nat) (q_depthOf : Nat) (q_marks : Nat) (q_missing : Nat) (q_nodeAddresses : Nat) (q_nodeDistances : Nat) (q_nodeParents : Nat) (q_foundAddress : Nat) (q_foundDistance : Nat) (q_foundParent : Nat) (q_wordAt : Nat) (v_routers : Int32) (v_percent : Int32) (v_random : Int32) (v_distance : Int32) (v_offset : Int32) (v_value : Int32) (v_isMade : Int32) (v_received : Int32) (v_unmarked : Int32) (v_nodes : Int32) (v_found : Int32) (v_words : Int32) (a_marks : Nat → Int32) (p1 : Int32) (p2 : Int32) (p3 : Int32) {rr : Int32} (h : fX6_fragmentAt N p1 p2 p3 a_marks = some rr) : Met l yX6_fragmentAt wsX6_fragmentAt ({ frames := 1, cells := 0, slots := 0, locals := 22 } : Room) (prX dC dI cI [.ref h0, .int p1, .int p2, .int p3] sz [(h0, .inr (6, [.int v_routers, .ref q_parentOf, .ref q_addressOf, .ref q_depthOf, .int v_percent, .int v_random, .int v_distance, .int v_offset, .int v_value, .int v_isMade, .ref q_marks, .int v_received, .int v_unmarked, .ref q_missing, .int v_nodes, .ref q_nodeAddresses, .ref q_nodeDistances, .ref q_nodeParents, .int v_found, .ref q_foundAddress, .ref q_foundDistance, .ref q_foundParent, .int v_words, .ref q_wordAt])), (q_marks, .inl (cI, 4096, .inl a_marks))]) (poI dC dI .int rr [(h0, .inr (6, [.int v_routers, .ref q_parentOf, .ref q_addressOf, .ref q_depthOf, .int v_percent, .int v_random, .int v_distance, .int v_offset, .int v_value, .int v_isMade, .ref q_marks, .int v_received, .int v_unmarked, .ref q_missing, .int v_nodes, .ref q_nodeAddresses, .ref q_nodeDistances, .ref q_nodeParents, .int v_found, .ref q_foundAddress, .ref q_foundDistance, .ref q_foundParent, .int v_words, .ref q_wordAt])), (q_marks, .inl (cI, 4096, .inl a_marks))] (va_A [(h0, .inr (6, [.int v_routers, .ref q_parentOf, .ref q_addressOf, .ref q_depthOf, .int v_percent, .int v_random, .int v_distance, .int v_offset, .int v_value, .int v_isMade, .ref q_marks, .int v_received, .int v_unmarked, .ref q_missing, .int v_nodes, .ref q_nodeAddresses, .ref q_nodeDistances, .ref q_nodeParents, .int v_found, .ref q_foundAddress, .ref q_foundDistance, .ref q_foundParent, .int v_words, .ref q_wordAt])), (q_marks, .inl (cI, 4096, .inl a_marks))] sz)) 0 0 (va_A [(h0, .inr (6, [.int v_routers, .ref q_parentOf, .ref q_addressOf, .ref q_depthOf, .int v_percent, .int v_random, .int v_distance, .int v_offset, .int v_value, .int v_isMade, .ref q_marks, .int v_received, .int v_unmarked, .ref q_missing, .int v_nodes, .ref q_nodeAddresses, .ref q_nodeDistances, .ref q_nodeParents, .int v_found, .ref q_foundAddress, .ref q_foundDistance, .ref q_foundParent, .int v_words, .ref q_wordAt])), (q_marks, .inl (cI, 4096, .inl a_marks))] sz) := by
  refine ofX (cc := cX6_fragmentAt) (maxL := 6) (ret := (some .int)) (lv0 := [(0, .ref h0), (1, .int p1), (2, .int p2), (3, .int p3)]) (QA := fun A => poI dC dI .int rr [(h0, .inr (6, [.int v_routers, .ref q_parentOf, .ref q_addressOf, .ref q_depthOf, .int v_percent, .int v_random, .int v_distance, .int v_offset, .int v_value, .int v_isMade, .ref q_marks, .int v_received, .int v_unmarked, .ref q_missing, .int v_nodes, .ref q_nodeAddresses, .ref q_nodeDistances, .ref q_nodeParents, .int v_found, .ref q_foundAddress, .ref q_foundDistance, .ref q_foundParent, .int v_words, .ref q_wordAt])), (q_marks, .inl (cI, 4096, .inl a_marks))] A) (by decide) rfl (Nat.le_of_ble_eq_true rfl) rfl ?_
  intro p e s m below meth c A ls H locs hx hb hr hml hown hts hlocks hin hK hN hA hP hD hS hl
  have hown : s.vm.findClass RX6 = some m.cls := hown
  unfold fX6_fragmentAt at h
  have hiX6 : ∀ w ∈ u_ws RX6 TX6 24, w ∈ wsX6_fragmentAt := fun _ h => List.mem_cons_of_mem _ (List.mem_append_right _ h)
  have hf19 := (hts (.fieldLink RX6 19 "PacketTracebackModel" "marks" "[I") (List.mem_of_getElem? (i := 1) (by decide +kernel)))
  refine lv_iload_n hx hb dX6_fragmentAt_0 rfl (lv_at hl 3 rfl) ?_
  refine lv_istore (lv' := [(4, .int p3), (0, .ref h0), (1, .int p1), (2, .int p2), (3, .int p3)]) hx hb dX6_fragmentAt_1 hl (by decide) rfl (fun ls hl => ?_)
  refine lv_iconst (v := (0 : Int32)) hx hb dX6_fragmentAt_3 (by decide) ?_
  refine lv_istore (lv' := [(5, .int (0 : Int32)), (4, .int p3), (0, .ref h0), (1, .int p1), (2, .int p2), (3, .int p3)]) hx hb dX6_fragmentAt_4 hl (by decide) rfl (fun ls hl => ?_)
  have key6 : ∀ (n1 : Nat) (y4_6 : Int32) (y5_6 : Int32) (H : Heap) (locs : List Loc) (ls : Array Slot), lp (fun s => bX6_fragmentAt_6 p1 p2 a_marks s.1 s.2) n1 (y4_6, y5_6) = some rr → va_P (dC, dI) vwCl [(h0, .inr (6, [.int v_routers, .ref q_parentOf, .ref q_addressOf, .ref q_depthOf, .int v_percent, .int v_random, .int v_distance, .int v_offset, .int v_value, .int v_isMade, .ref q_marks, .int v_received, .int v_unmarked, .ref q_missing, .int v_nodes, .ref q_nodeAddresses, .ref q_nodeDistances, .ref q_nodeParents, .int v_found, .ref q_foundAddress, .ref q_foundDistance, .ref q_foundParent, .int v_words, .ref q_wordAt])), (q_marks, .inl (cI, 4096, .inl a_marks))] H → va_D A [(h0, .inr (6, [.int v_routers, .ref q_parentOf, .ref q_addressOf, .ref q_depthOf, .int v_percent, .int v_random, .int v_distance, .int v_offset, .int v_value, .int v_isMade, .ref q_marks, .int v_received, .int v_unmarked, .ref q_missing, .int v_nodes, .ref q_nodeAddresses, .ref q_nodeDistances, .ref q_nodeParents, .int v_found, .ref q_foundAddress, .ref q_foundDistance, .ref q_foundParent, .int v_words, .ref q_wordAt])), (q_marks, .inl (cI, 4096, .inl a_marks))] → va_S A s.heap H locs → lv_has ls 6 [(5, .int y5_6), (4, .int y4_6), (0, .ref h0), (1, .int p1), (2, .int p2), (3, .int p3)] → W p l e ({ frames := 1, cells := 0, slots := 0, locals := 22 } : Room) s m [.ref h0, .int p1, .int p2, .int p3].toArray below meth c H locs 0 0 (MQ below (poI dC dI .int rr [(h0, .inr (6, [.int v_routers, .ref q_parentOf, .ref q_addressOf, .ref q_depthOf, .int v_percent, .int v_random, .int v_distance, .int v_offset, .int v_value, .int v_isMade, .ref q_marks, .int v_received, .int v_unmarked, .ref q_missing, .int v_nodes, .ref q_nodeAddresses, .ref q_nodeDistances, .ref q_nodeParents, .int v_found, .ref q_foundAddress, .ref q_foundDistance, .ref q_foundParent, .int v_words, .ref q_wordAt])), (q_marks, .inl (cI, 4096, .inl a_marks))] A) [.ref h0, .int p1, .int p2, .int p3].toArray s 0 0 A) (F0 m 6 ls []) := by
    intro n1
    induction n1 with
    | zero =>
      intro y4_6 y5_6 H locs ls h
      exact (lp_0 h).elim
    | succ n1 ih1 =>
      intro y4_6 y5_6 H locs ls h hP hD hS hl
      obtain ⟨o1, h, hk1⟩ := lp_s h
      unfold bX6_fragmentAt_6 at h
      try dsimp only at h
      refine lv_iload hx hb dX6_fragmentAt_6 (lv_at hl 0 rfl) ?_
      refine lv_bipush (v := (32 : Int32)) hx hb dX6_fragmentAt_8 (by decide) ?_
      refine lv_icmp_ge (tgt := 45) hx hb dX6_fragmentAt_10 (by decide) (fun c1 => ?_) (fun c1 => ?_)
      · have h := it_p c1 h
        refine lv_bipush (v := (-7 : Int32)) hx hb dX6_fragmentAt_45 (by decide) ?_
        cases Option.some.inj h
        have hk1 := un_r hk1
        cases hk1
        exact re_i [0, 1] hx hb hr hlocks rfl hP hD hS rfl (by decide) rfl dX6_fragmentAt_47
      · have h := it_n c1 h
        refine lv_aload_n hx hb dX6_fragmentAt_13 rfl (lv_at hl 2 rfl) ?_
        refine va_get (D := (dC, dI)) (ci := 6) (v := .ref q_marks) (C := RX6) (T := TX6) (N := 24) hx hb hts hiX6 hown hK hP 0 rfl rfl 10 (by decide) hf19 (fun _ h9 => h9) rfl dX6_fragmentAt_14 ?_
        refine lv_iload_n hx hb dX6_fragmentAt_17 rfl (lv_at hl 3 rfl) ?_
        refine lv_iload_n hx hb dX6_fragmentAt_18 rfl (lv_at hl 4 rfl) ?_
        refine lv_iload hx hb dX6_fragmentAt_19 (lv_at hl 0 rfl) ?_
        obtain ⟨r2, h2, h⟩ := bd1_e h
        refine ca_Si (wc := []) (wr := [(h0, .inr (6, [.int v_routers, .ref q_parentOf, .ref q_addressOf, .ref q_depthOf, .int v_percent, .int v_random, .int v_distance, .int v_offset, .int v_value, .int v_isMade, .ref q_marks, .int v_received, .int v_unmarked, .ref q_missing, .int v_nodes, .ref q_nodeAddresses, .ref q_nodeDistances, .ref q_nodeParents, .int v_found, .ref q_foundAddress, .ref q_foundDistance, .ref q_foundParent, .int v_words, .ref q_wordAt])), (q_marks, .inl (cI, 4096, .inl a_marks))]) (w1 := []) [.int p1, .int p2, .int y5_6] [.ref q_marks] [] [0, 1] hx hb hml hown hts (mX6_placeOf l dC dI cI H.size p1 p2 y5_6 h2) (va_cwS 3 hts gX6_fragmentAt_X6_placeOf rfl rfl rfl (by decide +kernel) ⟨Nat.le_of_ble_eq_true rfl, Nat.le_of_ble_eq_true rfl⟩) hK hN hP hD hS hA rfl rfl (by decide) (by decide) (by decide) rfl hl.1 rfl (Nat.le_of_ble_eq_true rfl) dX6_fragmentAt_21 ⟨Nat.zero_le _, Nat.zero_le _⟩ (fun H locs hP hD hS hz2 => ?_)
        have hP : va_P (dC, dI) vwCl [(h0, .inr (6, [.int v_routers, .ref q_parentOf, .ref q_addressOf, .ref q_depthOf, .int v_percent, .int v_random, .int v_distance, .int v_offset, .int v_value, .int v_isMade, .ref q_marks, .int v_received, .int v_unmarked, .ref q_missing, .int v_nodes, .ref q_nodeAddresses, .ref q_nodeDistances, .ref q_nodeParents, .int v_found, .ref q_foundAddress, .ref q_foundDistance, .ref q_foundParent, .int v_words, .ref q_wordAt])), (q_marks, .inl (cI, 4096, .inl a_marks))] H := hP
        have hD : va_D A [(h0, .inr (6, [.int v_routers, .ref q_parentOf, .ref q_addressOf, .ref q_depthOf, .int v_percent, .int v_random, .int v_distance, .int v_offset, .int v_value, .int v_isMade, .ref q_marks, .int v_received, .int v_unmarked, .ref q_missing, .int v_nodes, .ref q_nodeAddresses, .ref q_nodeDistances, .ref q_nodeParents, .int v_found, .ref q_foundAddress, .ref q_foundDistance, .ref q_foundParent, .int v_words, .ref q_wordAt])), (q_marks, .inl (cI, 4096, .inl a_marks))] := hD
        obtain ⟨g3, h⟩ := gd_e h
        refine va_iald hx hb hK hP 1 0 rfl rfl g3 dX6_fragmentAt_24 ?_
        refine lv_if_le (tgt := 39) hx hb dX6_fragmentAt_25 (by decide) (fun c4 => ?_) (fun c4 => ?_)
        · have h := it_p c4 h
          refine lv_iinc (v := y5_6 + 1) (lv' := [(5, .int (y5_6 + 1)), (4, .int y4_6), (0, .ref h0), (1, .int p1), (2, .int p2), (3, .int p3)]) hx hb dX6_fragmentAt_39 hl (k := 0) rfl rfl (by decide) rfl (fun ls hl => ?_)
          refine lv_goto (tgt := 6) hx hb dX6_fragmentAt_42 (by decide) ?_
          cases Option.some.inj h
          exact ih1 _ _ _ _ _ (un_l hk1) (hP.sub [0, 1] rfl) (hD.sub [0, 1] (by decide) rfl) hS (lv_sub hl [0, 1, 2, 3, 4, 5] rfl)
        · have h := it_n c4 h
          refine lv_iload hx hb dX6_fragmentAt_28 (lv_at hl 1 rfl) ?_
          refine lv_if_ne (tgt := 36) hx hb dX6_fragmentAt_30 (by decide) (fun c5 => ?_) (fun c5 => ?_)
          · have h := it_n c5 h
            refine lv_iinc (v := y4_6 + (-1 : Int32)) (lv' := [(4, .int (y4_6 + (-1 : Int32))), (5, .int y5_6), (0, .ref h0), (1, .int p1), (2, .int p2), (3, .int p3)]) hx hb dX6_fragmentAt_36 hl (k := 1) rfl rfl (by decide) rfl (fun ls hl => ?_)
            refine lv_iinc (v := y5_6 + 1) (lv' := [(5, .int (y5_6 + 1)), (4, .int (y4_6 + (-1 : Int32))), (0, .ref h0), (1, .int p1), (2, .int p2), (3, .int p3)]) hx hb dX6_fragmentAt_39 hl (k := 1) rfl rfl (by decide) rfl (fun ls hl => ?_)
            refine lv_goto (tgt := 6) hx hb dX6_fragmentAt_42 (by decide) ?_
            cases Option.some.inj h
            exact ih1 _ _ _ _ _ (un_l hk1) (hP.sub [0, 1] rfl) (hD.sub [0, 1] (by decide) rfl) hS (lv_sub hl [0, 1, 2, 3, 4, 5] rfl)
          · have h := it_p c5 h
            refine lv_iload hx hb dX6_fragmentAt_33 (lv_at hl 0 rfl) ?_
            cases Option.some.inj h
            have hk1 := un_r hk1
            cases hk1
            exact re_i [0, 1] hx hb hr hlocks rfl hP hD hS rfl (by decide) rfl dX6_fragmentAt_35
  exact key6 N _ _ _ _ _ h hP hD hS hl
def bX6_findWords_27 (N : Nat) (p1 : Int32) (a_marks : Nat → Int32) (a_wordAt_11 : Nat → Int32) (y2_27 : Int32) (y3_27 : Int32) (y4_27 : Int32) (y5_27 : Int32) : Option ((Int32 × Int32 × Int32) ⊕ (((Int32 × (Nat → Int32)) ⊕ (Int32 × (Nat → Int32))))) :=
  if (4 : Int32) ≤ y5_27 then
    if ¬ (y2_27 < 0 ∨ 4096 ≤ y2_27.toNatClampNeg) then
      some (.inr (.inl ((y2_27 + 1), (upd a_wordAt_11 y2_27.toNatClampNeg y4_27))))
    else none
  else
    bd1 (fX6_different N p1 y5_27 a_marks) fun r5 =>
    if ¬ r5 = 0 then
      bd1 (fX6_fragmentAt N p1 y5_27 (y3_27 - y3_27 / r5 * r5) a_marks) fun r7 =>
      nm ((y4_27 ||| (r7 <<< (((5 : Int32) * y5_27) &&& 31)))) fun x8 =>
      if ¬ r5 = 0 then
        nm ((y3_27 / r5)) fun x10 =>
        some (.inl (x10, x8, (y5_27 + 1)))
      else none
    else none
def bX6_findWords_11 (N : Nat) (p1 : Int32) (a_marks : Nat → Int32) (r1 : Int32) (y2_11 : Int32) (a_wordAt_11 : Nat → Int32) : Option ((Int32 × (Nat → Int32)) ⊕ (Int32 × (Nat → Int32))) :=
  if r1 ≤ y2_11 then
    some (.inr (r1, a_wordAt_11))
  else
    lp (fun s => bX6_findWords_27 N p1 a_marks a_wordAt_11 y2_11 s.1 s.2.1 s.2.2) N (y2_11, (0 : Int32), (0 : Int32))
def fX6_findWords (N : Nat) (p1 : Int32) (a_marks : Nat → Int32) (a_wordAt : Nat → Int32) : Option (Int32 × (Nat → Int32)) :=
  bd1 (fX6_combinations N p1 a_marks) fun r1 =>
  lp (fun s => bX6_findWords_11 N p1 a_marks r1 s.1 s.2) N ((0 : Int32), a_wordAt)
set_option maxHeartbeats 4000000 in
set_option maxRecDepth 100000 in
theorem mX6_findWords (l : Launch) (dC : Nat → ClassId) (dI : Nat → Nat → Nat) (cI : ClassId) (sz : Nat) (N : Nat) (h0 : Nat) (q_parentOf : Nat) (q_addressOf : Nat) (q_depthOf : Nat) (q_marks : Nat) (q_missing : Nat) (q_nodeAddresses : Nat) (q_nodeDistances : Nat) (q_nodeParents : Nat) (q_foundAddress : Nat) (q_foundDistance : Nat) (q_foundParent : Nat) (q_wordAt : Nat) (v_routers : Int32) (v_percent : Int32) (v_random : Int32) (v_distance : Int32) (v_offset : Int32) (v_value : Int32) (v_isMade : Int32) (v_received : Int32) (v_unmarked : Int32) (v_nodes : Int32) (v_found : Int32) (v_words : Int32) (a_marks : Nat → Int32) (a_wordAt : Nat → Int32) (p1 : Int32) {o_words : Int32} {o_wordAt : Nat → Int32} (h : fX6_findWords N p1 a_marks a_wordAt = some (o_words, o_wordAt)) : Met l yX6_findWords wsX6_findWords ({ frames := 3, cells := 0, slots := 0, locals := 69 } : Room) (prX dC dI cI [.ref h0, .int p1] sz [(h0, .inr (6, [.int v_routers, .ref q_parentOf, .ref q_addressOf, .ref q_depthOf, .int v_percent, .int v_random, .int v_distance, .int v_offset, .int v_value, .int v_isMade, .ref q_marks, .int v_received, .int v_unmarked, .ref q_missing, .int v_nodes, .ref q_nodeAddresses, .ref q_nodeDistances, .ref q_nodeParents, .int v_found, .ref q_foundAddress, .ref q_foundDistance, .ref q_foundParent, .int v_words, .ref q_wordAt])), (q_marks, .inl (cI, 4096, .inl a_marks)), (q_wordAt, .inl (cI, 4096, .inl a_wordAt))]) (poV dC dI [(h0, .inr (6, [.int v_routers, .ref q_parentOf, .ref q_addressOf, .ref q_depthOf, .int v_percent, .int v_random, .int v_distance, .int v_offset, .int v_value, .int v_isMade, .ref q_marks, .int v_received, .int v_unmarked, .ref q_missing, .int v_nodes, .ref q_nodeAddresses, .ref q_nodeDistances, .ref q_nodeParents, .int v_found, .ref q_foundAddress, .ref q_foundDistance, .ref q_foundParent, .int o_words, .ref q_wordAt])), (q_marks, .inl (cI, 4096, .inl a_marks)), (q_wordAt, .inl (cI, 4096, .inl o_wordAt))] (va_A [(h0, .inr (6, [.int v_routers, .ref q_parentOf, .ref q_addressOf, .ref q_depthOf, .int v_percent, .int v_random, .int v_distance, .int v_offset, .int v_value, .int v_isMade, .ref q_marks, .int v_received, .int v_unmarked, .ref q_missing, .int v_nodes, .ref q_nodeAddresses, .ref q_nodeDistances, .ref q_nodeParents, .int v_found, .ref q_foundAddress, .ref q_foundDistance, .ref q_foundParent, .int v_words, .ref q_wordAt])), (q_marks, .inl (cI, 4096, .inl a_marks)), (q_wordAt, .inl (cI, 4096, .inl a_wordAt))] sz)) 0 0 (va_A [(h0, .inr (6, [.int v_routers, .ref q_parentOf, .ref q_addressOf, .ref q_depthOf, .int v_percent, .int v_random, .int v_distance, .int v_offset, .int v_value, .int v_isMade, .ref q_marks, .int v_received, .int v_unmarked, .ref q_missing, .int v_nodes, .ref q_nodeAddresses, .ref q_nodeDistances, .ref q_nodeParents, .int v_found, .ref q_foundAddress, .ref q_foundDistance, .ref q_foundParent, .int v_words, .ref q_wordAt])), (q_marks, .inl (cI, 4096, .inl a_marks)), (q_wordAt, .inl (cI, 4096, .inl a_wordAt))] sz) := by
  refine ofX (cc := cX6_findWords) (maxL := 7) (ret := none) (lv0 := [(0, .ref h0), (1, .int p1)]) (QA := fun A => poV dC dI [(h0, .inr (6, [.int v_routers, .ref q_parentOf, .ref q_addressOf, .ref q_depthOf, .int v_percent, .int v_random, .int v_distance, .int v_offset, .int v_value, .int v_isMade, .ref q_marks, .int v_received, .int v_unmarked, .ref q_missing, .int v_nodes, .ref q_nodeAddresses, .ref q_nodeDistances, .ref q_nodeParents, .int v_found, .ref q_foundAddress, .ref q_foundDistance, .ref q_foundParent, .int o_words, .ref q_wordAt])), (q_marks, .inl (cI, 4096, .inl a_marks)), (q_wordAt, .inl (cI, 4096, .inl o_wordAt))] A) (by decide) rfl (Nat.le_of_ble_eq_true rfl) rfl ?_
  intro p e s m below meth c A ls H locs hx hb hr hml hown hts hlocks hin hK hN hA hP hD hS hl
  have hown : s.vm.findClass RX6 = some m.cls := hown
  unfold fX6_findWords at h
  have hiX6 : ∀ w ∈ u_ws RX6 TX6 24, w ∈ wsX6_findWords := fun _ h => List.mem_cons_of_mem _ (List.mem_append_right _ h)
  have hf141 := (hts (.fieldLink RX6 141 "PacketTracebackModel" "words" "I") (List.mem_of_getElem? (i := 1) (by decide +kernel)))
  have hf43 := (hts (.fieldLink RX6 43 "PacketTracebackModel" "wordAt" "[I") (List.mem_of_getElem? (i := 2) (by decide +kernel)))
  refine lv_aload_n hx hb dX6_findWords_0 rfl (lv_at hl 0 rfl) ?_
  refine lv_aload_n hx hb dX6_findWords_1 rfl (lv_at hl 0 rfl) ?_
  refine lv_iload_n hx hb dX6_findWords_2 rfl (lv_at hl 1 rfl) ?_
  obtain ⟨r1, h1, h⟩ := bd1_e h
  refine ca_Vi (wc := [(h0, .inr (6, [.int v_routers, .ref q_parentOf, .ref q_addressOf, .ref q_depthOf, .int v_percent, .int v_random, .int v_distance, .int v_offset, .int v_value, .int v_isMade, .ref q_marks, .int v_received, .int v_unmarked, .ref q_missing, .int v_nodes, .ref q_nodeAddresses, .ref q_nodeDistances, .ref q_nodeParents, .int v_found, .ref q_foundAddress, .ref q_foundDistance, .ref q_foundParent, .int v_words, .ref q_wordAt])), (q_marks, .inl (cI, 4096, .inl a_marks))]) (wr := [(q_wordAt, .inl (cI, 4096, .inl a_wordAt))]) (w1 := [(h0, .inr (6, [.int v_routers, .ref q_parentOf, .ref q_addressOf, .ref q_depthOf, .int v_percent, .int v_random, .int v_distance, .int v_offset, .int v_value, .int v_isMade, .ref q_marks, .int v_received, .int v_unmarked, .ref q_missing, .int v_nodes, .ref q_nodeAddresses, .ref q_nodeDistances, .ref q_nodeParents, .int v_found, .ref q_foundAddress, .ref q_foundDistance, .ref q_foundParent, .int v_words, .ref q_wordAt])), (q_marks, .inl (cI, 4096, .inl a_marks))]) [.int p1] [.ref h0] [0, 1] [2] hx hb hml hown hts (mX6_combinations l dC dI cI H.size N h0 q_parentOf q_addressOf q_depthOf q_marks q_missing q_nodeAddresses q_nodeDistances q_nodeParents q_foundAddress q_foundDistance q_foundParent q_wordAt v_routers v_percent v_random v_distance v_offset v_value v_isMade v_received v_unmarked v_nodes v_found v_words a_marks p1 h1) (cwV 1 hts gX6_findWords_X6_combinations rfl rfl rfl (by decide +kernel) ⟨Nat.le_of_ble_eq_true rfl, Nat.le_of_ble_eq_true rfl⟩) hK hN hP hD hS hA rfl rfl (by decide) (by decide) (by decide) rfl rfl rfl hl.1 rfl (Nat.le_of_ble_eq_true rfl) dX6_findWords_3 ⟨Nat.zero_le _, Nat.zero_le _⟩ (fun H locs hP hD hS hz1 => ?_)
  have hP : va_P (dC, dI) vwCl [(q_wordAt, .inl (cI, 4096, .inl a_wordAt)), (h0, .inr (6, [.int v_routers, .ref q_parentOf, .ref q_addressOf, .ref q_depthOf, .int v_percent, .int v_random, .int v_distance, .int v_offset, .int v_value, .int v_isMade, .ref q_marks, .int v_received, .int v_unmarked, .ref q_missing, .int v_nodes, .ref q_nodeAddresses, .ref q_nodeDistances, .ref q_nodeParents, .int v_found, .ref q_foundAddress, .ref q_foundDistance, .ref q_foundParent, .int v_words, .ref q_wordAt])), (q_marks, .inl (cI, 4096, .inl a_marks))] H := hP
  have hD : va_D A [(q_wordAt, .inl (cI, 4096, .inl a_wordAt)), (h0, .inr (6, [.int v_routers, .ref q_parentOf, .ref q_addressOf, .ref q_depthOf, .int v_percent, .int v_random, .int v_distance, .int v_offset, .int v_value, .int v_isMade, .ref q_marks, .int v_received, .int v_unmarked, .ref q_missing, .int v_nodes, .ref q_nodeAddresses, .ref q_nodeDistances, .ref q_nodeParents, .int v_found, .ref q_foundAddress, .ref q_foundDistance, .ref q_foundParent, .int v_words, .ref q_wordAt])), (q_marks, .inl (cI, 4096, .inl a_marks))] := hD
  refine va_put (D := (dC, dI)) (ci := 6) (v := .int r1) (ty := .int) (C := RX6) (T := TX6) (N := 24) hx hb hts hiX6 tyX6 tyX6_ok nmX6 hown hK hP hD hS 1 rfl rfl 22 (by decide) hf141 (fun _ h9 => h9) rfl (by decide +kernel) rfl rfl (Nat.le_of_ble_eq_true rfl) dX6_findWords_6 (fun H locs hP hD hS => ?_)
  have hP : va_P (dC, dI) vwCl [(q_wordAt, .inl (cI, 4096, .inl a_wordAt)), (h0, .inr (6, [.int v_routers, .ref q_parentOf, .ref q_addressOf, .ref q_depthOf, .int v_percent, .int v_random, .int v_distance, .int v_offset, .int v_value, .int v_isMade, .ref q_marks, .int v_received, .int v_unmarked, .ref q_missing, .int v_nodes, .ref q_nodeAddresses, .ref q_nodeDistances, .ref q_nodeParents, .int v_found, .ref q_foundAddress, .ref q_foundDistance, .ref q_foundParent, .int r1, .ref q_wordAt])), (q_marks, .inl (cI, 4096, .inl a_marks))] H := hP
  have hD : va_D A [(q_wordAt, .inl (cI, 4096, .inl a_wordAt)), (h0, .inr (6, [.int v_routers, .ref q_parentOf, .ref q_addressOf, .ref q_depthOf, .int v_percent, .int v_random, .int v_distance, .int v_offset, .int v_value, .int v_isMade, .ref q_marks, .int v_received, .int v_unmarked, .ref q_missing, .int v_nodes, .ref q_nodeAddresses, .ref q_nodeDistances, .ref q_nodeParents, .int v_found, .ref q_foundAddress, .ref q_foundDistance, .ref q_foundParent, .int r1, .ref q_wordAt])), (q_marks, .inl (cI, 4096, .inl a_marks))] := hD
  refine lv_iconst (v := (0 : Int32)) hx hb dX6_findWords_9 (by decide) ?_
  refine lv_istore_n (lv' := [(2, .int (0 : Int32)), (0, .ref h0), (1, .int p1)]) hx hb dX6_findWords_10 rfl hl (by decide) rfl (fun ls hl => ?_)
  have key11 : ∀ (n1 : Nat) (y2_11 : Int32) (a_wordAt_11 : Nat → Int32) (H : Heap) (locs : List Loc) (ls : Array Slot), lp (fun s => bX6_findWords_11 N p1 a_marks r1 s.1 s.2) n1 (y2_11, a_wordAt_11) = some (o_words, o_wordAt) → va_P (dC, dI) vwCl [(q_wordAt, .inl (cI, 4096, .inl a_wordAt_11)), (h0, .inr (6, [.int v_routers, .ref q_parentOf, .ref q_addressOf, .ref q_depthOf, .int v_percent, .int v_random, .int v_distance, .int v_offset, .int v_value, .int v_isMade, .ref q_marks, .int v_received, .int v_unmarked, .ref q_missing, .int v_nodes, .ref q_nodeAddresses, .ref q_nodeDistances, .ref q_nodeParents, .int v_found, .ref q_foundAddress, .ref q_foundDistance, .ref q_foundParent, .int r1, .ref q_wordAt])), (q_marks, .inl (cI, 4096, .inl a_marks))] H → va_D A [(q_wordAt, .inl (cI, 4096, .inl a_wordAt_11)), (h0, .inr (6, [.int v_routers, .ref q_parentOf, .ref q_addressOf, .ref q_depthOf, .int v_percent, .int v_random, .int v_distance, .int v_offset, .int v_value, .int v_isMade, .ref q_marks, .int v_received, .int v_unmarked, .ref q_missing, .int v_nodes, .ref q_nodeAddresses, .ref q_nodeDistances, .ref q_nodeParents, .int v_found, .ref q_foundAddress, .ref q_foundDistance, .ref q_foundParent, .int r1, .ref q_wordAt])), (q_marks, .inl (cI, 4096, .inl a_marks))] → va_S A s.heap H locs → lv_has ls 7 [(2, .int y2_11), (0, .ref h0), (1, .int p1)] → W p l e ({ frames := 3, cells := 0, slots := 0, locals := 69 } : Room) s m [.ref h0, .int p1].toArray below meth c H locs 0 0 (MQ below (poV dC dI [(h0, .inr (6, [.int v_routers, .ref q_parentOf, .ref q_addressOf, .ref q_depthOf, .int v_percent, .int v_random, .int v_distance, .int v_offset, .int v_value, .int v_isMade, .ref q_marks, .int v_received, .int v_unmarked, .ref q_missing, .int v_nodes, .ref q_nodeAddresses, .ref q_nodeDistances, .ref q_nodeParents, .int v_found, .ref q_foundAddress, .ref q_foundDistance, .ref q_foundParent, .int o_words, .ref q_wordAt])), (q_marks, .inl (cI, 4096, .inl a_marks)), (q_wordAt, .inl (cI, 4096, .inl o_wordAt))] A) [.ref h0, .int p1].toArray s 0 0 A) (F0 m 11 ls []) := by
    intro n1
    induction n1 with
    | zero =>
      intro y2_11 a_wordAt_11 H locs ls h
      exact (lp_0 h).elim
    | succ n1 ih1 =>
      intro y2_11 a_wordAt_11 H locs ls h hP hD hS hl
      obtain ⟨o1, h, hk1⟩ := lp_s h
      unfold bX6_findWords_11 at h
      try dsimp only at h
      refine lv_iload_n hx hb dX6_findWords_11 rfl (lv_at hl 0 rfl) ?_
      refine lv_aload_n hx hb dX6_findWords_12 rfl (lv_at hl 1 rfl) ?_
      refine va_get (D := (dC, dI)) (ci := 6) (v := .int r1) (C := RX6) (T := TX6) (N := 24) hx hb hts hiX6 hown hK hP 1 rfl rfl 22 (by decide) hf141 (fun _ h9 => h9) rfl dX6_findWords_13 ?_
      refine lv_icmp_ge (tgt := 88) hx hb dX6_findWords_16 (by decide) (fun c2 => ?_) (fun c2 => ?_)
      · have h := it_p c2 h
        cases Option.some.inj h
        have hk1 := un_r hk1
        cases hk1
        exact re_v [1, 2, 0] hx hb hr hlocks hP hD hS rfl (by decide) dX6_findWords_88
      · have h := it_n c2 h
        refine lv_iload_n hx hb dX6_findWords_19 rfl (lv_at hl 0 rfl) ?_
        refine lv_istore_n (lv' := [(3, .int y2_11), (2, .int y2_11), (0, .ref h0), (1, .int p1)]) hx hb dX6_findWords_20 rfl hl (by decide) rfl (fun ls hl => ?_)
        refine lv_iconst (v := (0 : Int32)) hx hb dX6_findWords_21 (by decide) ?_
        refine lv_istore (lv' := [(4, .int (0 : Int32)), (3, .int y2_11), (2, .int y2_11), (0, .ref h0), (1, .int p1)]) hx hb dX6_findWords_22 hl (by decide) rfl (fun ls hl => ?_)
        refine lv_iconst (v := (0 : Int32)) hx hb dX6_findWords_24 (by decide) ?_
        refine lv_istore (lv' := [(5, .int (0 : Int32)), (4, .int (0 : Int32)), (3, .int y2_11), (2, .int y2_11), (0, .ref h0), (1, .int p1)]) hx hb dX6_findWords_25 hl (by decide) rfl (fun ls hl => ?_)
        have key27 : ∀ (y2_27 : Int32) (n2 : Nat) (y3_27 : Int32) (y4_27 : Int32) (y5_27 : Int32) (H : Heap) (locs : List Loc) (ls : Array Slot), lp (fun s => bX6_findWords_27 N p1 a_marks a_wordAt_11 y2_27 s.1 s.2.1 s.2.2) n2 (y3_27, y4_27, y5_27) = some o1 → va_P (dC, dI) vwCl [(q_wordAt, .inl (cI, 4096, .inl a_wordAt_11)), (h0, .inr (6, [.int v_routers, .ref q_parentOf, .ref q_addressOf, .ref q_depthOf, .int v_percent, .int v_random, .int v_distance, .int v_offset, .int v_value, .int v_isMade, .ref q_marks, .int v_received, .int v_unmarked, .ref q_missing, .int v_nodes, .ref q_nodeAddresses, .ref q_nodeDistances, .ref q_nodeParents, .int v_found, .ref q_foundAddress, .ref q_foundDistance, .ref q_foundParent, .int r1, .ref q_wordAt])), (q_marks, .inl (cI, 4096, .inl a_marks))] H → va_D A [(q_wordAt, .inl (cI, 4096, .inl a_wordAt_11)), (h0, .inr (6, [.int v_routers, .ref q_parentOf, .ref q_addressOf, .ref q_depthOf, .int v_percent, .int v_random, .int v_distance, .int v_offset, .int v_value, .int v_isMade, .ref q_marks, .int v_received, .int v_unmarked, .ref q_missing, .int v_nodes, .ref q_nodeAddresses, .ref q_nodeDistances, .ref q_nodeParents, .int v_found, .ref q_foundAddress, .ref q_foundDistance, .ref q_foundParent, .int r1, .ref q_wordAt])), (q_marks, .inl (cI, 4096, .inl a_marks))] → va_S A s.heap H locs → lv_has ls 7 [(5, .int y5_27), (4, .int y4_27), (3, .int y3_27), (2, .int y2_27), (0, .ref h0), (1, .int p1)] → W p l e ({ frames := 3, cells := 0, slots := 0, locals := 69 } : Room) s m [.ref h0, .int p1].toArray below meth c H locs 0 0 (MQ below (poV dC dI [(h0, .inr (6, [.int v_routers, .ref q_parentOf, .ref q_addressOf, .ref q_depthOf, .int v_percent, .int v_random, .int v_distance, .int v_offset, .int v_value, .int v_isMade, .ref q_marks, .int v_received, .int v_unmarked, .ref q_missing, .int v_nodes, .ref q_nodeAddresses, .ref q_nodeDistances, .ref q_nodeParents, .int v_found, .ref q_foundAddress, .ref q_foundDistance, .ref q_foundParent, .int o_words, .ref q_wordAt])), (q_marks, .inl (cI, 4096, .inl a_marks)), (q_wordAt, .inl (cI, 4096, .inl o_wordAt))] A) [.ref h0, .int p1].toArray s 0 0 A) (F0 m 27 ls []) := by
          intro y2_27
          intro n2
          induction n2 with
          | zero =>
            intro y3_27 y4_27 y5_27 H locs ls h
            exact (lp_0 h).elim
          | succ n2 ih2 =>
            intro y3_27 y4_27 y5_27 H locs ls h hP hD hS hl
            obtain ⟨o2, h, hk2⟩ := lp_s h
            unfold bX6_findWords_27 at h
            try dsimp only at h
            refine lv_iload hx hb dX6_findWords_27 (lv_at hl 0 rfl) ?_
            refine lv_iconst (v := (4 : Int32)) hx hb dX6_findWords_29 (by decide) ?_
            refine lv_icmp_ge (tgt := 74) hx hb dX6_findWords_30 (by decide) (fun c3 => ?_) (fun c3 => ?_)
            · have h := it_p c3 h
              refine lv_aload_n hx hb dX6_findWords_74 rfl (lv_at hl 4 rfl) ?_
              refine va_get (D := (dC, dI)) (ci := 6) (v := .ref q_wordAt) (C := RX6) (T := TX6) (N := 24) hx hb hts hiX6 hown hK hP 1 rfl rfl 23 (by decide) hf43 (fun _ h9 => h9) rfl dX6_findWords_75 ?_
              refine lv_iload_n hx hb dX6_findWords_78 rfl (lv_at hl 3 rfl) ?_
              refine lv_iload hx hb dX6_findWords_79 (lv_at hl 1 rfl) ?_
              obtain ⟨g4, h⟩ := gd_e h
              refine va_iast hx hb hK hP hD hS 0 0 rfl rfl g4 dX6_findWords_81 (fun H locs hP hD hS => ?_)
              have hP : va_P (dC, dI) vwCl [(q_wordAt, .inl (cI, 4096, .inl (upd a_wordAt_11 y2_27.toNatClampNeg y4_27))), (h0, .inr (6, [.int v_routers, .ref q_parentOf, .ref q_addressOf, .ref q_depthOf, .int v_percent, .int v_random, .int v_distance, .int v_offset, .int v_value, .int v_isMade, .ref q_marks, .int v_received, .int v_unmarked, .ref q_missing, .int v_nodes, .ref q_nodeAddresses, .ref q_nodeDistances, .ref q_nodeParents, .int v_found, .ref q_foundAddress, .ref q_foundDistance, .ref q_foundParent, .int r1, .ref q_wordAt])), (q_marks, .inl (cI, 4096, .inl a_marks))] H := hP
              have hD : va_D A [(q_wordAt, .inl (cI, 4096, .inl (upd a_wordAt_11 y2_27.toNatClampNeg y4_27))), (h0, .inr (6, [.int v_routers, .ref q_parentOf, .ref q_addressOf, .ref q_depthOf, .int v_percent, .int v_random, .int v_distance, .int v_offset, .int v_value, .int v_isMade, .ref q_marks, .int v_received, .int v_unmarked, .ref q_missing, .int v_nodes, .ref q_nodeAddresses, .ref q_nodeDistances, .ref q_nodeParents, .int v_found, .ref q_foundAddress, .ref q_foundDistance, .ref q_foundParent, .int r1, .ref q_wordAt])), (q_marks, .inl (cI, 4096, .inl a_marks))] := hD
              refine lv_iinc (v := y2_27 + 1) (lv' := [(2, .int (y2_27 + 1)), (5, .int y5_27), (4, .int y4_27), (3, .int y3_27), (0, .ref h0), (1, .int p1)]) hx hb dX6_findWords_82 hl (k := 3) rfl rfl (by decide) rfl (fun ls hl => ?_)
              refine lv_goto (tgt := 11) hx hb dX6_findWords_85 (by decide) ?_
              cases Option.some.inj h
              have hk2 := un_r hk2
              cases hk2
              exact ih1 _ _ _ _ _ (un_l hk1) (hP.sub [0, 1, 2] rfl) (hD.sub [0, 1, 2] (by decide) rfl) hS (lv_sub hl [0, 4, 5] rfl)
            · have h := it_n c3 h
              refine lv_aload_n hx hb dX6_findWords_33 rfl (lv_at hl 4 rfl) ?_
              refine lv_iload_n hx hb dX6_findWords_34 rfl (lv_at hl 5 rfl) ?_
              refine lv_iload hx hb dX6_findWords_35 (lv_at hl 0 rfl) ?_
              obtain ⟨r5, h5, h⟩ := bd1_e h
              refine ca_Vi (wc := [(h0, .inr (6, [.int v_routers, .ref q_parentOf, .ref q_addressOf, .ref q_depthOf, .int v_percent, .int v_random, .int v_distance, .int v_offset, .int v_value, .int v_isMade, .ref q_marks, .int v_received, .int v_unmarked, .ref q_missing, .int v_nodes, .ref q_nodeAddresses, .ref q_nodeDistances, .ref q_nodeParents, .int v_found, .ref q_foundAddress, .ref q_foundDistance, .ref q_foundParent, .int r1, .ref q_wordAt])), (q_marks, .inl (cI, 4096, .inl a_marks))]) (wr := [(q_wordAt, .inl (cI, 4096, .inl a_wordAt_11))]) (w1 := [(h0, .inr (6, [.int v_routers, .ref q_parentOf, .ref q_addressOf, .ref q_depthOf, .int v_percent, .int v_random, .int v_distance, .int v_offset, .int v_value, .int v_isMade, .ref q_marks, .int v_received, .int v_unmarked, .ref q_missing, .int v_nodes, .ref q_nodeAddresses, .ref q_nodeDistances, .ref q_nodeParents, .int v_found, .ref q_foundAddress, .ref q_foundDistance, .ref q_foundParent, .int r1, .ref q_wordAt])), (q_marks, .inl (cI, 4096, .inl a_marks))]) [.int p1, .int y5_27] [] [1, 2] [0] hx hb hml hown hts (mX6_different l dC dI cI H.size N h0 q_parentOf q_addressOf q_depthOf q_marks q_missing q_nodeAddresses q_nodeDistances q_nodeParents q_foundAddress q_foundDistance q_foundParent q_wordAt v_routers v_percent v_random v_distance v_offset v_value v_isMade v_received v_unmarked v_nodes v_found r1 a_marks p1 y5_27 h5) (cwV 2 hts gX6_findWords_X6_different rfl rfl rfl (by decide +kernel) ⟨Nat.le_of_ble_eq_true rfl, Nat.le_of_ble_eq_true rfl⟩) hK hN hP hD hS hA rfl rfl (by decide) (by decide) (by decide) rfl rfl rfl hl.1 rfl (Nat.le_of_ble_eq_true rfl) dX6_findWords_37 ⟨Nat.zero_le _, Nat.zero_le _⟩ (fun H locs hP hD hS hz5 => ?_)
              have hP : va_P (dC, dI) vwCl [(q_wordAt, .inl (cI, 4096, .inl a_wordAt_11)), (h0, .inr (6, [.int v_routers, .ref q_parentOf, .ref q_addressOf, .ref q_depthOf, .int v_percent, .int v_random, .int v_distance, .int v_offset, .int v_value, .int v_isMade, .ref q_marks, .int v_received, .int v_unmarked, .ref q_missing, .int v_nodes, .ref q_nodeAddresses, .ref q_nodeDistances, .ref q_nodeParents, .int v_found, .ref q_foundAddress, .ref q_foundDistance, .ref q_foundParent, .int r1, .ref q_wordAt])), (q_marks, .inl (cI, 4096, .inl a_marks))] H := hP
              have hD : va_D A [(q_wordAt, .inl (cI, 4096, .inl a_wordAt_11)), (h0, .inr (6, [.int v_routers, .ref q_parentOf, .ref q_addressOf, .ref q_depthOf, .int v_percent, .int v_random, .int v_distance, .int v_offset, .int v_value, .int v_isMade, .ref q_marks, .int v_received, .int v_unmarked, .ref q_missing, .int v_nodes, .ref q_nodeAddresses, .ref q_nodeDistances, .ref q_nodeParents, .int v_found, .ref q_foundAddress, .ref q_foundDistance, .ref q_foundParent, .int r1, .ref q_wordAt])), (q_marks, .inl (cI, 4096, .inl a_marks))] := hD
              refine lv_istore (lv' := [(6, .int r5), (5, .int y5_27), (4, .int y4_27), (3, .int y3_27), (2, .int y2_27), (0, .ref h0), (1, .int p1)]) hx hb dX6_findWords_40 hl (by decide) rfl (fun ls hl => ?_)
              refine lv_iload hx hb dX6_findWords_42 (lv_at hl 2 rfl) ?_
              refine lv_aload_n hx hb dX6_findWords_44 rfl (lv_at hl 5 rfl) ?_
              refine lv_iload_n hx hb dX6_findWords_45 rfl (lv_at hl 6 rfl) ?_
              refine lv_iload hx hb dX6_findWords_46 (lv_at hl 1 rfl) ?_
              refine lv_iload_n hx hb dX6_findWords_48 rfl (lv_at hl 3 rfl) ?_
              refine lv_iload hx hb dX6_findWords_49 (lv_at hl 0 rfl) ?_
              obtain ⟨g6, h⟩ := gd_e h
              refine lv_irem hx hb dX6_findWords_51 g6 ?_
              obtain ⟨r7, h7, h⟩ := bd1_e h
              refine ca_Vi (wc := [(h0, .inr (6, [.int v_routers, .ref q_parentOf, .ref q_addressOf, .ref q_depthOf, .int v_percent, .int v_random, .int v_distance, .int v_offset, .int v_value, .int v_isMade, .ref q_marks, .int v_received, .int v_unmarked, .ref q_missing, .int v_nodes, .ref q_nodeAddresses, .ref q_nodeDistances, .ref q_nodeParents, .int v_found, .ref q_foundAddress, .ref q_foundDistance, .ref q_foundParent, .int r1, .ref q_wordAt])), (q_marks, .inl (cI, 4096, .inl a_marks))]) (wr := [(q_wordAt, .inl (cI, 4096, .inl a_wordAt_11))]) (w1 := [(h0, .inr (6, [.int v_routers, .ref q_parentOf, .ref q_addressOf, .ref q_depthOf, .int v_percent, .int v_random, .int v_distance, .int v_offset, .int v_value, .int v_isMade, .ref q_marks, .int v_received, .int v_unmarked, .ref q_missing, .int v_nodes, .ref q_nodeAddresses, .ref q_nodeDistances, .ref q_nodeParents, .int v_found, .ref q_foundAddress, .ref q_foundDistance, .ref q_foundParent, .int r1, .ref q_wordAt])), (q_marks, .inl (cI, 4096, .inl a_marks))]) [.int p1, .int y5_27, .int (y3_27 - y3_27 / r5 * r5)] [.int y4_27] [1, 2] [0] hx hb hml hown hts (mX6_fragmentAt l dC dI cI H.size N h0 q_parentOf q_addressOf q_depthOf q_marks q_missing q_nodeAddresses q_nodeDistances q_nodeParents q_foundAddress q_foundDistance q_foundParent q_wordAt v_routers v_percent v_random v_distance v_offset v_value v_isMade v_received v_unmarked v_nodes v_found r1 a_marks p1 y5_27 (y3_27 - y3_27 / r5 * r5) h7) (cwV 3 hts gX6_findWords_X6_fragmentAt rfl rfl rfl (by decide +kernel) ⟨Nat.le_of_ble_eq_true rfl, Nat.le_of_ble_eq_true rfl⟩) hK hN hP hD hS hA rfl rfl (by decide) (by decide) (by decide) rfl rfl rfl hl.1 rfl (Nat.le_of_ble_eq_true rfl) dX6_findWords_52 ⟨Nat.zero_le _, Nat.zero_le _⟩ (fun H locs hP hD hS hz7 => ?_)
              have hP : va_P (dC, dI) vwCl [(q_wordAt, .inl (cI, 4096, .inl a_wordAt_11)), (h0, .inr (6, [.int v_routers, .ref q_parentOf, .ref q_addressOf, .ref q_depthOf, .int v_percent, .int v_random, .int v_distance, .int v_offset, .int v_value, .int v_isMade, .ref q_marks, .int v_received, .int v_unmarked, .ref q_missing, .int v_nodes, .ref q_nodeAddresses, .ref q_nodeDistances, .ref q_nodeParents, .int v_found, .ref q_foundAddress, .ref q_foundDistance, .ref q_foundParent, .int r1, .ref q_wordAt])), (q_marks, .inl (cI, 4096, .inl a_marks))] H := hP
              have hD : va_D A [(q_wordAt, .inl (cI, 4096, .inl a_wordAt_11)), (h0, .inr (6, [.int v_routers, .ref q_parentOf, .ref q_addressOf, .ref q_depthOf, .int v_percent, .int v_random, .int v_distance, .int v_offset, .int v_value, .int v_isMade, .ref q_marks, .int v_received, .int v_unmarked, .ref q_missing, .int v_nodes, .ref q_nodeAddresses, .ref q_nodeDistances, .ref q_nodeParents, .int v_found, .ref q_foundAddress, .ref q_foundDistance, .ref q_foundParent, .int r1, .ref q_wordAt])), (q_marks, .inl (cI, 4096, .inl a_marks))] := hD
              refine lv_iconst (v := (5 : Int32)) hx hb dX6_findWords_55 (by decide) ?_
              refine lv_iload hx hb dX6_findWords_56 (lv_at hl 1 rfl) ?_
              refine lv_imul hx hb dX6_findWords_58 ?_
              refine lv_ishl hx hb dX6_findWords_59 ?_
              refine lv_ior hx hb dX6_findWords_60 ?_
              refine lv_topi (fun x8 ex8 => ?_)
              have h := nm_u ex8 h
              refine lv_istore (lv' := [(4, .int x8), (6, .int r5), (5, .int y5_27), (3, .int y3_27), (2, .int y2_27), (0, .ref h0), (1, .int p1)]) hx hb dX6_findWords_61 hl (by decide) rfl (fun ls hl => ?_)
              refine lv_iload_n hx hb dX6_findWords_63 rfl (lv_at hl 3 rfl) ?_
              refine lv_iload hx hb dX6_findWords_64 (lv_at hl 1 rfl) ?_
              obtain ⟨g9, h⟩ := gd_e h
              refine lv_idiv hx hb dX6_findWords_66 g9 ?_
              refine lv_topi (fun x10 ex10 => ?_)
              have h := nm_u ex10 h
              refine lv_istore_n (lv' := [(3, .int x10), (4, .int x8), (6, .int r5), (5, .int y5_27), (2, .int y2_27), (0, .ref h0), (1, .int p1)]) hx hb dX6_findWords_67 rfl hl (by decide) rfl (fun ls hl => ?_)
              refine lv_iinc (v := y5_27 + 1) (lv' := [(5, .int (y5_27 + 1)), (3, .int x10), (4, .int x8), (6, .int r5), (2, .int y2_27), (0, .ref h0), (1, .int p1)]) hx hb dX6_findWords_68 hl (k := 3) rfl rfl (by decide) rfl (fun ls hl => ?_)
              refine lv_goto (tgt := 27) hx hb dX6_findWords_71 (by decide) ?_
              cases Option.some.inj h
              exact ih2 _ _ _ _ _ _ (un_l hk2) (hP.sub [0, 1, 2] rfl) (hD.sub [0, 1, 2] (by decide) rfl) hS (lv_sub hl [0, 2, 1, 4, 5, 6] rfl)
        exact key27 y2_11 N _ _ _ _ _ _ h hP hD hS hl
  exact key11 N _ _ _ _ _ h hP hD hS hl
def fX6_isWord (p0 : Int32) : Option (Int32) :=
  bd1 (fX6_digestOf (p0 / (256 : Int32))) fun r1 =>
  if r1 = (p0 - p0 / (256 : Int32) * (256 : Int32)) then
    some (1 : Int32)
  else
    some (0 : Int32)
set_option maxHeartbeats 4000000 in
set_option maxRecDepth 100000 in
theorem mX6_isWord (l : Launch) (dC : Nat → ClassId) (dI : Nat → Nat → Nat) (cI : ClassId) (sz : Nat) (p0 : Int32) {rr : Int32} (h : fX6_isWord p0 = some rr) : Met l yX6_isWord wsX6_isWord ({ frames := 1, cells := 0, slots := 0, locals := 20 } : Room) (prX dC dI cI [.int p0] sz []) (poI dC dI .boolean rr [] (va_A [] sz)) 0 0 (va_A [] sz) := by
  refine ofX (cc := cX6_isWord) (maxL := 1) (ret := (some .boolean)) (lv0 := [(0, .int p0)]) (QA := fun A => poI dC dI .boolean rr [] A) (by decide) rfl (Nat.le_of_ble_eq_true rfl) rfl ?_
  intro p e s m below meth c A ls H locs hx hb hr hml hown hts hlocks hin hK hN hA hP hD hS hl
  have hown : s.vm.findClass RX6 = some m.cls := hown
  unfold fX6_isWord at h
  refine lv_iload_n hx hb dX6_isWord_0 rfl (lv_at hl 0 rfl) ?_
  refine lv_sipush (v := (256 : Int32)) hx hb dX6_isWord_1 (by decide) ?_
  refine lv_idiv hx hb dX6_isWord_4 (by decide) ?_
  obtain ⟨r1, h1, h⟩ := bd1_e h
  refine ca_Si (wc := []) (wr := []) (w1 := []) [.int (p0 / (256 : Int32))] [] [] [] hx hb hml hown hts (mX6_digestOf l dC dI cI H.size (p0 / (256 : Int32)) h1) (va_cwS 1 hts gX6_isWord_X6_digestOf rfl rfl rfl (by decide +kernel) ⟨Nat.le_of_ble_eq_true rfl, Nat.le_of_ble_eq_true rfl⟩) hK hN hP hD hS hA rfl rfl (by decide) (by decide) (by decide) rfl hl.1 rfl (Nat.le_of_ble_eq_true rfl) dX6_isWord_5 ⟨Nat.zero_le _, Nat.zero_le _⟩ (fun H locs hP hD hS hz1 => ?_)
  have hP : va_P (dC, dI) vwCl [] H := hP
  have hD : va_D A [] := hD
  refine lv_iload_n hx hb dX6_isWord_8 rfl (lv_at hl 0 rfl) ?_
  refine lv_sipush (v := (256 : Int32)) hx hb dX6_isWord_9 (by decide) ?_
  refine lv_irem hx hb dX6_isWord_12 (by decide) ?_
  refine lv_icmp_ne (tgt := 20) hx hb dX6_isWord_13 (by decide) (fun c2 => ?_) (fun c2 => ?_)
  · have h := it_n c2 h
    refine lv_iconst (v := (0 : Int32)) hx hb dX6_isWord_20 (by decide) ?_
    have hk0 := Option.some.inj h
    cases hk0
    exact re_i [] hx hb hr hlocks rfl hP hD hS rfl (by decide) rfl dX6_isWord_21
  · have h := it_p c2 h
    refine lv_iconst (v := (1 : Int32)) hx hb dX6_isWord_16 (by decide) ?_
    refine lv_goto (tgt := 21) hx hb dX6_isWord_17 (by decide) ?_
    have hk0 := Option.some.inj h
    cases hk0
    exact re_i [] hx hb hr hlocks rfl hP hD hS rfl (by decide) rfl dX6_isWord_21
def bX6_adds_17 (p1 : Int32) (p2 : Int32) (p3 : Int32) (v_found : Int32) (y4_17 : Int32) (a_foundAddress_17 : Nat → Int32) (a_foundDistance_17 : Nat → Int32) (a_foundParent_17 : Nat → Int32) : Option ((Int32 × (Nat → Int32) × (Nat → Int32) × (Nat → Int32)) ⊕ (Int32 × Int32 × (Nat → Int32) × (Nat → Int32) × (Nat → Int32))) :=
  if y4_17 ≤ 0 then
    if ¬ (y4_17 < 0 ∨ 101 ≤ y4_17.toNatClampNeg) then
      if ¬ (y4_17 < 0 ∨ 101 ≤ y4_17.toNatClampNeg) then
        if ¬ (y4_17 < 0 ∨ 101 ≤ y4_17.toNatClampNeg) then
          some (.inr ((1 : Int32), (v_found + (1 : Int32)), (upd a_foundAddress_17 y4_17.toNatClampNeg p1), (upd a_foundDistance_17 y4_17.toNatClampNeg p2), (upd a_foundParent_17 y4_17.toNatClampNeg p3)))
        else none
      else none
    else none
  else
    if ¬ ((y4_17 - (1 : Int32)) < 0 ∨ 101 ≤ (y4_17 - (1 : Int32)).toNatClampNeg) then
      if (a_foundDistance_17 (y4_17 - (1 : Int32)).toNatClampNeg) = p2 then
        if ¬ ((y4_17 - (1 : Int32)) < 0 ∨ 101 ≤ (y4_17 - (1 : Int32)).toNatClampNeg) then
          if (a_foundParent_17 (y4_17 - (1 : Int32)).toNatClampNeg) = p3 then
            if ¬ ((y4_17 - (1 : Int32)) < 0 ∨ 101 ≤ (y4_17 - (1 : Int32)).toNatClampNeg) then
              if (a_foundAddress_17 (y4_17 - (1 : Int32)).toNatClampNeg) ≤ p1 then
                if ¬ (y4_17 < 0 ∨ 101 ≤ y4_17.toNatClampNeg) then
                  if ¬ (y4_17 < 0 ∨ 101 ≤ y4_17.toNatClampNeg) then
                    if ¬ (y4_17 < 0 ∨ 101 ≤ y4_17.toNatClampNeg) then
                      some (.inr ((1 : Int32), (v_found + (1 : Int32)), (upd a_foundAddress_17 y4_17.toNatClampNeg p1), (upd a_foundDistance_17 y4_17.toNatClampNeg p2), (upd a_foundParent_17 y4_17.toNatClampNeg p3)))
                    else none
                  else none
                else none
              else
                if ¬ ((y4_17 - (1 : Int32)) < 0 ∨ 101 ≤ (y4_17 - (1 : Int32)).toNatClampNeg) then
                  if ¬ (y4_17 < 0 ∨ 101 ≤ y4_17.toNatClampNeg) then
                    if ¬ (y4_17 < 0 ∨ 101 ≤ y4_17.toNatClampNeg) then
                      if ¬ (y4_17 < 0 ∨ 101 ≤ y4_17.toNatClampNeg) then
                        some (.inl ((y4_17 + (-1 : Int32)), (upd a_foundAddress_17 y4_17.toNatClampNeg (a_foundAddress_17 (y4_17 - (1 : Int32)).toNatClampNeg)), (upd a_foundDistance_17 y4_17.toNatClampNeg p2), (upd a_foundParent_17 y4_17.toNatClampNeg p3)))
                      else none
                    else none
                  else none
                else none
            else none
          else
            if ¬ (y4_17 < 0 ∨ 101 ≤ y4_17.toNatClampNeg) then
              if ¬ (y4_17 < 0 ∨ 101 ≤ y4_17.toNatClampNeg) then
                if ¬ (y4_17 < 0 ∨ 101 ≤ y4_17.toNatClampNeg) then
                  some (.inr ((1 : Int32), (v_found + (1 : Int32)), (upd a_foundAddress_17 y4_17.toNatClampNeg p1), (upd a_foundDistance_17 y4_17.toNatClampNeg p2), (upd a_foundParent_17 y4_17.toNatClampNeg p3)))
                else none
              else none
            else none
        else none
      else
        if ¬ (y4_17 < 0 ∨ 101 ≤ y4_17.toNatClampNeg) then
          if ¬ (y4_17 < 0 ∨ 101 ≤ y4_17.toNatClampNeg) then
            if ¬ (y4_17 < 0 ∨ 101 ≤ y4_17.toNatClampNeg) then
              some (.inr ((1 : Int32), (v_found + (1 : Int32)), (upd a_foundAddress_17 y4_17.toNatClampNeg p1), (upd a_foundDistance_17 y4_17.toNatClampNeg p2), (upd a_foundParent_17 y4_17.toNatClampNeg p3)))
            else none
          else none
        else none
    else none
def fX6_adds (N : Nat) (p1 : Int32) (p2 : Int32) (p3 : Int32) (v_found : Int32) (a_foundAddress : Nat → Int32) (a_foundDistance : Nat → Int32) (a_foundParent : Nat → Int32) : Option (Int32 × Int32 × (Nat → Int32) × (Nat → Int32) × (Nat → Int32)) :=
  if v_found = (100 : Int32) then
    some ((0 : Int32), v_found, a_foundAddress, a_foundDistance, a_foundParent)
  else
    lp (fun s => bX6_adds_17 p1 p2 p3 v_found s.1 s.2.1 s.2.2.1 s.2.2.2) N (v_found, a_foundAddress, a_foundDistance, a_foundParent)
set_option maxHeartbeats 4000000 in
set_option maxRecDepth 100000 in
theorem mX6_adds (l : Launch) (dC : Nat → ClassId) (dI : Nat → Nat → Nat) (cI : ClassId) (sz : Nat) (N : Nat) (h0 : Nat) (q_parentOf : Nat) (q_addressOf : Nat) (q_depthOf : Nat) (q_marks : Nat) (q_missing : Nat) (q_nodeAddresses : Nat) (q_nodeDistances : Nat) (q_nodeParents : Nat) (q_foundAddress : Nat) (q_foundDistance : Nat) (q_foundParent : Nat) (q_wordAt : Nat) (v_routers : Int32) (v_percent : Int32) (v_random : Int32) (v_distance : Int32) (v_offset : Int32) (v_value : Int32) (v_isMade : Int32) (v_received : Int32) (v_unmarked : Int32) (v_nodes : Int32) (v_found : Int32) (v_words : Int32) (a_foundAddress : Nat → Int32) (a_foundDistance : Nat → Int32) (a_foundParent : Nat → Int32) (p1 : Int32) (p2 : Int32) (p3 : Int32) {rr : Int32} {o_found : Int32} {o_foundAddress : Nat → Int32} {o_foundDistance : Nat → Int32} {o_foundParent : Nat → Int32} (h : fX6_adds N p1 p2 p3 v_found a_foundAddress a_foundDistance a_foundParent = some (rr, o_found, o_foundAddress, o_foundDistance, o_foundParent)) : Met l yX6_adds wsX6_adds ({ frames := 0, cells := 0, slots := 0, locals := 0 } : Room) (prX dC dI cI [.ref h0, .int p1, .int p2, .int p3] sz [(h0, .inr (6, [.int v_routers, .ref q_parentOf, .ref q_addressOf, .ref q_depthOf, .int v_percent, .int v_random, .int v_distance, .int v_offset, .int v_value, .int v_isMade, .ref q_marks, .int v_received, .int v_unmarked, .ref q_missing, .int v_nodes, .ref q_nodeAddresses, .ref q_nodeDistances, .ref q_nodeParents, .int v_found, .ref q_foundAddress, .ref q_foundDistance, .ref q_foundParent, .int v_words, .ref q_wordAt])), (q_foundAddress, .inl (cI, 101, .inl a_foundAddress)), (q_foundDistance, .inl (cI, 101, .inl a_foundDistance)), (q_foundParent, .inl (cI, 101, .inl a_foundParent))]) (poI dC dI .boolean rr [(h0, .inr (6, [.int v_routers, .ref q_parentOf, .ref q_addressOf, .ref q_depthOf, .int v_percent, .int v_random, .int v_distance, .int v_offset, .int v_value, .int v_isMade, .ref q_marks, .int v_received, .int v_unmarked, .ref q_missing, .int v_nodes, .ref q_nodeAddresses, .ref q_nodeDistances, .ref q_nodeParents, .int o_found, .ref q_foundAddress, .ref q_foundDistance, .ref q_foundParent, .int v_words, .ref q_wordAt])), (q_foundAddress, .inl (cI, 101, .inl o_foundAddress)), (q_foundDistance, .inl (cI, 101, .inl o_foundDistance)), (q_foundParent, .inl (cI, 101, .inl o_foundParent))] (va_A [(h0, .inr (6, [.int v_routers, .ref q_parentOf, .ref q_addressOf, .ref q_depthOf, .int v_percent, .int v_random, .int v_distance, .int v_offset, .int v_value, .int v_isMade, .ref q_marks, .int v_received, .int v_unmarked, .ref q_missing, .int v_nodes, .ref q_nodeAddresses, .ref q_nodeDistances, .ref q_nodeParents, .int v_found, .ref q_foundAddress, .ref q_foundDistance, .ref q_foundParent, .int v_words, .ref q_wordAt])), (q_foundAddress, .inl (cI, 101, .inl a_foundAddress)), (q_foundDistance, .inl (cI, 101, .inl a_foundDistance)), (q_foundParent, .inl (cI, 101, .inl a_foundParent))] sz)) 0 0 (va_A [(h0, .inr (6, [.int v_routers, .ref q_parentOf, .ref q_addressOf, .ref q_depthOf, .int v_percent, .int v_random, .int v_distance, .int v_offset, .int v_value, .int v_isMade, .ref q_marks, .int v_received, .int v_unmarked, .ref q_missing, .int v_nodes, .ref q_nodeAddresses, .ref q_nodeDistances, .ref q_nodeParents, .int v_found, .ref q_foundAddress, .ref q_foundDistance, .ref q_foundParent, .int v_words, .ref q_wordAt])), (q_foundAddress, .inl (cI, 101, .inl a_foundAddress)), (q_foundDistance, .inl (cI, 101, .inl a_foundDistance)), (q_foundParent, .inl (cI, 101, .inl a_foundParent))] sz) := by
  refine ofX (cc := cX6_adds) (maxL := 5) (ret := (some .boolean)) (lv0 := [(0, .ref h0), (1, .int p1), (2, .int p2), (3, .int p3)]) (QA := fun A => poI dC dI .boolean rr [(h0, .inr (6, [.int v_routers, .ref q_parentOf, .ref q_addressOf, .ref q_depthOf, .int v_percent, .int v_random, .int v_distance, .int v_offset, .int v_value, .int v_isMade, .ref q_marks, .int v_received, .int v_unmarked, .ref q_missing, .int v_nodes, .ref q_nodeAddresses, .ref q_nodeDistances, .ref q_nodeParents, .int o_found, .ref q_foundAddress, .ref q_foundDistance, .ref q_foundParent, .int v_words, .ref q_wordAt])), (q_foundAddress, .inl (cI, 101, .inl o_foundAddress)), (q_foundDistance, .inl (cI, 101, .inl o_foundDistance)), (q_foundParent, .inl (cI, 101, .inl o_foundParent))] A) (by decide) rfl (Nat.le_of_ble_eq_true rfl) rfl ?_
  intro p e s m below meth c A ls H locs hx hb hr hml hown hts hlocks hin hK hN hA hP hD hS hl
  have hown : s.vm.findClass RX6 = some m.cls := hown
  unfold fX6_adds at h
  have hiX6 : ∀ w ∈ u_ws RX6 TX6 24, w ∈ wsX6_adds := fun _ h => List.mem_cons_of_mem _ (List.mem_append_right _ h)
  have hf147 := (hts (.fieldLink RX6 147 "PacketTracebackModel" "found" "I") (List.mem_of_getElem? (i := 1) (by decide +kernel)))
  have hf34 := (hts (.fieldLink RX6 34 "PacketTracebackModel" "foundAddress" "[I") (List.mem_of_getElem? (i := 4) (by decide +kernel)))
  have hf37 := (hts (.fieldLink RX6 37 "PacketTracebackModel" "foundDistance" "[I") (List.mem_of_getElem? (i := 2) (by decide +kernel)))
  have hf40 := (hts (.fieldLink RX6 40 "PacketTracebackModel" "foundParent" "[I") (List.mem_of_getElem? (i := 3) (by decide +kernel)))
  refine lv_aload_n hx hb dX6_adds_0 rfl (lv_at hl 0 rfl) ?_
  refine va_get (D := (dC, dI)) (ci := 6) (v := .int v_found) (C := RX6) (T := TX6) (N := 24) hx hb hts hiX6 hown hK hP 0 rfl rfl 18 (by decide) hf147 (fun _ h9 => h9) rfl dX6_adds_1 ?_
  refine lv_bipush (v := (100 : Int32)) hx hb dX6_adds_4 (by decide) ?_
  refine lv_icmp_ne (tgt := 11) hx hb dX6_adds_6 (by decide) (fun c1 => ?_) (fun c1 => ?_)
  · have h := it_n c1 h
    refine lv_aload_n hx hb dX6_adds_11 rfl (lv_at hl 0 rfl) ?_
    refine va_get (D := (dC, dI)) (ci := 6) (v := .int v_found) (C := RX6) (T := TX6) (N := 24) hx hb hts hiX6 hown hK hP 0 rfl rfl 18 (by decide) hf147 (fun _ h9 => h9) rfl dX6_adds_12 ?_
    refine lv_istore (lv' := [(4, .int v_found), (0, .ref h0), (1, .int p1), (2, .int p2), (3, .int p3)]) hx hb dX6_adds_15 hl (by decide) rfl (fun ls hl => ?_)
    have key17 : ∀ (n1 : Nat) (y4_17 : Int32) (a_foundAddress_17 : Nat → Int32) (a_foundDistance_17 : Nat → Int32) (a_foundParent_17 : Nat → Int32) (H : Heap) (locs : List Loc) (ls : Array Slot), lp (fun s => bX6_adds_17 p1 p2 p3 v_found s.1 s.2.1 s.2.2.1 s.2.2.2) n1 (y4_17, a_foundAddress_17, a_foundDistance_17, a_foundParent_17) = some (rr, o_found, o_foundAddress, o_foundDistance, o_foundParent) → va_P (dC, dI) vwCl [(h0, .inr (6, [.int v_routers, .ref q_parentOf, .ref q_addressOf, .ref q_depthOf, .int v_percent, .int v_random, .int v_distance, .int v_offset, .int v_value, .int v_isMade, .ref q_marks, .int v_received, .int v_unmarked, .ref q_missing, .int v_nodes, .ref q_nodeAddresses, .ref q_nodeDistances, .ref q_nodeParents, .int v_found, .ref q_foundAddress, .ref q_foundDistance, .ref q_foundParent, .int v_words, .ref q_wordAt])), (q_foundAddress, .inl (cI, 101, .inl a_foundAddress_17)), (q_foundDistance, .inl (cI, 101, .inl a_foundDistance_17)), (q_foundParent, .inl (cI, 101, .inl a_foundParent_17))] H → va_D A [(h0, .inr (6, [.int v_routers, .ref q_parentOf, .ref q_addressOf, .ref q_depthOf, .int v_percent, .int v_random, .int v_distance, .int v_offset, .int v_value, .int v_isMade, .ref q_marks, .int v_received, .int v_unmarked, .ref q_missing, .int v_nodes, .ref q_nodeAddresses, .ref q_nodeDistances, .ref q_nodeParents, .int v_found, .ref q_foundAddress, .ref q_foundDistance, .ref q_foundParent, .int v_words, .ref q_wordAt])), (q_foundAddress, .inl (cI, 101, .inl a_foundAddress_17)), (q_foundDistance, .inl (cI, 101, .inl a_foundDistance_17)), (q_foundParent, .inl (cI, 101, .inl a_foundParent_17))] → va_S A s.heap H locs → lv_has ls 5 [(4, .int y4_17), (0, .ref h0), (1, .int p1), (2, .int p2), (3, .int p3)] → W p l e ({ frames := 0, cells := 0, slots := 0, locals := 0 } : Room) s m [.ref h0, .int p1, .int p2, .int p3].toArray below meth c H locs 0 0 (MQ below (poI dC dI .boolean rr [(h0, .inr (6, [.int v_routers, .ref q_parentOf, .ref q_addressOf, .ref q_depthOf, .int v_percent, .int v_random, .int v_distance, .int v_offset, .int v_value, .int v_isMade, .ref q_marks, .int v_received, .int v_unmarked, .ref q_missing, .int v_nodes, .ref q_nodeAddresses, .ref q_nodeDistances, .ref q_nodeParents, .int o_found, .ref q_foundAddress, .ref q_foundDistance, .ref q_foundParent, .int v_words, .ref q_wordAt])), (q_foundAddress, .inl (cI, 101, .inl o_foundAddress)), (q_foundDistance, .inl (cI, 101, .inl o_foundDistance)), (q_foundParent, .inl (cI, 101, .inl o_foundParent))] A) [.ref h0, .int p1, .int p2, .int p3].toArray s 0 0 A) (F0 m 17 ls []) := by
      intro n1
      induction n1 with
      | zero =>
        intro y4_17 a_foundAddress_17 a_foundDistance_17 a_foundParent_17 H locs ls h
        exact (lp_0 h).elim
      | succ n1 ih1 =>
        intro y4_17 a_foundAddress_17 a_foundDistance_17 a_foundParent_17 H locs ls h hP hD hS hl
        obtain ⟨o1, h, hk1⟩ := lp_s h
        unfold bX6_adds_17 at h
        try dsimp only at h
        refine lv_iload hx hb dX6_adds_17 (lv_at hl 0 rfl) ?_
        refine lv_if_le (tgt := 99) hx hb dX6_adds_19 (by decide) (fun c2 => ?_) (fun c2 => ?_)
        · have h := it_p c2 h
          refine lv_aload_n hx hb dX6_adds_99 rfl (lv_at hl 1 rfl) ?_
          refine va_get (D := (dC, dI)) (ci := 6) (v := .ref q_foundAddress) (C := RX6) (T := TX6) (N := 24) hx hb hts hiX6 hown hK hP 0 rfl rfl 19 (by decide) hf34 (fun _ h9 => h9) rfl dX6_adds_100 ?_
          refine lv_iload hx hb dX6_adds_103 (lv_at hl 0 rfl) ?_
          refine lv_iload_n hx hb dX6_adds_105 rfl (lv_at hl 2 rfl) ?_
          obtain ⟨g3, h⟩ := gd_e h
          refine va_iast hx hb hK hP hD hS 1 0 rfl rfl g3 dX6_adds_106 (fun H locs hP hD hS => ?_)
          have hP : va_P (dC, dI) vwCl [(h0, .inr (6, [.int v_routers, .ref q_parentOf, .ref q_addressOf, .ref q_depthOf, .int v_percent, .int v_random, .int v_distance, .int v_offset, .int v_value, .int v_isMade, .ref q_marks, .int v_received, .int v_unmarked, .ref q_missing, .int v_nodes, .ref q_nodeAddresses, .ref q_nodeDistances, .ref q_nodeParents, .int v_found, .ref q_foundAddress, .ref q_foundDistance, .ref q_foundParent, .int v_words, .ref q_wordAt])), (q_foundAddress, .inl (cI, 101, .inl (upd a_foundAddress_17 y4_17.toNatClampNeg p1))), (q_foundDistance, .inl (cI, 101, .inl a_foundDistance_17)), (q_foundParent, .inl (cI, 101, .inl a_foundParent_17))] H := hP
          have hD : va_D A [(h0, .inr (6, [.int v_routers, .ref q_parentOf, .ref q_addressOf, .ref q_depthOf, .int v_percent, .int v_random, .int v_distance, .int v_offset, .int v_value, .int v_isMade, .ref q_marks, .int v_received, .int v_unmarked, .ref q_missing, .int v_nodes, .ref q_nodeAddresses, .ref q_nodeDistances, .ref q_nodeParents, .int v_found, .ref q_foundAddress, .ref q_foundDistance, .ref q_foundParent, .int v_words, .ref q_wordAt])), (q_foundAddress, .inl (cI, 101, .inl (upd a_foundAddress_17 y4_17.toNatClampNeg p1))), (q_foundDistance, .inl (cI, 101, .inl a_foundDistance_17)), (q_foundParent, .inl (cI, 101, .inl a_foundParent_17))] := hD
          refine lv_aload_n hx hb dX6_adds_107 rfl (lv_at hl 1 rfl) ?_
          refine va_get (D := (dC, dI)) (ci := 6) (v := .ref q_foundDistance) (C := RX6) (T := TX6) (N := 24) hx hb hts hiX6 hown hK hP 0 rfl rfl 20 (by decide) hf37 (fun _ h9 => h9) rfl dX6_adds_108 ?_
          refine lv_iload hx hb dX6_adds_111 (lv_at hl 0 rfl) ?_
          refine lv_iload_n hx hb dX6_adds_113 rfl (lv_at hl 3 rfl) ?_
          obtain ⟨g4, h⟩ := gd_e h
          refine va_iast hx hb hK hP hD hS 2 0 rfl rfl g4 dX6_adds_114 (fun H locs hP hD hS => ?_)
          have hP : va_P (dC, dI) vwCl [(h0, .inr (6, [.int v_routers, .ref q_parentOf, .ref q_addressOf, .ref q_depthOf, .int v_percent, .int v_random, .int v_distance, .int v_offset, .int v_value, .int v_isMade, .ref q_marks, .int v_received, .int v_unmarked, .ref q_missing, .int v_nodes, .ref q_nodeAddresses, .ref q_nodeDistances, .ref q_nodeParents, .int v_found, .ref q_foundAddress, .ref q_foundDistance, .ref q_foundParent, .int v_words, .ref q_wordAt])), (q_foundAddress, .inl (cI, 101, .inl (upd a_foundAddress_17 y4_17.toNatClampNeg p1))), (q_foundDistance, .inl (cI, 101, .inl (upd a_foundDistance_17 y4_17.toNatClampNeg p2))), (q_foundParent, .inl (cI, 101, .inl a_foundParent_17))] H := hP
          have hD : va_D A [(h0, .inr (6, [.int v_routers, .ref q_parentOf, .ref q_addressOf, .ref q_depthOf, .int v_percent, .int v_random, .int v_distance, .int v_offset, .int v_value, .int v_isMade, .ref q_marks, .int v_received, .int v_unmarked, .ref q_missing, .int v_nodes, .ref q_nodeAddresses, .ref q_nodeDistances, .ref q_nodeParents, .int v_found, .ref q_foundAddress, .ref q_foundDistance, .ref q_foundParent, .int v_words, .ref q_wordAt])), (q_foundAddress, .inl (cI, 101, .inl (upd a_foundAddress_17 y4_17.toNatClampNeg p1))), (q_foundDistance, .inl (cI, 101, .inl (upd a_foundDistance_17 y4_17.toNatClampNeg p2))), (q_foundParent, .inl (cI, 101, .inl a_foundParent_17))] := hD
          refine lv_aload_n hx hb dX6_adds_115 rfl (lv_at hl 1 rfl) ?_
          refine va_get (D := (dC, dI)) (ci := 6) (v := .ref q_foundParent) (C := RX6) (T := TX6) (N := 24) hx hb hts hiX6 hown hK hP 0 rfl rfl 21 (by decide) hf40 (fun _ h9 => h9) rfl dX6_adds_116 ?_
          refine lv_iload hx hb dX6_adds_119 (lv_at hl 0 rfl) ?_
          refine lv_iload_n hx hb dX6_adds_121 rfl (lv_at hl 4 rfl) ?_
          obtain ⟨g5, h⟩ := gd_e h
          refine va_iast hx hb hK hP hD hS 3 0 rfl rfl g5 dX6_adds_122 (fun H locs hP hD hS => ?_)
          have hP : va_P (dC, dI) vwCl [(h0, .inr (6, [.int v_routers, .ref q_parentOf, .ref q_addressOf, .ref q_depthOf, .int v_percent, .int v_random, .int v_distance, .int v_offset, .int v_value, .int v_isMade, .ref q_marks, .int v_received, .int v_unmarked, .ref q_missing, .int v_nodes, .ref q_nodeAddresses, .ref q_nodeDistances, .ref q_nodeParents, .int v_found, .ref q_foundAddress, .ref q_foundDistance, .ref q_foundParent, .int v_words, .ref q_wordAt])), (q_foundAddress, .inl (cI, 101, .inl (upd a_foundAddress_17 y4_17.toNatClampNeg p1))), (q_foundDistance, .inl (cI, 101, .inl (upd a_foundDistance_17 y4_17.toNatClampNeg p2))), (q_foundParent, .inl (cI, 101, .inl (upd a_foundParent_17 y4_17.toNatClampNeg p3)))] H := hP
          have hD : va_D A [(h0, .inr (6, [.int v_routers, .ref q_parentOf, .ref q_addressOf, .ref q_depthOf, .int v_percent, .int v_random, .int v_distance, .int v_offset, .int v_value, .int v_isMade, .ref q_marks, .int v_received, .int v_unmarked, .ref q_missing, .int v_nodes, .ref q_nodeAddresses, .ref q_nodeDistances, .ref q_nodeParents, .int v_found, .ref q_foundAddress, .ref q_foundDistance, .ref q_foundParent, .int v_words, .ref q_wordAt])), (q_foundAddress, .inl (cI, 101, .inl (upd a_foundAddress_17 y4_17.toNatClampNeg p1))), (q_foundDistance, .inl (cI, 101, .inl (upd a_foundDistance_17 y4_17.toNatClampNeg p2))), (q_foundParent, .inl (cI, 101, .inl (upd a_foundParent_17 y4_17.toNatClampNeg p3)))] := hD
          refine lv_aload_n hx hb dX6_adds_123 rfl (lv_at hl 1 rfl) ?_
          refine lv_dup hx hb dX6_adds_124 rfl ?_
          refine va_get (D := (dC, dI)) (ci := 6) (v := .int v_found) (C := RX6) (T := TX6) (N := 24) hx hb hts hiX6 hown hK hP 0 rfl rfl 18 (by decide) hf147 (fun _ h9 => h9) rfl dX6_adds_125 ?_
          refine lv_iconst (v := (1 : Int32)) hx hb dX6_adds_128 (by decide) ?_
          refine lv_iadd hx hb dX6_adds_129 ?_
          refine va_put (D := (dC, dI)) (ci := 6) (v := .int (v_found + (1 : Int32))) (ty := .int) (C := RX6) (T := TX6) (N := 24) hx hb hts hiX6 tyX6 tyX6_ok nmX6 hown hK hP hD hS 0 rfl rfl 18 (by decide) hf147 (fun _ h9 => h9) rfl (by decide +kernel) rfl rfl (Nat.le_of_ble_eq_true rfl) dX6_adds_130 (fun H locs hP hD hS => ?_)
          have hP : va_P (dC, dI) vwCl [(h0, .inr (6, [.int v_routers, .ref q_parentOf, .ref q_addressOf, .ref q_depthOf, .int v_percent, .int v_random, .int v_distance, .int v_offset, .int v_value, .int v_isMade, .ref q_marks, .int v_received, .int v_unmarked, .ref q_missing, .int v_nodes, .ref q_nodeAddresses, .ref q_nodeDistances, .ref q_nodeParents, .int (v_found + (1 : Int32)), .ref q_foundAddress, .ref q_foundDistance, .ref q_foundParent, .int v_words, .ref q_wordAt])), (q_foundAddress, .inl (cI, 101, .inl (upd a_foundAddress_17 y4_17.toNatClampNeg p1))), (q_foundDistance, .inl (cI, 101, .inl (upd a_foundDistance_17 y4_17.toNatClampNeg p2))), (q_foundParent, .inl (cI, 101, .inl (upd a_foundParent_17 y4_17.toNatClampNeg p3)))] H := hP
          have hD : va_D A [(h0, .inr (6, [.int v_routers, .ref q_parentOf, .ref q_addressOf, .ref q_depthOf, .int v_percent, .int v_random, .int v_distance, .int v_offset, .int v_value, .int v_isMade, .ref q_marks, .int v_received, .int v_unmarked, .ref q_missing, .int v_nodes, .ref q_nodeAddresses, .ref q_nodeDistances, .ref q_nodeParents, .int (v_found + (1 : Int32)), .ref q_foundAddress, .ref q_foundDistance, .ref q_foundParent, .int v_words, .ref q_wordAt])), (q_foundAddress, .inl (cI, 101, .inl (upd a_foundAddress_17 y4_17.toNatClampNeg p1))), (q_foundDistance, .inl (cI, 101, .inl (upd a_foundDistance_17 y4_17.toNatClampNeg p2))), (q_foundParent, .inl (cI, 101, .inl (upd a_foundParent_17 y4_17.toNatClampNeg p3)))] := hD
          refine lv_iconst (v := (1 : Int32)) hx hb dX6_adds_133 (by decide) ?_
          cases Option.some.inj h
          have hk1 := un_r hk1
          cases hk1
          exact re_i [0, 1, 2, 3] hx hb hr hlocks rfl hP hD hS rfl (by decide) rfl dX6_adds_134
        · have h := it_n c2 h
          refine lv_aload_n hx hb dX6_adds_22 rfl (lv_at hl 1 rfl) ?_
          refine va_get (D := (dC, dI)) (ci := 6) (v := .ref q_foundDistance) (C := RX6) (T := TX6) (N := 24) hx hb hts hiX6 hown hK hP 0 rfl rfl 20 (by decide) hf37 (fun _ h9 => h9) rfl dX6_adds_23 ?_
          refine lv_iload hx hb dX6_adds_26 (lv_at hl 0 rfl) ?_
          refine lv_iconst (v := (1 : Int32)) hx hb dX6_adds_28 (by decide) ?_
          refine lv_isub hx hb dX6_adds_29 ?_
          obtain ⟨g6, h⟩ := gd_e h
          refine va_iald hx hb hK hP 2 0 rfl rfl g6 dX6_adds_30 ?_
          refine lv_iload_n hx hb dX6_adds_31 rfl (lv_at hl 3 rfl) ?_
          refine lv_icmp_ne (tgt := 99) hx hb dX6_adds_32 (by decide) (fun c7 => ?_) (fun c7 => ?_)
          · have h := it_n c7 h
            refine lv_aload_n hx hb dX6_adds_99 rfl (lv_at hl 1 rfl) ?_
            refine va_get (D := (dC, dI)) (ci := 6) (v := .ref q_foundAddress) (C := RX6) (T := TX6) (N := 24) hx hb hts hiX6 hown hK hP 0 rfl rfl 19 (by decide) hf34 (fun _ h9 => h9) rfl dX6_adds_100 ?_
            refine lv_iload hx hb dX6_adds_103 (lv_at hl 0 rfl) ?_
            refine lv_iload_n hx hb dX6_adds_105 rfl (lv_at hl 2 rfl) ?_
            obtain ⟨g8, h⟩ := gd_e h
            refine va_iast hx hb hK hP hD hS 1 0 rfl rfl g8 dX6_adds_106 (fun H locs hP hD hS => ?_)
            have hP : va_P (dC, dI) vwCl [(h0, .inr (6, [.int v_routers, .ref q_parentOf, .ref q_addressOf, .ref q_depthOf, .int v_percent, .int v_random, .int v_distance, .int v_offset, .int v_value, .int v_isMade, .ref q_marks, .int v_received, .int v_unmarked, .ref q_missing, .int v_nodes, .ref q_nodeAddresses, .ref q_nodeDistances, .ref q_nodeParents, .int v_found, .ref q_foundAddress, .ref q_foundDistance, .ref q_foundParent, .int v_words, .ref q_wordAt])), (q_foundAddress, .inl (cI, 101, .inl (upd a_foundAddress_17 y4_17.toNatClampNeg p1))), (q_foundDistance, .inl (cI, 101, .inl a_foundDistance_17)), (q_foundParent, .inl (cI, 101, .inl a_foundParent_17))] H := hP
            have hD : va_D A [(h0, .inr (6, [.int v_routers, .ref q_parentOf, .ref q_addressOf, .ref q_depthOf, .int v_percent, .int v_random, .int v_distance, .int v_offset, .int v_value, .int v_isMade, .ref q_marks, .int v_received, .int v_unmarked, .ref q_missing, .int v_nodes, .ref q_nodeAddresses, .ref q_nodeDistances, .ref q_nodeParents, .int v_found, .ref q_foundAddress, .ref q_foundDistance, .ref q_foundParent, .int v_words, .ref q_wordAt])), (q_foundAddress, .inl (cI, 101, .inl (upd a_foundAddress_17 y4_17.toNatClampNeg p1))), (q_foundDistance, .inl (cI, 101, .inl a_foundDistance_17)), (q_foundParent, .inl (cI, 101, .inl a_foundParent_17))] := hD
            refine lv_aload_n hx hb dX6_adds_107 rfl (lv_at hl 1 rfl) ?_
            refine va_get (D := (dC, dI)) (ci := 6) (v := .ref q_foundDistance) (C := RX6) (T := TX6) (N := 24) hx hb hts hiX6 hown hK hP 0 rfl rfl 20 (by decide) hf37 (fun _ h9 => h9) rfl dX6_adds_108 ?_
            refine lv_iload hx hb dX6_adds_111 (lv_at hl 0 rfl) ?_
            refine lv_iload_n hx hb dX6_adds_113 rfl (lv_at hl 3 rfl) ?_
            obtain ⟨g9, h⟩ := gd_e h
            refine va_iast hx hb hK hP hD hS 2 0 rfl rfl g9 dX6_adds_114 (fun H locs hP hD hS => ?_)
            have hP : va_P (dC, dI) vwCl [(h0, .inr (6, [.int v_routers, .ref q_parentOf, .ref q_addressOf, .ref q_depthOf, .int v_percent, .int v_random, .int v_distance, .int v_offset, .int v_value, .int v_isMade, .ref q_marks, .int v_received, .int v_unmarked, .ref q_missing, .int v_nodes, .ref q_nodeAddresses, .ref q_nodeDistances, .ref q_nodeParents, .int v_found, .ref q_foundAddress, .ref q_foundDistance, .ref q_foundParent, .int v_words, .ref q_wordAt])), (q_foundAddress, .inl (cI, 101, .inl (upd a_foundAddress_17 y4_17.toNatClampNeg p1))), (q_foundDistance, .inl (cI, 101, .inl (upd a_foundDistance_17 y4_17.toNatClampNeg p2))), (q_foundParent, .inl (cI, 101, .inl a_foundParent_17))] H := hP
            have hD : va_D A [(h0, .inr (6, [.int v_routers, .ref q_parentOf, .ref q_addressOf, .ref q_depthOf, .int v_percent, .int v_random, .int v_distance, .int v_offset, .int v_value, .int v_isMade, .ref q_marks, .int v_received, .int v_unmarked, .ref q_missing, .int v_nodes, .ref q_nodeAddresses, .ref q_nodeDistances, .ref q_nodeParents, .int v_found, .ref q_foundAddress, .ref q_foundDistance, .ref q_foundParent, .int v_words, .ref q_wordAt])), (q_foundAddress, .inl (cI, 101, .inl (upd a_foundAddress_17 y4_17.toNatClampNeg p1))), (q_foundDistance, .inl (cI, 101, .inl (upd a_foundDistance_17 y4_17.toNatClampNeg p2))), (q_foundParent, .inl (cI, 101, .inl a_foundParent_17))] := hD
            refine lv_aload_n hx hb dX6_adds_115 rfl (lv_at hl 1 rfl) ?_
            refine va_get (D := (dC, dI)) (ci := 6) (v := .ref q_foundParent) (C := RX6) (T := TX6) (N := 24) hx hb hts hiX6 hown hK hP 0 rfl rfl 21 (by decide) hf40 (fun _ h9 => h9) rfl dX6_adds_116 ?_
            refine lv_iload hx hb dX6_adds_119 (lv_at hl 0 rfl) ?_
            refine lv_iload_n hx hb dX6_adds_121 rfl (lv_at hl 4 rfl) ?_
            obtain ⟨g10, h⟩ := gd_e h
            refine va_iast hx hb hK hP hD hS 3 0 rfl rfl g10 dX6_adds_122 (fun H locs hP hD hS => ?_)
            have hP : va_P (dC, dI) vwCl [(h0, .inr (6, [.int v_routers, .ref q_parentOf, .ref q_addressOf, .ref q_depthOf, .int v_percent, .int v_random, .int v_distance, .int v_offset, .int v_value, .int v_isMade, .ref q_marks, .int v_received, .int v_unmarked, .ref q_missing, .int v_nodes, .ref q_nodeAddresses, .ref q_nodeDistances, .ref q_nodeParents, .int v_found, .ref q_foundAddress, .ref q_foundDistance, .ref q_foundParent, .int v_words, .ref q_wordAt])), (q_foundAddress, .inl (cI, 101, .inl (upd a_foundAddress_17 y4_17.toNatClampNeg p1))), (q_foundDistance, .inl (cI, 101, .inl (upd a_foundDistance_17 y4_17.toNatClampNeg p2))), (q_foundParent, .inl (cI, 101, .inl (upd a_foundParent_17 y4_17.toNatClampNeg p3)))] H := hP
            have hD : va_D A [(h0, .inr (6, [.int v_routers, .ref q_parentOf, .ref q_addressOf, .ref q_depthOf, .int v_percent, .int v_random, .int v_distance, .int v_offset, .int v_value, .int v_isMade, .ref q_marks, .int v_received, .int v_unmarked, .ref q_missing, .int v_nodes, .ref q_nodeAddresses, .ref q_nodeDistances, .ref q_nodeParents, .int v_found, .ref q_foundAddress, .ref q_foundDistance, .ref q_foundParent, .int v_words, .ref q_wordAt])), (q_foundAddress, .inl (cI, 101, .inl (upd a_foundAddress_17 y4_17.toNatClampNeg p1))), (q_foundDistance, .inl (cI, 101, .inl (upd a_foundDistance_17 y4_17.toNatClampNeg p2))), (q_foundParent, .inl (cI, 101, .inl (upd a_foundParent_17 y4_17.toNatClampNeg p3)))] := hD
            refine lv_aload_n hx hb dX6_adds_123 rfl (lv_at hl 1 rfl) ?_
            refine lv_dup hx hb dX6_adds_124 rfl ?_
            refine va_get (D := (dC, dI)) (ci := 6) (v := .int v_found) (C := RX6) (T := TX6) (N := 24) hx hb hts hiX6 hown hK hP 0 rfl rfl 18 (by decide) hf147 (fun _ h9 => h9) rfl dX6_adds_125 ?_
            refine lv_iconst (v := (1 : Int32)) hx hb dX6_adds_128 (by decide) ?_
            refine lv_iadd hx hb dX6_adds_129 ?_
            refine va_put (D := (dC, dI)) (ci := 6) (v := .int (v_found + (1 : Int32))) (ty := .int) (C := RX6) (T := TX6) (N := 24) hx hb hts hiX6 tyX6 tyX6_ok nmX6 hown hK hP hD hS 0 rfl rfl 18 (by decide) hf147 (fun _ h9 => h9) rfl (by decide +kernel) rfl rfl (Nat.le_of_ble_eq_true rfl) dX6_adds_130 (fun H locs hP hD hS => ?_)
            have hP : va_P (dC, dI) vwCl [(h0, .inr (6, [.int v_routers, .ref q_parentOf, .ref q_addressOf, .ref q_depthOf, .int v_percent, .int v_random, .int v_distance, .int v_offset, .int v_value, .int v_isMade, .ref q_marks, .int v_received, .int v_unmarked, .ref q_missing, .int v_nodes, .ref q_nodeAddresses, .ref q_nodeDistances, .ref q_nodeParents, .int (v_found + (1 : Int32)), .ref q_foundAddress, .ref q_foundDistance, .ref q_foundParent, .int v_words, .ref q_wordAt])), (q_foundAddress, .inl (cI, 101, .inl (upd a_foundAddress_17 y4_17.toNatClampNeg p1))), (q_foundDistance, .inl (cI, 101, .inl (upd a_foundDistance_17 y4_17.toNatClampNeg p2))), (q_foundParent, .inl (cI, 101, .inl (upd a_foundParent_17 y4_17.toNatClampNeg p3)))] H := hP
            have hD : va_D A [(h0, .inr (6, [.int v_routers, .ref q_parentOf, .ref q_addressOf, .ref q_depthOf, .int v_percent, .int v_random, .int v_distance, .int v_offset, .int v_value, .int v_isMade, .ref q_marks, .int v_received, .int v_unmarked, .ref q_missing, .int v_nodes, .ref q_nodeAddresses, .ref q_nodeDistances, .ref q_nodeParents, .int (v_found + (1 : Int32)), .ref q_foundAddress, .ref q_foundDistance, .ref q_foundParent, .int v_words, .ref q_wordAt])), (q_foundAddress, .inl (cI, 101, .inl (upd a_foundAddress_17 y4_17.toNatClampNeg p1))), (q_foundDistance, .inl (cI, 101, .inl (upd a_foundDistance_17 y4_17.toNatClampNeg p2))), (q_foundParent, .inl (cI, 101, .inl (upd a_foundParent_17 y4_17.toNatClampNeg p3)))] := hD
            refine lv_iconst (v := (1 : Int32)) hx hb dX6_adds_133 (by decide) ?_
            cases Option.some.inj h
            have hk1 := un_r hk1
            cases hk1
            exact re_i [0, 1, 2, 3] hx hb hr hlocks rfl hP hD hS rfl (by decide) rfl dX6_adds_134
          · have h := it_p c7 h
            refine lv_aload_n hx hb dX6_adds_35 rfl (lv_at hl 1 rfl) ?_
            refine va_get (D := (dC, dI)) (ci := 6) (v := .ref q_foundParent) (C := RX6) (T := TX6) (N := 24) hx hb hts hiX6 hown hK hP 0 rfl rfl 21 (by decide) hf40 (fun _ h9 => h9) rfl dX6_adds_36 ?_
            refine lv_iload hx hb dX6_adds_39 (lv_at hl 0 rfl) ?_
            refine lv_iconst (v := (1 : Int32)) hx hb dX6_adds_41 (by decide) ?_
            refine lv_isub hx hb dX6_adds_42 ?_
            obtain ⟨g11, h⟩ := gd_e h
            refine va_iald hx hb hK hP 3 0 rfl rfl g11 dX6_adds_43 ?_
            refine lv_iload_n hx hb dX6_adds_44 rfl (lv_at hl 4 rfl) ?_
            refine lv_icmp_ne (tgt := 99) hx hb dX6_adds_45 (by decide) (fun c12 => ?_) (fun c12 => ?_)
            · have h := it_n c12 h
              refine lv_aload_n hx hb dX6_adds_99 rfl (lv_at hl 1 rfl) ?_
              refine va_get (D := (dC, dI)) (ci := 6) (v := .ref q_foundAddress) (C := RX6) (T := TX6) (N := 24) hx hb hts hiX6 hown hK hP 0 rfl rfl 19 (by decide) hf34 (fun _ h9 => h9) rfl dX6_adds_100 ?_
              refine lv_iload hx hb dX6_adds_103 (lv_at hl 0 rfl) ?_
              refine lv_iload_n hx hb dX6_adds_105 rfl (lv_at hl 2 rfl) ?_
              obtain ⟨g13, h⟩ := gd_e h
              refine va_iast hx hb hK hP hD hS 1 0 rfl rfl g13 dX6_adds_106 (fun H locs hP hD hS => ?_)
              have hP : va_P (dC, dI) vwCl [(h0, .inr (6, [.int v_routers, .ref q_parentOf, .ref q_addressOf, .ref q_depthOf, .int v_percent, .int v_random, .int v_distance, .int v_offset, .int v_value, .int v_isMade, .ref q_marks, .int v_received, .int v_unmarked, .ref q_missing, .int v_nodes, .ref q_nodeAddresses, .ref q_nodeDistances, .ref q_nodeParents, .int v_found, .ref q_foundAddress, .ref q_foundDistance, .ref q_foundParent, .int v_words, .ref q_wordAt])), (q_foundAddress, .inl (cI, 101, .inl (upd a_foundAddress_17 y4_17.toNatClampNeg p1))), (q_foundDistance, .inl (cI, 101, .inl a_foundDistance_17)), (q_foundParent, .inl (cI, 101, .inl a_foundParent_17))] H := hP
              have hD : va_D A [(h0, .inr (6, [.int v_routers, .ref q_parentOf, .ref q_addressOf, .ref q_depthOf, .int v_percent, .int v_random, .int v_distance, .int v_offset, .int v_value, .int v_isMade, .ref q_marks, .int v_received, .int v_unmarked, .ref q_missing, .int v_nodes, .ref q_nodeAddresses, .ref q_nodeDistances, .ref q_nodeParents, .int v_found, .ref q_foundAddress, .ref q_foundDistance, .ref q_foundParent, .int v_words, .ref q_wordAt])), (q_foundAddress, .inl (cI, 101, .inl (upd a_foundAddress_17 y4_17.toNatClampNeg p1))), (q_foundDistance, .inl (cI, 101, .inl a_foundDistance_17)), (q_foundParent, .inl (cI, 101, .inl a_foundParent_17))] := hD
              refine lv_aload_n hx hb dX6_adds_107 rfl (lv_at hl 1 rfl) ?_
              refine va_get (D := (dC, dI)) (ci := 6) (v := .ref q_foundDistance) (C := RX6) (T := TX6) (N := 24) hx hb hts hiX6 hown hK hP 0 rfl rfl 20 (by decide) hf37 (fun _ h9 => h9) rfl dX6_adds_108 ?_
              refine lv_iload hx hb dX6_adds_111 (lv_at hl 0 rfl) ?_
              refine lv_iload_n hx hb dX6_adds_113 rfl (lv_at hl 3 rfl) ?_
              obtain ⟨g14, h⟩ := gd_e h
              refine va_iast hx hb hK hP hD hS 2 0 rfl rfl g14 dX6_adds_114 (fun H locs hP hD hS => ?_)
              have hP : va_P (dC, dI) vwCl [(h0, .inr (6, [.int v_routers, .ref q_parentOf, .ref q_addressOf, .ref q_depthOf, .int v_percent, .int v_random, .int v_distance, .int v_offset, .int v_value, .int v_isMade, .ref q_marks, .int v_received, .int v_unmarked, .ref q_missing, .int v_nodes, .ref q_nodeAddresses, .ref q_nodeDistances, .ref q_nodeParents, .int v_found, .ref q_foundAddress, .ref q_foundDistance, .ref q_foundParent, .int v_words, .ref q_wordAt])), (q_foundAddress, .inl (cI, 101, .inl (upd a_foundAddress_17 y4_17.toNatClampNeg p1))), (q_foundDistance, .inl (cI, 101, .inl (upd a_foundDistance_17 y4_17.toNatClampNeg p2))), (q_foundParent, .inl (cI, 101, .inl a_foundParent_17))] H := hP
              have hD : va_D A [(h0, .inr (6, [.int v_routers, .ref q_parentOf, .ref q_addressOf, .ref q_depthOf, .int v_percent, .int v_random, .int v_distance, .int v_offset, .int v_value, .int v_isMade, .ref q_marks, .int v_received, .int v_unmarked, .ref q_missing, .int v_nodes, .ref q_nodeAddresses, .ref q_nodeDistances, .ref q_nodeParents, .int v_found, .ref q_foundAddress, .ref q_foundDistance, .ref q_foundParent, .int v_words, .ref q_wordAt])), (q_foundAddress, .inl (cI, 101, .inl (upd a_foundAddress_17 y4_17.toNatClampNeg p1))), (q_foundDistance, .inl (cI, 101, .inl (upd a_foundDistance_17 y4_17.toNatClampNeg p2))), (q_foundParent, .inl (cI, 101, .inl a_foundParent_17))] := hD
              refine lv_aload_n hx hb dX6_adds_115 rfl (lv_at hl 1 rfl) ?_
              refine va_get (D := (dC, dI)) (ci := 6) (v := .ref q_foundParent) (C := RX6) (T := TX6) (N := 24) hx hb hts hiX6 hown hK hP 0 rfl rfl 21 (by decide) hf40 (fun _ h9 => h9) rfl dX6_adds_116 ?_
              refine lv_iload hx hb dX6_adds_119 (lv_at hl 0 rfl) ?_
              refine lv_iload_n hx hb dX6_adds_121 rfl (lv_at hl 4 rfl) ?_
              obtain ⟨g15, h⟩ := gd_e h
              refine va_iast hx hb hK hP hD hS 3 0 rfl rfl g15 dX6_adds_122 (fun H locs hP hD hS => ?_)
              have hP : va_P (dC, dI) vwCl [(h0, .inr (6, [.int v_routers, .ref q_parentOf, .ref q_addressOf, .ref q_depthOf, .int v_percent, .int v_random, .int v_distance, .int v_offset, .int v_value, .int v_isMade, .ref q_marks, .int v_received, .int v_unmarked, .ref q_missing, .int v_nodes, .ref q_nodeAddresses, .ref q_nodeDistances, .ref q_nodeParents, .int v_found, .ref q_foundAddress, .ref q_foundDistance, .ref q_foundParent, .int v_words, .ref q_wordAt])), (q_foundAddress, .inl (cI, 101, .inl (upd a_foundAddress_17 y4_17.toNatClampNeg p1))), (q_foundDistance, .inl (cI, 101, .inl (upd a_foundDistance_17 y4_17.toNatClampNeg p2))), (q_foundParent, .inl (cI, 101, .inl (upd a_foundParent_17 y4_17.toNatClampNeg p3)))] H := hP
              have hD : va_D A [(h0, .inr (6, [.int v_routers, .ref q_parentOf, .ref q_addressOf, .ref q_depthOf, .int v_percent, .int v_random, .int v_distance, .int v_offset, .int v_value, .int v_isMade, .ref q_marks, .int v_received, .int v_unmarked, .ref q_missing, .int v_nodes, .ref q_nodeAddresses, .ref q_nodeDistances, .ref q_nodeParents, .int v_found, .ref q_foundAddress, .ref q_foundDistance, .ref q_foundParent, .int v_words, .ref q_wordAt])), (q_foundAddress, .inl (cI, 101, .inl (upd a_foundAddress_17 y4_17.toNatClampNeg p1))), (q_foundDistance, .inl (cI, 101, .inl (upd a_foundDistance_17 y4_17.toNatClampNeg p2))), (q_foundParent, .inl (cI, 101, .inl (upd a_foundParent_17 y4_17.toNatClampNeg p3)))] := hD
              refine lv_aload_n hx hb dX6_adds_123 rfl (lv_at hl 1 rfl) ?_
              refine lv_dup hx hb dX6_adds_124 rfl ?_
              refine va_get (D := (dC, dI)) (ci := 6) (v := .int v_found) (C := RX6) (T := TX6) (N := 24) hx hb hts hiX6 hown hK hP 0 rfl rfl 18 (by decide) hf147 (fun _ h9 => h9) rfl dX6_adds_125 ?_
              refine lv_iconst (v := (1 : Int32)) hx hb dX6_adds_128 (by decide) ?_
              refine lv_iadd hx hb dX6_adds_129 ?_
              refine va_put (D := (dC, dI)) (ci := 6) (v := .int (v_found + (1 : Int32))) (ty := .int) (C := RX6) (T := TX6) (N := 24) hx hb hts hiX6 tyX6 tyX6_ok nmX6 hown hK hP hD hS 0 rfl rfl 18 (by decide) hf147 (fun _ h9 => h9) rfl (by decide +kernel) rfl rfl (Nat.le_of_ble_eq_true rfl) dX6_adds_130 (fun H locs hP hD hS => ?_)
              have hP : va_P (dC, dI) vwCl [(h0, .inr (6, [.int v_routers, .ref q_parentOf, .ref q_addressOf, .ref q_depthOf, .int v_percent, .int v_random, .int v_distance, .int v_offset, .int v_value, .int v_isMade, .ref q_marks, .int v_received, .int v_unmarked, .ref q_missing, .int v_nodes, .ref q_nodeAddresses, .ref q_nodeDistances, .ref q_nodeParents, .int (v_found + (1 : Int32)), .ref q_foundAddress, .ref q_foundDistance, .ref q_foundParent, .int v_words, .ref q_wordAt])), (q_foundAddress, .inl (cI, 101, .inl (upd a_foundAddress_17 y4_17.toNatClampNeg p1))), (q_foundDistance, .inl (cI, 101, .inl (upd a_foundDistance_17 y4_17.toNatClampNeg p2))), (q_foundParent, .inl (cI, 101, .inl (upd a_foundParent_17 y4_17.toNatClampNeg p3)))] H := hP
              have hD : va_D A [(h0, .inr (6, [.int v_routers, .ref q_parentOf, .ref q_addressOf, .ref q_depthOf, .int v_percent, .int v_random, .int v_distance, .int v_offset, .int v_value, .int v_isMade, .ref q_marks, .int v_received, .int v_unmarked, .ref q_missing, .int v_nodes, .ref q_nodeAddresses, .ref q_nodeDistances, .ref q_nodeParents, .int (v_found + (1 : Int32)), .ref q_foundAddress, .ref q_foundDistance, .ref q_foundParent, .int v_words, .ref q_wordAt])), (q_foundAddress, .inl (cI, 101, .inl (upd a_foundAddress_17 y4_17.toNatClampNeg p1))), (q_foundDistance, .inl (cI, 101, .inl (upd a_foundDistance_17 y4_17.toNatClampNeg p2))), (q_foundParent, .inl (cI, 101, .inl (upd a_foundParent_17 y4_17.toNatClampNeg p3)))] := hD
              refine lv_iconst (v := (1 : Int32)) hx hb dX6_adds_133 (by decide) ?_
              cases Option.some.inj h
              have hk1 := un_r hk1
              cases hk1
              exact re_i [0, 1, 2, 3] hx hb hr hlocks rfl hP hD hS rfl (by decide) rfl dX6_adds_134
            · have h := it_p c12 h
              refine lv_aload_n hx hb dX6_adds_48 rfl (lv_at hl 1 rfl) ?_
              refine va_get (D := (dC, dI)) (ci := 6) (v := .ref q_foundAddress) (C := RX6) (T := TX6) (N := 24) hx hb hts hiX6 hown hK hP 0 rfl rfl 19 (by decide) hf34 (fun _ h9 => h9) rfl dX6_adds_49 ?_
              refine lv_iload hx hb dX6_adds_52 (lv_at hl 0 rfl) ?_
              refine lv_iconst (v := (1 : Int32)) hx hb dX6_adds_54 (by decide) ?_
              refine lv_isub hx hb dX6_adds_55 ?_
              obtain ⟨g16, h⟩ := gd_e h
              refine va_iald hx hb hK hP 1 0 rfl rfl g16 dX6_adds_56 ?_
              refine lv_iload_n hx hb dX6_adds_57 rfl (lv_at hl 2 rfl) ?_
              refine lv_icmp_le (tgt := 99) hx hb dX6_adds_58 (by decide) (fun c17 => ?_) (fun c17 => ?_)
              · have h := it_p c17 h
                refine lv_aload_n hx hb dX6_adds_99 rfl (lv_at hl 1 rfl) ?_
                refine va_get (D := (dC, dI)) (ci := 6) (v := .ref q_foundAddress) (C := RX6) (T := TX6) (N := 24) hx hb hts hiX6 hown hK hP 0 rfl rfl 19 (by decide) hf34 (fun _ h9 => h9) rfl dX6_adds_100 ?_
                refine lv_iload hx hb dX6_adds_103 (lv_at hl 0 rfl) ?_
                refine lv_iload_n hx hb dX6_adds_105 rfl (lv_at hl 2 rfl) ?_
                obtain ⟨g18, h⟩ := gd_e h
                refine va_iast hx hb hK hP hD hS 1 0 rfl rfl g18 dX6_adds_106 (fun H locs hP hD hS => ?_)
                have hP : va_P (dC, dI) vwCl [(h0, .inr (6, [.int v_routers, .ref q_parentOf, .ref q_addressOf, .ref q_depthOf, .int v_percent, .int v_random, .int v_distance, .int v_offset, .int v_value, .int v_isMade, .ref q_marks, .int v_received, .int v_unmarked, .ref q_missing, .int v_nodes, .ref q_nodeAddresses, .ref q_nodeDistances, .ref q_nodeParents, .int v_found, .ref q_foundAddress, .ref q_foundDistance, .ref q_foundParent, .int v_words, .ref q_wordAt])), (q_foundAddress, .inl (cI, 101, .inl (upd a_foundAddress_17 y4_17.toNatClampNeg p1))), (q_foundDistance, .inl (cI, 101, .inl a_foundDistance_17)), (q_foundParent, .inl (cI, 101, .inl a_foundParent_17))] H := hP
                have hD : va_D A [(h0, .inr (6, [.int v_routers, .ref q_parentOf, .ref q_addressOf, .ref q_depthOf, .int v_percent, .int v_random, .int v_distance, .int v_offset, .int v_value, .int v_isMade, .ref q_marks, .int v_received, .int v_unmarked, .ref q_missing, .int v_nodes, .ref q_nodeAddresses, .ref q_nodeDistances, .ref q_nodeParents, .int v_found, .ref q_foundAddress, .ref q_foundDistance, .ref q_foundParent, .int v_words, .ref q_wordAt])), (q_foundAddress, .inl (cI, 101, .inl (upd a_foundAddress_17 y4_17.toNatClampNeg p1))), (q_foundDistance, .inl (cI, 101, .inl a_foundDistance_17)), (q_foundParent, .inl (cI, 101, .inl a_foundParent_17))] := hD
                refine lv_aload_n hx hb dX6_adds_107 rfl (lv_at hl 1 rfl) ?_
                refine va_get (D := (dC, dI)) (ci := 6) (v := .ref q_foundDistance) (C := RX6) (T := TX6) (N := 24) hx hb hts hiX6 hown hK hP 0 rfl rfl 20 (by decide) hf37 (fun _ h9 => h9) rfl dX6_adds_108 ?_
                refine lv_iload hx hb dX6_adds_111 (lv_at hl 0 rfl) ?_
                refine lv_iload_n hx hb dX6_adds_113 rfl (lv_at hl 3 rfl) ?_
                obtain ⟨g19, h⟩ := gd_e h
                refine va_iast hx hb hK hP hD hS 2 0 rfl rfl g19 dX6_adds_114 (fun H locs hP hD hS => ?_)
                have hP : va_P (dC, dI) vwCl [(h0, .inr (6, [.int v_routers, .ref q_parentOf, .ref q_addressOf, .ref q_depthOf, .int v_percent, .int v_random, .int v_distance, .int v_offset, .int v_value, .int v_isMade, .ref q_marks, .int v_received, .int v_unmarked, .ref q_missing, .int v_nodes, .ref q_nodeAddresses, .ref q_nodeDistances, .ref q_nodeParents, .int v_found, .ref q_foundAddress, .ref q_foundDistance, .ref q_foundParent, .int v_words, .ref q_wordAt])), (q_foundAddress, .inl (cI, 101, .inl (upd a_foundAddress_17 y4_17.toNatClampNeg p1))), (q_foundDistance, .inl (cI, 101, .inl (upd a_foundDistance_17 y4_17.toNatClampNeg p2))), (q_foundParent, .inl (cI, 101, .inl a_foundParent_17))] H := hP
                have hD : va_D A [(h0, .inr (6, [.int v_routers, .ref q_parentOf, .ref q_addressOf, .ref q_depthOf, .int v_percent, .int v_random, .int v_distance, .int v_offset, .int v_value, .int v_isMade, .ref q_marks, .int v_received, .int v_unmarked, .ref q_missing, .int v_nodes, .ref q_nodeAddresses, .ref q_nodeDistances, .ref q_nodeParents, .int v_found, .ref q_foundAddress, .ref q_foundDistance, .ref q_foundParent, .int v_words, .ref q_wordAt])), (q_foundAddress, .inl (cI, 101, .inl (upd a_foundAddress_17 y4_17.toNatClampNeg p1))), (q_foundDistance, .inl (cI, 101, .inl (upd a_foundDistance_17 y4_17.toNatClampNeg p2))), (q_foundParent, .inl (cI, 101, .inl a_foundParent_17))] := hD
                refine lv_aload_n hx hb dX6_adds_115 rfl (lv_at hl 1 rfl) ?_
                refine va_get (D := (dC, dI)) (ci := 6) (v := .ref q_foundParent) (C := RX6) (T := TX6) (N := 24) hx hb hts hiX6 hown hK hP 0 rfl rfl 21 (by decide) hf40 (fun _ h9 => h9) rfl dX6_adds_116 ?_
                refine lv_iload hx hb dX6_adds_119 (lv_at hl 0 rfl) ?_
                refine lv_iload_n hx hb dX6_adds_121 rfl (lv_at hl 4 rfl) ?_
                obtain ⟨g20, h⟩ := gd_e h
                refine va_iast hx hb hK hP hD hS 3 0 rfl rfl g20 dX6_adds_122 (fun H locs hP hD hS => ?_)
                have hP : va_P (dC, dI) vwCl [(h0, .inr (6, [.int v_routers, .ref q_parentOf, .ref q_addressOf, .ref q_depthOf, .int v_percent, .int v_random, .int v_distance, .int v_offset, .int v_value, .int v_isMade, .ref q_marks, .int v_received, .int v_unmarked, .ref q_missing, .int v_nodes, .ref q_nodeAddresses, .ref q_nodeDistances, .ref q_nodeParents, .int v_found, .ref q_foundAddress, .ref q_foundDistance, .ref q_foundParent, .int v_words, .ref q_wordAt])), (q_foundAddress, .inl (cI, 101, .inl (upd a_foundAddress_17 y4_17.toNatClampNeg p1))), (q_foundDistance, .inl (cI, 101, .inl (upd a_foundDistance_17 y4_17.toNatClampNeg p2))), (q_foundParent, .inl (cI, 101, .inl (upd a_foundParent_17 y4_17.toNatClampNeg p3)))] H := hP
                have hD : va_D A [(h0, .inr (6, [.int v_routers, .ref q_parentOf, .ref q_addressOf, .ref q_depthOf, .int v_percent, .int v_random, .int v_distance, .int v_offset, .int v_value, .int v_isMade, .ref q_marks, .int v_received, .int v_unmarked, .ref q_missing, .int v_nodes, .ref q_nodeAddresses, .ref q_nodeDistances, .ref q_nodeParents, .int v_found, .ref q_foundAddress, .ref q_foundDistance, .ref q_foundParent, .int v_words, .ref q_wordAt])), (q_foundAddress, .inl (cI, 101, .inl (upd a_foundAddress_17 y4_17.toNatClampNeg p1))), (q_foundDistance, .inl (cI, 101, .inl (upd a_foundDistance_17 y4_17.toNatClampNeg p2))), (q_foundParent, .inl (cI, 101, .inl (upd a_foundParent_17 y4_17.toNatClampNeg p3)))] := hD
                refine lv_aload_n hx hb dX6_adds_123 rfl (lv_at hl 1 rfl) ?_
                refine lv_dup hx hb dX6_adds_124 rfl ?_
                refine va_get (D := (dC, dI)) (ci := 6) (v := .int v_found) (C := RX6) (T := TX6) (N := 24) hx hb hts hiX6 hown hK hP 0 rfl rfl 18 (by decide) hf147 (fun _ h9 => h9) rfl dX6_adds_125 ?_
                refine lv_iconst (v := (1 : Int32)) hx hb dX6_adds_128 (by decide) ?_
                refine lv_iadd hx hb dX6_adds_129 ?_
                refine va_put (D := (dC, dI)) (ci := 6) (v := .int (v_found + (1 : Int32))) (ty := .int) (C := RX6) (T := TX6) (N := 24) hx hb hts hiX6 tyX6 tyX6_ok nmX6 hown hK hP hD hS 0 rfl rfl 18 (by decide) hf147 (fun _ h9 => h9) rfl (by decide +kernel) rfl rfl (Nat.le_of_ble_eq_true rfl) dX6_adds_130 (fun H locs hP hD hS => ?_)
                have hP : va_P (dC, dI) vwCl [(h0, .inr (6, [.int v_routers, .ref q_parentOf, .ref q_addressOf, .ref q_depthOf, .int v_percent, .int v_random, .int v_distance, .int v_offset, .int v_value, .int v_isMade, .ref q_marks, .int v_received, .int v_unmarked, .ref q_missing, .int v_nodes, .ref q_nodeAddresses, .ref q_nodeDistances, .ref q_nodeParents, .int (v_found + (1 : Int32)), .ref q_foundAddress, .ref q_foundDistance, .ref q_foundParent, .int v_words, .ref q_wordAt])), (q_foundAddress, .inl (cI, 101, .inl (upd a_foundAddress_17 y4_17.toNatClampNeg p1))), (q_foundDistance, .inl (cI, 101, .inl (upd a_foundDistance_17 y4_17.toNatClampNeg p2))), (q_foundParent, .inl (cI, 101, .inl (upd a_foundParent_17 y4_17.toNatClampNeg p3)))] H := hP
                have hD : va_D A [(h0, .inr (6, [.int v_routers, .ref q_parentOf, .ref q_addressOf, .ref q_depthOf, .int v_percent, .int v_random, .int v_distance, .int v_offset, .int v_value, .int v_isMade, .ref q_marks, .int v_received, .int v_unmarked, .ref q_missing, .int v_nodes, .ref q_nodeAddresses, .ref q_nodeDistances, .ref q_nodeParents, .int (v_found + (1 : Int32)), .ref q_foundAddress, .ref q_foundDistance, .ref q_foundParent, .int v_words, .ref q_wordAt])), (q_foundAddress, .inl (cI, 101, .inl (upd a_foundAddress_17 y4_17.toNatClampNeg p1))), (q_foundDistance, .inl (cI, 101, .inl (upd a_foundDistance_17 y4_17.toNatClampNeg p2))), (q_foundParent, .inl (cI, 101, .inl (upd a_foundParent_17 y4_17.toNatClampNeg p3)))] := hD
                refine lv_iconst (v := (1 : Int32)) hx hb dX6_adds_133 (by decide) ?_
                cases Option.some.inj h
                have hk1 := un_r hk1
                cases hk1
                exact re_i [0, 1, 2, 3] hx hb hr hlocks rfl hP hD hS rfl (by decide) rfl dX6_adds_134
              · have h := it_n c17 h
                refine lv_aload_n hx hb dX6_adds_61 rfl (lv_at hl 1 rfl) ?_
                refine va_get (D := (dC, dI)) (ci := 6) (v := .ref q_foundAddress) (C := RX6) (T := TX6) (N := 24) hx hb hts hiX6 hown hK hP 0 rfl rfl 19 (by decide) hf34 (fun _ h9 => h9) rfl dX6_adds_62 ?_
                refine lv_iload hx hb dX6_adds_65 (lv_at hl 0 rfl) ?_
                refine lv_aload_n hx hb dX6_adds_67 rfl (lv_at hl 1 rfl) ?_
                refine va_get (D := (dC, dI)) (ci := 6) (v := .ref q_foundAddress) (C := RX6) (T := TX6) (N := 24) hx hb hts hiX6 hown hK hP 0 rfl rfl 19 (by decide) hf34 (fun _ h9 => h9) rfl dX6_adds_68 ?_
                refine lv_iload hx hb dX6_adds_71 (lv_at hl 0 rfl) ?_
                refine lv_iconst (v := (1 : Int32)) hx hb dX6_adds_73 (by decide) ?_
                refine lv_isub hx hb dX6_adds_74 ?_
                obtain ⟨g21, h⟩ := gd_e h
                refine va_iald hx hb hK hP 1 0 rfl rfl g21 dX6_adds_75 ?_
                obtain ⟨g22, h⟩ := gd_e h
                refine va_iast hx hb hK hP hD hS 1 0 rfl rfl g22 dX6_adds_76 (fun H locs hP hD hS => ?_)
                have hP : va_P (dC, dI) vwCl [(h0, .inr (6, [.int v_routers, .ref q_parentOf, .ref q_addressOf, .ref q_depthOf, .int v_percent, .int v_random, .int v_distance, .int v_offset, .int v_value, .int v_isMade, .ref q_marks, .int v_received, .int v_unmarked, .ref q_missing, .int v_nodes, .ref q_nodeAddresses, .ref q_nodeDistances, .ref q_nodeParents, .int v_found, .ref q_foundAddress, .ref q_foundDistance, .ref q_foundParent, .int v_words, .ref q_wordAt])), (q_foundAddress, .inl (cI, 101, .inl (upd a_foundAddress_17 y4_17.toNatClampNeg (a_foundAddress_17 (y4_17 - (1 : Int32)).toNatClampNeg)))), (q_foundDistance, .inl (cI, 101, .inl a_foundDistance_17)), (q_foundParent, .inl (cI, 101, .inl a_foundParent_17))] H := hP
                have hD : va_D A [(h0, .inr (6, [.int v_routers, .ref q_parentOf, .ref q_addressOf, .ref q_depthOf, .int v_percent, .int v_random, .int v_distance, .int v_offset, .int v_value, .int v_isMade, .ref q_marks, .int v_received, .int v_unmarked, .ref q_missing, .int v_nodes, .ref q_nodeAddresses, .ref q_nodeDistances, .ref q_nodeParents, .int v_found, .ref q_foundAddress, .ref q_foundDistance, .ref q_foundParent, .int v_words, .ref q_wordAt])), (q_foundAddress, .inl (cI, 101, .inl (upd a_foundAddress_17 y4_17.toNatClampNeg (a_foundAddress_17 (y4_17 - (1 : Int32)).toNatClampNeg)))), (q_foundDistance, .inl (cI, 101, .inl a_foundDistance_17)), (q_foundParent, .inl (cI, 101, .inl a_foundParent_17))] := hD
                refine lv_aload_n hx hb dX6_adds_77 rfl (lv_at hl 1 rfl) ?_
                refine va_get (D := (dC, dI)) (ci := 6) (v := .ref q_foundDistance) (C := RX6) (T := TX6) (N := 24) hx hb hts hiX6 hown hK hP 0 rfl rfl 20 (by decide) hf37 (fun _ h9 => h9) rfl dX6_adds_78 ?_
                refine lv_iload hx hb dX6_adds_81 (lv_at hl 0 rfl) ?_
                refine lv_iload_n hx hb dX6_adds_83 rfl (lv_at hl 3 rfl) ?_
                obtain ⟨g23, h⟩ := gd_e h
                refine va_iast hx hb hK hP hD hS 2 0 rfl rfl g23 dX6_adds_84 (fun H locs hP hD hS => ?_)
                have hP : va_P (dC, dI) vwCl [(h0, .inr (6, [.int v_routers, .ref q_parentOf, .ref q_addressOf, .ref q_depthOf, .int v_percent, .int v_random, .int v_distance, .int v_offset, .int v_value, .int v_isMade, .ref q_marks, .int v_received, .int v_unmarked, .ref q_missing, .int v_nodes, .ref q_nodeAddresses, .ref q_nodeDistances, .ref q_nodeParents, .int v_found, .ref q_foundAddress, .ref q_foundDistance, .ref q_foundParent, .int v_words, .ref q_wordAt])), (q_foundAddress, .inl (cI, 101, .inl (upd a_foundAddress_17 y4_17.toNatClampNeg (a_foundAddress_17 (y4_17 - (1 : Int32)).toNatClampNeg)))), (q_foundDistance, .inl (cI, 101, .inl (upd a_foundDistance_17 y4_17.toNatClampNeg p2))), (q_foundParent, .inl (cI, 101, .inl a_foundParent_17))] H := hP
                have hD : va_D A [(h0, .inr (6, [.int v_routers, .ref q_parentOf, .ref q_addressOf, .ref q_depthOf, .int v_percent, .int v_random, .int v_distance, .int v_offset, .int v_value, .int v_isMade, .ref q_marks, .int v_received, .int v_unmarked, .ref q_missing, .int v_nodes, .ref q_nodeAddresses, .ref q_nodeDistances, .ref q_nodeParents, .int v_found, .ref q_foundAddress, .ref q_foundDistance, .ref q_foundParent, .int v_words, .ref q_wordAt])), (q_foundAddress, .inl (cI, 101, .inl (upd a_foundAddress_17 y4_17.toNatClampNeg (a_foundAddress_17 (y4_17 - (1 : Int32)).toNatClampNeg)))), (q_foundDistance, .inl (cI, 101, .inl (upd a_foundDistance_17 y4_17.toNatClampNeg p2))), (q_foundParent, .inl (cI, 101, .inl a_foundParent_17))] := hD
                refine lv_aload_n hx hb dX6_adds_85 rfl (lv_at hl 1 rfl) ?_
                refine va_get (D := (dC, dI)) (ci := 6) (v := .ref q_foundParent) (C := RX6) (T := TX6) (N := 24) hx hb hts hiX6 hown hK hP 0 rfl rfl 21 (by decide) hf40 (fun _ h9 => h9) rfl dX6_adds_86 ?_
                refine lv_iload hx hb dX6_adds_89 (lv_at hl 0 rfl) ?_
                refine lv_iload_n hx hb dX6_adds_91 rfl (lv_at hl 4 rfl) ?_
                obtain ⟨g24, h⟩ := gd_e h
                refine va_iast hx hb hK hP hD hS 3 0 rfl rfl g24 dX6_adds_92 (fun H locs hP hD hS => ?_)
                have hP : va_P (dC, dI) vwCl [(h0, .inr (6, [.int v_routers, .ref q_parentOf, .ref q_addressOf, .ref q_depthOf, .int v_percent, .int v_random, .int v_distance, .int v_offset, .int v_value, .int v_isMade, .ref q_marks, .int v_received, .int v_unmarked, .ref q_missing, .int v_nodes, .ref q_nodeAddresses, .ref q_nodeDistances, .ref q_nodeParents, .int v_found, .ref q_foundAddress, .ref q_foundDistance, .ref q_foundParent, .int v_words, .ref q_wordAt])), (q_foundAddress, .inl (cI, 101, .inl (upd a_foundAddress_17 y4_17.toNatClampNeg (a_foundAddress_17 (y4_17 - (1 : Int32)).toNatClampNeg)))), (q_foundDistance, .inl (cI, 101, .inl (upd a_foundDistance_17 y4_17.toNatClampNeg p2))), (q_foundParent, .inl (cI, 101, .inl (upd a_foundParent_17 y4_17.toNatClampNeg p3)))] H := hP
                have hD : va_D A [(h0, .inr (6, [.int v_routers, .ref q_parentOf, .ref q_addressOf, .ref q_depthOf, .int v_percent, .int v_random, .int v_distance, .int v_offset, .int v_value, .int v_isMade, .ref q_marks, .int v_received, .int v_unmarked, .ref q_missing, .int v_nodes, .ref q_nodeAddresses, .ref q_nodeDistances, .ref q_nodeParents, .int v_found, .ref q_foundAddress, .ref q_foundDistance, .ref q_foundParent, .int v_words, .ref q_wordAt])), (q_foundAddress, .inl (cI, 101, .inl (upd a_foundAddress_17 y4_17.toNatClampNeg (a_foundAddress_17 (y4_17 - (1 : Int32)).toNatClampNeg)))), (q_foundDistance, .inl (cI, 101, .inl (upd a_foundDistance_17 y4_17.toNatClampNeg p2))), (q_foundParent, .inl (cI, 101, .inl (upd a_foundParent_17 y4_17.toNatClampNeg p3)))] := hD
                refine lv_iinc (v := y4_17 + (-1 : Int32)) (lv' := [(4, .int (y4_17 + (-1 : Int32))), (0, .ref h0), (1, .int p1), (2, .int p2), (3, .int p3)]) hx hb dX6_adds_93 hl (k := 0) rfl rfl (by decide) rfl (fun ls hl => ?_)
                refine lv_goto (tgt := 17) hx hb dX6_adds_96 (by decide) ?_
                cases Option.some.inj h
                exact ih1 _ _ _ _ _ _ _ (un_l hk1) (hP.sub [0, 1, 2, 3] rfl) (hD.sub [0, 1, 2, 3] (by decide) rfl) hS (lv_sub hl [0, 1, 2, 3, 4] rfl)
    exact key17 N _ _ _ _ _ _ _ h hP hD hS hl
  · have h := it_p c1 h
    refine lv_iconst (v := (0 : Int32)) hx hb dX6_adds_9 (by decide) ?_
    have hk0 := Option.some.inj h
    cases hk0
    exact re_i [0, 1, 2, 3] hx hb hr hlocks rfl hP hD hS rfl (by decide) rfl dX6_adds_10
def bX6_findNodes_23 (N : Nat) (p1 : Int32) (p2 : Int32) (v_words : Int32) (a_wordAt : Nat → Int32) (y3_23 : Int32) (y4_23 : Int32) (v_found_23 : Int32) (a_foundAddress_23 : Nat → Int32) (a_foundDistance_23 : Nat → Int32) (a_foundParent_23 : Nat → Int32) : Option ((Int32 × Int32 × (Nat → Int32) × (Nat → Int32) × (Nat → Int32)) ⊕ (Int32 × Int32 × (Nat → Int32) × (Nat → Int32) × (Nat → Int32))) :=
  if v_words ≤ y4_23 then
    some (.inr ((1 : Int32), v_found_23, a_foundAddress_23, a_foundDistance_23, a_foundParent_23))
  else
    if ¬ (y4_23 < 0 ∨ 4096 ≤ y4_23.toNatClampNeg) then
      nm (((a_wordAt y4_23.toNatClampNeg) ^^^ y3_23)) fun x6 =>
      bd1 (fX6_isWord x6) fun r7 =>
      if r7 = 0 then
        some (.inl ((y4_23 + 1), v_found_23, a_foundAddress_23, a_foundDistance_23, a_foundParent_23))
      else
        bd5 (fX6_adds N (x6 / (256 : Int32)) p1 p2 v_found_23 a_foundAddress_23 a_foundDistance_23 a_foundParent_23) fun r9 s_found_9 s_foundAddress_9 s_foundDistance_9 s_foundParent_9 =>
        if r9 = 0 then
          some (.inr ((0 : Int32), s_found_9, s_foundAddress_9, s_foundDistance_9, s_foundParent_9))
        else
          some (.inl ((y4_23 + 1), s_found_9, s_foundAddress_9, s_foundDistance_9, s_foundParent_9))
    else none
def bX6_findNodes_23b (N : Nat) (p1 : Int32) (p2 : Int32) (v_words : Int32) (a_wordAt : Nat → Int32) (y3_23 : Int32) (y4_23 : Int32) (v_found_23 : Int32) (a_foundAddress_23 : Nat → Int32) (a_foundDistance_23 : Nat → Int32) (a_foundParent_23 : Nat → Int32) : Option ((Int32 × Int32 × (Nat → Int32) × (Nat → Int32) × (Nat → Int32)) ⊕ (Int32 × Int32 × (Nat → Int32) × (Nat → Int32) × (Nat → Int32))) :=
  if v_words ≤ y4_23 then
    some (.inr ((1 : Int32), v_found_23, a_foundAddress_23, a_foundDistance_23, a_foundParent_23))
  else
    if ¬ (y4_23 < 0 ∨ 4096 ≤ y4_23.toNatClampNeg) then
      nm (((a_wordAt y4_23.toNatClampNeg) ^^^ y3_23)) fun x13 =>
      bd1 (fX6_isWord x13) fun r14 =>
      if r14 = 0 then
        some (.inl ((y4_23 + 1), v_found_23, a_foundAddress_23, a_foundDistance_23, a_foundParent_23))
      else
        bd5 (fX6_adds N (x13 / (256 : Int32)) p1 p2 v_found_23 a_foundAddress_23 a_foundDistance_23 a_foundParent_23) fun r16 s_found_16 s_foundAddress_16 s_foundDistance_16 s_foundParent_16 =>
        if r16 = 0 then
          some (.inr ((0 : Int32), s_found_16, s_foundAddress_16, s_foundDistance_16, s_foundParent_16))
        else
          some (.inl ((y4_23 + 1), s_found_16, s_foundAddress_16, s_foundDistance_16, s_foundParent_16))
    else none
def fX6_findNodes (N : Nat) (p1 : Int32) (p2 : Int32) (v_found : Int32) (v_words : Int32) (a_foundAddress : Nat → Int32) (a_foundDistance : Nat → Int32) (a_foundParent : Nat → Int32) (a_wordAt : Nat → Int32) : Option (Int32 × Int32 × (Nat → Int32) × (Nat → Int32) × (Nat → Int32)) :=
  if p2 = (-7 : Int32) then
    lp (fun s => bX6_findNodes_23b N p1 p2 v_words a_wordAt (0 : Int32) s.1 s.2.1 s.2.2.1 s.2.2.2.1 s.2.2.2.2) N ((0 : Int32), v_found, a_foundAddress, a_foundDistance, a_foundParent)
  else
    if ¬ (p2 < 0 ∨ 101 ≤ p2.toNatClampNeg) then
      bd1 (fX6_wordOf (a_foundAddress p2.toNatClampNeg)) fun r3 =>
      lp (fun s => bX6_findNodes_23 N p1 p2 v_words a_wordAt r3 s.1 s.2.1 s.2.2.1 s.2.2.2.1 s.2.2.2.2) N ((0 : Int32), v_found, a_foundAddress, a_foundDistance, a_foundParent)
    else none
set_option maxHeartbeats 4000000 in
set_option maxRecDepth 100000 in
theorem mX6_findNodes (l : Launch) (dC : Nat → ClassId) (dI : Nat → Nat → Nat) (cI : ClassId) (sz : Nat) (N : Nat) (h0 : Nat) (q_parentOf : Nat) (q_addressOf : Nat) (q_depthOf : Nat) (q_marks : Nat) (q_missing : Nat) (q_nodeAddresses : Nat) (q_nodeDistances : Nat) (q_nodeParents : Nat) (q_foundAddress : Nat) (q_foundDistance : Nat) (q_foundParent : Nat) (q_wordAt : Nat) (v_routers : Int32) (v_percent : Int32) (v_random : Int32) (v_distance : Int32) (v_offset : Int32) (v_value : Int32) (v_isMade : Int32) (v_received : Int32) (v_unmarked : Int32) (v_nodes : Int32) (v_found : Int32) (v_words : Int32) (a_foundAddress : Nat → Int32) (a_foundDistance : Nat → Int32) (a_foundParent : Nat → Int32) (a_wordAt : Nat → Int32) (p1 : Int32) (p2 : Int32) {rr : Int32} {o_found : Int32} {o_foundAddress : Nat → Int32} {o_foundDistance : Nat → Int32} {o_foundParent : Nat → Int32} (h : fX6_findNodes N p1 p2 v_found v_words a_foundAddress a_foundDistance a_foundParent a_wordAt = some (rr, o_found, o_foundAddress, o_foundDistance, o_foundParent)) : Met l yX6_findNodes wsX6_findNodes ({ frames := 2, cells := 0, slots := 0, locals := 40 } : Room) (prX dC dI cI [.ref h0, .int p1, .int p2] sz [(h0, .inr (6, [.int v_routers, .ref q_parentOf, .ref q_addressOf, .ref q_depthOf, .int v_percent, .int v_random, .int v_distance, .int v_offset, .int v_value, .int v_isMade, .ref q_marks, .int v_received, .int v_unmarked, .ref q_missing, .int v_nodes, .ref q_nodeAddresses, .ref q_nodeDistances, .ref q_nodeParents, .int v_found, .ref q_foundAddress, .ref q_foundDistance, .ref q_foundParent, .int v_words, .ref q_wordAt])), (q_foundAddress, .inl (cI, 101, .inl a_foundAddress)), (q_foundDistance, .inl (cI, 101, .inl a_foundDistance)), (q_foundParent, .inl (cI, 101, .inl a_foundParent)), (q_wordAt, .inl (cI, 4096, .inl a_wordAt))]) (poI dC dI .boolean rr [(h0, .inr (6, [.int v_routers, .ref q_parentOf, .ref q_addressOf, .ref q_depthOf, .int v_percent, .int v_random, .int v_distance, .int v_offset, .int v_value, .int v_isMade, .ref q_marks, .int v_received, .int v_unmarked, .ref q_missing, .int v_nodes, .ref q_nodeAddresses, .ref q_nodeDistances, .ref q_nodeParents, .int o_found, .ref q_foundAddress, .ref q_foundDistance, .ref q_foundParent, .int v_words, .ref q_wordAt])), (q_foundAddress, .inl (cI, 101, .inl o_foundAddress)), (q_foundDistance, .inl (cI, 101, .inl o_foundDistance)), (q_foundParent, .inl (cI, 101, .inl o_foundParent)), (q_wordAt, .inl (cI, 4096, .inl a_wordAt))] (va_A [(h0, .inr (6, [.int v_routers, .ref q_parentOf, .ref q_addressOf, .ref q_depthOf, .int v_percent, .int v_random, .int v_distance, .int v_offset, .int v_value, .int v_isMade, .ref q_marks, .int v_received, .int v_unmarked, .ref q_missing, .int v_nodes, .ref q_nodeAddresses, .ref q_nodeDistances, .ref q_nodeParents, .int v_found, .ref q_foundAddress, .ref q_foundDistance, .ref q_foundParent, .int v_words, .ref q_wordAt])), (q_foundAddress, .inl (cI, 101, .inl a_foundAddress)), (q_foundDistance, .inl (cI, 101, .inl a_foundDistance)), (q_foundParent, .inl (cI, 101, .inl a_foundParent)), (q_wordAt, .inl (cI, 4096, .inl a_wordAt))] sz)) 0 0 (va_A [(h0, .inr (6, [.int v_routers, .ref q_parentOf, .ref q_addressOf, .ref q_depthOf, .int v_percent, .int v_random, .int v_distance, .int v_offset, .int v_value, .int v_isMade, .ref q_marks, .int v_received, .int v_unmarked, .ref q_missing, .int v_nodes, .ref q_nodeAddresses, .ref q_nodeDistances, .ref q_nodeParents, .int v_found, .ref q_foundAddress, .ref q_foundDistance, .ref q_foundParent, .int v_words, .ref q_wordAt])), (q_foundAddress, .inl (cI, 101, .inl a_foundAddress)), (q_foundDistance, .inl (cI, 101, .inl a_foundDistance)), (q_foundParent, .inl (cI, 101, .inl a_foundParent)), (q_wordAt, .inl (cI, 4096, .inl a_wordAt))] sz) := by
  refine ofX (cc := cX6_findNodes) (maxL := 6) (ret := (some .boolean)) (lv0 := [(0, .ref h0), (1, .int p1), (2, .int p2)]) (QA := fun A => poI dC dI .boolean rr [(h0, .inr (6, [.int v_routers, .ref q_parentOf, .ref q_addressOf, .ref q_depthOf, .int v_percent, .int v_random, .int v_distance, .int v_offset, .int v_value, .int v_isMade, .ref q_marks, .int v_received, .int v_unmarked, .ref q_missing, .int v_nodes, .ref q_nodeAddresses, .ref q_nodeDistances, .ref q_nodeParents, .int o_found, .ref q_foundAddress, .ref q_foundDistance, .ref q_foundParent, .int v_words, .ref q_wordAt])), (q_foundAddress, .inl (cI, 101, .inl o_foundAddress)), (q_foundDistance, .inl (cI, 101, .inl o_foundDistance)), (q_foundParent, .inl (cI, 101, .inl o_foundParent)), (q_wordAt, .inl (cI, 4096, .inl a_wordAt))] A) (by decide) rfl (Nat.le_of_ble_eq_true rfl) rfl ?_
  intro p e s m below meth c A ls H locs hx hb hr hml hown hts hlocks hin hK hN hA hP hD hS hl
  have hown : s.vm.findClass RX6 = some m.cls := hown
  unfold fX6_findNodes at h
  have hiX6 : ∀ w ∈ u_ws RX6 TX6 24, w ∈ wsX6_findNodes := fun _ h => List.mem_cons_of_mem _ (List.mem_append_right _ h)
  have hf34 := (hts (.fieldLink RX6 34 "PacketTracebackModel" "foundAddress" "[I") (List.mem_of_getElem? (i := 1) (by decide +kernel)))
  have hf141 := (hts (.fieldLink RX6 141 "PacketTracebackModel" "words" "I") (List.mem_of_getElem? (i := 2) (by decide +kernel)))
  have hf43 := (hts (.fieldLink RX6 43 "PacketTracebackModel" "wordAt" "[I") (List.mem_of_getElem? (i := 3) (by decide +kernel)))
  refine lv_iload_n hx hb dX6_findNodes_0 rfl (lv_at hl 2 rfl) ?_
  refine lv_bipush (v := (-7 : Int32)) hx hb dX6_findNodes_1 (by decide) ?_
  refine lv_icmp_ne (tgt := 10) hx hb dX6_findNodes_3 (by decide) (fun c1 => ?_) (fun c1 => ?_)
  · have h := it_n c1 h
    refine lv_aload_n hx hb dX6_findNodes_10 rfl (lv_at hl 0 rfl) ?_
    refine va_get (D := (dC, dI)) (ci := 6) (v := .ref q_foundAddress) (C := RX6) (T := TX6) (N := 24) hx hb hts hiX6 hown hK hP 0 rfl rfl 19 (by decide) hf34 (fun _ h9 => h9) rfl dX6_findNodes_11 ?_
    refine lv_iload_n hx hb dX6_findNodes_14 rfl (lv_at hl 2 rfl) ?_
    obtain ⟨g2, h⟩ := gd_e h
    refine va_iald hx hb hK hP 1 0 rfl rfl g2 dX6_findNodes_15 ?_
    obtain ⟨r3, h3, h⟩ := bd1_e h
    refine ca_Si (wc := []) (wr := [(h0, .inr (6, [.int v_routers, .ref q_parentOf, .ref q_addressOf, .ref q_depthOf, .int v_percent, .int v_random, .int v_distance, .int v_offset, .int v_value, .int v_isMade, .ref q_marks, .int v_received, .int v_unmarked, .ref q_missing, .int v_nodes, .ref q_nodeAddresses, .ref q_nodeDistances, .ref q_nodeParents, .int v_found, .ref q_foundAddress, .ref q_foundDistance, .ref q_foundParent, .int v_words, .ref q_wordAt])), (q_foundAddress, .inl (cI, 101, .inl a_foundAddress)), (q_foundDistance, .inl (cI, 101, .inl a_foundDistance)), (q_foundParent, .inl (cI, 101, .inl a_foundParent)), (q_wordAt, .inl (cI, 4096, .inl a_wordAt))]) (w1 := []) [.int (a_foundAddress p2.toNatClampNeg)] [] [] [0, 1, 2, 3, 4] hx hb hml hown hts (mX6_wordOf l dC dI cI H.size (a_foundAddress p2.toNatClampNeg) h3) (va_cwS 1 hts gX6_findNodes_X6_wordOf rfl rfl rfl (by decide +kernel) ⟨Nat.le_of_ble_eq_true rfl, Nat.le_of_ble_eq_true rfl⟩) hK hN hP hD hS hA rfl rfl (by decide) (by decide) (by decide) rfl hl.1 rfl (Nat.le_of_ble_eq_true rfl) dX6_findNodes_16 ⟨Nat.zero_le _, Nat.zero_le _⟩ (fun H locs hP hD hS hz3 => ?_)
    have hP : va_P (dC, dI) vwCl [(h0, .inr (6, [.int v_routers, .ref q_parentOf, .ref q_addressOf, .ref q_depthOf, .int v_percent, .int v_random, .int v_distance, .int v_offset, .int v_value, .int v_isMade, .ref q_marks, .int v_received, .int v_unmarked, .ref q_missing, .int v_nodes, .ref q_nodeAddresses, .ref q_nodeDistances, .ref q_nodeParents, .int v_found, .ref q_foundAddress, .ref q_foundDistance, .ref q_foundParent, .int v_words, .ref q_wordAt])), (q_foundAddress, .inl (cI, 101, .inl a_foundAddress)), (q_foundDistance, .inl (cI, 101, .inl a_foundDistance)), (q_foundParent, .inl (cI, 101, .inl a_foundParent)), (q_wordAt, .inl (cI, 4096, .inl a_wordAt))] H := hP
    have hD : va_D A [(h0, .inr (6, [.int v_routers, .ref q_parentOf, .ref q_addressOf, .ref q_depthOf, .int v_percent, .int v_random, .int v_distance, .int v_offset, .int v_value, .int v_isMade, .ref q_marks, .int v_received, .int v_unmarked, .ref q_missing, .int v_nodes, .ref q_nodeAddresses, .ref q_nodeDistances, .ref q_nodeParents, .int v_found, .ref q_foundAddress, .ref q_foundDistance, .ref q_foundParent, .int v_words, .ref q_wordAt])), (q_foundAddress, .inl (cI, 101, .inl a_foundAddress)), (q_foundDistance, .inl (cI, 101, .inl a_foundDistance)), (q_foundParent, .inl (cI, 101, .inl a_foundParent)), (q_wordAt, .inl (cI, 4096, .inl a_wordAt))] := hD
    refine lv_istore_n (lv' := [(3, .int r3), (0, .ref h0), (1, .int p1), (2, .int p2)]) hx hb dX6_findNodes_19 rfl hl (by decide) rfl (fun ls hl => ?_)
    refine lv_iconst (v := (0 : Int32)) hx hb dX6_findNodes_20 (by decide) ?_
    refine lv_istore (lv' := [(4, .int (0 : Int32)), (3, .int r3), (0, .ref h0), (1, .int p1), (2, .int p2)]) hx hb dX6_findNodes_21 hl (by decide) rfl (fun ls hl => ?_)
    have key23 : ∀ (y3_23 : Int32) (n1 : Nat) (y4_23 : Int32) (v_found_23 : Int32) (a_foundAddress_23 : Nat → Int32) (a_foundDistance_23 : Nat → Int32) (a_foundParent_23 : Nat → Int32) (H : Heap) (locs : List Loc) (ls : Array Slot), lp (fun s => bX6_findNodes_23 N p1 p2 v_words a_wordAt y3_23 s.1 s.2.1 s.2.2.1 s.2.2.2.1 s.2.2.2.2) n1 (y4_23, v_found_23, a_foundAddress_23, a_foundDistance_23, a_foundParent_23) = some (rr, o_found, o_foundAddress, o_foundDistance, o_foundParent) → va_P (dC, dI) vwCl [(h0, .inr (6, [.int v_routers, .ref q_parentOf, .ref q_addressOf, .ref q_depthOf, .int v_percent, .int v_random, .int v_distance, .int v_offset, .int v_value, .int v_isMade, .ref q_marks, .int v_received, .int v_unmarked, .ref q_missing, .int v_nodes, .ref q_nodeAddresses, .ref q_nodeDistances, .ref q_nodeParents, .int v_found_23, .ref q_foundAddress, .ref q_foundDistance, .ref q_foundParent, .int v_words, .ref q_wordAt])), (q_foundAddress, .inl (cI, 101, .inl a_foundAddress_23)), (q_foundDistance, .inl (cI, 101, .inl a_foundDistance_23)), (q_foundParent, .inl (cI, 101, .inl a_foundParent_23)), (q_wordAt, .inl (cI, 4096, .inl a_wordAt))] H → va_D A [(h0, .inr (6, [.int v_routers, .ref q_parentOf, .ref q_addressOf, .ref q_depthOf, .int v_percent, .int v_random, .int v_distance, .int v_offset, .int v_value, .int v_isMade, .ref q_marks, .int v_received, .int v_unmarked, .ref q_missing, .int v_nodes, .ref q_nodeAddresses, .ref q_nodeDistances, .ref q_nodeParents, .int v_found_23, .ref q_foundAddress, .ref q_foundDistance, .ref q_foundParent, .int v_words, .ref q_wordAt])), (q_foundAddress, .inl (cI, 101, .inl a_foundAddress_23)), (q_foundDistance, .inl (cI, 101, .inl a_foundDistance_23)), (q_foundParent, .inl (cI, 101, .inl a_foundParent_23)), (q_wordAt, .inl (cI, 4096, .inl a_wordAt))] → va_S A s.heap H locs → lv_has ls 6 [(4, .int y4_23), (3, .int y3_23), (0, .ref h0), (1, .int p1), (2, .int p2)] → W p l e ({ frames := 2, cells := 0, slots := 0, locals := 40 } : Room) s m [.ref h0, .int p1, .int p2].toArray below meth c H locs 0 0 (MQ below (poI dC dI .boolean rr [(h0, .inr (6, [.int v_routers, .ref q_parentOf, .ref q_addressOf, .ref q_depthOf, .int v_percent, .int v_random, .int v_distance, .int v_offset, .int v_value, .int v_isMade, .ref q_marks, .int v_received, .int v_unmarked, .ref q_missing, .int v_nodes, .ref q_nodeAddresses, .ref q_nodeDistances, .ref q_nodeParents, .int o_found, .ref q_foundAddress, .ref q_foundDistance, .ref q_foundParent, .int v_words, .ref q_wordAt])), (q_foundAddress, .inl (cI, 101, .inl o_foundAddress)), (q_foundDistance, .inl (cI, 101, .inl o_foundDistance)), (q_foundParent, .inl (cI, 101, .inl o_foundParent)), (q_wordAt, .inl (cI, 4096, .inl a_wordAt))] A) [.ref h0, .int p1, .int p2].toArray s 0 0 A) (F0 m 23 ls []) := by
      intro y3_23
      intro n1
      induction n1 with
      | zero =>
        intro y4_23 v_found_23 a_foundAddress_23 a_foundDistance_23 a_foundParent_23 H locs ls h
        exact (lp_0 h).elim
      | succ n1 ih1 =>
        intro y4_23 v_found_23 a_foundAddress_23 a_foundDistance_23 a_foundParent_23 H locs ls h hP hD hS hl
        obtain ⟨o1, h, hk1⟩ := lp_s h
        unfold bX6_findNodes_23 at h
        try dsimp only at h
        refine lv_iload hx hb dX6_findNodes_23 (lv_at hl 0 rfl) ?_
        refine lv_aload_n hx hb dX6_findNodes_25 rfl (lv_at hl 2 rfl) ?_
        refine va_get (D := (dC, dI)) (ci := 6) (v := .int v_words) (C := RX6) (T := TX6) (N := 24) hx hb hts hiX6 hown hK hP 0 rfl rfl 22 (by decide) hf141 (fun _ h9 => h9) rfl dX6_findNodes_26 ?_
        refine lv_icmp_ge (tgt := 74) hx hb dX6_findNodes_29 (by decide) (fun c4 => ?_) (fun c4 => ?_)
        · have h := it_p c4 h
          refine lv_iconst (v := (1 : Int32)) hx hb dX6_findNodes_74 (by decide) ?_
          cases Option.some.inj h
          have hk1 := un_r hk1
          cases hk1
          exact re_i [0, 1, 2, 3, 4] hx hb hr hlocks rfl hP hD hS rfl (by decide) rfl dX6_findNodes_75
        · have h := it_n c4 h
          refine lv_aload_n hx hb dX6_findNodes_32 rfl (lv_at hl 2 rfl) ?_
          refine va_get (D := (dC, dI)) (ci := 6) (v := .ref q_wordAt) (C := RX6) (T := TX6) (N := 24) hx hb hts hiX6 hown hK hP 0 rfl rfl 23 (by decide) hf43 (fun _ h9 => h9) rfl dX6_findNodes_33 ?_
          refine lv_iload hx hb dX6_findNodes_36 (lv_at hl 0 rfl) ?_
          obtain ⟨g5, h⟩ := gd_e h
          refine va_iald hx hb hK hP 4 0 rfl rfl g5 dX6_findNodes_38 ?_
          refine lv_iload_n hx hb dX6_findNodes_39 rfl (lv_at hl 1 rfl) ?_
          refine lv_ixor hx hb dX6_findNodes_40 ?_
          refine lv_topi (fun x6 ex6 => ?_)
          have h := nm_u ex6 h
          refine lv_istore (lv' := [(5, .int x6), (4, .int y4_23), (3, .int y3_23), (0, .ref h0), (1, .int p1), (2, .int p2)]) hx hb dX6_findNodes_41 hl (by decide) rfl (fun ls hl => ?_)
          refine lv_iload hx hb dX6_findNodes_43 (lv_at hl 0 rfl) ?_
          obtain ⟨r7, h7, h⟩ := bd1_e h
          refine ca_Si (wc := []) (wr := [(h0, .inr (6, [.int v_routers, .ref q_parentOf, .ref q_addressOf, .ref q_depthOf, .int v_percent, .int v_random, .int v_distance, .int v_offset, .int v_value, .int v_isMade, .ref q_marks, .int v_received, .int v_unmarked, .ref q_missing, .int v_nodes, .ref q_nodeAddresses, .ref q_nodeDistances, .ref q_nodeParents, .int v_found_23, .ref q_foundAddress, .ref q_foundDistance, .ref q_foundParent, .int v_words, .ref q_wordAt])), (q_foundAddress, .inl (cI, 101, .inl a_foundAddress_23)), (q_foundDistance, .inl (cI, 101, .inl a_foundDistance_23)), (q_foundParent, .inl (cI, 101, .inl a_foundParent_23)), (q_wordAt, .inl (cI, 4096, .inl a_wordAt))]) (w1 := []) [.int x6] [] [] [0, 1, 2, 3, 4] hx hb hml hown hts (mX6_isWord l dC dI cI H.size x6 h7) (va_cwS 1 hts gX6_findNodes_X6_isWord rfl rfl rfl (by decide +kernel) ⟨Nat.le_of_ble_eq_true rfl, Nat.le_of_ble_eq_true rfl⟩) hK hN hP hD hS hA rfl rfl (by decide) (by decide) (by decide) rfl hl.1 rfl (Nat.le_of_ble_eq_true rfl) dX6_findNodes_45 ⟨Nat.zero_le _, Nat.zero_le _⟩ (fun H locs hP hD hS hz7 => ?_)
          have hP : va_P (dC, dI) vwCl [(h0, .inr (6, [.int v_routers, .ref q_parentOf, .ref q_addressOf, .ref q_depthOf, .int v_percent, .int v_random, .int v_distance, .int v_offset, .int v_value, .int v_isMade, .ref q_marks, .int v_received, .int v_unmarked, .ref q_missing, .int v_nodes, .ref q_nodeAddresses, .ref q_nodeDistances, .ref q_nodeParents, .int v_found_23, .ref q_foundAddress, .ref q_foundDistance, .ref q_foundParent, .int v_words, .ref q_wordAt])), (q_foundAddress, .inl (cI, 101, .inl a_foundAddress_23)), (q_foundDistance, .inl (cI, 101, .inl a_foundDistance_23)), (q_foundParent, .inl (cI, 101, .inl a_foundParent_23)), (q_wordAt, .inl (cI, 4096, .inl a_wordAt))] H := hP
          have hD : va_D A [(h0, .inr (6, [.int v_routers, .ref q_parentOf, .ref q_addressOf, .ref q_depthOf, .int v_percent, .int v_random, .int v_distance, .int v_offset, .int v_value, .int v_isMade, .ref q_marks, .int v_received, .int v_unmarked, .ref q_missing, .int v_nodes, .ref q_nodeAddresses, .ref q_nodeDistances, .ref q_nodeParents, .int v_found_23, .ref q_foundAddress, .ref q_foundDistance, .ref q_foundParent, .int v_words, .ref q_wordAt])), (q_foundAddress, .inl (cI, 101, .inl a_foundAddress_23)), (q_foundDistance, .inl (cI, 101, .inl a_foundDistance_23)), (q_foundParent, .inl (cI, 101, .inl a_foundParent_23)), (q_wordAt, .inl (cI, 4096, .inl a_wordAt))] := hD
          refine lv_if_eq (tgt := 68) hx hb dX6_findNodes_48 (by decide) (fun c8 => ?_) (fun c8 => ?_)
          · have h := it_p c8 h
            refine lv_iinc (v := y4_23 + 1) (lv' := [(4, .int (y4_23 + 1)), (5, .int x6), (3, .int y3_23), (0, .ref h0), (1, .int p1), (2, .int p2)]) hx hb dX6_findNodes_68 hl (k := 1) rfl rfl (by decide) rfl (fun ls hl => ?_)
            refine lv_goto (tgt := 23) hx hb dX6_findNodes_71 (by decide) ?_
            cases Option.some.inj h
            exact ih1 _ _ _ _ _ _ _ _ (un_l hk1) (hP.sub [0, 1, 2, 3, 4] rfl) (hD.sub [0, 1, 2, 3, 4] (by decide) rfl) hS (lv_sub hl [0, 2, 3, 4, 5] rfl)
          · have h := it_n c8 h
            refine lv_aload_n hx hb dX6_findNodes_51 rfl (lv_at hl 3 rfl) ?_
            refine lv_iload hx hb dX6_findNodes_52 (lv_at hl 0 rfl) ?_
            refine lv_sipush (v := (256 : Int32)) hx hb dX6_findNodes_54 (by decide) ?_
            refine lv_idiv hx hb dX6_findNodes_57 (by decide) ?_
            refine lv_iload_n hx hb dX6_findNodes_58 rfl (lv_at hl 4 rfl) ?_
            refine lv_iload_n hx hb dX6_findNodes_59 rfl (lv_at hl 5 rfl) ?_
            obtain ⟨r9, s_found_9, s_foundAddress_9, s_foundDistance_9, s_foundParent_9, h9, h⟩ := bd5_e h
            refine ca_Vi (wc := [(h0, .inr (6, [.int v_routers, .ref q_parentOf, .ref q_addressOf, .ref q_depthOf, .int v_percent, .int v_random, .int v_distance, .int v_offset, .int v_value, .int v_isMade, .ref q_marks, .int v_received, .int v_unmarked, .ref q_missing, .int v_nodes, .ref q_nodeAddresses, .ref q_nodeDistances, .ref q_nodeParents, .int v_found_23, .ref q_foundAddress, .ref q_foundDistance, .ref q_foundParent, .int v_words, .ref q_wordAt])), (q_foundAddress, .inl (cI, 101, .inl a_foundAddress_23)), (q_foundDistance, .inl (cI, 101, .inl a_foundDistance_23)), (q_foundParent, .inl (cI, 101, .inl a_foundParent_23))]) (wr := [(q_wordAt, .inl (cI, 4096, .inl a_wordAt))]) (w1 := [(h0, .inr (6, [.int v_routers, .ref q_parentOf, .ref q_addressOf, .ref q_depthOf, .int v_percent, .int v_random, .int v_distance, .int v_offset, .int v_value, .int v_isMade, .ref q_marks, .int v_received, .int v_unmarked, .ref q_missing, .int v_nodes, .ref q_nodeAddresses, .ref q_nodeDistances, .ref q_nodeParents, .int s_found_9, .ref q_foundAddress, .ref q_foundDistance, .ref q_foundParent, .int v_words, .ref q_wordAt])), (q_foundAddress, .inl (cI, 101, .inl s_foundAddress_9)), (q_foundDistance, .inl (cI, 101, .inl s_foundDistance_9)), (q_foundParent, .inl (cI, 101, .inl s_foundParent_9))]) [.int (x6 / (256 : Int32)), .int p1, .int p2] [] [0, 1, 2, 3] [4] hx hb hml hown hts (mX6_adds l dC dI cI H.size N h0 q_parentOf q_addressOf q_depthOf q_marks q_missing q_nodeAddresses q_nodeDistances q_nodeParents q_foundAddress q_foundDistance q_foundParent q_wordAt v_routers v_percent v_random v_distance v_offset v_value v_isMade v_received v_unmarked v_nodes v_found_23 v_words a_foundAddress_23 a_foundDistance_23 a_foundParent_23 (x6 / (256 : Int32)) p1 p2 h9) (cwV 3 hts gX6_findNodes_X6_adds rfl rfl rfl (by decide +kernel) ⟨Nat.le_of_ble_eq_true rfl, Nat.le_of_ble_eq_true rfl⟩) hK hN hP hD hS hA rfl rfl (by decide) (by decide) (by decide) rfl rfl rfl hl.1 rfl (Nat.le_of_ble_eq_true rfl) dX6_findNodes_60 ⟨Nat.zero_le _, Nat.zero_le _⟩ (fun H locs hP hD hS hz9 => ?_)
            have hP : va_P (dC, dI) vwCl [(q_wordAt, .inl (cI, 4096, .inl a_wordAt)), (h0, .inr (6, [.int v_routers, .ref q_parentOf, .ref q_addressOf, .ref q_depthOf, .int v_percent, .int v_random, .int v_distance, .int v_offset, .int v_value, .int v_isMade, .ref q_marks, .int v_received, .int v_unmarked, .ref q_missing, .int v_nodes, .ref q_nodeAddresses, .ref q_nodeDistances, .ref q_nodeParents, .int s_found_9, .ref q_foundAddress, .ref q_foundDistance, .ref q_foundParent, .int v_words, .ref q_wordAt])), (q_foundAddress, .inl (cI, 101, .inl s_foundAddress_9)), (q_foundDistance, .inl (cI, 101, .inl s_foundDistance_9)), (q_foundParent, .inl (cI, 101, .inl s_foundParent_9))] H := hP
            have hD : va_D A [(q_wordAt, .inl (cI, 4096, .inl a_wordAt)), (h0, .inr (6, [.int v_routers, .ref q_parentOf, .ref q_addressOf, .ref q_depthOf, .int v_percent, .int v_random, .int v_distance, .int v_offset, .int v_value, .int v_isMade, .ref q_marks, .int v_received, .int v_unmarked, .ref q_missing, .int v_nodes, .ref q_nodeAddresses, .ref q_nodeDistances, .ref q_nodeParents, .int s_found_9, .ref q_foundAddress, .ref q_foundDistance, .ref q_foundParent, .int v_words, .ref q_wordAt])), (q_foundAddress, .inl (cI, 101, .inl s_foundAddress_9)), (q_foundDistance, .inl (cI, 101, .inl s_foundDistance_9)), (q_foundParent, .inl (cI, 101, .inl s_foundParent_9))] := hD
            refine lv_if_ne (tgt := 68) hx hb dX6_findNodes_63 (by decide) (fun c10 => ?_) (fun c10 => ?_)
            · have h := it_n c10 h
              refine lv_iinc (v := y4_23 + 1) (lv' := [(4, .int (y4_23 + 1)), (5, .int x6), (3, .int y3_23), (0, .ref h0), (1, .int p1), (2, .int p2)]) hx hb dX6_findNodes_68 hl (k := 1) rfl rfl (by decide) rfl (fun ls hl => ?_)
              refine lv_goto (tgt := 23) hx hb dX6_findNodes_71 (by decide) ?_
              cases Option.some.inj h
              exact ih1 _ _ _ _ _ _ _ _ (un_l hk1) (hP.sub [1, 2, 3, 4, 0] rfl) (hD.sub [1, 2, 3, 4, 0] (by decide) rfl) hS (lv_sub hl [0, 2, 3, 4, 5] rfl)
            · have h := it_p c10 h
              refine lv_iconst (v := (0 : Int32)) hx hb dX6_findNodes_66 (by decide) ?_
              cases Option.some.inj h
              have hk1 := un_r hk1
              cases hk1
              exact re_i [1, 2, 3, 4, 0] hx hb hr hlocks rfl hP hD hS rfl (by decide) rfl dX6_findNodes_67
    exact key23 r3 N _ _ _ _ _ _ _ _ h hP hD hS hl
  · have h := it_p c1 h
    refine lv_iconst (v := (0 : Int32)) hx hb dX6_findNodes_6 (by decide) ?_
    refine lv_goto (tgt := 19) hx hb dX6_findNodes_7 (by decide) ?_
    refine lv_istore_n (lv' := [(3, .int (0 : Int32)), (0, .ref h0), (1, .int p1), (2, .int p2)]) hx hb dX6_findNodes_19 rfl hl (by decide) rfl (fun ls hl => ?_)
    refine lv_iconst (v := (0 : Int32)) hx hb dX6_findNodes_20 (by decide) ?_
    refine lv_istore (lv' := [(4, .int (0 : Int32)), (3, .int (0 : Int32)), (0, .ref h0), (1, .int p1), (2, .int p2)]) hx hb dX6_findNodes_21 hl (by decide) rfl (fun ls hl => ?_)
    have key23 : ∀ (y3_23 : Int32) (n1 : Nat) (y4_23 : Int32) (v_found_23 : Int32) (a_foundAddress_23 : Nat → Int32) (a_foundDistance_23 : Nat → Int32) (a_foundParent_23 : Nat → Int32) (H : Heap) (locs : List Loc) (ls : Array Slot), lp (fun s => bX6_findNodes_23b N p1 p2 v_words a_wordAt y3_23 s.1 s.2.1 s.2.2.1 s.2.2.2.1 s.2.2.2.2) n1 (y4_23, v_found_23, a_foundAddress_23, a_foundDistance_23, a_foundParent_23) = some (rr, o_found, o_foundAddress, o_foundDistance, o_foundParent) → va_P (dC, dI) vwCl [(h0, .inr (6, [.int v_routers, .ref q_parentOf, .ref q_addressOf, .ref q_depthOf, .int v_percent, .int v_random, .int v_distance, .int v_offset, .int v_value, .int v_isMade, .ref q_marks, .int v_received, .int v_unmarked, .ref q_missing, .int v_nodes, .ref q_nodeAddresses, .ref q_nodeDistances, .ref q_nodeParents, .int v_found_23, .ref q_foundAddress, .ref q_foundDistance, .ref q_foundParent, .int v_words, .ref q_wordAt])), (q_foundAddress, .inl (cI, 101, .inl a_foundAddress_23)), (q_foundDistance, .inl (cI, 101, .inl a_foundDistance_23)), (q_foundParent, .inl (cI, 101, .inl a_foundParent_23)), (q_wordAt, .inl (cI, 4096, .inl a_wordAt))] H → va_D A [(h0, .inr (6, [.int v_routers, .ref q_parentOf, .ref q_addressOf, .ref q_depthOf, .int v_percent, .int v_random, .int v_distance, .int v_offset, .int v_value, .int v_isMade, .ref q_marks, .int v_received, .int v_unmarked, .ref q_missing, .int v_nodes, .ref q_nodeAddresses, .ref q_nodeDistances, .ref q_nodeParents, .int v_found_23, .ref q_foundAddress, .ref q_foundDistance, .ref q_foundParent, .int v_words, .ref q_wordAt])), (q_foundAddress, .inl (cI, 101, .inl a_foundAddress_23)), (q_foundDistance, .inl (cI, 101, .inl a_foundDistance_23)), (q_foundParent, .inl (cI, 101, .inl a_foundParent_23)), (q_wordAt, .inl (cI, 4096, .inl a_wordAt))] → va_S A s.heap H locs → lv_has ls 6 [(4, .int y4_23), (3, .int y3_23), (0, .ref h0), (1, .int p1), (2, .int p2)] → W p l e ({ frames := 2, cells := 0, slots := 0, locals := 40 } : Room) s m [.ref h0, .int p1, .int p2].toArray below meth c H locs 0 0 (MQ below (poI dC dI .boolean rr [(h0, .inr (6, [.int v_routers, .ref q_parentOf, .ref q_addressOf, .ref q_depthOf, .int v_percent, .int v_random, .int v_distance, .int v_offset, .int v_value, .int v_isMade, .ref q_marks, .int v_received, .int v_unmarked, .ref q_missing, .int v_nodes, .ref q_nodeAddresses, .ref q_nodeDistances, .ref q_nodeParents, .int o_found, .ref q_foundAddress, .ref q_foundDistance, .ref q_foundParent, .int v_words, .ref q_wordAt])), (q_foundAddress, .inl (cI, 101, .inl o_foundAddress)), (q_foundDistance, .inl (cI, 101, .inl o_foundDistance)), (q_foundParent, .inl (cI, 101, .inl o_foundParent)), (q_wordAt, .inl (cI, 4096, .inl a_wordAt))] A) [.ref h0, .int p1, .int p2].toArray s 0 0 A) (F0 m 23 ls []) := by
      intro y3_23
      intro n1
      induction n1 with
      | zero =>
        intro y4_23 v_found_23 a_foundAddress_23 a_foundDistance_23 a_foundParent_23 H locs ls h
        exact (lp_0 h).elim
      | succ n1 ih1 =>
        intro y4_23 v_found_23 a_foundAddress_23 a_foundDistance_23 a_foundParent_23 H locs ls h hP hD hS hl
        obtain ⟨o1, h, hk1⟩ := lp_s h
        unfold bX6_findNodes_23b at h
        try dsimp only at h
        refine lv_iload hx hb dX6_findNodes_23 (lv_at hl 0 rfl) ?_
        refine lv_aload_n hx hb dX6_findNodes_25 rfl (lv_at hl 2 rfl) ?_
        refine va_get (D := (dC, dI)) (ci := 6) (v := .int v_words) (C := RX6) (T := TX6) (N := 24) hx hb hts hiX6 hown hK hP 0 rfl rfl 22 (by decide) hf141 (fun _ h9 => h9) rfl dX6_findNodes_26 ?_
        refine lv_icmp_ge (tgt := 74) hx hb dX6_findNodes_29 (by decide) (fun c11 => ?_) (fun c11 => ?_)
        · have h := it_p c11 h
          refine lv_iconst (v := (1 : Int32)) hx hb dX6_findNodes_74 (by decide) ?_
          cases Option.some.inj h
          have hk1 := un_r hk1
          cases hk1
          exact re_i [0, 1, 2, 3, 4] hx hb hr hlocks rfl hP hD hS rfl (by decide) rfl dX6_findNodes_75
        · have h := it_n c11 h
          refine lv_aload_n hx hb dX6_findNodes_32 rfl (lv_at hl 2 rfl) ?_
          refine va_get (D := (dC, dI)) (ci := 6) (v := .ref q_wordAt) (C := RX6) (T := TX6) (N := 24) hx hb hts hiX6 hown hK hP 0 rfl rfl 23 (by decide) hf43 (fun _ h9 => h9) rfl dX6_findNodes_33 ?_
          refine lv_iload hx hb dX6_findNodes_36 (lv_at hl 0 rfl) ?_
          obtain ⟨g12, h⟩ := gd_e h
          refine va_iald hx hb hK hP 4 0 rfl rfl g12 dX6_findNodes_38 ?_
          refine lv_iload_n hx hb dX6_findNodes_39 rfl (lv_at hl 1 rfl) ?_
          refine lv_ixor hx hb dX6_findNodes_40 ?_
          refine lv_topi (fun x13 ex13 => ?_)
          have h := nm_u ex13 h
          refine lv_istore (lv' := [(5, .int x13), (4, .int y4_23), (3, .int y3_23), (0, .ref h0), (1, .int p1), (2, .int p2)]) hx hb dX6_findNodes_41 hl (by decide) rfl (fun ls hl => ?_)
          refine lv_iload hx hb dX6_findNodes_43 (lv_at hl 0 rfl) ?_
          obtain ⟨r14, h14, h⟩ := bd1_e h
          refine ca_Si (wc := []) (wr := [(h0, .inr (6, [.int v_routers, .ref q_parentOf, .ref q_addressOf, .ref q_depthOf, .int v_percent, .int v_random, .int v_distance, .int v_offset, .int v_value, .int v_isMade, .ref q_marks, .int v_received, .int v_unmarked, .ref q_missing, .int v_nodes, .ref q_nodeAddresses, .ref q_nodeDistances, .ref q_nodeParents, .int v_found_23, .ref q_foundAddress, .ref q_foundDistance, .ref q_foundParent, .int v_words, .ref q_wordAt])), (q_foundAddress, .inl (cI, 101, .inl a_foundAddress_23)), (q_foundDistance, .inl (cI, 101, .inl a_foundDistance_23)), (q_foundParent, .inl (cI, 101, .inl a_foundParent_23)), (q_wordAt, .inl (cI, 4096, .inl a_wordAt))]) (w1 := []) [.int x13] [] [] [0, 1, 2, 3, 4] hx hb hml hown hts (mX6_isWord l dC dI cI H.size x13 h14) (va_cwS 1 hts gX6_findNodes_X6_isWord rfl rfl rfl (by decide +kernel) ⟨Nat.le_of_ble_eq_true rfl, Nat.le_of_ble_eq_true rfl⟩) hK hN hP hD hS hA rfl rfl (by decide) (by decide) (by decide) rfl hl.1 rfl (Nat.le_of_ble_eq_true rfl) dX6_findNodes_45 ⟨Nat.zero_le _, Nat.zero_le _⟩ (fun H locs hP hD hS hz14 => ?_)
          have hP : va_P (dC, dI) vwCl [(h0, .inr (6, [.int v_routers, .ref q_parentOf, .ref q_addressOf, .ref q_depthOf, .int v_percent, .int v_random, .int v_distance, .int v_offset, .int v_value, .int v_isMade, .ref q_marks, .int v_received, .int v_unmarked, .ref q_missing, .int v_nodes, .ref q_nodeAddresses, .ref q_nodeDistances, .ref q_nodeParents, .int v_found_23, .ref q_foundAddress, .ref q_foundDistance, .ref q_foundParent, .int v_words, .ref q_wordAt])), (q_foundAddress, .inl (cI, 101, .inl a_foundAddress_23)), (q_foundDistance, .inl (cI, 101, .inl a_foundDistance_23)), (q_foundParent, .inl (cI, 101, .inl a_foundParent_23)), (q_wordAt, .inl (cI, 4096, .inl a_wordAt))] H := hP
          have hD : va_D A [(h0, .inr (6, [.int v_routers, .ref q_parentOf, .ref q_addressOf, .ref q_depthOf, .int v_percent, .int v_random, .int v_distance, .int v_offset, .int v_value, .int v_isMade, .ref q_marks, .int v_received, .int v_unmarked, .ref q_missing, .int v_nodes, .ref q_nodeAddresses, .ref q_nodeDistances, .ref q_nodeParents, .int v_found_23, .ref q_foundAddress, .ref q_foundDistance, .ref q_foundParent, .int v_words, .ref q_wordAt])), (q_foundAddress, .inl (cI, 101, .inl a_foundAddress_23)), (q_foundDistance, .inl (cI, 101, .inl a_foundDistance_23)), (q_foundParent, .inl (cI, 101, .inl a_foundParent_23)), (q_wordAt, .inl (cI, 4096, .inl a_wordAt))] := hD
          refine lv_if_eq (tgt := 68) hx hb dX6_findNodes_48 (by decide) (fun c15 => ?_) (fun c15 => ?_)
          · have h := it_p c15 h
            refine lv_iinc (v := y4_23 + 1) (lv' := [(4, .int (y4_23 + 1)), (5, .int x13), (3, .int y3_23), (0, .ref h0), (1, .int p1), (2, .int p2)]) hx hb dX6_findNodes_68 hl (k := 1) rfl rfl (by decide) rfl (fun ls hl => ?_)
            refine lv_goto (tgt := 23) hx hb dX6_findNodes_71 (by decide) ?_
            cases Option.some.inj h
            exact ih1 _ _ _ _ _ _ _ _ (un_l hk1) (hP.sub [0, 1, 2, 3, 4] rfl) (hD.sub [0, 1, 2, 3, 4] (by decide) rfl) hS (lv_sub hl [0, 2, 3, 4, 5] rfl)
          · have h := it_n c15 h
            refine lv_aload_n hx hb dX6_findNodes_51 rfl (lv_at hl 3 rfl) ?_
            refine lv_iload hx hb dX6_findNodes_52 (lv_at hl 0 rfl) ?_
            refine lv_sipush (v := (256 : Int32)) hx hb dX6_findNodes_54 (by decide) ?_
            refine lv_idiv hx hb dX6_findNodes_57 (by decide) ?_
            refine lv_iload_n hx hb dX6_findNodes_58 rfl (lv_at hl 4 rfl) ?_
            refine lv_iload_n hx hb dX6_findNodes_59 rfl (lv_at hl 5 rfl) ?_
            obtain ⟨r16, s_found_16, s_foundAddress_16, s_foundDistance_16, s_foundParent_16, h16, h⟩ := bd5_e h
            refine ca_Vi (wc := [(h0, .inr (6, [.int v_routers, .ref q_parentOf, .ref q_addressOf, .ref q_depthOf, .int v_percent, .int v_random, .int v_distance, .int v_offset, .int v_value, .int v_isMade, .ref q_marks, .int v_received, .int v_unmarked, .ref q_missing, .int v_nodes, .ref q_nodeAddresses, .ref q_nodeDistances, .ref q_nodeParents, .int v_found_23, .ref q_foundAddress, .ref q_foundDistance, .ref q_foundParent, .int v_words, .ref q_wordAt])), (q_foundAddress, .inl (cI, 101, .inl a_foundAddress_23)), (q_foundDistance, .inl (cI, 101, .inl a_foundDistance_23)), (q_foundParent, .inl (cI, 101, .inl a_foundParent_23))]) (wr := [(q_wordAt, .inl (cI, 4096, .inl a_wordAt))]) (w1 := [(h0, .inr (6, [.int v_routers, .ref q_parentOf, .ref q_addressOf, .ref q_depthOf, .int v_percent, .int v_random, .int v_distance, .int v_offset, .int v_value, .int v_isMade, .ref q_marks, .int v_received, .int v_unmarked, .ref q_missing, .int v_nodes, .ref q_nodeAddresses, .ref q_nodeDistances, .ref q_nodeParents, .int s_found_16, .ref q_foundAddress, .ref q_foundDistance, .ref q_foundParent, .int v_words, .ref q_wordAt])), (q_foundAddress, .inl (cI, 101, .inl s_foundAddress_16)), (q_foundDistance, .inl (cI, 101, .inl s_foundDistance_16)), (q_foundParent, .inl (cI, 101, .inl s_foundParent_16))]) [.int (x13 / (256 : Int32)), .int p1, .int p2] [] [0, 1, 2, 3] [4] hx hb hml hown hts (mX6_adds l dC dI cI H.size N h0 q_parentOf q_addressOf q_depthOf q_marks q_missing q_nodeAddresses q_nodeDistances q_nodeParents q_foundAddress q_foundDistance q_foundParent q_wordAt v_routers v_percent v_random v_distance v_offset v_value v_isMade v_received v_unmarked v_nodes v_found_23 v_words a_foundAddress_23 a_foundDistance_23 a_foundParent_23 (x13 / (256 : Int32)) p1 p2 h16) (cwV 3 hts gX6_findNodes_X6_adds rfl rfl rfl (by decide +kernel) ⟨Nat.le_of_ble_eq_true rfl, Nat.le_of_ble_eq_true rfl⟩) hK hN hP hD hS hA rfl rfl (by decide) (by decide) (by decide) rfl rfl rfl hl.1 rfl (Nat.le_of_ble_eq_true rfl) dX6_findNodes_60 ⟨Nat.zero_le _, Nat.zero_le _⟩ (fun H locs hP hD hS hz16 => ?_)
            have hP : va_P (dC, dI) vwCl [(q_wordAt, .inl (cI, 4096, .inl a_wordAt)), (h0, .inr (6, [.int v_routers, .ref q_parentOf, .ref q_addressOf, .ref q_depthOf, .int v_percent, .int v_random, .int v_distance, .int v_offset, .int v_value, .int v_isMade, .ref q_marks, .int v_received, .int v_unmarked, .ref q_missing, .int v_nodes, .ref q_nodeAddresses, .ref q_nodeDistances, .ref q_nodeParents, .int s_found_16, .ref q_foundAddress, .ref q_foundDistance, .ref q_foundParent, .int v_words, .ref q_wordAt])), (q_foundAddress, .inl (cI, 101, .inl s_foundAddress_16)), (q_foundDistance, .inl (cI, 101, .inl s_foundDistance_16)), (q_foundParent, .inl (cI, 101, .inl s_foundParent_16))] H := hP
            have hD : va_D A [(q_wordAt, .inl (cI, 4096, .inl a_wordAt)), (h0, .inr (6, [.int v_routers, .ref q_parentOf, .ref q_addressOf, .ref q_depthOf, .int v_percent, .int v_random, .int v_distance, .int v_offset, .int v_value, .int v_isMade, .ref q_marks, .int v_received, .int v_unmarked, .ref q_missing, .int v_nodes, .ref q_nodeAddresses, .ref q_nodeDistances, .ref q_nodeParents, .int s_found_16, .ref q_foundAddress, .ref q_foundDistance, .ref q_foundParent, .int v_words, .ref q_wordAt])), (q_foundAddress, .inl (cI, 101, .inl s_foundAddress_16)), (q_foundDistance, .inl (cI, 101, .inl s_foundDistance_16)), (q_foundParent, .inl (cI, 101, .inl s_foundParent_16))] := hD
            refine lv_if_ne (tgt := 68) hx hb dX6_findNodes_63 (by decide) (fun c17 => ?_) (fun c17 => ?_)
            · have h := it_n c17 h
              refine lv_iinc (v := y4_23 + 1) (lv' := [(4, .int (y4_23 + 1)), (5, .int x13), (3, .int y3_23), (0, .ref h0), (1, .int p1), (2, .int p2)]) hx hb dX6_findNodes_68 hl (k := 1) rfl rfl (by decide) rfl (fun ls hl => ?_)
              refine lv_goto (tgt := 23) hx hb dX6_findNodes_71 (by decide) ?_
              cases Option.some.inj h
              exact ih1 _ _ _ _ _ _ _ _ (un_l hk1) (hP.sub [1, 2, 3, 4, 0] rfl) (hD.sub [1, 2, 3, 4, 0] (by decide) rfl) hS (lv_sub hl [0, 2, 3, 4, 5] rfl)
            · have h := it_p c17 h
              refine lv_iconst (v := (0 : Int32)) hx hb dX6_findNodes_66 (by decide) ?_
              cases Option.some.inj h
              have hk1 := un_r hk1
              cases hk1
              exact re_i [1, 2, 3, 4, 0] hx hb hr hlocks rfl hP hD hS rfl (by decide) rfl dX6_findNodes_67
    exact key23 (0 : Int32) N _ _ _ _ _ _ _ _ h hP hD hS hl
def bX6_findDistance_37 (N : Nat) (p1 : Int32) (s_words_3 : Int32) (s_wordAt_3 : Nat → Int32) (y2_37 : Int32) (y3_37 : Int32) (v_found_37 : Int32) (a_foundAddress_37 : Nat → Int32) (a_foundDistance_37 : Nat → Int32) (a_foundParent_37 : Nat → Int32) : Option ((Int32 × Int32 × (Nat → Int32) × (Nat → Int32) × (Nat → Int32)) ⊕ (Int32 × Int32 × Int32 × (Nat → Int32) × (Nat → Int32) × (Nat → Int32) × (Nat → Int32))) :=
  if y2_37 ≤ y3_37 then
    some (.inr ((1 : Int32), v_found_37, s_words_3, a_foundAddress_37, a_foundDistance_37, a_foundParent_37, s_wordAt_3))
  else
    if ¬ (y3_37 < 0 ∨ 101 ≤ y3_37.toNatClampNeg) then
      if (a_foundDistance_37 y3_37.toNatClampNeg) = (p1 - (1 : Int32)) then
        bd5 (fX6_findNodes N p1 y3_37 v_found_37 s_words_3 a_foundAddress_37 a_foundDistance_37 a_foundParent_37 s_wordAt_3) fun r8 s_found_8 s_foundAddress_8 s_foundDistance_8 s_foundParent_8 =>
        if r8 = 0 then
          some (.inr ((0 : Int32), s_found_8, s_words_3, s_foundAddress_8, s_foundDistance_8, s_foundParent_8, s_wordAt_3))
        else
          some (.inl ((y3_37 + 1), s_found_8, s_foundAddress_8, s_foundDistance_8, s_foundParent_8))
      else
        some (.inl ((y3_37 + 1), v_found_37, a_foundAddress_37, a_foundDistance_37, a_foundParent_37))
    else none
def fX6_findDistance (N : Nat) (p1 : Int32) (v_found : Int32) (v_words : Int32) (a_marks : Nat → Int32) (a_foundAddress : Nat → Int32) (a_foundDistance : Nat → Int32) (a_foundParent : Nat → Int32) (a_wordAt : Nat → Int32) : Option (Int32 × Int32 × Int32 × (Nat → Int32) × (Nat → Int32) × (Nat → Int32) × (Nat → Int32)) :=
  bd1 (fX6_combinations N p1 a_marks) fun r1 =>
  if r1 ≤ (4096 : Int32) then
    bd2 (fX6_findWords N p1 a_marks a_wordAt) fun s_words_3 s_wordAt_3 =>
    if p1 = 0 then
      bd5 (fX6_findNodes N (0 : Int32) (-7 : Int32) v_found s_words_3 a_foundAddress a_foundDistance a_foundParent s_wordAt_3) fun r10 s_found_10 s_foundAddress_10 s_foundDistance_10 s_foundParent_10 =>
      some (r10, s_found_10, s_words_3, s_foundAddress_10, s_foundDistance_10, s_foundParent_10, s_wordAt_3)
    else
      lp (fun s => bX6_findDistance_37 N p1 s_words_3 s_wordAt_3 v_found s.1 s.2.1 s.2.2.1 s.2.2.2.1 s.2.2.2.2) N ((0 : Int32), v_found, a_foundAddress, a_foundDistance, a_foundParent)
  else
    some ((0 : Int32), v_found, v_words, a_foundAddress, a_foundDistance, a_foundParent, a_wordAt)
set_option maxHeartbeats 4000000 in
set_option maxRecDepth 100000 in
theorem mX6_findDistance (l : Launch) (dC : Nat → ClassId) (dI : Nat → Nat → Nat) (cI : ClassId) (sz : Nat) (N : Nat) (h0 : Nat) (q_parentOf : Nat) (q_addressOf : Nat) (q_depthOf : Nat) (q_marks : Nat) (q_missing : Nat) (q_nodeAddresses : Nat) (q_nodeDistances : Nat) (q_nodeParents : Nat) (q_foundAddress : Nat) (q_foundDistance : Nat) (q_foundParent : Nat) (q_wordAt : Nat) (v_routers : Int32) (v_percent : Int32) (v_random : Int32) (v_distance : Int32) (v_offset : Int32) (v_value : Int32) (v_isMade : Int32) (v_received : Int32) (v_unmarked : Int32) (v_nodes : Int32) (v_found : Int32) (v_words : Int32) (a_marks : Nat → Int32) (a_foundAddress : Nat → Int32) (a_foundDistance : Nat → Int32) (a_foundParent : Nat → Int32) (a_wordAt : Nat → Int32) (p1 : Int32) {rr : Int32} {o_found : Int32} {o_words : Int32} {o_foundAddress : Nat → Int32} {o_foundDistance : Nat → Int32} {o_foundParent : Nat → Int32} {o_wordAt : Nat → Int32} (h : fX6_findDistance N p1 v_found v_words a_marks a_foundAddress a_foundDistance a_foundParent a_wordAt = some (rr, o_found, o_words, o_foundAddress, o_foundDistance, o_foundParent, o_wordAt)) : Met l yX6_findDistance wsX6_findDistance ({ frames := 4, cells := 0, slots := 0, locals := 95 } : Room) (prX dC dI cI [.ref h0, .int p1] sz [(h0, .inr (6, [.int v_routers, .ref q_parentOf, .ref q_addressOf, .ref q_depthOf, .int v_percent, .int v_random, .int v_distance, .int v_offset, .int v_value, .int v_isMade, .ref q_marks, .int v_received, .int v_unmarked, .ref q_missing, .int v_nodes, .ref q_nodeAddresses, .ref q_nodeDistances, .ref q_nodeParents, .int v_found, .ref q_foundAddress, .ref q_foundDistance, .ref q_foundParent, .int v_words, .ref q_wordAt])), (q_marks, .inl (cI, 4096, .inl a_marks)), (q_foundAddress, .inl (cI, 101, .inl a_foundAddress)), (q_foundDistance, .inl (cI, 101, .inl a_foundDistance)), (q_foundParent, .inl (cI, 101, .inl a_foundParent)), (q_wordAt, .inl (cI, 4096, .inl a_wordAt))]) (poI dC dI .boolean rr [(h0, .inr (6, [.int v_routers, .ref q_parentOf, .ref q_addressOf, .ref q_depthOf, .int v_percent, .int v_random, .int v_distance, .int v_offset, .int v_value, .int v_isMade, .ref q_marks, .int v_received, .int v_unmarked, .ref q_missing, .int v_nodes, .ref q_nodeAddresses, .ref q_nodeDistances, .ref q_nodeParents, .int o_found, .ref q_foundAddress, .ref q_foundDistance, .ref q_foundParent, .int o_words, .ref q_wordAt])), (q_marks, .inl (cI, 4096, .inl a_marks)), (q_foundAddress, .inl (cI, 101, .inl o_foundAddress)), (q_foundDistance, .inl (cI, 101, .inl o_foundDistance)), (q_foundParent, .inl (cI, 101, .inl o_foundParent)), (q_wordAt, .inl (cI, 4096, .inl o_wordAt))] (va_A [(h0, .inr (6, [.int v_routers, .ref q_parentOf, .ref q_addressOf, .ref q_depthOf, .int v_percent, .int v_random, .int v_distance, .int v_offset, .int v_value, .int v_isMade, .ref q_marks, .int v_received, .int v_unmarked, .ref q_missing, .int v_nodes, .ref q_nodeAddresses, .ref q_nodeDistances, .ref q_nodeParents, .int v_found, .ref q_foundAddress, .ref q_foundDistance, .ref q_foundParent, .int v_words, .ref q_wordAt])), (q_marks, .inl (cI, 4096, .inl a_marks)), (q_foundAddress, .inl (cI, 101, .inl a_foundAddress)), (q_foundDistance, .inl (cI, 101, .inl a_foundDistance)), (q_foundParent, .inl (cI, 101, .inl a_foundParent)), (q_wordAt, .inl (cI, 4096, .inl a_wordAt))] sz)) 0 0 (va_A [(h0, .inr (6, [.int v_routers, .ref q_parentOf, .ref q_addressOf, .ref q_depthOf, .int v_percent, .int v_random, .int v_distance, .int v_offset, .int v_value, .int v_isMade, .ref q_marks, .int v_received, .int v_unmarked, .ref q_missing, .int v_nodes, .ref q_nodeAddresses, .ref q_nodeDistances, .ref q_nodeParents, .int v_found, .ref q_foundAddress, .ref q_foundDistance, .ref q_foundParent, .int v_words, .ref q_wordAt])), (q_marks, .inl (cI, 4096, .inl a_marks)), (q_foundAddress, .inl (cI, 101, .inl a_foundAddress)), (q_foundDistance, .inl (cI, 101, .inl a_foundDistance)), (q_foundParent, .inl (cI, 101, .inl a_foundParent)), (q_wordAt, .inl (cI, 4096, .inl a_wordAt))] sz) := by
  refine ofX (cc := cX6_findDistance) (maxL := 4) (ret := (some .boolean)) (lv0 := [(0, .ref h0), (1, .int p1)]) (QA := fun A => poI dC dI .boolean rr [(h0, .inr (6, [.int v_routers, .ref q_parentOf, .ref q_addressOf, .ref q_depthOf, .int v_percent, .int v_random, .int v_distance, .int v_offset, .int v_value, .int v_isMade, .ref q_marks, .int v_received, .int v_unmarked, .ref q_missing, .int v_nodes, .ref q_nodeAddresses, .ref q_nodeDistances, .ref q_nodeParents, .int o_found, .ref q_foundAddress, .ref q_foundDistance, .ref q_foundParent, .int o_words, .ref q_wordAt])), (q_marks, .inl (cI, 4096, .inl a_marks)), (q_foundAddress, .inl (cI, 101, .inl o_foundAddress)), (q_foundDistance, .inl (cI, 101, .inl o_foundDistance)), (q_foundParent, .inl (cI, 101, .inl o_foundParent)), (q_wordAt, .inl (cI, 4096, .inl o_wordAt))] A) (by decide) rfl (Nat.le_of_ble_eq_true rfl) rfl ?_
  intro p e s m below meth c A ls H locs hx hb hr hml hown hts hlocks hin hK hN hA hP hD hS hl
  have hown : s.vm.findClass RX6 = some m.cls := hown
  unfold fX6_findDistance at h
  have hiX6 : ∀ w ∈ u_ws RX6 TX6 24, w ∈ wsX6_findDistance := fun _ h => List.mem_cons_of_mem _ (List.mem_append_right _ h)
  have hf147 := (hts (.fieldLink RX6 147 "PacketTracebackModel" "found" "I") (List.mem_of_getElem? (i := 1) (by decide +kernel)))
  have hf37 := (hts (.fieldLink RX6 37 "PacketTracebackModel" "foundDistance" "[I") (List.mem_of_getElem? (i := 2) (by decide +kernel)))
  refine lv_aload_n hx hb dX6_findDistance_0 rfl (lv_at hl 0 rfl) ?_
  refine lv_iload_n hx hb dX6_findDistance_1 rfl (lv_at hl 1 rfl) ?_
  obtain ⟨r1, h1, h⟩ := bd1_e h
  refine ca_Vi (wc := [(h0, .inr (6, [.int v_routers, .ref q_parentOf, .ref q_addressOf, .ref q_depthOf, .int v_percent, .int v_random, .int v_distance, .int v_offset, .int v_value, .int v_isMade, .ref q_marks, .int v_received, .int v_unmarked, .ref q_missing, .int v_nodes, .ref q_nodeAddresses, .ref q_nodeDistances, .ref q_nodeParents, .int v_found, .ref q_foundAddress, .ref q_foundDistance, .ref q_foundParent, .int v_words, .ref q_wordAt])), (q_marks, .inl (cI, 4096, .inl a_marks))]) (wr := [(q_foundAddress, .inl (cI, 101, .inl a_foundAddress)), (q_foundDistance, .inl (cI, 101, .inl a_foundDistance)), (q_foundParent, .inl (cI, 101, .inl a_foundParent)), (q_wordAt, .inl (cI, 4096, .inl a_wordAt))]) (w1 := [(h0, .inr (6, [.int v_routers, .ref q_parentOf, .ref q_addressOf, .ref q_depthOf, .int v_percent, .int v_random, .int v_distance, .int v_offset, .int v_value, .int v_isMade, .ref q_marks, .int v_received, .int v_unmarked, .ref q_missing, .int v_nodes, .ref q_nodeAddresses, .ref q_nodeDistances, .ref q_nodeParents, .int v_found, .ref q_foundAddress, .ref q_foundDistance, .ref q_foundParent, .int v_words, .ref q_wordAt])), (q_marks, .inl (cI, 4096, .inl a_marks))]) [.int p1] [] [0, 1] [2, 3, 4, 5] hx hb hml hown hts (mX6_combinations l dC dI cI H.size N h0 q_parentOf q_addressOf q_depthOf q_marks q_missing q_nodeAddresses q_nodeDistances q_nodeParents q_foundAddress q_foundDistance q_foundParent q_wordAt v_routers v_percent v_random v_distance v_offset v_value v_isMade v_received v_unmarked v_nodes v_found v_words a_marks p1 h1) (cwV 1 hts gX6_findDistance_X6_combinations rfl rfl rfl (by decide +kernel) ⟨Nat.le_of_ble_eq_true rfl, Nat.le_of_ble_eq_true rfl⟩) hK hN hP hD hS hA rfl rfl (by decide) (by decide) (by decide) rfl rfl rfl hl.1 rfl (Nat.le_of_ble_eq_true rfl) dX6_findDistance_2 ⟨Nat.zero_le _, Nat.zero_le _⟩ (fun H locs hP hD hS hz1 => ?_)
  have hP : va_P (dC, dI) vwCl [(q_foundAddress, .inl (cI, 101, .inl a_foundAddress)), (q_foundDistance, .inl (cI, 101, .inl a_foundDistance)), (q_foundParent, .inl (cI, 101, .inl a_foundParent)), (q_wordAt, .inl (cI, 4096, .inl a_wordAt)), (h0, .inr (6, [.int v_routers, .ref q_parentOf, .ref q_addressOf, .ref q_depthOf, .int v_percent, .int v_random, .int v_distance, .int v_offset, .int v_value, .int v_isMade, .ref q_marks, .int v_received, .int v_unmarked, .ref q_missing, .int v_nodes, .ref q_nodeAddresses, .ref q_nodeDistances, .ref q_nodeParents, .int v_found, .ref q_foundAddress, .ref q_foundDistance, .ref q_foundParent, .int v_words, .ref q_wordAt])), (q_marks, .inl (cI, 4096, .inl a_marks))] H := hP
  have hD : va_D A [(q_foundAddress, .inl (cI, 101, .inl a_foundAddress)), (q_foundDistance, .inl (cI, 101, .inl a_foundDistance)), (q_foundParent, .inl (cI, 101, .inl a_foundParent)), (q_wordAt, .inl (cI, 4096, .inl a_wordAt)), (h0, .inr (6, [.int v_routers, .ref q_parentOf, .ref q_addressOf, .ref q_depthOf, .int v_percent, .int v_random, .int v_distance, .int v_offset, .int v_value, .int v_isMade, .ref q_marks, .int v_received, .int v_unmarked, .ref q_missing, .int v_nodes, .ref q_nodeAddresses, .ref q_nodeDistances, .ref q_nodeParents, .int v_found, .ref q_foundAddress, .ref q_foundDistance, .ref q_foundParent, .int v_words, .ref q_wordAt])), (q_marks, .inl (cI, 4096, .inl a_marks))] := hD
  refine lv_sipush (v := (4096 : Int32)) hx hb dX6_findDistance_5 (by decide) ?_
  refine lv_icmp_le (tgt := 13) hx hb dX6_findDistance_8 (by decide) (fun c2 => ?_) (fun c2 => ?_)
  · have h := it_p c2 h
    refine lv_aload_n hx hb dX6_findDistance_13 rfl (lv_at hl 0 rfl) ?_
    refine lv_iload_n hx hb dX6_findDistance_14 rfl (lv_at hl 1 rfl) ?_
    obtain ⟨s_words_3, s_wordAt_3, h3, h⟩ := bd2_e h
    refine ca_Vv (wc := [(h0, .inr (6, [.int v_routers, .ref q_parentOf, .ref q_addressOf, .ref q_depthOf, .int v_percent, .int v_random, .int v_distance, .int v_offset, .int v_value, .int v_isMade, .ref q_marks, .int v_received, .int v_unmarked, .ref q_missing, .int v_nodes, .ref q_nodeAddresses, .ref q_nodeDistances, .ref q_nodeParents, .int v_found, .ref q_foundAddress, .ref q_foundDistance, .ref q_foundParent, .int v_words, .ref q_wordAt])), (q_marks, .inl (cI, 4096, .inl a_marks)), (q_wordAt, .inl (cI, 4096, .inl a_wordAt))]) (wr := [(q_foundAddress, .inl (cI, 101, .inl a_foundAddress)), (q_foundDistance, .inl (cI, 101, .inl a_foundDistance)), (q_foundParent, .inl (cI, 101, .inl a_foundParent))]) (w1 := [(h0, .inr (6, [.int v_routers, .ref q_parentOf, .ref q_addressOf, .ref q_depthOf, .int v_percent, .int v_random, .int v_distance, .int v_offset, .int v_value, .int v_isMade, .ref q_marks, .int v_received, .int v_unmarked, .ref q_missing, .int v_nodes, .ref q_nodeAddresses, .ref q_nodeDistances, .ref q_nodeParents, .int v_found, .ref q_foundAddress, .ref q_foundDistance, .ref q_foundParent, .int s_words_3, .ref q_wordAt])), (q_marks, .inl (cI, 4096, .inl a_marks)), (q_wordAt, .inl (cI, 4096, .inl s_wordAt_3))]) [.int p1] [] [4, 5, 3] [0, 1, 2] hx hb hml hown hts (mX6_findWords l dC dI cI H.size N h0 q_parentOf q_addressOf q_depthOf q_marks q_missing q_nodeAddresses q_nodeDistances q_nodeParents q_foundAddress q_foundDistance q_foundParent q_wordAt v_routers v_percent v_random v_distance v_offset v_value v_isMade v_received v_unmarked v_nodes v_found v_words a_marks a_wordAt p1 h3) (cwV 1 hts gX6_findDistance_X6_findWords rfl rfl rfl (by decide +kernel) ⟨Nat.le_of_ble_eq_true rfl, Nat.le_of_ble_eq_true rfl⟩) hK hN hP hD hS hA rfl rfl (by decide) (by decide) (by decide) rfl rfl rfl hl.1 rfl (Nat.le_of_ble_eq_true rfl) dX6_findDistance_15 ⟨Nat.zero_le _, Nat.zero_le _⟩ (fun H locs hP hD hS => ?_)
    have hP : va_P (dC, dI) vwCl [(q_foundAddress, .inl (cI, 101, .inl a_foundAddress)), (q_foundDistance, .inl (cI, 101, .inl a_foundDistance)), (q_foundParent, .inl (cI, 101, .inl a_foundParent)), (h0, .inr (6, [.int v_routers, .ref q_parentOf, .ref q_addressOf, .ref q_depthOf, .int v_percent, .int v_random, .int v_distance, .int v_offset, .int v_value, .int v_isMade, .ref q_marks, .int v_received, .int v_unmarked, .ref q_missing, .int v_nodes, .ref q_nodeAddresses, .ref q_nodeDistances, .ref q_nodeParents, .int v_found, .ref q_foundAddress, .ref q_foundDistance, .ref q_foundParent, .int s_words_3, .ref q_wordAt])), (q_marks, .inl (cI, 4096, .inl a_marks)), (q_wordAt, .inl (cI, 4096, .inl s_wordAt_3))] H := hP
    have hD : va_D A [(q_foundAddress, .inl (cI, 101, .inl a_foundAddress)), (q_foundDistance, .inl (cI, 101, .inl a_foundDistance)), (q_foundParent, .inl (cI, 101, .inl a_foundParent)), (h0, .inr (6, [.int v_routers, .ref q_parentOf, .ref q_addressOf, .ref q_depthOf, .int v_percent, .int v_random, .int v_distance, .int v_offset, .int v_value, .int v_isMade, .ref q_marks, .int v_received, .int v_unmarked, .ref q_missing, .int v_nodes, .ref q_nodeAddresses, .ref q_nodeDistances, .ref q_nodeParents, .int v_found, .ref q_foundAddress, .ref q_foundDistance, .ref q_foundParent, .int s_words_3, .ref q_wordAt])), (q_marks, .inl (cI, 4096, .inl a_marks)), (q_wordAt, .inl (cI, 4096, .inl s_wordAt_3))] := hD
    refine lv_iload_n hx hb dX6_findDistance_18 rfl (lv_at hl 1 rfl) ?_
    refine lv_if_ne (tgt := 30) hx hb dX6_findDistance_19 (by decide) (fun c4 => ?_) (fun c4 => ?_)
    · have h := it_n c4 h
      refine lv_aload_n hx hb dX6_findDistance_30 rfl (lv_at hl 0 rfl) ?_
      refine va_get (D := (dC, dI)) (ci := 6) (v := .int v_found) (C := RX6) (T := TX6) (N := 24) hx hb hts hiX6 hown hK hP 3 rfl rfl 18 (by decide) hf147 (fun _ h9 => h9) rfl dX6_findDistance_31 ?_
      refine lv_istore_n (lv' := [(2, .int v_found), (0, .ref h0), (1, .int p1)]) hx hb dX6_findDistance_34 rfl hl (by decide) rfl (fun ls hl => ?_)
      refine lv_iconst (v := (0 : Int32)) hx hb dX6_findDistance_35 (by decide) ?_
      refine lv_istore_n (lv' := [(3, .int (0 : Int32)), (2, .int v_found), (0, .ref h0), (1, .int p1)]) hx hb dX6_findDistance_36 rfl hl (by decide) rfl (fun ls hl => ?_)
      have key37 : ∀ (y2_37 : Int32) (n1 : Nat) (y3_37 : Int32) (v_found_37 : Int32) (a_foundAddress_37 : Nat → Int32) (a_foundDistance_37 : Nat → Int32) (a_foundParent_37 : Nat → Int32) (H : Heap) (locs : List Loc) (ls : Array Slot), lp (fun s => bX6_findDistance_37 N p1 s_words_3 s_wordAt_3 y2_37 s.1 s.2.1 s.2.2.1 s.2.2.2.1 s.2.2.2.2) n1 (y3_37, v_found_37, a_foundAddress_37, a_foundDistance_37, a_foundParent_37) = some (rr, o_found, o_words, o_foundAddress, o_foundDistance, o_foundParent, o_wordAt) → va_P (dC, dI) vwCl [(q_foundAddress, .inl (cI, 101, .inl a_foundAddress_37)), (q_foundDistance, .inl (cI, 101, .inl a_foundDistance_37)), (q_foundParent, .inl (cI, 101, .inl a_foundParent_37)), (h0, .inr (6, [.int v_routers, .ref q_parentOf, .ref q_addressOf, .ref q_depthOf, .int v_percent, .int v_random, .int v_distance, .int v_offset, .int v_value, .int v_isMade, .ref q_marks, .int v_received, .int v_unmarked, .ref q_missing, .int v_nodes, .ref q_nodeAddresses, .ref q_nodeDistances, .ref q_nodeParents, .int v_found_37, .ref q_foundAddress, .ref q_foundDistance, .ref q_foundParent, .int s_words_3, .ref q_wordAt])), (q_marks, .inl (cI, 4096, .inl a_marks)), (q_wordAt, .inl (cI, 4096, .inl s_wordAt_3))] H → va_D A [(q_foundAddress, .inl (cI, 101, .inl a_foundAddress_37)), (q_foundDistance, .inl (cI, 101, .inl a_foundDistance_37)), (q_foundParent, .inl (cI, 101, .inl a_foundParent_37)), (h0, .inr (6, [.int v_routers, .ref q_parentOf, .ref q_addressOf, .ref q_depthOf, .int v_percent, .int v_random, .int v_distance, .int v_offset, .int v_value, .int v_isMade, .ref q_marks, .int v_received, .int v_unmarked, .ref q_missing, .int v_nodes, .ref q_nodeAddresses, .ref q_nodeDistances, .ref q_nodeParents, .int v_found_37, .ref q_foundAddress, .ref q_foundDistance, .ref q_foundParent, .int s_words_3, .ref q_wordAt])), (q_marks, .inl (cI, 4096, .inl a_marks)), (q_wordAt, .inl (cI, 4096, .inl s_wordAt_3))] → va_S A s.heap H locs → lv_has ls 4 [(3, .int y3_37), (2, .int y2_37), (0, .ref h0), (1, .int p1)] → W p l e ({ frames := 4, cells := 0, slots := 0, locals := 95 } : Room) s m [.ref h0, .int p1].toArray below meth c H locs 0 0 (MQ below (poI dC dI .boolean rr [(h0, .inr (6, [.int v_routers, .ref q_parentOf, .ref q_addressOf, .ref q_depthOf, .int v_percent, .int v_random, .int v_distance, .int v_offset, .int v_value, .int v_isMade, .ref q_marks, .int v_received, .int v_unmarked, .ref q_missing, .int v_nodes, .ref q_nodeAddresses, .ref q_nodeDistances, .ref q_nodeParents, .int o_found, .ref q_foundAddress, .ref q_foundDistance, .ref q_foundParent, .int o_words, .ref q_wordAt])), (q_marks, .inl (cI, 4096, .inl a_marks)), (q_foundAddress, .inl (cI, 101, .inl o_foundAddress)), (q_foundDistance, .inl (cI, 101, .inl o_foundDistance)), (q_foundParent, .inl (cI, 101, .inl o_foundParent)), (q_wordAt, .inl (cI, 4096, .inl o_wordAt))] A) [.ref h0, .int p1].toArray s 0 0 A) (F0 m 37 ls []) := by
        intro y2_37
        intro n1
        induction n1 with
        | zero =>
          intro y3_37 v_found_37 a_foundAddress_37 a_foundDistance_37 a_foundParent_37 H locs ls h
          exact (lp_0 h).elim
        | succ n1 ih1 =>
          intro y3_37 v_found_37 a_foundAddress_37 a_foundDistance_37 a_foundParent_37 H locs ls h hP hD hS hl
          obtain ⟨o1, h, hk1⟩ := lp_s h
          unfold bX6_findDistance_37 at h
          try dsimp only at h
          refine lv_iload_n hx hb dX6_findDistance_37 rfl (lv_at hl 0 rfl) ?_
          refine lv_iload_n hx hb dX6_findDistance_38 rfl (lv_at hl 1 rfl) ?_
          refine lv_icmp_ge (tgt := 71) hx hb dX6_findDistance_39 (by decide) (fun c5 => ?_) (fun c5 => ?_)
          · have h := it_p c5 h
            refine lv_iconst (v := (1 : Int32)) hx hb dX6_findDistance_71 (by decide) ?_
            cases Option.some.inj h
            have hk1 := un_r hk1
            cases hk1
            exact re_i [3, 4, 0, 1, 2, 5] hx hb hr hlocks rfl hP hD hS rfl (by decide) rfl dX6_findDistance_72
          · have h := it_n c5 h
            refine lv_aload_n hx hb dX6_findDistance_42 rfl (lv_at hl 2 rfl) ?_
            refine va_get (D := (dC, dI)) (ci := 6) (v := .ref q_foundDistance) (C := RX6) (T := TX6) (N := 24) hx hb hts hiX6 hown hK hP 3 rfl rfl 20 (by decide) hf37 (fun _ h9 => h9) rfl dX6_findDistance_43 ?_
            refine lv_iload_n hx hb dX6_findDistance_46 rfl (lv_at hl 0 rfl) ?_
            obtain ⟨g6, h⟩ := gd_e h
            refine va_iald hx hb hK hP 1 0 rfl rfl g6 dX6_findDistance_47 ?_
            refine lv_iload_n hx hb dX6_findDistance_48 rfl (lv_at hl 3 rfl) ?_
            refine lv_iconst (v := (1 : Int32)) hx hb dX6_findDistance_49 (by decide) ?_
            refine lv_isub hx hb dX6_findDistance_50 ?_
            refine lv_icmp_ne (tgt := 65) hx hb dX6_findDistance_51 (by decide) (fun c7 => ?_) (fun c7 => ?_)
            · have h := it_n c7 h
              refine lv_iinc (v := y3_37 + 1) (lv' := [(3, .int (y3_37 + 1)), (2, .int y2_37), (0, .ref h0), (1, .int p1)]) hx hb dX6_findDistance_65 hl (k := 0) rfl rfl (by decide) rfl (fun ls hl => ?_)
              refine lv_goto (tgt := 37) hx hb dX6_findDistance_68 (by decide) ?_
              cases Option.some.inj h
              exact ih1 _ _ _ _ _ _ _ _ (un_l hk1) (hP.sub [0, 1, 2, 3, 4, 5] rfl) (hD.sub [0, 1, 2, 3, 4, 5] (by decide) rfl) hS (lv_sub hl [0, 1, 2, 3] rfl)
            · have h := it_p c7 h
              refine lv_aload_n hx hb dX6_findDistance_54 rfl (lv_at hl 2 rfl) ?_
              refine lv_iload_n hx hb dX6_findDistance_55 rfl (lv_at hl 3 rfl) ?_
              refine lv_iload_n hx hb dX6_findDistance_56 rfl (lv_at hl 0 rfl) ?_
              obtain ⟨r8, s_found_8, s_foundAddress_8, s_foundDistance_8, s_foundParent_8, h8, h⟩ := bd5_e h
              refine ca_Vi (wc := [(h0, .inr (6, [.int v_routers, .ref q_parentOf, .ref q_addressOf, .ref q_depthOf, .int v_percent, .int v_random, .int v_distance, .int v_offset, .int v_value, .int v_isMade, .ref q_marks, .int v_received, .int v_unmarked, .ref q_missing, .int v_nodes, .ref q_nodeAddresses, .ref q_nodeDistances, .ref q_nodeParents, .int v_found_37, .ref q_foundAddress, .ref q_foundDistance, .ref q_foundParent, .int s_words_3, .ref q_wordAt])), (q_foundAddress, .inl (cI, 101, .inl a_foundAddress_37)), (q_foundDistance, .inl (cI, 101, .inl a_foundDistance_37)), (q_foundParent, .inl (cI, 101, .inl a_foundParent_37)), (q_wordAt, .inl (cI, 4096, .inl s_wordAt_3))]) (wr := [(q_marks, .inl (cI, 4096, .inl a_marks))]) (w1 := [(h0, .inr (6, [.int v_routers, .ref q_parentOf, .ref q_addressOf, .ref q_depthOf, .int v_percent, .int v_random, .int v_distance, .int v_offset, .int v_value, .int v_isMade, .ref q_marks, .int v_received, .int v_unmarked, .ref q_missing, .int v_nodes, .ref q_nodeAddresses, .ref q_nodeDistances, .ref q_nodeParents, .int s_found_8, .ref q_foundAddress, .ref q_foundDistance, .ref q_foundParent, .int s_words_3, .ref q_wordAt])), (q_foundAddress, .inl (cI, 101, .inl s_foundAddress_8)), (q_foundDistance, .inl (cI, 101, .inl s_foundDistance_8)), (q_foundParent, .inl (cI, 101, .inl s_foundParent_8)), (q_wordAt, .inl (cI, 4096, .inl s_wordAt_3))]) [.int p1, .int y3_37] [] [3, 0, 1, 2, 5] [4] hx hb hml hown hts (mX6_findNodes l dC dI cI H.size N h0 q_parentOf q_addressOf q_depthOf q_marks q_missing q_nodeAddresses q_nodeDistances q_nodeParents q_foundAddress q_foundDistance q_foundParent q_wordAt v_routers v_percent v_random v_distance v_offset v_value v_isMade v_received v_unmarked v_nodes v_found_37 s_words_3 a_foundAddress_37 a_foundDistance_37 a_foundParent_37 s_wordAt_3 p1 y3_37 h8) (cwV 2 hts gX6_findDistance_X6_findNodes rfl rfl rfl (by decide +kernel) ⟨Nat.le_of_ble_eq_true rfl, Nat.le_of_ble_eq_true rfl⟩) hK hN hP hD hS hA rfl rfl (by decide) (by decide) (by decide) rfl rfl rfl hl.1 rfl (Nat.le_of_ble_eq_true rfl) dX6_findDistance_57 ⟨Nat.zero_le _, Nat.zero_le _⟩ (fun H locs hP hD hS hz8 => ?_)
              have hP : va_P (dC, dI) vwCl [(q_marks, .inl (cI, 4096, .inl a_marks)), (h0, .inr (6, [.int v_routers, .ref q_parentOf, .ref q_addressOf, .ref q_depthOf, .int v_percent, .int v_random, .int v_distance, .int v_offset, .int v_value, .int v_isMade, .ref q_marks, .int v_received, .int v_unmarked, .ref q_missing, .int v_nodes, .ref q_nodeAddresses, .ref q_nodeDistances, .ref q_nodeParents, .int s_found_8, .ref q_foundAddress, .ref q_foundDistance, .ref q_foundParent, .int s_words_3, .ref q_wordAt])), (q_foundAddress, .inl (cI, 101, .inl s_foundAddress_8)), (q_foundDistance, .inl (cI, 101, .inl s_foundDistance_8)), (q_foundParent, .inl (cI, 101, .inl s_foundParent_8)), (q_wordAt, .inl (cI, 4096, .inl s_wordAt_3))] H := hP
              have hD : va_D A [(q_marks, .inl (cI, 4096, .inl a_marks)), (h0, .inr (6, [.int v_routers, .ref q_parentOf, .ref q_addressOf, .ref q_depthOf, .int v_percent, .int v_random, .int v_distance, .int v_offset, .int v_value, .int v_isMade, .ref q_marks, .int v_received, .int v_unmarked, .ref q_missing, .int v_nodes, .ref q_nodeAddresses, .ref q_nodeDistances, .ref q_nodeParents, .int s_found_8, .ref q_foundAddress, .ref q_foundDistance, .ref q_foundParent, .int s_words_3, .ref q_wordAt])), (q_foundAddress, .inl (cI, 101, .inl s_foundAddress_8)), (q_foundDistance, .inl (cI, 101, .inl s_foundDistance_8)), (q_foundParent, .inl (cI, 101, .inl s_foundParent_8)), (q_wordAt, .inl (cI, 4096, .inl s_wordAt_3))] := hD
              refine lv_if_ne (tgt := 65) hx hb dX6_findDistance_60 (by decide) (fun c9 => ?_) (fun c9 => ?_)
              · have h := it_n c9 h
                refine lv_iinc (v := y3_37 + 1) (lv' := [(3, .int (y3_37 + 1)), (2, .int y2_37), (0, .ref h0), (1, .int p1)]) hx hb dX6_findDistance_65 hl (k := 0) rfl rfl (by decide) rfl (fun ls hl => ?_)
                refine lv_goto (tgt := 37) hx hb dX6_findDistance_68 (by decide) ?_
                cases Option.some.inj h
                exact ih1 _ _ _ _ _ _ _ _ (un_l hk1) (hP.sub [2, 3, 4, 1, 0, 5] rfl) (hD.sub [2, 3, 4, 1, 0, 5] (by decide) rfl) hS (lv_sub hl [0, 1, 2, 3] rfl)
              · have h := it_p c9 h
                refine lv_iconst (v := (0 : Int32)) hx hb dX6_findDistance_63 (by decide) ?_
                cases Option.some.inj h
                have hk1 := un_r hk1
                cases hk1
                exact re_i [1, 0, 2, 3, 4, 5] hx hb hr hlocks rfl hP hD hS rfl (by decide) rfl dX6_findDistance_64
      exact key37 v_found N _ _ _ _ _ _ _ _ h hP hD hS hl
    · have h := it_p c4 h
      refine lv_aload_n hx hb dX6_findDistance_22 rfl (lv_at hl 0 rfl) ?_
      refine lv_iconst (v := (0 : Int32)) hx hb dX6_findDistance_23 (by decide) ?_
      refine lv_bipush (v := (-7 : Int32)) hx hb dX6_findDistance_24 (by decide) ?_
      obtain ⟨r10, s_found_10, s_foundAddress_10, s_foundDistance_10, s_foundParent_10, h10, h⟩ := bd5_e h
      refine ca_Vi (wc := [(h0, .inr (6, [.int v_routers, .ref q_parentOf, .ref q_addressOf, .ref q_depthOf, .int v_percent, .int v_random, .int v_distance, .int v_offset, .int v_value, .int v_isMade, .ref q_marks, .int v_received, .int v_unmarked, .ref q_missing, .int v_nodes, .ref q_nodeAddresses, .ref q_nodeDistances, .ref q_nodeParents, .int v_found, .ref q_foundAddress, .ref q_foundDistance, .ref q_foundParent, .int s_words_3, .ref q_wordAt])), (q_foundAddress, .inl (cI, 101, .inl a_foundAddress)), (q_foundDistance, .inl (cI, 101, .inl a_foundDistance)), (q_foundParent, .inl (cI, 101, .inl a_foundParent)), (q_wordAt, .inl (cI, 4096, .inl s_wordAt_3))]) (wr := [(q_marks, .inl (cI, 4096, .inl a_marks))]) (w1 := [(h0, .inr (6, [.int v_routers, .ref q_parentOf, .ref q_addressOf, .ref q_depthOf, .int v_percent, .int v_random, .int v_distance, .int v_offset, .int v_value, .int v_isMade, .ref q_marks, .int v_received, .int v_unmarked, .ref q_missing, .int v_nodes, .ref q_nodeAddresses, .ref q_nodeDistances, .ref q_nodeParents, .int s_found_10, .ref q_foundAddress, .ref q_foundDistance, .ref q_foundParent, .int s_words_3, .ref q_wordAt])), (q_foundAddress, .inl (cI, 101, .inl s_foundAddress_10)), (q_foundDistance, .inl (cI, 101, .inl s_foundDistance_10)), (q_foundParent, .inl (cI, 101, .inl s_foundParent_10)), (q_wordAt, .inl (cI, 4096, .inl s_wordAt_3))]) [.int (0 : Int32), .int (-7 : Int32)] [] [3, 0, 1, 2, 5] [4] hx hb hml hown hts (mX6_findNodes l dC dI cI H.size N h0 q_parentOf q_addressOf q_depthOf q_marks q_missing q_nodeAddresses q_nodeDistances q_nodeParents q_foundAddress q_foundDistance q_foundParent q_wordAt v_routers v_percent v_random v_distance v_offset v_value v_isMade v_received v_unmarked v_nodes v_found s_words_3 a_foundAddress a_foundDistance a_foundParent s_wordAt_3 (0 : Int32) (-7 : Int32) h10) (cwV 2 hts gX6_findDistance_X6_findNodes rfl rfl rfl (by decide +kernel) ⟨Nat.le_of_ble_eq_true rfl, Nat.le_of_ble_eq_true rfl⟩) hK hN hP hD hS hA rfl rfl (by decide) (by decide) (by decide) rfl rfl rfl hl.1 rfl (Nat.le_of_ble_eq_true rfl) dX6_findDistance_26 ⟨Nat.zero_le _, Nat.zero_le _⟩ (fun H locs hP hD hS hz10 => ?_)
      have hP : va_P (dC, dI) vwCl [(q_marks, .inl (cI, 4096, .inl a_marks)), (h0, .inr (6, [.int v_routers, .ref q_parentOf, .ref q_addressOf, .ref q_depthOf, .int v_percent, .int v_random, .int v_distance, .int v_offset, .int v_value, .int v_isMade, .ref q_marks, .int v_received, .int v_unmarked, .ref q_missing, .int v_nodes, .ref q_nodeAddresses, .ref q_nodeDistances, .ref q_nodeParents, .int s_found_10, .ref q_foundAddress, .ref q_foundDistance, .ref q_foundParent, .int s_words_3, .ref q_wordAt])), (q_foundAddress, .inl (cI, 101, .inl s_foundAddress_10)), (q_foundDistance, .inl (cI, 101, .inl s_foundDistance_10)), (q_foundParent, .inl (cI, 101, .inl s_foundParent_10)), (q_wordAt, .inl (cI, 4096, .inl s_wordAt_3))] H := hP
      have hD : va_D A [(q_marks, .inl (cI, 4096, .inl a_marks)), (h0, .inr (6, [.int v_routers, .ref q_parentOf, .ref q_addressOf, .ref q_depthOf, .int v_percent, .int v_random, .int v_distance, .int v_offset, .int v_value, .int v_isMade, .ref q_marks, .int v_received, .int v_unmarked, .ref q_missing, .int v_nodes, .ref q_nodeAddresses, .ref q_nodeDistances, .ref q_nodeParents, .int s_found_10, .ref q_foundAddress, .ref q_foundDistance, .ref q_foundParent, .int s_words_3, .ref q_wordAt])), (q_foundAddress, .inl (cI, 101, .inl s_foundAddress_10)), (q_foundDistance, .inl (cI, 101, .inl s_foundDistance_10)), (q_foundParent, .inl (cI, 101, .inl s_foundParent_10)), (q_wordAt, .inl (cI, 4096, .inl s_wordAt_3))] := hD
      have hk0 := Option.some.inj h
      cases hk0
      exact re_i [1, 0, 2, 3, 4, 5] hx hb hr hlocks hz10 hP hD hS rfl (by decide) rfl dX6_findDistance_29
  · have h := it_n c2 h
    refine lv_iconst (v := (0 : Int32)) hx hb dX6_findDistance_11 (by decide) ?_
    have hk0 := Option.some.inj h
    cases hk0
    exact re_i [4, 5, 0, 1, 2, 3] hx hb hr hlocks rfl hP hD hS rfl (by decide) rfl dX6_findDistance_12
def bX6_reconstruct_55 (v_found_9 : Int32) (v_words_9 : Int32) (a_foundAddress_9 : Nat → Int32) (a_foundDistance_9 : Nat → Int32) (a_foundParent_9 : Nat → Int32) (a_wordAt_9 : Nat → Int32) (y2_55 : Int32) (a_nodeAddresses_55 : Nat → Int32) (a_nodeDistances_55 : Nat → Int32) (a_nodeParents_55 : Nat → Int32) : Option ((Int32 × (Nat → Int32) × (Nat → Int32) × (Nat → Int32)) ⊕ (Int32 × Int32 × Int32 × Int32 × (Nat → Int32) × (Nat → Int32) × (Nat → Int32) × (Nat → Int32) × (Nat → Int32) × (Nat → Int32) × (Nat → Int32))) :=
  if v_found_9 ≤ y2_55 then
    some (.inr (v_found_9, v_found_9, v_found_9, v_words_9, a_nodeAddresses_55, a_nodeDistances_55, a_nodeParents_55, a_foundAddress_9, a_foundDistance_9, a_foundParent_9, a_wordAt_9))
  else
    if ¬ (y2_55 < 0 ∨ 101 ≤ y2_55.toNatClampNeg) then
      if ¬ (y2_55 < 0 ∨ 100 ≤ y2_55.toNatClampNeg) then
        if ¬ (y2_55 < 0 ∨ 101 ≤ y2_55.toNatClampNeg) then
          if ¬ (y2_55 < 0 ∨ 100 ≤ y2_55.toNatClampNeg) then
            if ¬ (y2_55 < 0 ∨ 101 ≤ y2_55.toNatClampNeg) then
              if ¬ (y2_55 < 0 ∨ 100 ≤ y2_55.toNatClampNeg) then
                some (.inl ((y2_55 + 1), (upd a_nodeAddresses_55 y2_55.toNatClampNeg (a_foundAddress_9 y2_55.toNatClampNeg)), (upd a_nodeDistances_55 y2_55.toNatClampNeg (a_foundDistance_9 y2_55.toNatClampNeg)), (upd a_nodeParents_55 y2_55.toNatClampNeg (a_foundParent_9 y2_55.toNatClampNeg))))
              else none
            else none
          else none
        else none
      else none
    else none
def bX6_reconstruct_9 (N : Nat) (v_nodes : Int32) (a_marks : Nat → Int32) (a_nodeAddresses : Nat → Int32) (a_nodeDistances : Nat → Int32) (a_nodeParents : Nat → Int32) (y1_9 : Int32) (y2_9 : Int32) (v_found_9 : Int32) (v_words_9 : Int32) (a_foundAddress_9 : Nat → Int32) (a_foundDistance_9 : Nat → Int32) (a_foundParent_9 : Nat → Int32) (a_wordAt_9 : Nat → Int32) : Option ((Int32 × Int32 × Int32 × Int32 × (Nat → Int32) × (Nat → Int32) × (Nat → Int32) × (Nat → Int32)) ⊕ (Int32 × Int32 × Int32 × Int32 × (Nat → Int32) × (Nat → Int32) × (Nat → Int32) × (Nat → Int32) × (Nat → Int32) × (Nat → Int32) × (Nat → Int32))) :=
  if (20 : Int32) < y2_9 then
    bd1 (lp (fun s => bX6_reconstruct_55 v_found_9 v_words_9 a_foundAddress_9 a_foundDistance_9 a_foundParent_9 a_wordAt_9 s.1 s.2.1 s.2.2.1 s.2.2.2) N ((0 : Int32), a_nodeAddresses, a_nodeDistances, a_nodeParents)) fun z55 =>
    some (.inr (z55))
  else
    if v_found_9 ≤ y1_9 then
      bd1 (lp (fun s => bX6_reconstruct_55 v_found_9 v_words_9 a_foundAddress_9 a_foundDistance_9 a_foundParent_9 a_wordAt_9 s.1 s.2.1 s.2.2.1 s.2.2.2) N ((0 : Int32), a_nodeAddresses, a_nodeDistances, a_nodeParents)) fun z55 =>
      some (.inr (z55))
    else
      bd7 (fX6_findDistance N y2_9 v_found_9 v_words_9 a_marks a_foundAddress_9 a_foundDistance_9 a_foundParent_9 a_wordAt_9) fun r17 s_found_17 s_words_17 s_foundAddress_17 s_foundDistance_17 s_foundParent_17 s_wordAt_17 =>
      if r17 = 0 then
        some (.inr ((-6 : Int32), v_nodes, s_found_17, s_words_17, a_nodeAddresses, a_nodeDistances, a_nodeParents, s_foundAddress_17, s_foundDistance_17, s_foundParent_17, s_wordAt_17))
      else
        some (.inl (v_found_9, (y2_9 + 1), s_found_17, s_words_17, s_foundAddress_17, s_foundDistance_17, s_foundParent_17, s_wordAt_17))
def fX6_reconstruct (N : Nat) (v_nodes : Int32) (v_words : Int32) (a_marks : Nat → Int32) (a_nodeAddresses : Nat → Int32) (a_nodeDistances : Nat → Int32) (a_nodeParents : Nat → Int32) (a_foundAddress : Nat → Int32) (a_foundDistance : Nat → Int32) (a_foundParent : Nat → Int32) (a_wordAt : Nat → Int32) : Option (Int32 × Int32 × Int32 × Int32 × (Nat → Int32) × (Nat → Int32) × (Nat → Int32) × (Nat → Int32) × (Nat → Int32) × (Nat → Int32) × (Nat → Int32)) :=
  lp (fun s => bX6_reconstruct_9 N v_nodes a_marks a_nodeAddresses a_nodeDistances a_nodeParents s.1 s.2.1 s.2.2.1 s.2.2.2.1 s.2.2.2.2.1 s.2.2.2.2.2.1 s.2.2.2.2.2.2.1 s.2.2.2.2.2.2.2) N ((-1 : Int32), (0 : Int32), (0 : Int32), v_words, a_foundAddress, a_foundDistance, a_foundParent, a_wordAt)
set_option maxHeartbeats 4000000 in
set_option maxRecDepth 100000 in
theorem mX6_reconstruct (l : Launch) (dC : Nat → ClassId) (dI : Nat → Nat → Nat) (cI : ClassId) (sz : Nat) (N : Nat) (h0 : Nat) (q_parentOf : Nat) (q_addressOf : Nat) (q_depthOf : Nat) (q_marks : Nat) (q_missing : Nat) (q_nodeAddresses : Nat) (q_nodeDistances : Nat) (q_nodeParents : Nat) (q_foundAddress : Nat) (q_foundDistance : Nat) (q_foundParent : Nat) (q_wordAt : Nat) (v_routers : Int32) (v_percent : Int32) (v_random : Int32) (v_distance : Int32) (v_offset : Int32) (v_value : Int32) (v_isMade : Int32) (v_received : Int32) (v_unmarked : Int32) (v_nodes : Int32) (v_found : Int32) (v_words : Int32) (a_marks : Nat → Int32) (a_nodeAddresses : Nat → Int32) (a_nodeDistances : Nat → Int32) (a_nodeParents : Nat → Int32) (a_foundAddress : Nat → Int32) (a_foundDistance : Nat → Int32) (a_foundParent : Nat → Int32) (a_wordAt : Nat → Int32) {rr : Int32} {o_nodes : Int32} {o_found : Int32} {o_words : Int32} {o_nodeAddresses : Nat → Int32} {o_nodeDistances : Nat → Int32} {o_nodeParents : Nat → Int32} {o_foundAddress : Nat → Int32} {o_foundDistance : Nat → Int32} {o_foundParent : Nat → Int32} {o_wordAt : Nat → Int32} (h : fX6_reconstruct N v_nodes v_words a_marks a_nodeAddresses a_nodeDistances a_nodeParents a_foundAddress a_foundDistance a_foundParent a_wordAt = some (rr, o_nodes, o_found, o_words, o_nodeAddresses, o_nodeDistances, o_nodeParents, o_foundAddress, o_foundDistance, o_foundParent, o_wordAt)) : Met l yX6_reconstruct wsX6_reconstruct ({ frames := 5, cells := 0, slots := 0, locals := 118 } : Room) (prX dC dI cI [.ref h0] sz [(h0, .inr (6, [.int v_routers, .ref q_parentOf, .ref q_addressOf, .ref q_depthOf, .int v_percent, .int v_random, .int v_distance, .int v_offset, .int v_value, .int v_isMade, .ref q_marks, .int v_received, .int v_unmarked, .ref q_missing, .int v_nodes, .ref q_nodeAddresses, .ref q_nodeDistances, .ref q_nodeParents, .int v_found, .ref q_foundAddress, .ref q_foundDistance, .ref q_foundParent, .int v_words, .ref q_wordAt])), (q_marks, .inl (cI, 4096, .inl a_marks)), (q_nodeAddresses, .inl (cI, 100, .inl a_nodeAddresses)), (q_nodeDistances, .inl (cI, 100, .inl a_nodeDistances)), (q_nodeParents, .inl (cI, 100, .inl a_nodeParents)), (q_foundAddress, .inl (cI, 101, .inl a_foundAddress)), (q_foundDistance, .inl (cI, 101, .inl a_foundDistance)), (q_foundParent, .inl (cI, 101, .inl a_foundParent)), (q_wordAt, .inl (cI, 4096, .inl a_wordAt))]) (poI dC dI .int rr [(h0, .inr (6, [.int v_routers, .ref q_parentOf, .ref q_addressOf, .ref q_depthOf, .int v_percent, .int v_random, .int v_distance, .int v_offset, .int v_value, .int v_isMade, .ref q_marks, .int v_received, .int v_unmarked, .ref q_missing, .int o_nodes, .ref q_nodeAddresses, .ref q_nodeDistances, .ref q_nodeParents, .int o_found, .ref q_foundAddress, .ref q_foundDistance, .ref q_foundParent, .int o_words, .ref q_wordAt])), (q_marks, .inl (cI, 4096, .inl a_marks)), (q_nodeAddresses, .inl (cI, 100, .inl o_nodeAddresses)), (q_nodeDistances, .inl (cI, 100, .inl o_nodeDistances)), (q_nodeParents, .inl (cI, 100, .inl o_nodeParents)), (q_foundAddress, .inl (cI, 101, .inl o_foundAddress)), (q_foundDistance, .inl (cI, 101, .inl o_foundDistance)), (q_foundParent, .inl (cI, 101, .inl o_foundParent)), (q_wordAt, .inl (cI, 4096, .inl o_wordAt))] (va_A [(h0, .inr (6, [.int v_routers, .ref q_parentOf, .ref q_addressOf, .ref q_depthOf, .int v_percent, .int v_random, .int v_distance, .int v_offset, .int v_value, .int v_isMade, .ref q_marks, .int v_received, .int v_unmarked, .ref q_missing, .int v_nodes, .ref q_nodeAddresses, .ref q_nodeDistances, .ref q_nodeParents, .int v_found, .ref q_foundAddress, .ref q_foundDistance, .ref q_foundParent, .int v_words, .ref q_wordAt])), (q_marks, .inl (cI, 4096, .inl a_marks)), (q_nodeAddresses, .inl (cI, 100, .inl a_nodeAddresses)), (q_nodeDistances, .inl (cI, 100, .inl a_nodeDistances)), (q_nodeParents, .inl (cI, 100, .inl a_nodeParents)), (q_foundAddress, .inl (cI, 101, .inl a_foundAddress)), (q_foundDistance, .inl (cI, 101, .inl a_foundDistance)), (q_foundParent, .inl (cI, 101, .inl a_foundParent)), (q_wordAt, .inl (cI, 4096, .inl a_wordAt))] sz)) 0 0 (va_A [(h0, .inr (6, [.int v_routers, .ref q_parentOf, .ref q_addressOf, .ref q_depthOf, .int v_percent, .int v_random, .int v_distance, .int v_offset, .int v_value, .int v_isMade, .ref q_marks, .int v_received, .int v_unmarked, .ref q_missing, .int v_nodes, .ref q_nodeAddresses, .ref q_nodeDistances, .ref q_nodeParents, .int v_found, .ref q_foundAddress, .ref q_foundDistance, .ref q_foundParent, .int v_words, .ref q_wordAt])), (q_marks, .inl (cI, 4096, .inl a_marks)), (q_nodeAddresses, .inl (cI, 100, .inl a_nodeAddresses)), (q_nodeDistances, .inl (cI, 100, .inl a_nodeDistances)), (q_nodeParents, .inl (cI, 100, .inl a_nodeParents)), (q_foundAddress, .inl (cI, 101, .inl a_foundAddress)), (q_foundDistance, .inl (cI, 101, .inl a_foundDistance)), (q_foundParent, .inl (cI, 101, .inl a_foundParent)), (q_wordAt, .inl (cI, 4096, .inl a_wordAt))] sz) := by
  refine ofX (cc := cX6_reconstruct) (maxL := 3) (ret := (some .int)) (lv0 := [(0, .ref h0)]) (QA := fun A => poI dC dI .int rr [(h0, .inr (6, [.int v_routers, .ref q_parentOf, .ref q_addressOf, .ref q_depthOf, .int v_percent, .int v_random, .int v_distance, .int v_offset, .int v_value, .int v_isMade, .ref q_marks, .int v_received, .int v_unmarked, .ref q_missing, .int o_nodes, .ref q_nodeAddresses, .ref q_nodeDistances, .ref q_nodeParents, .int o_found, .ref q_foundAddress, .ref q_foundDistance, .ref q_foundParent, .int o_words, .ref q_wordAt])), (q_marks, .inl (cI, 4096, .inl a_marks)), (q_nodeAddresses, .inl (cI, 100, .inl o_nodeAddresses)), (q_nodeDistances, .inl (cI, 100, .inl o_nodeDistances)), (q_nodeParents, .inl (cI, 100, .inl o_nodeParents)), (q_foundAddress, .inl (cI, 101, .inl o_foundAddress)), (q_foundDistance, .inl (cI, 101, .inl o_foundDistance)), (q_foundParent, .inl (cI, 101, .inl o_foundParent)), (q_wordAt, .inl (cI, 4096, .inl o_wordAt))] A) (by decide) rfl (Nat.le_of_ble_eq_true rfl) rfl ?_
  intro p e s m below meth c A ls H locs hx hb hr hml hown hts hlocks hin hK hN hA hP hD hS hl
  have hown : s.vm.findClass RX6 = some m.cls := hown
  unfold fX6_reconstruct at h
  have hiX6 : ∀ w ∈ u_ws RX6 TX6 24, w ∈ wsX6_reconstruct := fun _ h => List.mem_cons_of_mem _ (List.mem_append_right _ h)
  have hf147 := (hts (.fieldLink RX6 147 "PacketTracebackModel" "found" "I") (List.mem_of_getElem? (i := 1) (by decide +kernel)))
  have hf166 := (hts (.fieldLink RX6 166 "PacketTracebackModel" "nodes" "I") (List.mem_of_getElem? (i := 2) (by decide +kernel)))
  have hf25 := (hts (.fieldLink RX6 25 "PacketTracebackModel" "nodeAddresses" "[I") (List.mem_of_getElem? (i := 3) (by decide +kernel)))
  have hf34 := (hts (.fieldLink RX6 34 "PacketTracebackModel" "foundAddress" "[I") (List.mem_of_getElem? (i := 4) (by decide +kernel)))
  have hf28 := (hts (.fieldLink RX6 28 "PacketTracebackModel" "nodeDistances" "[I") (List.mem_of_getElem? (i := 5) (by decide +kernel)))
  have hf37 := (hts (.fieldLink RX6 37 "PacketTracebackModel" "foundDistance" "[I") (List.mem_of_getElem? (i := 6) (by decide +kernel)))
  have hf31 := (hts (.fieldLink RX6 31 "PacketTracebackModel" "nodeParents" "[I") (List.mem_of_getElem? (i := 7) (by decide +kernel)))
  have hf40 := (hts (.fieldLink RX6 40 "PacketTracebackModel" "foundParent" "[I") (List.mem_of_getElem? (i := 8) (by decide +kernel)))
  refine lv_aload_n hx hb dX6_reconstruct_0 rfl (lv_at hl 0 rfl) ?_
  refine lv_iconst (v := (0 : Int32)) hx hb dX6_reconstruct_1 (by decide) ?_
  refine va_put (D := (dC, dI)) (ci := 6) (v := .int (0 : Int32)) (ty := .int) (C := RX6) (T := TX6) (N := 24) hx hb hts hiX6 tyX6 tyX6_ok nmX6 hown hK hP hD hS 0 rfl rfl 18 (by decide) hf147 (fun _ h9 => h9) rfl (by decide +kernel) rfl rfl (Nat.le_of_ble_eq_true rfl) dX6_reconstruct_2 (fun H locs hP hD hS => ?_)
  have hP : va_P (dC, dI) vwCl [(h0, .inr (6, [.int v_routers, .ref q_parentOf, .ref q_addressOf, .ref q_depthOf, .int v_percent, .int v_random, .int v_distance, .int v_offset, .int v_value, .int v_isMade, .ref q_marks, .int v_received, .int v_unmarked, .ref q_missing, .int v_nodes, .ref q_nodeAddresses, .ref q_nodeDistances, .ref q_nodeParents, .int (0 : Int32), .ref q_foundAddress, .ref q_foundDistance, .ref q_foundParent, .int v_words, .ref q_wordAt])), (q_marks, .inl (cI, 4096, .inl a_marks)), (q_nodeAddresses, .inl (cI, 100, .inl a_nodeAddresses)), (q_nodeDistances, .inl (cI, 100, .inl a_nodeDistances)), (q_nodeParents, .inl (cI, 100, .inl a_nodeParents)), (q_foundAddress, .inl (cI, 101, .inl a_foundAddress)), (q_foundDistance, .inl (cI, 101, .inl a_foundDistance)), (q_foundParent, .inl (cI, 101, .inl a_foundParent)), (q_wordAt, .inl (cI, 4096, .inl a_wordAt))] H := hP
  have hD : va_D A [(h0, .inr (6, [.int v_routers, .ref q_parentOf, .ref q_addressOf, .ref q_depthOf, .int v_percent, .int v_random, .int v_distance, .int v_offset, .int v_value, .int v_isMade, .ref q_marks, .int v_received, .int v_unmarked, .ref q_missing, .int v_nodes, .ref q_nodeAddresses, .ref q_nodeDistances, .ref q_nodeParents, .int (0 : Int32), .ref q_foundAddress, .ref q_foundDistance, .ref q_foundParent, .int v_words, .ref q_wordAt])), (q_marks, .inl (cI, 4096, .inl a_marks)), (q_nodeAddresses, .inl (cI, 100, .inl a_nodeAddresses)), (q_nodeDistances, .inl (cI, 100, .inl a_nodeDistances)), (q_nodeParents, .inl (cI, 100, .inl a_nodeParents)), (q_foundAddress, .inl (cI, 101, .inl a_foundAddress)), (q_foundDistance, .inl (cI, 101, .inl a_foundDistance)), (q_foundParent, .inl (cI, 101, .inl a_foundParent)), (q_wordAt, .inl (cI, 4096, .inl a_wordAt))] := hD
  refine lv_iconst (v := (-1 : Int32)) hx hb dX6_reconstruct_5 (by decide) ?_
  refine lv_istore_n (lv' := [(1, .int (-1 : Int32)), (0, .ref h0)]) hx hb dX6_reconstruct_6 rfl hl (by decide) rfl (fun ls hl => ?_)
  refine lv_iconst (v := (0 : Int32)) hx hb dX6_reconstruct_7 (by decide) ?_
  refine lv_istore_n (lv' := [(2, .int (0 : Int32)), (1, .int (-1 : Int32)), (0, .ref h0)]) hx hb dX6_reconstruct_8 rfl hl (by decide) rfl (fun ls hl => ?_)
  have key9 : ∀ (n1 : Nat) (y1_9 : Int32) (y2_9 : Int32) (v_found_9 : Int32) (v_words_9 : Int32) (a_foundAddress_9 : Nat → Int32) (a_foundDistance_9 : Nat → Int32) (a_foundParent_9 : Nat → Int32) (a_wordAt_9 : Nat → Int32) (H : Heap) (locs : List Loc) (ls : Array Slot), lp (fun s => bX6_reconstruct_9 N v_nodes a_marks a_nodeAddresses a_nodeDistances a_nodeParents s.1 s.2.1 s.2.2.1 s.2.2.2.1 s.2.2.2.2.1 s.2.2.2.2.2.1 s.2.2.2.2.2.2.1 s.2.2.2.2.2.2.2) n1 (y1_9, y2_9, v_found_9, v_words_9, a_foundAddress_9, a_foundDistance_9, a_foundParent_9, a_wordAt_9) = some (rr, o_nodes, o_found, o_words, o_nodeAddresses, o_nodeDistances, o_nodeParents, o_foundAddress, o_foundDistance, o_foundParent, o_wordAt) → va_P (dC, dI) vwCl [(h0, .inr (6, [.int v_routers, .ref q_parentOf, .ref q_addressOf, .ref q_depthOf, .int v_percent, .int v_random, .int v_distance, .int v_offset, .int v_value, .int v_isMade, .ref q_marks, .int v_received, .int v_unmarked, .ref q_missing, .int v_nodes, .ref q_nodeAddresses, .ref q_nodeDistances, .ref q_nodeParents, .int v_found_9, .ref q_foundAddress, .ref q_foundDistance, .ref q_foundParent, .int v_words_9, .ref q_wordAt])), (q_marks, .inl (cI, 4096, .inl a_marks)), (q_nodeAddresses, .inl (cI, 100, .inl a_nodeAddresses)), (q_nodeDistances, .inl (cI, 100, .inl a_nodeDistances)), (q_nodeParents, .inl (cI, 100, .inl a_nodeParents)), (q_foundAddress, .inl (cI, 101, .inl a_foundAddress_9)), (q_foundDistance, .inl (cI, 101, .inl a_foundDistance_9)), (q_foundParent, .inl (cI, 101, .inl a_foundParent_9)), (q_wordAt, .inl (cI, 4096, .inl a_wordAt_9))] H → va_D A [(h0, .inr (6, [.int v_routers, .ref q_parentOf, .ref q_addressOf, .ref q_depthOf, .int v_percent, .int v_random, .int v_distance, .int v_offset, .int v_value, .int v_isMade, .ref q_marks, .int v_received, .int v_unmarked, .ref q_missing, .int v_nodes, .ref q_nodeAddresses, .ref q_nodeDistances, .ref q_nodeParents, .int v_found_9, .ref q_foundAddress, .ref q_foundDistance, .ref q_foundParent, .int v_words_9, .ref q_wordAt])), (q_marks, .inl (cI, 4096, .inl a_marks)), (q_nodeAddresses, .inl (cI, 100, .inl a_nodeAddresses)), (q_nodeDistances, .inl (cI, 100, .inl a_nodeDistances)), (q_nodeParents, .inl (cI, 100, .inl a_nodeParents)), (q_foundAddress, .inl (cI, 101, .inl a_foundAddress_9)), (q_foundDistance, .inl (cI, 101, .inl a_foundDistance_9)), (q_foundParent, .inl (cI, 101, .inl a_foundParent_9)), (q_wordAt, .inl (cI, 4096, .inl a_wordAt_9))] → va_S A s.heap H locs → lv_has ls 3 [(2, .int y2_9), (1, .int y1_9), (0, .ref h0)] → W p l e ({ frames := 5, cells := 0, slots := 0, locals := 118 } : Room) s m [.ref h0].toArray below meth c H locs 0 0 (MQ below (poI dC dI .int rr [(h0, .inr (6, [.int v_routers, .ref q_parentOf, .ref q_addressOf, .ref q_depthOf, .int v_percent, .int v_random, .int v_distance, .int v_offset, .int v_value, .int v_isMade, .ref q_marks, .int v_received, .int v_unmarked, .ref q_missing, .int o_nodes, .ref q_nodeAddresses, .ref q_nodeDistances, .ref q_nodeParents, .int o_found, .ref q_foundAddress, .ref q_foundDistance, .ref q_foundParent, .int o_words, .ref q_wordAt])), (q_marks, .inl (cI, 4096, .inl a_marks)), (q_nodeAddresses, .inl (cI, 100, .inl o_nodeAddresses)), (q_nodeDistances, .inl (cI, 100, .inl o_nodeDistances)), (q_nodeParents, .inl (cI, 100, .inl o_nodeParents)), (q_foundAddress, .inl (cI, 101, .inl o_foundAddress)), (q_foundDistance, .inl (cI, 101, .inl o_foundDistance)), (q_foundParent, .inl (cI, 101, .inl o_foundParent)), (q_wordAt, .inl (cI, 4096, .inl o_wordAt))] A) [.ref h0].toArray s 0 0 A) (F0 m 9 ls []) := by
    intro n1
    induction n1 with
    | zero =>
      intro y1_9 y2_9 v_found_9 v_words_9 a_foundAddress_9 a_foundDistance_9 a_foundParent_9 a_wordAt_9 H locs ls h
      exact (lp_0 h).elim
    | succ n1 ih1 =>
      intro y1_9 y2_9 v_found_9 v_words_9 a_foundAddress_9 a_foundDistance_9 a_foundParent_9 a_wordAt_9 H locs ls h hP hD hS hl
      obtain ⟨o1, h, hk1⟩ := lp_s h
      unfold bX6_reconstruct_9 at h
      try dsimp only at h
      refine lv_iload_n hx hb dX6_reconstruct_9 rfl (lv_at hl 0 rfl) ?_
      refine lv_bipush (v := (20 : Int32)) hx hb dX6_reconstruct_10 (by decide) ?_
      refine lv_icmp_gt (tgt := 45) hx hb dX6_reconstruct_12 (by decide) (fun c1 => ?_) (fun c1 => ?_)
      · have h := it_p c1 h
        refine lv_aload_n hx hb dX6_reconstruct_45 rfl (lv_at hl 2 rfl) ?_
        refine lv_aload_n hx hb dX6_reconstruct_46 rfl (lv_at hl 2 rfl) ?_
        refine va_get (D := (dC, dI)) (ci := 6) (v := .int v_found_9) (C := RX6) (T := TX6) (N := 24) hx hb hts hiX6 hown hK hP 0 rfl rfl 18 (by decide) hf147 (fun _ h9 => h9) rfl dX6_reconstruct_47 ?_
        refine va_put (D := (dC, dI)) (ci := 6) (v := .int v_found_9) (ty := .int) (C := RX6) (T := TX6) (N := 24) hx hb hts hiX6 tyX6 tyX6_ok nmX6 hown hK hP hD hS 0 rfl rfl 14 (by decide) hf166 (fun _ h9 => h9) rfl (by decide +kernel) rfl rfl (Nat.le_of_ble_eq_true rfl) dX6_reconstruct_50 (fun H locs hP hD hS => ?_)
        have hP : va_P (dC, dI) vwCl [(h0, .inr (6, [.int v_routers, .ref q_parentOf, .ref q_addressOf, .ref q_depthOf, .int v_percent, .int v_random, .int v_distance, .int v_offset, .int v_value, .int v_isMade, .ref q_marks, .int v_received, .int v_unmarked, .ref q_missing, .int v_found_9, .ref q_nodeAddresses, .ref q_nodeDistances, .ref q_nodeParents, .int v_found_9, .ref q_foundAddress, .ref q_foundDistance, .ref q_foundParent, .int v_words_9, .ref q_wordAt])), (q_marks, .inl (cI, 4096, .inl a_marks)), (q_nodeAddresses, .inl (cI, 100, .inl a_nodeAddresses)), (q_nodeDistances, .inl (cI, 100, .inl a_nodeDistances)), (q_nodeParents, .inl (cI, 100, .inl a_nodeParents)), (q_foundAddress, .inl (cI, 101, .inl a_foundAddress_9)), (q_foundDistance, .inl (cI, 101, .inl a_foundDistance_9)), (q_foundParent, .inl (cI, 101, .inl a_foundParent_9)), (q_wordAt, .inl (cI, 4096, .inl a_wordAt_9))] H := hP
        have hD : va_D A [(h0, .inr (6, [.int v_routers, .ref q_parentOf, .ref q_addressOf, .ref q_depthOf, .int v_percent, .int v_random, .int v_distance, .int v_offset, .int v_value, .int v_isMade, .ref q_marks, .int v_received, .int v_unmarked, .ref q_missing, .int v_found_9, .ref q_nodeAddresses, .ref q_nodeDistances, .ref q_nodeParents, .int v_found_9, .ref q_foundAddress, .ref q_foundDistance, .ref q_foundParent, .int v_words_9, .ref q_wordAt])), (q_marks, .inl (cI, 4096, .inl a_marks)), (q_nodeAddresses, .inl (cI, 100, .inl a_nodeAddresses)), (q_nodeDistances, .inl (cI, 100, .inl a_nodeDistances)), (q_nodeParents, .inl (cI, 100, .inl a_nodeParents)), (q_foundAddress, .inl (cI, 101, .inl a_foundAddress_9)), (q_foundDistance, .inl (cI, 101, .inl a_foundDistance_9)), (q_foundParent, .inl (cI, 101, .inl a_foundParent_9)), (q_wordAt, .inl (cI, 4096, .inl a_wordAt_9))] := hD
        refine lv_iconst (v := (0 : Int32)) hx hb dX6_reconstruct_53 (by decide) ?_
        refine lv_istore_n (lv' := [(2, .int (0 : Int32)), (1, .int y1_9), (0, .ref h0)]) hx hb dX6_reconstruct_54 rfl hl (by decide) rfl (fun ls hl => ?_)
        obtain ⟨z55, h8, h9⟩ := bd1_e h
        clear h
        cases Option.some.inj h9
        have hk1 := un_r hk1
        cases hk1
        have key55 : ∀ (y1_55 : Int32) (n1 : Nat) (y2_55 : Int32) (a_nodeAddresses_55 : Nat → Int32) (a_nodeDistances_55 : Nat → Int32) (a_nodeParents_55 : Nat → Int32) (H : Heap) (locs : List Loc) (ls : Array Slot), lp (fun s => bX6_reconstruct_55 v_found_9 v_words_9 a_foundAddress_9 a_foundDistance_9 a_foundParent_9 a_wordAt_9 s.1 s.2.1 s.2.2.1 s.2.2.2) n1 (y2_55, a_nodeAddresses_55, a_nodeDistances_55, a_nodeParents_55) = some (rr, o_nodes, o_found, o_words, o_nodeAddresses, o_nodeDistances, o_nodeParents, o_foundAddress, o_foundDistance, o_foundParent, o_wordAt) → va_P (dC, dI) vwCl [(h0, .inr (6, [.int v_routers, .ref q_parentOf, .ref q_addressOf, .ref q_depthOf, .int v_percent, .int v_random, .int v_distance, .int v_offset, .int v_value, .int v_isMade, .ref q_marks, .int v_received, .int v_unmarked, .ref q_missing, .int v_found_9, .ref q_nodeAddresses, .ref q_nodeDistances, .ref q_nodeParents, .int v_found_9, .ref q_foundAddress, .ref q_foundDistance, .ref q_foundParent, .int v_words_9, .ref q_wordAt])), (q_marks, .inl (cI, 4096, .inl a_marks)), (q_nodeAddresses, .inl (cI, 100, .inl a_nodeAddresses_55)), (q_nodeDistances, .inl (cI, 100, .inl a_nodeDistances_55)), (q_nodeParents, .inl (cI, 100, .inl a_nodeParents_55)), (q_foundAddress, .inl (cI, 101, .inl a_foundAddress_9)), (q_foundDistance, .inl (cI, 101, .inl a_foundDistance_9)), (q_foundParent, .inl (cI, 101, .inl a_foundParent_9)), (q_wordAt, .inl (cI, 4096, .inl a_wordAt_9))] H → va_D A [(h0, .inr (6, [.int v_routers, .ref q_parentOf, .ref q_addressOf, .ref q_depthOf, .int v_percent, .int v_random, .int v_distance, .int v_offset, .int v_value, .int v_isMade, .ref q_marks, .int v_received, .int v_unmarked, .ref q_missing, .int v_found_9, .ref q_nodeAddresses, .ref q_nodeDistances, .ref q_nodeParents, .int v_found_9, .ref q_foundAddress, .ref q_foundDistance, .ref q_foundParent, .int v_words_9, .ref q_wordAt])), (q_marks, .inl (cI, 4096, .inl a_marks)), (q_nodeAddresses, .inl (cI, 100, .inl a_nodeAddresses_55)), (q_nodeDistances, .inl (cI, 100, .inl a_nodeDistances_55)), (q_nodeParents, .inl (cI, 100, .inl a_nodeParents_55)), (q_foundAddress, .inl (cI, 101, .inl a_foundAddress_9)), (q_foundDistance, .inl (cI, 101, .inl a_foundDistance_9)), (q_foundParent, .inl (cI, 101, .inl a_foundParent_9)), (q_wordAt, .inl (cI, 4096, .inl a_wordAt_9))] → va_S A s.heap H locs → lv_has ls 3 [(2, .int y2_55), (1, .int y1_55), (0, .ref h0)] → W p l e ({ frames := 5, cells := 0, slots := 0, locals := 118 } : Room) s m [.ref h0].toArray below meth c H locs 0 0 (MQ below (poI dC dI .int rr [(h0, .inr (6, [.int v_routers, .ref q_parentOf, .ref q_addressOf, .ref q_depthOf, .int v_percent, .int v_random, .int v_distance, .int v_offset, .int v_value, .int v_isMade, .ref q_marks, .int v_received, .int v_unmarked, .ref q_missing, .int o_nodes, .ref q_nodeAddresses, .ref q_nodeDistances, .ref q_nodeParents, .int o_found, .ref q_foundAddress, .ref q_foundDistance, .ref q_foundParent, .int o_words, .ref q_wordAt])), (q_marks, .inl (cI, 4096, .inl a_marks)), (q_nodeAddresses, .inl (cI, 100, .inl o_nodeAddresses)), (q_nodeDistances, .inl (cI, 100, .inl o_nodeDistances)), (q_nodeParents, .inl (cI, 100, .inl o_nodeParents)), (q_foundAddress, .inl (cI, 101, .inl o_foundAddress)), (q_foundDistance, .inl (cI, 101, .inl o_foundDistance)), (q_foundParent, .inl (cI, 101, .inl o_foundParent)), (q_wordAt, .inl (cI, 4096, .inl o_wordAt))] A) [.ref h0].toArray s 0 0 A) (F0 m 55 ls []) := by
          intro y1_55
          intro n1
          induction n1 with
          | zero =>
            intro y2_55 a_nodeAddresses_55 a_nodeDistances_55 a_nodeParents_55 H locs ls h
            exact (lp_0 h).elim
          | succ n1 ih1 =>
            intro y2_55 a_nodeAddresses_55 a_nodeDistances_55 a_nodeParents_55 H locs ls h hP hD hS hl
            obtain ⟨o1, h, hk1⟩ := lp_s h
            unfold bX6_reconstruct_55 at h
            try dsimp only at h
            refine lv_iload_n hx hb dX6_reconstruct_55 rfl (lv_at hl 0 rfl) ?_
            refine lv_aload_n hx hb dX6_reconstruct_56 rfl (lv_at hl 2 rfl) ?_
            refine va_get (D := (dC, dI)) (ci := 6) (v := .int v_found_9) (C := RX6) (T := TX6) (N := 24) hx hb hts hiX6 hown hK hP 0 rfl rfl 14 (by decide) hf166 (fun _ h9 => h9) rfl dX6_reconstruct_57 ?_
            refine lv_icmp_ge (tgt := 105) hx hb dX6_reconstruct_60 (by decide) (fun c2 => ?_) (fun c2 => ?_)
            · have h := it_p c2 h
              refine lv_aload_n hx hb dX6_reconstruct_105 rfl (lv_at hl 2 rfl) ?_
              refine va_get (D := (dC, dI)) (ci := 6) (v := .int v_found_9) (C := RX6) (T := TX6) (N := 24) hx hb hts hiX6 hown hK hP 0 rfl rfl 14 (by decide) hf166 (fun _ h9 => h9) rfl dX6_reconstruct_106 ?_
              cases Option.some.inj h
              have hk1 := un_r hk1
              cases hk1
              exact re_i [0, 1, 2, 3, 4, 5, 6, 7, 8] hx hb hr hlocks rfl hP hD hS rfl (by decide) rfl dX6_reconstruct_109
            · have h := it_n c2 h
              refine lv_aload_n hx hb dX6_reconstruct_63 rfl (lv_at hl 2 rfl) ?_
              refine va_get (D := (dC, dI)) (ci := 6) (v := .ref q_nodeAddresses) (C := RX6) (T := TX6) (N := 24) hx hb hts hiX6 hown hK hP 0 rfl rfl 15 (by decide) hf25 (fun _ h9 => h9) rfl dX6_reconstruct_64 ?_
              refine lv_iload_n hx hb dX6_reconstruct_67 rfl (lv_at hl 0 rfl) ?_
              refine lv_aload_n hx hb dX6_reconstruct_68 rfl (lv_at hl 2 rfl) ?_
              refine va_get (D := (dC, dI)) (ci := 6) (v := .ref q_foundAddress) (C := RX6) (T := TX6) (N := 24) hx hb hts hiX6 hown hK hP 0 rfl rfl 19 (by decide) hf34 (fun _ h9 => h9) rfl dX6_reconstruct_69 ?_
              refine lv_iload_n hx hb dX6_reconstruct_72 rfl (lv_at hl 0 rfl) ?_
              obtain ⟨g3, h⟩ := gd_e h
              refine va_iald hx hb hK hP 5 0 rfl rfl g3 dX6_reconstruct_73 ?_
              obtain ⟨g4, h⟩ := gd_e h
              refine va_iast hx hb hK hP hD hS 2 0 rfl rfl g4 dX6_reconstruct_74 (fun H locs hP hD hS => ?_)
              have hP : va_P (dC, dI) vwCl [(h0, .inr (6, [.int v_routers, .ref q_parentOf, .ref q_addressOf, .ref q_depthOf, .int v_percent, .int v_random, .int v_distance, .int v_offset, .int v_value, .int v_isMade, .ref q_marks, .int v_received, .int v_unmarked, .ref q_missing, .int v_found_9, .ref q_nodeAddresses, .ref q_nodeDistances, .ref q_nodeParents, .int v_found_9, .ref q_foundAddress, .ref q_foundDistance, .ref q_foundParent, .int v_words_9, .ref q_wordAt])), (q_marks, .inl (cI, 4096, .inl a_marks)), (q_nodeAddresses, .inl (cI, 100, .inl (upd a_nodeAddresses_55 y2_55.toNatClampNeg (a_foundAddress_9 y2_55.toNatClampNeg)))), (q_nodeDistances, .inl (cI, 100, .inl a_nodeDistances_55)), (q_nodeParents, .inl (cI, 100, .inl a_nodeParents_55)), (q_foundAddress, .inl (cI, 101, .inl a_foundAddress_9)), (q_foundDistance, .inl (cI, 101, .inl a_foundDistance_9)), (q_foundParent, .inl (cI, 101, .inl a_foundParent_9)), (q_wordAt, .inl (cI, 4096, .inl a_wordAt_9))] H := hP
              have hD : va_D A [(h0, .inr (6, [.int v_routers, .ref q_parentOf, .ref q_addressOf, .ref q_depthOf, .int v_percent, .int v_random, .int v_distance, .int v_offset, .int v_value, .int v_isMade, .ref q_marks, .int v_received, .int v_unmarked, .ref q_missing, .int v_found_9, .ref q_nodeAddresses, .ref q_nodeDistances, .ref q_nodeParents, .int v_found_9, .ref q_foundAddress, .ref q_foundDistance, .ref q_foundParent, .int v_words_9, .ref q_wordAt])), (q_marks, .inl (cI, 4096, .inl a_marks)), (q_nodeAddresses, .inl (cI, 100, .inl (upd a_nodeAddresses_55 y2_55.toNatClampNeg (a_foundAddress_9 y2_55.toNatClampNeg)))), (q_nodeDistances, .inl (cI, 100, .inl a_nodeDistances_55)), (q_nodeParents, .inl (cI, 100, .inl a_nodeParents_55)), (q_foundAddress, .inl (cI, 101, .inl a_foundAddress_9)), (q_foundDistance, .inl (cI, 101, .inl a_foundDistance_9)), (q_foundParent, .inl (cI, 101, .inl a_foundParent_9)), (q_wordAt, .inl (cI, 4096, .inl a_wordAt_9))] := hD
              refine lv_aload_n hx hb dX6_reconstruct_75 rfl (lv_at hl 2 rfl) ?_
              refine va_get (D := (dC, dI)) (ci := 6) (v := .ref q_nodeDistances) (C := RX6) (T := TX6) (N := 24) hx hb hts hiX6 hown hK hP 0 rfl rfl 16 (by decide) hf28 (fun _ h9 => h9) rfl dX6_reconstruct_76 ?_
              refine lv_iload_n hx hb dX6_reconstruct_79 rfl (lv_at hl 0 rfl) ?_
              refine lv_aload_n hx hb dX6_reconstruct_80 rfl (lv_at hl 2 rfl) ?_
              refine va_get (D := (dC, dI)) (ci := 6) (v := .ref q_foundDistance) (C := RX6) (T := TX6) (N := 24) hx hb hts hiX6 hown hK hP 0 rfl rfl 20 (by decide) hf37 (fun _ h9 => h9) rfl dX6_reconstruct_81 ?_
              refine lv_iload_n hx hb dX6_reconstruct_84 rfl (lv_at hl 0 rfl) ?_
              obtain ⟨g5, h⟩ := gd_e h
              refine va_iald hx hb hK hP 6 0 rfl rfl g5 dX6_reconstruct_85 ?_
              obtain ⟨g6, h⟩ := gd_e h
              refine va_iast hx hb hK hP hD hS 3 0 rfl rfl g6 dX6_reconstruct_86 (fun H locs hP hD hS => ?_)
              have hP : va_P (dC, dI) vwCl [(h0, .inr (6, [.int v_routers, .ref q_parentOf, .ref q_addressOf, .ref q_depthOf, .int v_percent, .int v_random, .int v_distance, .int v_offset, .int v_value, .int v_isMade, .ref q_marks, .int v_received, .int v_unmarked, .ref q_missing, .int v_found_9, .ref q_nodeAddresses, .ref q_nodeDistances, .ref q_nodeParents, .int v_found_9, .ref q_foundAddress, .ref q_foundDistance, .ref q_foundParent, .int v_words_9, .ref q_wordAt])), (q_marks, .inl (cI, 4096, .inl a_marks)), (q_nodeAddresses, .inl (cI, 100, .inl (upd a_nodeAddresses_55 y2_55.toNatClampNeg (a_foundAddress_9 y2_55.toNatClampNeg)))), (q_nodeDistances, .inl (cI, 100, .inl (upd a_nodeDistances_55 y2_55.toNatClampNeg (a_foundDistance_9 y2_55.toNatClampNeg)))), (q_nodeParents, .inl (cI, 100, .inl a_nodeParents_55)), (q_foundAddress, .inl (cI, 101, .inl a_foundAddress_9)), (q_foundDistance, .inl (cI, 101, .inl a_foundDistance_9)), (q_foundParent, .inl (cI, 101, .inl a_foundParent_9)), (q_wordAt, .inl (cI, 4096, .inl a_wordAt_9))] H := hP
              have hD : va_D A [(h0, .inr (6, [.int v_routers, .ref q_parentOf, .ref q_addressOf, .ref q_depthOf, .int v_percent, .int v_random, .int v_distance, .int v_offset, .int v_value, .int v_isMade, .ref q_marks, .int v_received, .int v_unmarked, .ref q_missing, .int v_found_9, .ref q_nodeAddresses, .ref q_nodeDistances, .ref q_nodeParents, .int v_found_9, .ref q_foundAddress, .ref q_foundDistance, .ref q_foundParent, .int v_words_9, .ref q_wordAt])), (q_marks, .inl (cI, 4096, .inl a_marks)), (q_nodeAddresses, .inl (cI, 100, .inl (upd a_nodeAddresses_55 y2_55.toNatClampNeg (a_foundAddress_9 y2_55.toNatClampNeg)))), (q_nodeDistances, .inl (cI, 100, .inl (upd a_nodeDistances_55 y2_55.toNatClampNeg (a_foundDistance_9 y2_55.toNatClampNeg)))), (q_nodeParents, .inl (cI, 100, .inl a_nodeParents_55)), (q_foundAddress, .inl (cI, 101, .inl a_foundAddress_9)), (q_foundDistance, .inl (cI, 101, .inl a_foundDistance_9)), (q_foundParent, .inl (cI, 101, .inl a_foundParent_9)), (q_wordAt, .inl (cI, 4096, .inl a_wordAt_9))] := hD
              refine lv_aload_n hx hb dX6_reconstruct_87 rfl (lv_at hl 2 rfl) ?_
              refine va_get (D := (dC, dI)) (ci := 6) (v := .ref q_nodeParents) (C := RX6) (T := TX6) (N := 24) hx hb hts hiX6 hown hK hP 0 rfl rfl 17 (by decide) hf31 (fun _ h9 => h9) rfl dX6_reconstruct_88 ?_
              refine lv_iload_n hx hb dX6_reconstruct_91 rfl (lv_at hl 0 rfl) ?_
              refine lv_aload_n hx hb dX6_reconstruct_92 rfl (lv_at hl 2 rfl) ?_
              refine va_get (D := (dC, dI)) (ci := 6) (v := .ref q_foundParent) (C := RX6) (T := TX6) (N := 24) hx hb hts hiX6 hown hK hP 0 rfl rfl 21 (by decide) hf40 (fun _ h9 => h9) rfl dX6_reconstruct_93 ?_
              refine lv_iload_n hx hb dX6_reconstruct_96 rfl (lv_at hl 0 rfl) ?_
              obtain ⟨g7, h⟩ := gd_e h
              refine va_iald hx hb hK hP 7 0 rfl rfl g7 dX6_reconstruct_97 ?_
              obtain ⟨g8, h⟩ := gd_e h
              refine va_iast hx hb hK hP hD hS 4 0 rfl rfl g8 dX6_reconstruct_98 (fun H locs hP hD hS => ?_)
              have hP : va_P (dC, dI) vwCl [(h0, .inr (6, [.int v_routers, .ref q_parentOf, .ref q_addressOf, .ref q_depthOf, .int v_percent, .int v_random, .int v_distance, .int v_offset, .int v_value, .int v_isMade, .ref q_marks, .int v_received, .int v_unmarked, .ref q_missing, .int v_found_9, .ref q_nodeAddresses, .ref q_nodeDistances, .ref q_nodeParents, .int v_found_9, .ref q_foundAddress, .ref q_foundDistance, .ref q_foundParent, .int v_words_9, .ref q_wordAt])), (q_marks, .inl (cI, 4096, .inl a_marks)), (q_nodeAddresses, .inl (cI, 100, .inl (upd a_nodeAddresses_55 y2_55.toNatClampNeg (a_foundAddress_9 y2_55.toNatClampNeg)))), (q_nodeDistances, .inl (cI, 100, .inl (upd a_nodeDistances_55 y2_55.toNatClampNeg (a_foundDistance_9 y2_55.toNatClampNeg)))), (q_nodeParents, .inl (cI, 100, .inl (upd a_nodeParents_55 y2_55.toNatClampNeg (a_foundParent_9 y2_55.toNatClampNeg)))), (q_foundAddress, .inl (cI, 101, .inl a_foundAddress_9)), (q_foundDistance, .inl (cI, 101, .inl a_foundDistance_9)), (q_foundParent, .inl (cI, 101, .inl a_foundParent_9)), (q_wordAt, .inl (cI, 4096, .inl a_wordAt_9))] H := hP
              have hD : va_D A [(h0, .inr (6, [.int v_routers, .ref q_parentOf, .ref q_addressOf, .ref q_depthOf, .int v_percent, .int v_random, .int v_distance, .int v_offset, .int v_value, .int v_isMade, .ref q_marks, .int v_received, .int v_unmarked, .ref q_missing, .int v_found_9, .ref q_nodeAddresses, .ref q_nodeDistances, .ref q_nodeParents, .int v_found_9, .ref q_foundAddress, .ref q_foundDistance, .ref q_foundParent, .int v_words_9, .ref q_wordAt])), (q_marks, .inl (cI, 4096, .inl a_marks)), (q_nodeAddresses, .inl (cI, 100, .inl (upd a_nodeAddresses_55 y2_55.toNatClampNeg (a_foundAddress_9 y2_55.toNatClampNeg)))), (q_nodeDistances, .inl (cI, 100, .inl (upd a_nodeDistances_55 y2_55.toNatClampNeg (a_foundDistance_9 y2_55.toNatClampNeg)))), (q_nodeParents, .inl (cI, 100, .inl (upd a_nodeParents_55 y2_55.toNatClampNeg (a_foundParent_9 y2_55.toNatClampNeg)))), (q_foundAddress, .inl (cI, 101, .inl a_foundAddress_9)), (q_foundDistance, .inl (cI, 101, .inl a_foundDistance_9)), (q_foundParent, .inl (cI, 101, .inl a_foundParent_9)), (q_wordAt, .inl (cI, 4096, .inl a_wordAt_9))] := hD
              refine lv_iinc (v := y2_55 + 1) (lv' := [(2, .int (y2_55 + 1)), (1, .int y1_55), (0, .ref h0)]) hx hb dX6_reconstruct_99 hl (k := 0) rfl rfl (by decide) rfl (fun ls hl => ?_)
              refine lv_goto (tgt := 55) hx hb dX6_reconstruct_102 (by decide) ?_
              cases Option.some.inj h
              exact ih1 _ _ _ _ _ _ _ (un_l hk1) (hP.sub [0, 1, 2, 3, 4, 5, 6, 7, 8] rfl) (hD.sub [0, 1, 2, 3, 4, 5, 6, 7, 8] (by decide) rfl) hS (lv_sub hl [0, 1, 2] rfl)
        exact key55 y1_9 N _ _ _ _ _ _ _ h8 hP hD hS hl
      · have h := it_n c1 h
        refine lv_aload_n hx hb dX6_reconstruct_15 rfl (lv_at hl 2 rfl) ?_
        refine va_get (D := (dC, dI)) (ci := 6) (v := .int v_found_9) (C := RX6) (T := TX6) (N := 24) hx hb hts hiX6 hown hK hP 0 rfl rfl 18 (by decide) hf147 (fun _ h9 => h9) rfl dX6_reconstruct_16 ?_
        refine lv_iload_n hx hb dX6_reconstruct_19 rfl (lv_at hl 1 rfl) ?_
        refine lv_icmp_le (tgt := 45) hx hb dX6_reconstruct_20 (by decide) (fun c9 => ?_) (fun c9 => ?_)
        · have h := it_p c9 h
          refine lv_aload_n hx hb dX6_reconstruct_45 rfl (lv_at hl 2 rfl) ?_
          refine lv_aload_n hx hb dX6_reconstruct_46 rfl (lv_at hl 2 rfl) ?_
          refine va_get (D := (dC, dI)) (ci := 6) (v := .int v_found_9) (C := RX6) (T := TX6) (N := 24) hx hb hts hiX6 hown hK hP 0 rfl rfl 18 (by decide) hf147 (fun _ h9 => h9) rfl dX6_reconstruct_47 ?_
          refine va_put (D := (dC, dI)) (ci := 6) (v := .int v_found_9) (ty := .int) (C := RX6) (T := TX6) (N := 24) hx hb hts hiX6 tyX6 tyX6_ok nmX6 hown hK hP hD hS 0 rfl rfl 14 (by decide) hf166 (fun _ h9 => h9) rfl (by decide +kernel) rfl rfl (Nat.le_of_ble_eq_true rfl) dX6_reconstruct_50 (fun H locs hP hD hS => ?_)
          have hP : va_P (dC, dI) vwCl [(h0, .inr (6, [.int v_routers, .ref q_parentOf, .ref q_addressOf, .ref q_depthOf, .int v_percent, .int v_random, .int v_distance, .int v_offset, .int v_value, .int v_isMade, .ref q_marks, .int v_received, .int v_unmarked, .ref q_missing, .int v_found_9, .ref q_nodeAddresses, .ref q_nodeDistances, .ref q_nodeParents, .int v_found_9, .ref q_foundAddress, .ref q_foundDistance, .ref q_foundParent, .int v_words_9, .ref q_wordAt])), (q_marks, .inl (cI, 4096, .inl a_marks)), (q_nodeAddresses, .inl (cI, 100, .inl a_nodeAddresses)), (q_nodeDistances, .inl (cI, 100, .inl a_nodeDistances)), (q_nodeParents, .inl (cI, 100, .inl a_nodeParents)), (q_foundAddress, .inl (cI, 101, .inl a_foundAddress_9)), (q_foundDistance, .inl (cI, 101, .inl a_foundDistance_9)), (q_foundParent, .inl (cI, 101, .inl a_foundParent_9)), (q_wordAt, .inl (cI, 4096, .inl a_wordAt_9))] H := hP
          have hD : va_D A [(h0, .inr (6, [.int v_routers, .ref q_parentOf, .ref q_addressOf, .ref q_depthOf, .int v_percent, .int v_random, .int v_distance, .int v_offset, .int v_value, .int v_isMade, .ref q_marks, .int v_received, .int v_unmarked, .ref q_missing, .int v_found_9, .ref q_nodeAddresses, .ref q_nodeDistances, .ref q_nodeParents, .int v_found_9, .ref q_foundAddress, .ref q_foundDistance, .ref q_foundParent, .int v_words_9, .ref q_wordAt])), (q_marks, .inl (cI, 4096, .inl a_marks)), (q_nodeAddresses, .inl (cI, 100, .inl a_nodeAddresses)), (q_nodeDistances, .inl (cI, 100, .inl a_nodeDistances)), (q_nodeParents, .inl (cI, 100, .inl a_nodeParents)), (q_foundAddress, .inl (cI, 101, .inl a_foundAddress_9)), (q_foundDistance, .inl (cI, 101, .inl a_foundDistance_9)), (q_foundParent, .inl (cI, 101, .inl a_foundParent_9)), (q_wordAt, .inl (cI, 4096, .inl a_wordAt_9))] := hD
          refine lv_iconst (v := (0 : Int32)) hx hb dX6_reconstruct_53 (by decide) ?_
          refine lv_istore_n (lv' := [(2, .int (0 : Int32)), (1, .int y1_9), (0, .ref h0)]) hx hb dX6_reconstruct_54 rfl hl (by decide) rfl (fun ls hl => ?_)
          obtain ⟨z55, h8, h9⟩ := bd1_e h
          clear h
          cases Option.some.inj h9
          have hk1 := un_r hk1
          cases hk1
          have key55 : ∀ (y1_55 : Int32) (n1 : Nat) (y2_55 : Int32) (a_nodeAddresses_55 : Nat → Int32) (a_nodeDistances_55 : Nat → Int32) (a_nodeParents_55 : Nat → Int32) (H : Heap) (locs : List Loc) (ls : Array Slot), lp (fun s => bX6_reconstruct_55 v_found_9 v_words_9 a_foundAddress_9 a_foundDistance_9 a_foundParent_9 a_wordAt_9 s.1 s.2.1 s.2.2.1 s.2.2.2) n1 (y2_55, a_nodeAddresses_55, a_nodeDistances_55, a_nodeParents_55) = some (rr, o_nodes, o_found, o_words, o_nodeAddresses, o_nodeDistances, o_nodeParents, o_foundAddress, o_foundDistance, o_foundParent, o_wordAt) → va_P (dC, dI) vwCl [(h0, .inr (6, [.int v_routers, .ref q_parentOf, .ref q_addressOf, .ref q_depthOf, .int v_percent, .int v_random, .int v_distance, .int v_offset, .int v_value, .int v_isMade, .ref q_marks, .int v_received, .int v_unmarked, .ref q_missing, .int v_found_9, .ref q_nodeAddresses, .ref q_nodeDistances, .ref q_nodeParents, .int v_found_9, .ref q_foundAddress, .ref q_foundDistance, .ref q_foundParent, .int v_words_9, .ref q_wordAt])), (q_marks, .inl (cI, 4096, .inl a_marks)), (q_nodeAddresses, .inl (cI, 100, .inl a_nodeAddresses_55)), (q_nodeDistances, .inl (cI, 100, .inl a_nodeDistances_55)), (q_nodeParents, .inl (cI, 100, .inl a_nodeParents_55)), (q_foundAddress, .inl (cI, 101, .inl a_foundAddress_9)), (q_foundDistance, .inl (cI, 101, .inl a_foundDistance_9)), (q_foundParent, .inl (cI, 101, .inl a_foundParent_9)), (q_wordAt, .inl (cI, 4096, .inl a_wordAt_9))] H → va_D A [(h0, .inr (6, [.int v_routers, .ref q_parentOf, .ref q_addressOf, .ref q_depthOf, .int v_percent, .int v_random, .int v_distance, .int v_offset, .int v_value, .int v_isMade, .ref q_marks, .int v_received, .int v_unmarked, .ref q_missing, .int v_found_9, .ref q_nodeAddresses, .ref q_nodeDistances, .ref q_nodeParents, .int v_found_9, .ref q_foundAddress, .ref q_foundDistance, .ref q_foundParent, .int v_words_9, .ref q_wordAt])), (q_marks, .inl (cI, 4096, .inl a_marks)), (q_nodeAddresses, .inl (cI, 100, .inl a_nodeAddresses_55)), (q_nodeDistances, .inl (cI, 100, .inl a_nodeDistances_55)), (q_nodeParents, .inl (cI, 100, .inl a_nodeParents_55)), (q_foundAddress, .inl (cI, 101, .inl a_foundAddress_9)), (q_foundDistance, .inl (cI, 101, .inl a_foundDistance_9)), (q_foundParent, .inl (cI, 101, .inl a_foundParent_9)), (q_wordAt, .inl (cI, 4096, .inl a_wordAt_9))] → va_S A s.heap H locs → lv_has ls 3 [(2, .int y2_55), (1, .int y1_55), (0, .ref h0)] → W p l e ({ frames := 5, cells := 0, slots := 0, locals := 118 } : Room) s m [.ref h0].toArray below meth c H locs 0 0 (MQ below (poI dC dI .int rr [(h0, .inr (6, [.int v_routers, .ref q_parentOf, .ref q_addressOf, .ref q_depthOf, .int v_percent, .int v_random, .int v_distance, .int v_offset, .int v_value, .int v_isMade, .ref q_marks, .int v_received, .int v_unmarked, .ref q_missing, .int o_nodes, .ref q_nodeAddresses, .ref q_nodeDistances, .ref q_nodeParents, .int o_found, .ref q_foundAddress, .ref q_foundDistance, .ref q_foundParent, .int o_words, .ref q_wordAt])), (q_marks, .inl (cI, 4096, .inl a_marks)), (q_nodeAddresses, .inl (cI, 100, .inl o_nodeAddresses)), (q_nodeDistances, .inl (cI, 100, .inl o_nodeDistances)), (q_nodeParents, .inl (cI, 100, .inl o_nodeParents)), (q_foundAddress, .inl (cI, 101, .inl o_foundAddress)), (q_foundDistance, .inl (cI, 101, .inl o_foundDistance)), (q_foundParent, .inl (cI, 101, .inl o_foundParent)), (q_wordAt, .inl (cI, 4096, .inl o_wordAt))] A) [.ref h0].toArray s 0 0 A) (F0 m 55 ls []) := by
            intro y1_55
            intro n1
            induction n1 with
            | zero =>
              intro y2_55 a_nodeAddresses_55 a_nodeDistances_55 a_nodeParents_55 H locs ls h
              exact (lp_0 h).elim
            | succ n1 ih1 =>
              intro y2_55 a_nodeAddresses_55 a_nodeDistances_55 a_nodeParents_55 H locs ls h hP hD hS hl
              obtain ⟨o1, h, hk1⟩ := lp_s h
              unfold bX6_reconstruct_55 at h
              try dsimp only at h
              refine lv_iload_n hx hb dX6_reconstruct_55 rfl (lv_at hl 0 rfl) ?_
              refine lv_aload_n hx hb dX6_reconstruct_56 rfl (lv_at hl 2 rfl) ?_
              refine va_get (D := (dC, dI)) (ci := 6) (v := .int v_found_9) (C := RX6) (T := TX6) (N := 24) hx hb hts hiX6 hown hK hP 0 rfl rfl 14 (by decide) hf166 (fun _ h9 => h9) rfl dX6_reconstruct_57 ?_
              refine lv_icmp_ge (tgt := 105) hx hb dX6_reconstruct_60 (by decide) (fun c10 => ?_) (fun c10 => ?_)
              · have h := it_p c10 h
                refine lv_aload_n hx hb dX6_reconstruct_105 rfl (lv_at hl 2 rfl) ?_
                refine va_get (D := (dC, dI)) (ci := 6) (v := .int v_found_9) (C := RX6) (T := TX6) (N := 24) hx hb hts hiX6 hown hK hP 0 rfl rfl 14 (by decide) hf166 (fun _ h9 => h9) rfl dX6_reconstruct_106 ?_
                cases Option.some.inj h
                have hk1 := un_r hk1
                cases hk1
                exact re_i [0, 1, 2, 3, 4, 5, 6, 7, 8] hx hb hr hlocks rfl hP hD hS rfl (by decide) rfl dX6_reconstruct_109
              · have h := it_n c10 h
                refine lv_aload_n hx hb dX6_reconstruct_63 rfl (lv_at hl 2 rfl) ?_
                refine va_get (D := (dC, dI)) (ci := 6) (v := .ref q_nodeAddresses) (C := RX6) (T := TX6) (N := 24) hx hb hts hiX6 hown hK hP 0 rfl rfl 15 (by decide) hf25 (fun _ h9 => h9) rfl dX6_reconstruct_64 ?_
                refine lv_iload_n hx hb dX6_reconstruct_67 rfl (lv_at hl 0 rfl) ?_
                refine lv_aload_n hx hb dX6_reconstruct_68 rfl (lv_at hl 2 rfl) ?_
                refine va_get (D := (dC, dI)) (ci := 6) (v := .ref q_foundAddress) (C := RX6) (T := TX6) (N := 24) hx hb hts hiX6 hown hK hP 0 rfl rfl 19 (by decide) hf34 (fun _ h9 => h9) rfl dX6_reconstruct_69 ?_
                refine lv_iload_n hx hb dX6_reconstruct_72 rfl (lv_at hl 0 rfl) ?_
                obtain ⟨g11, h⟩ := gd_e h
                refine va_iald hx hb hK hP 5 0 rfl rfl g11 dX6_reconstruct_73 ?_
                obtain ⟨g12, h⟩ := gd_e h
                refine va_iast hx hb hK hP hD hS 2 0 rfl rfl g12 dX6_reconstruct_74 (fun H locs hP hD hS => ?_)
                have hP : va_P (dC, dI) vwCl [(h0, .inr (6, [.int v_routers, .ref q_parentOf, .ref q_addressOf, .ref q_depthOf, .int v_percent, .int v_random, .int v_distance, .int v_offset, .int v_value, .int v_isMade, .ref q_marks, .int v_received, .int v_unmarked, .ref q_missing, .int v_found_9, .ref q_nodeAddresses, .ref q_nodeDistances, .ref q_nodeParents, .int v_found_9, .ref q_foundAddress, .ref q_foundDistance, .ref q_foundParent, .int v_words_9, .ref q_wordAt])), (q_marks, .inl (cI, 4096, .inl a_marks)), (q_nodeAddresses, .inl (cI, 100, .inl (upd a_nodeAddresses_55 y2_55.toNatClampNeg (a_foundAddress_9 y2_55.toNatClampNeg)))), (q_nodeDistances, .inl (cI, 100, .inl a_nodeDistances_55)), (q_nodeParents, .inl (cI, 100, .inl a_nodeParents_55)), (q_foundAddress, .inl (cI, 101, .inl a_foundAddress_9)), (q_foundDistance, .inl (cI, 101, .inl a_foundDistance_9)), (q_foundParent, .inl (cI, 101, .inl a_foundParent_9)), (q_wordAt, .inl (cI, 4096, .inl a_wordAt_9))] H := hP
                have hD : va_D A [(h0, .inr (6, [.int v_routers, .ref q_parentOf, .ref q_addressOf, .ref q_depthOf, .int v_percent, .int v_random, .int v_distance, .int v_offset, .int v_value, .int v_isMade, .ref q_marks, .int v_received, .int v_unmarked, .ref q_missing, .int v_found_9, .ref q_nodeAddresses, .ref q_nodeDistances, .ref q_nodeParents, .int v_found_9, .ref q_foundAddress, .ref q_foundDistance, .ref q_foundParent, .int v_words_9, .ref q_wordAt])), (q_marks, .inl (cI, 4096, .inl a_marks)), (q_nodeAddresses, .inl (cI, 100, .inl (upd a_nodeAddresses_55 y2_55.toNatClampNeg (a_foundAddress_9 y2_55.toNatClampNeg)))), (q_nodeDistances, .inl (cI, 100, .inl a_nodeDistances_55)), (q_nodeParents, .inl (cI, 100, .inl a_nodeParents_55)), (q_foundAddress, .inl (cI, 101, .inl a_foundAddress_9)), (q_foundDistance, .inl (cI, 101, .inl a_foundDistance_9)), (q_foundParent, .inl (cI, 101, .inl a_foundParent_9)), (q_wordAt, .inl (cI, 4096, .inl a_wordAt_9))] := hD
                refine lv_aload_n hx hb dX6_reconstruct_75 rfl (lv_at hl 2 rfl) ?_
                refine va_get (D := (dC, dI)) (ci := 6) (v := .ref q_nodeDistances) (C := RX6) (T := TX6) (N := 24) hx hb hts hiX6 hown hK hP 0 rfl rfl 16 (by decide) hf28 (fun _ h9 => h9) rfl dX6_reconstruct_76 ?_
                refine lv_iload_n hx hb dX6_reconstruct_79 rfl (lv_at hl 0 rfl) ?_
                refine lv_aload_n hx hb dX6_reconstruct_80 rfl (lv_at hl 2 rfl) ?_
                refine va_get (D := (dC, dI)) (ci := 6) (v := .ref q_foundDistance) (C := RX6) (T := TX6) (N := 24) hx hb hts hiX6 hown hK hP 0 rfl rfl 20 (by decide) hf37 (fun _ h9 => h9) rfl dX6_reconstruct_81 ?_
                refine lv_iload_n hx hb dX6_reconstruct_84 rfl (lv_at hl 0 rfl) ?_
                obtain ⟨g13, h⟩ := gd_e h
                refine va_iald hx hb hK hP 6 0 rfl rfl g13 dX6_reconstruct_85 ?_
                obtain ⟨g14, h⟩ := gd_e h
                refine va_iast hx hb hK hP hD hS 3 0 rfl rfl g14 dX6_reconstruct_86 (fun H locs hP hD hS => ?_)
                have hP : va_P (dC, dI) vwCl [(h0, .inr (6, [.int v_routers, .ref q_parentOf, .ref q_addressOf, .ref q_depthOf, .int v_percent, .int v_random, .int v_distance, .int v_offset, .int v_value, .int v_isMade, .ref q_marks, .int v_received, .int v_unmarked, .ref q_missing, .int v_found_9, .ref q_nodeAddresses, .ref q_nodeDistances, .ref q_nodeParents, .int v_found_9, .ref q_foundAddress, .ref q_foundDistance, .ref q_foundParent, .int v_words_9, .ref q_wordAt])), (q_marks, .inl (cI, 4096, .inl a_marks)), (q_nodeAddresses, .inl (cI, 100, .inl (upd a_nodeAddresses_55 y2_55.toNatClampNeg (a_foundAddress_9 y2_55.toNatClampNeg)))), (q_nodeDistances, .inl (cI, 100, .inl (upd a_nodeDistances_55 y2_55.toNatClampNeg (a_foundDistance_9 y2_55.toNatClampNeg)))), (q_nodeParents, .inl (cI, 100, .inl a_nodeParents_55)), (q_foundAddress, .inl (cI, 101, .inl a_foundAddress_9)), (q_foundDistance, .inl (cI, 101, .inl a_foundDistance_9)), (q_foundParent, .inl (cI, 101, .inl a_foundParent_9)), (q_wordAt, .inl (cI, 4096, .inl a_wordAt_9))] H := hP
                have hD : va_D A [(h0, .inr (6, [.int v_routers, .ref q_parentOf, .ref q_addressOf, .ref q_depthOf, .int v_percent, .int v_random, .int v_distance, .int v_offset, .int v_value, .int v_isMade, .ref q_marks, .int v_received, .int v_unmarked, .ref q_missing, .int v_found_9, .ref q_nodeAddresses, .ref q_nodeDistances, .ref q_nodeParents, .int v_found_9, .ref q_foundAddress, .ref q_foundDistance, .ref q_foundParent, .int v_words_9, .ref q_wordAt])), (q_marks, .inl (cI, 4096, .inl a_marks)), (q_nodeAddresses, .inl (cI, 100, .inl (upd a_nodeAddresses_55 y2_55.toNatClampNeg (a_foundAddress_9 y2_55.toNatClampNeg)))), (q_nodeDistances, .inl (cI, 100, .inl (upd a_nodeDistances_55 y2_55.toNatClampNeg (a_foundDistance_9 y2_55.toNatClampNeg)))), (q_nodeParents, .inl (cI, 100, .inl a_nodeParents_55)), (q_foundAddress, .inl (cI, 101, .inl a_foundAddress_9)), (q_foundDistance, .inl (cI, 101, .inl a_foundDistance_9)), (q_foundParent, .inl (cI, 101, .inl a_foundParent_9)), (q_wordAt, .inl (cI, 4096, .inl a_wordAt_9))] := hD
                refine lv_aload_n hx hb dX6_reconstruct_87 rfl (lv_at hl 2 rfl) ?_
                refine va_get (D := (dC, dI)) (ci := 6) (v := .ref q_nodeParents) (C := RX6) (T := TX6) (N := 24) hx hb hts hiX6 hown hK hP 0 rfl rfl 17 (by decide) hf31 (fun _ h9 => h9) rfl dX6_reconstruct_88 ?_
                refine lv_iload_n hx hb dX6_reconstruct_91 rfl (lv_at hl 0 rfl) ?_
                refine lv_aload_n hx hb dX6_reconstruct_92 rfl (lv_at hl 2 rfl) ?_
                refine va_get (D := (dC, dI)) (ci := 6) (v := .ref q_foundParent) (C := RX6) (T := TX6) (N := 24) hx hb hts hiX6 hown hK hP 0 rfl rfl 21 (by decide) hf40 (fun _ h9 => h9) rfl dX6_reconstruct_93 ?_
                refine lv_iload_n hx hb dX6_reconstruct_96 rfl (lv_at hl 0 rfl) ?_
                obtain ⟨g15, h⟩ := gd_e h
                refine va_iald hx hb hK hP 7 0 rfl rfl g15 dX6_reconstruct_97 ?_
                obtain ⟨g16, h⟩ := gd_e h
                refine va_iast hx hb hK hP hD hS 4 0 rfl rfl g16 dX6_reconstruct_98 (fun H locs hP hD hS => ?_)
                have hP : va_P (dC, dI) vwCl [(h0, .inr (6, [.int v_routers, .ref q_parentOf, .ref q_addressOf, .ref q_depthOf, .int v_percent, .int v_random, .int v_distance, .int v_offset, .int v_value, .int v_isMade, .ref q_marks, .int v_received, .int v_unmarked, .ref q_missing, .int v_found_9, .ref q_nodeAddresses, .ref q_nodeDistances, .ref q_nodeParents, .int v_found_9, .ref q_foundAddress, .ref q_foundDistance, .ref q_foundParent, .int v_words_9, .ref q_wordAt])), (q_marks, .inl (cI, 4096, .inl a_marks)), (q_nodeAddresses, .inl (cI, 100, .inl (upd a_nodeAddresses_55 y2_55.toNatClampNeg (a_foundAddress_9 y2_55.toNatClampNeg)))), (q_nodeDistances, .inl (cI, 100, .inl (upd a_nodeDistances_55 y2_55.toNatClampNeg (a_foundDistance_9 y2_55.toNatClampNeg)))), (q_nodeParents, .inl (cI, 100, .inl (upd a_nodeParents_55 y2_55.toNatClampNeg (a_foundParent_9 y2_55.toNatClampNeg)))), (q_foundAddress, .inl (cI, 101, .inl a_foundAddress_9)), (q_foundDistance, .inl (cI, 101, .inl a_foundDistance_9)), (q_foundParent, .inl (cI, 101, .inl a_foundParent_9)), (q_wordAt, .inl (cI, 4096, .inl a_wordAt_9))] H := hP
                have hD : va_D A [(h0, .inr (6, [.int v_routers, .ref q_parentOf, .ref q_addressOf, .ref q_depthOf, .int v_percent, .int v_random, .int v_distance, .int v_offset, .int v_value, .int v_isMade, .ref q_marks, .int v_received, .int v_unmarked, .ref q_missing, .int v_found_9, .ref q_nodeAddresses, .ref q_nodeDistances, .ref q_nodeParents, .int v_found_9, .ref q_foundAddress, .ref q_foundDistance, .ref q_foundParent, .int v_words_9, .ref q_wordAt])), (q_marks, .inl (cI, 4096, .inl a_marks)), (q_nodeAddresses, .inl (cI, 100, .inl (upd a_nodeAddresses_55 y2_55.toNatClampNeg (a_foundAddress_9 y2_55.toNatClampNeg)))), (q_nodeDistances, .inl (cI, 100, .inl (upd a_nodeDistances_55 y2_55.toNatClampNeg (a_foundDistance_9 y2_55.toNatClampNeg)))), (q_nodeParents, .inl (cI, 100, .inl (upd a_nodeParents_55 y2_55.toNatClampNeg (a_foundParent_9 y2_55.toNatClampNeg)))), (q_foundAddress, .inl (cI, 101, .inl a_foundAddress_9)), (q_foundDistance, .inl (cI, 101, .inl a_foundDistance_9)), (q_foundParent, .inl (cI, 101, .inl a_foundParent_9)), (q_wordAt, .inl (cI, 4096, .inl a_wordAt_9))] := hD
                refine lv_iinc (v := y2_55 + 1) (lv' := [(2, .int (y2_55 + 1)), (1, .int y1_55), (0, .ref h0)]) hx hb dX6_reconstruct_99 hl (k := 0) rfl rfl (by decide) rfl (fun ls hl => ?_)
                refine lv_goto (tgt := 55) hx hb dX6_reconstruct_102 (by decide) ?_
                cases Option.some.inj h
                exact ih1 _ _ _ _ _ _ _ (un_l hk1) (hP.sub [0, 1, 2, 3, 4, 5, 6, 7, 8] rfl) (hD.sub [0, 1, 2, 3, 4, 5, 6, 7, 8] (by decide) rfl) hS (lv_sub hl [0, 1, 2] rfl)
          exact key55 y1_9 N _ _ _ _ _ _ _ h8 hP hD hS hl
        · have h := it_n c9 h
          refine lv_aload_n hx hb dX6_reconstruct_23 rfl (lv_at hl 2 rfl) ?_
          refine va_get (D := (dC, dI)) (ci := 6) (v := .int v_found_9) (C := RX6) (T := TX6) (N := 24) hx hb hts hiX6 hown hK hP 0 rfl rfl 18 (by decide) hf147 (fun _ h9 => h9) rfl dX6_reconstruct_24 ?_
          refine lv_istore_n (lv' := [(1, .int v_found_9), (2, .int y2_9), (0, .ref h0)]) hx hb dX6_reconstruct_27 rfl hl (by decide) rfl (fun ls hl => ?_)
          refine lv_aload_n hx hb dX6_reconstruct_28 rfl (lv_at hl 2 rfl) ?_
          refine lv_iload_n hx hb dX6_reconstruct_29 rfl (lv_at hl 1 rfl) ?_
          obtain ⟨r17, s_found_17, s_words_17, s_foundAddress_17, s_foundDistance_17, s_foundParent_17, s_wordAt_17, h17, h⟩ := bd7_e h
          refine ca_Vi (wc := [(h0, .inr (6, [.int v_routers, .ref q_parentOf, .ref q_addressOf, .ref q_depthOf, .int v_percent, .int v_random, .int v_distance, .int v_offset, .int v_value, .int v_isMade, .ref q_marks, .int v_received, .int v_unmarked, .ref q_missing, .int v_nodes, .ref q_nodeAddresses, .ref q_nodeDistances, .ref q_nodeParents, .int v_found_9, .ref q_foundAddress, .ref q_foundDistance, .ref q_foundParent, .int v_words_9, .ref q_wordAt])), (q_marks, .inl (cI, 4096, .inl a_marks)), (q_foundAddress, .inl (cI, 101, .inl a_foundAddress_9)), (q_foundDistance, .inl (cI, 101, .inl a_foundDistance_9)), (q_foundParent, .inl (cI, 101, .inl a_foundParent_9)), (q_wordAt, .inl (cI, 4096, .inl a_wordAt_9))]) (wr := [(q_nodeAddresses, .inl (cI, 100, .inl a_nodeAddresses)), (q_nodeDistances, .inl (cI, 100, .inl a_nodeDistances)), (q_nodeParents, .inl (cI, 100, .inl a_nodeParents))]) (w1 := [(h0, .inr (6, [.int v_routers, .ref q_parentOf, .ref q_addressOf, .ref q_depthOf, .int v_percent, .int v_random, .int v_distance, .int v_offset, .int v_value, .int v_isMade, .ref q_marks, .int v_received, .int v_unmarked, .ref q_missing, .int v_nodes, .ref q_nodeAddresses, .ref q_nodeDistances, .ref q_nodeParents, .int s_found_17, .ref q_foundAddress, .ref q_foundDistance, .ref q_foundParent, .int s_words_17, .ref q_wordAt])), (q_marks, .inl (cI, 4096, .inl a_marks)), (q_foundAddress, .inl (cI, 101, .inl s_foundAddress_17)), (q_foundDistance, .inl (cI, 101, .inl s_foundDistance_17)), (q_foundParent, .inl (cI, 101, .inl s_foundParent_17)), (q_wordAt, .inl (cI, 4096, .inl s_wordAt_17))]) [.int y2_9] [] [0, 1, 5, 6, 7, 8] [2, 3, 4] hx hb hml hown hts (mX6_findDistance l dC dI cI H.size N h0 q_parentOf q_addressOf q_depthOf q_marks q_missing q_nodeAddresses q_nodeDistances q_nodeParents q_foundAddress q_foundDistance q_foundParent q_wordAt v_routers v_percent v_random v_distance v_offset v_value v_isMade v_received v_unmarked v_nodes v_found_9 v_words_9 a_marks a_foundAddress_9 a_foundDistance_9 a_foundParent_9 a_wordAt_9 y2_9 h17) (cwV 1 hts gX6_reconstruct_X6_findDistance rfl rfl rfl (by decide +kernel) ⟨Nat.le_of_ble_eq_true rfl, Nat.le_of_ble_eq_true rfl⟩) hK hN hP hD hS hA rfl rfl (by decide) (by decide) (by decide) rfl rfl rfl hl.1 rfl (Nat.le_of_ble_eq_true rfl) dX6_reconstruct_30 ⟨Nat.zero_le _, Nat.zero_le _⟩ (fun H locs hP hD hS hz17 => ?_)
          have hP : va_P (dC, dI) vwCl [(q_nodeAddresses, .inl (cI, 100, .inl a_nodeAddresses)), (q_nodeDistances, .inl (cI, 100, .inl a_nodeDistances)), (q_nodeParents, .inl (cI, 100, .inl a_nodeParents)), (h0, .inr (6, [.int v_routers, .ref q_parentOf, .ref q_addressOf, .ref q_depthOf, .int v_percent, .int v_random, .int v_distance, .int v_offset, .int v_value, .int v_isMade, .ref q_marks, .int v_received, .int v_unmarked, .ref q_missing, .int v_nodes, .ref q_nodeAddresses, .ref q_nodeDistances, .ref q_nodeParents, .int s_found_17, .ref q_foundAddress, .ref q_foundDistance, .ref q_foundParent, .int s_words_17, .ref q_wordAt])), (q_marks, .inl (cI, 4096, .inl a_marks)), (q_foundAddress, .inl (cI, 101, .inl s_foundAddress_17)), (q_foundDistance, .inl (cI, 101, .inl s_foundDistance_17)), (q_foundParent, .inl (cI, 101, .inl s_foundParent_17)), (q_wordAt, .inl (cI, 4096, .inl s_wordAt_17))] H := hP
          have hD : va_D A [(q_nodeAddresses, .inl (cI, 100, .inl a_nodeAddresses)), (q_nodeDistances, .inl (cI, 100, .inl a_nodeDistances)), (q_nodeParents, .inl (cI, 100, .inl a_nodeParents)), (h0, .inr (6, [.int v_routers, .ref q_parentOf, .ref q_addressOf, .ref q_depthOf, .int v_percent, .int v_random, .int v_distance, .int v_offset, .int v_value, .int v_isMade, .ref q_marks, .int v_received, .int v_unmarked, .ref q_missing, .int v_nodes, .ref q_nodeAddresses, .ref q_nodeDistances, .ref q_nodeParents, .int s_found_17, .ref q_foundAddress, .ref q_foundDistance, .ref q_foundParent, .int s_words_17, .ref q_wordAt])), (q_marks, .inl (cI, 4096, .inl a_marks)), (q_foundAddress, .inl (cI, 101, .inl s_foundAddress_17)), (q_foundDistance, .inl (cI, 101, .inl s_foundDistance_17)), (q_foundParent, .inl (cI, 101, .inl s_foundParent_17)), (q_wordAt, .inl (cI, 4096, .inl s_wordAt_17))] := hD
          refine lv_if_ne (tgt := 39) hx hb dX6_reconstruct_33 (by decide) (fun c18 => ?_) (fun c18 => ?_)
          · have h := it_n c18 h
            refine lv_iinc (v := y2_9 + 1) (lv' := [(2, .int (y2_9 + 1)), (1, .int v_found_9), (0, .ref h0)]) hx hb dX6_reconstruct_39 hl (k := 1) rfl rfl (by decide) rfl (fun ls hl => ?_)
            refine lv_goto (tgt := 9) hx hb dX6_reconstruct_42 (by decide) ?_
            cases Option.some.inj h
            exact ih1 _ _ _ _ _ _ _ _ _ _ _ (un_l hk1) (hP.sub [3, 4, 0, 1, 2, 5, 6, 7, 8] rfl) (hD.sub [3, 4, 0, 1, 2, 5, 6, 7, 8] (by decide) rfl) hS (lv_sub hl [0, 1, 2] rfl)
          · have h := it_p c18 h
            refine lv_bipush (v := (-6 : Int32)) hx hb dX6_reconstruct_36 (by decide) ?_
            cases Option.some.inj h
            have hk1 := un_r hk1
            cases hk1
            exact re_i [3, 4, 0, 1, 2, 5, 6, 7, 8] hx hb hr hlocks rfl hP hD hS rfl (by decide) rfl dX6_reconstruct_38
  exact key9 N _ _ _ _ _ _ _ _ _ _ _ h hP hD hS hl
def fX6_nodeCount (v_nodes : Int32) : Option (Int32) :=
  some v_nodes
set_option maxHeartbeats 4000000 in
set_option maxRecDepth 100000 in
theorem mX6_nodeCount (l : Launch) (dC : Nat → ClassId) (dI : Nat → Nat → Nat) (cI : ClassId) (sz : Nat) (h0 : Nat) (q_parentOf : Nat) (q_addressOf : Nat) (q_depthOf : Nat) (q_marks : Nat) (q_missing : Nat) (q_nodeAddresses : Nat) (q_nodeDistances : Nat) (q_nodeParents : Nat) (q_foundAddress : Nat) (q_foundDistance : Nat) (q_foundParent : Nat) (q_wordAt : Nat) (v_routers : Int32) (v_percent : Int32) (v_random : Int32) (v_distance : Int32) (v_offset : Int32) (v_value : Int32) (v_isMade : Int32) (v_received : Int32) (v_unmarked : Int32) (v_nodes : Int32) (v_found : Int32) (v_words : Int32) {rr : Int32} (h : fX6_nodeCount v_nodes = some rr) : Met l yX6_nodeCount wsX6_nodeCount ({ frames := 0, cells := 0, slots := 0, locals := 0 } : Room) (prX dC dI cI [.ref h0] sz [(h0, .inr (6, [.int v_routers, .ref q_parentOf, .ref q_addressOf, .ref q_depthOf, .int v_percent, .int v_random, .int v_distance, .int v_offset, .int v_value, .int v_isMade, .ref q_marks, .int v_received, .int v_unmarked, .ref q_missing, .int v_nodes, .ref q_nodeAddresses, .ref q_nodeDistances, .ref q_nodeParents, .int v_found, .ref q_foundAddress, .ref q_foundDistance, .ref q_foundParent, .int v_words, .ref q_wordAt]))]) (poI dC dI .int rr [(h0, .inr (6, [.int v_routers, .ref q_parentOf, .ref q_addressOf, .ref q_depthOf, .int v_percent, .int v_random, .int v_distance, .int v_offset, .int v_value, .int v_isMade, .ref q_marks, .int v_received, .int v_unmarked, .ref q_missing, .int v_nodes, .ref q_nodeAddresses, .ref q_nodeDistances, .ref q_nodeParents, .int v_found, .ref q_foundAddress, .ref q_foundDistance, .ref q_foundParent, .int v_words, .ref q_wordAt]))] (va_A [(h0, .inr (6, [.int v_routers, .ref q_parentOf, .ref q_addressOf, .ref q_depthOf, .int v_percent, .int v_random, .int v_distance, .int v_offset, .int v_value, .int v_isMade, .ref q_marks, .int v_received, .int v_unmarked, .ref q_missing, .int v_nodes, .ref q_nodeAddresses, .ref q_nodeDistances, .ref q_nodeParents, .int v_found, .ref q_foundAddress, .ref q_foundDistance, .ref q_foundParent, .int v_words, .ref q_wordAt]))] sz)) 0 0 (va_A [(h0, .inr (6, [.int v_routers, .ref q_parentOf, .ref q_addressOf, .ref q_depthOf, .int v_percent, .int v_random, .int v_distance, .int v_offset, .int v_value, .int v_isMade, .ref q_marks, .int v_received, .int v_unmarked, .ref q_missing, .int v_nodes, .ref q_nodeAddresses, .ref q_nodeDistances, .ref q_nodeParents, .int v_found, .ref q_foundAddress, .ref q_foundDistance, .ref q_foundParent, .int v_words, .ref q_wordAt]))] sz) := by
  refine ofX (cc := cX6_nodeCount) (maxL := 1) (ret := (some .int)) (lv0 := [(0, .ref h0)]) (QA := fun A => poI dC dI .int rr [(h0, .inr (6, [.int v_routers, .ref q_parentOf, .ref q_addressOf, .ref q_depthOf, .int v_percent, .int v_random, .int v_distance, .int v_offset, .int v_value, .int v_isMade, .ref q_marks, .int v_received, .int v_unmarked, .ref q_missing, .int v_nodes, .ref q_nodeAddresses, .ref q_nodeDistances, .ref q_nodeParents, .int v_found, .ref q_foundAddress, .ref q_foundDistance, .ref q_foundParent, .int v_words, .ref q_wordAt]))] A) (by decide) rfl (Nat.le_of_ble_eq_true rfl) rfl ?_
  intro p e s m below meth c A ls H locs hx hb hr hml hown hts hlocks hin hK hN hA hP hD hS hl
  have hown : s.vm.findClass RX6 = some m.cls := hown
  unfold fX6_nodeCount at h
  have hiX6 : ∀ w ∈ u_ws RX6 TX6 24, w ∈ wsX6_nodeCount := fun _ h => List.mem_cons_of_mem _ (List.mem_append_right _ h)
  have hf166 := (hts (.fieldLink RX6 166 "PacketTracebackModel" "nodes" "I") (List.mem_of_getElem? (i := 1) (by decide +kernel)))
  refine lv_aload_n hx hb dX6_nodeCount_0 rfl (lv_at hl 0 rfl) ?_
  refine va_get (D := (dC, dI)) (ci := 6) (v := .int v_nodes) (C := RX6) (T := TX6) (N := 24) hx hb hts hiX6 hown hK hP 0 rfl rfl 14 (by decide) hf166 (fun _ h9 => h9) rfl dX6_nodeCount_1 ?_
  have hk0 := Option.some.inj h
  cases hk0
  exact re_i [0] hx hb hr hlocks rfl hP hD hS rfl (by decide) rfl dX6_nodeCount_4
def fX6_isNode (p1 : Int32) (v_nodes : Int32) : Option (Int32) :=
  bd1 (fX6_within p1 (0 : Int32) (v_nodes - (1 : Int32))) fun r1 =>
  some r1
set_option maxHeartbeats 4000000 in
set_option maxRecDepth 100000 in
theorem mX6_isNode (l : Launch) (dC : Nat → ClassId) (dI : Nat → Nat → Nat) (cI : ClassId) (sz : Nat) (h0 : Nat) (q_parentOf : Nat) (q_addressOf : Nat) (q_depthOf : Nat) (q_marks : Nat) (q_missing : Nat) (q_nodeAddresses : Nat) (q_nodeDistances : Nat) (q_nodeParents : Nat) (q_foundAddress : Nat) (q_foundDistance : Nat) (q_foundParent : Nat) (q_wordAt : Nat) (v_routers : Int32) (v_percent : Int32) (v_random : Int32) (v_distance : Int32) (v_offset : Int32) (v_value : Int32) (v_isMade : Int32) (v_received : Int32) (v_unmarked : Int32) (v_nodes : Int32) (v_found : Int32) (v_words : Int32) (p1 : Int32) {rr : Int32} (h : fX6_isNode p1 v_nodes = some rr) : Met l yX6_isNode wsX6_isNode ({ frames := 1, cells := 0, slots := 0, locals := 22 } : Room) (prX dC dI cI [.ref h0, .int p1] sz [(h0, .inr (6, [.int v_routers, .ref q_parentOf, .ref q_addressOf, .ref q_depthOf, .int v_percent, .int v_random, .int v_distance, .int v_offset, .int v_value, .int v_isMade, .ref q_marks, .int v_received, .int v_unmarked, .ref q_missing, .int v_nodes, .ref q_nodeAddresses, .ref q_nodeDistances, .ref q_nodeParents, .int v_found, .ref q_foundAddress, .ref q_foundDistance, .ref q_foundParent, .int v_words, .ref q_wordAt]))]) (poI dC dI .boolean rr [(h0, .inr (6, [.int v_routers, .ref q_parentOf, .ref q_addressOf, .ref q_depthOf, .int v_percent, .int v_random, .int v_distance, .int v_offset, .int v_value, .int v_isMade, .ref q_marks, .int v_received, .int v_unmarked, .ref q_missing, .int v_nodes, .ref q_nodeAddresses, .ref q_nodeDistances, .ref q_nodeParents, .int v_found, .ref q_foundAddress, .ref q_foundDistance, .ref q_foundParent, .int v_words, .ref q_wordAt]))] (va_A [(h0, .inr (6, [.int v_routers, .ref q_parentOf, .ref q_addressOf, .ref q_depthOf, .int v_percent, .int v_random, .int v_distance, .int v_offset, .int v_value, .int v_isMade, .ref q_marks, .int v_received, .int v_unmarked, .ref q_missing, .int v_nodes, .ref q_nodeAddresses, .ref q_nodeDistances, .ref q_nodeParents, .int v_found, .ref q_foundAddress, .ref q_foundDistance, .ref q_foundParent, .int v_words, .ref q_wordAt]))] sz)) 0 0 (va_A [(h0, .inr (6, [.int v_routers, .ref q_parentOf, .ref q_addressOf, .ref q_depthOf, .int v_percent, .int v_random, .int v_distance, .int v_offset, .int v_value, .int v_isMade, .ref q_marks, .int v_received, .int v_unmarked, .ref q_missing, .int v_nodes, .ref q_nodeAddresses, .ref q_nodeDistances, .ref q_nodeParents, .int v_found, .ref q_foundAddress, .ref q_foundDistance, .ref q_foundParent, .int v_words, .ref q_wordAt]))] sz) := by
  refine ofX (cc := cX6_isNode) (maxL := 2) (ret := (some .boolean)) (lv0 := [(0, .ref h0), (1, .int p1)]) (QA := fun A => poI dC dI .boolean rr [(h0, .inr (6, [.int v_routers, .ref q_parentOf, .ref q_addressOf, .ref q_depthOf, .int v_percent, .int v_random, .int v_distance, .int v_offset, .int v_value, .int v_isMade, .ref q_marks, .int v_received, .int v_unmarked, .ref q_missing, .int v_nodes, .ref q_nodeAddresses, .ref q_nodeDistances, .ref q_nodeParents, .int v_found, .ref q_foundAddress, .ref q_foundDistance, .ref q_foundParent, .int v_words, .ref q_wordAt]))] A) (by decide) rfl (Nat.le_of_ble_eq_true rfl) rfl ?_
  intro p e s m below meth c A ls H locs hx hb hr hml hown hts hlocks hin hK hN hA hP hD hS hl
  have hown : s.vm.findClass RX6 = some m.cls := hown
  unfold fX6_isNode at h
  have hiX6 : ∀ w ∈ u_ws RX6 TX6 24, w ∈ wsX6_isNode := fun _ h => List.mem_cons_of_mem _ (List.mem_append_right _ h)
  have hf166 := (hts (.fieldLink RX6 166 "PacketTracebackModel" "nodes" "I") (List.mem_of_getElem? (i := 1) (by decide +kernel)))
  refine lv_iload_n hx hb dX6_isNode_0 rfl (lv_at hl 1 rfl) ?_
  refine lv_iconst (v := (0 : Int32)) hx hb dX6_isNode_1 (by decide) ?_
  refine lv_aload_n hx hb dX6_isNode_2 rfl (lv_at hl 0 rfl) ?_
  refine va_get (D := (dC, dI)) (ci := 6) (v := .int v_nodes) (C := RX6) (T := TX6) (N := 24) hx hb hts hiX6 hown hK hP 0 rfl rfl 14 (by decide) hf166 (fun _ h9 => h9) rfl dX6_isNode_3 ?_
  refine lv_iconst (v := (1 : Int32)) hx hb dX6_isNode_6 (by decide) ?_
  refine lv_isub hx hb dX6_isNode_7 ?_
  obtain ⟨r1, h1, h⟩ := bd1_e h
  refine ca_Si (wc := []) (wr := [(h0, .inr (6, [.int v_routers, .ref q_parentOf, .ref q_addressOf, .ref q_depthOf, .int v_percent, .int v_random, .int v_distance, .int v_offset, .int v_value, .int v_isMade, .ref q_marks, .int v_received, .int v_unmarked, .ref q_missing, .int v_nodes, .ref q_nodeAddresses, .ref q_nodeDistances, .ref q_nodeParents, .int v_found, .ref q_foundAddress, .ref q_foundDistance, .ref q_foundParent, .int v_words, .ref q_wordAt]))]) (w1 := []) [.int p1, .int (0 : Int32), .int (v_nodes - (1 : Int32))] [] [] [0] hx hb hml hown hts (mX6_within l dC dI cI H.size p1 (0 : Int32) (v_nodes - (1 : Int32)) h1) (va_cwS 3 hts gX6_isNode_X6_within rfl rfl rfl (by decide +kernel) ⟨Nat.le_of_ble_eq_true rfl, Nat.le_of_ble_eq_true rfl⟩) hK hN hP hD hS hA rfl rfl (by decide) (by decide) (by decide) rfl hl.1 rfl (Nat.le_of_ble_eq_true rfl) dX6_isNode_8 ⟨Nat.zero_le _, Nat.zero_le _⟩ (fun H locs hP hD hS hz1 => ?_)
  have hP : va_P (dC, dI) vwCl [(h0, .inr (6, [.int v_routers, .ref q_parentOf, .ref q_addressOf, .ref q_depthOf, .int v_percent, .int v_random, .int v_distance, .int v_offset, .int v_value, .int v_isMade, .ref q_marks, .int v_received, .int v_unmarked, .ref q_missing, .int v_nodes, .ref q_nodeAddresses, .ref q_nodeDistances, .ref q_nodeParents, .int v_found, .ref q_foundAddress, .ref q_foundDistance, .ref q_foundParent, .int v_words, .ref q_wordAt]))] H := hP
  have hD : va_D A [(h0, .inr (6, [.int v_routers, .ref q_parentOf, .ref q_addressOf, .ref q_depthOf, .int v_percent, .int v_random, .int v_distance, .int v_offset, .int v_value, .int v_isMade, .ref q_marks, .int v_received, .int v_unmarked, .ref q_missing, .int v_nodes, .ref q_nodeAddresses, .ref q_nodeDistances, .ref q_nodeParents, .int v_found, .ref q_foundAddress, .ref q_foundDistance, .ref q_foundParent, .int v_words, .ref q_wordAt]))] := hD
  have hk0 := Option.some.inj h
  cases hk0
  exact re_i [0] hx hb hr hlocks hz1 hP hD hS rfl (by decide) rfl dX6_isNode_11
def fX6_nodeAddress (p1 : Int32) (v_nodes : Int32) (a_nodeAddresses : Nat → Int32) : Option (Int32) :=
  bd1 (fX6_isNode p1 v_nodes) fun r1 =>
  if r1 = 0 then
    some (-5 : Int32)
  else
    if ¬ (p1 < 0 ∨ 100 ≤ p1.toNatClampNeg) then
      some (a_nodeAddresses p1.toNatClampNeg)
    else none
set_option maxHeartbeats 4000000 in
set_option maxRecDepth 100000 in
theorem mX6_nodeAddress (l : Launch) (dC : Nat → ClassId) (dI : Nat → Nat → Nat) (cI : ClassId) (sz : Nat) (h0 : Nat) (q_parentOf : Nat) (q_addressOf : Nat) (q_depthOf : Nat) (q_marks : Nat) (q_missing : Nat) (q_nodeAddresses : Nat) (q_nodeDistances : Nat) (q_nodeParents : Nat) (q_foundAddress : Nat) (q_foundDistance : Nat) (q_foundParent : Nat) (q_wordAt : Nat) (v_routers : Int32) (v_percent : Int32) (v_random : Int32) (v_distance : Int32) (v_offset : Int32) (v_value : Int32) (v_isMade : Int32) (v_received : Int32) (v_unmarked : Int32) (v_nodes : Int32) (v_found : Int32) (v_words : Int32) (a_nodeAddresses : Nat → Int32) (p1 : Int32) {rr : Int32} (h : fX6_nodeAddress p1 v_nodes a_nodeAddresses = some rr) : Met l yX6_nodeAddress wsX6_nodeAddress ({ frames := 2, cells := 0, slots := 0, locals := 43 } : Room) (prX dC dI cI [.ref h0, .int p1] sz [(h0, .inr (6, [.int v_routers, .ref q_parentOf, .ref q_addressOf, .ref q_depthOf, .int v_percent, .int v_random, .int v_distance, .int v_offset, .int v_value, .int v_isMade, .ref q_marks, .int v_received, .int v_unmarked, .ref q_missing, .int v_nodes, .ref q_nodeAddresses, .ref q_nodeDistances, .ref q_nodeParents, .int v_found, .ref q_foundAddress, .ref q_foundDistance, .ref q_foundParent, .int v_words, .ref q_wordAt])), (q_nodeAddresses, .inl (cI, 100, .inl a_nodeAddresses))]) (poI dC dI .int rr [(h0, .inr (6, [.int v_routers, .ref q_parentOf, .ref q_addressOf, .ref q_depthOf, .int v_percent, .int v_random, .int v_distance, .int v_offset, .int v_value, .int v_isMade, .ref q_marks, .int v_received, .int v_unmarked, .ref q_missing, .int v_nodes, .ref q_nodeAddresses, .ref q_nodeDistances, .ref q_nodeParents, .int v_found, .ref q_foundAddress, .ref q_foundDistance, .ref q_foundParent, .int v_words, .ref q_wordAt])), (q_nodeAddresses, .inl (cI, 100, .inl a_nodeAddresses))] (va_A [(h0, .inr (6, [.int v_routers, .ref q_parentOf, .ref q_addressOf, .ref q_depthOf, .int v_percent, .int v_random, .int v_distance, .int v_offset, .int v_value, .int v_isMade, .ref q_marks, .int v_received, .int v_unmarked, .ref q_missing, .int v_nodes, .ref q_nodeAddresses, .ref q_nodeDistances, .ref q_nodeParents, .int v_found, .ref q_foundAddress, .ref q_foundDistance, .ref q_foundParent, .int v_words, .ref q_wordAt])), (q_nodeAddresses, .inl (cI, 100, .inl a_nodeAddresses))] sz)) 0 0 (va_A [(h0, .inr (6, [.int v_routers, .ref q_parentOf, .ref q_addressOf, .ref q_depthOf, .int v_percent, .int v_random, .int v_distance, .int v_offset, .int v_value, .int v_isMade, .ref q_marks, .int v_received, .int v_unmarked, .ref q_missing, .int v_nodes, .ref q_nodeAddresses, .ref q_nodeDistances, .ref q_nodeParents, .int v_found, .ref q_foundAddress, .ref q_foundDistance, .ref q_foundParent, .int v_words, .ref q_wordAt])), (q_nodeAddresses, .inl (cI, 100, .inl a_nodeAddresses))] sz) := by
  refine ofX (cc := cX6_nodeAddress) (maxL := 2) (ret := (some .int)) (lv0 := [(0, .ref h0), (1, .int p1)]) (QA := fun A => poI dC dI .int rr [(h0, .inr (6, [.int v_routers, .ref q_parentOf, .ref q_addressOf, .ref q_depthOf, .int v_percent, .int v_random, .int v_distance, .int v_offset, .int v_value, .int v_isMade, .ref q_marks, .int v_received, .int v_unmarked, .ref q_missing, .int v_nodes, .ref q_nodeAddresses, .ref q_nodeDistances, .ref q_nodeParents, .int v_found, .ref q_foundAddress, .ref q_foundDistance, .ref q_foundParent, .int v_words, .ref q_wordAt])), (q_nodeAddresses, .inl (cI, 100, .inl a_nodeAddresses))] A) (by decide) rfl (Nat.le_of_ble_eq_true rfl) rfl ?_
  intro p e s m below meth c A ls H locs hx hb hr hml hown hts hlocks hin hK hN hA hP hD hS hl
  have hown : s.vm.findClass RX6 = some m.cls := hown
  unfold fX6_nodeAddress at h
  have hiX6 : ∀ w ∈ u_ws RX6 TX6 24, w ∈ wsX6_nodeAddress := fun _ h => List.mem_cons_of_mem _ (List.mem_append_right _ h)
  have hf25 := (hts (.fieldLink RX6 25 "PacketTracebackModel" "nodeAddresses" "[I") (List.mem_of_getElem? (i := 1) (by decide +kernel)))
  refine lv_aload_n hx hb dX6_nodeAddress_0 rfl (lv_at hl 0 rfl) ?_
  refine lv_iload_n hx hb dX6_nodeAddress_1 rfl (lv_at hl 1 rfl) ?_
  obtain ⟨r1, h1, h⟩ := bd1_e h
  refine ca_Vi (wc := [(h0, .inr (6, [.int v_routers, .ref q_parentOf, .ref q_addressOf, .ref q_depthOf, .int v_percent, .int v_random, .int v_distance, .int v_offset, .int v_value, .int v_isMade, .ref q_marks, .int v_received, .int v_unmarked, .ref q_missing, .int v_nodes, .ref q_nodeAddresses, .ref q_nodeDistances, .ref q_nodeParents, .int v_found, .ref q_foundAddress, .ref q_foundDistance, .ref q_foundParent, .int v_words, .ref q_wordAt]))]) (wr := [(q_nodeAddresses, .inl (cI, 100, .inl a_nodeAddresses))]) (w1 := [(h0, .inr (6, [.int v_routers, .ref q_parentOf, .ref q_addressOf, .ref q_depthOf, .int v_percent, .int v_random, .int v_distance, .int v_offset, .int v_value, .int v_isMade, .ref q_marks, .int v_received, .int v_unmarked, .ref q_missing, .int v_nodes, .ref q_nodeAddresses, .ref q_nodeDistances, .ref q_nodeParents, .int v_found, .ref q_foundAddress, .ref q_foundDistance, .ref q_foundParent, .int v_words, .ref q_wordAt]))]) [.int p1] [] [0] [1] hx hb hml hown hts (mX6_isNode l dC dI cI H.size h0 q_parentOf q_addressOf q_depthOf q_marks q_missing q_nodeAddresses q_nodeDistances q_nodeParents q_foundAddress q_foundDistance q_foundParent q_wordAt v_routers v_percent v_random v_distance v_offset v_value v_isMade v_received v_unmarked v_nodes v_found v_words p1 h1) (cwV 1 hts gX6_nodeAddress_X6_isNode rfl rfl rfl (by decide +kernel) ⟨Nat.le_of_ble_eq_true rfl, Nat.le_of_ble_eq_true rfl⟩) hK hN hP hD hS hA rfl rfl (by decide) (by decide) (by decide) rfl rfl rfl hl.1 rfl (Nat.le_of_ble_eq_true rfl) dX6_nodeAddress_2 ⟨Nat.zero_le _, Nat.zero_le _⟩ (fun H locs hP hD hS hz1 => ?_)
  have hP : va_P (dC, dI) vwCl [(q_nodeAddresses, .inl (cI, 100, .inl a_nodeAddresses)), (h0, .inr (6, [.int v_routers, .ref q_parentOf, .ref q_addressOf, .ref q_depthOf, .int v_percent, .int v_random, .int v_distance, .int v_offset, .int v_value, .int v_isMade, .ref q_marks, .int v_received, .int v_unmarked, .ref q_missing, .int v_nodes, .ref q_nodeAddresses, .ref q_nodeDistances, .ref q_nodeParents, .int v_found, .ref q_foundAddress, .ref q_foundDistance, .ref q_foundParent, .int v_words, .ref q_wordAt]))] H := hP
  have hD : va_D A [(q_nodeAddresses, .inl (cI, 100, .inl a_nodeAddresses)), (h0, .inr (6, [.int v_routers, .ref q_parentOf, .ref q_addressOf, .ref q_depthOf, .int v_percent, .int v_random, .int v_distance, .int v_offset, .int v_value, .int v_isMade, .ref q_marks, .int v_received, .int v_unmarked, .ref q_missing, .int v_nodes, .ref q_nodeAddresses, .ref q_nodeDistances, .ref q_nodeParents, .int v_found, .ref q_foundAddress, .ref q_foundDistance, .ref q_foundParent, .int v_words, .ref q_wordAt]))] := hD
  refine lv_if_eq (tgt := 17) hx hb dX6_nodeAddress_5 (by decide) (fun c2 => ?_) (fun c2 => ?_)
  · have h := it_p c2 h
    refine lv_bipush (v := (-5 : Int32)) hx hb dX6_nodeAddress_17 (by decide) ?_
    have hk0 := Option.some.inj h
    cases hk0
    exact re_i [1, 0] hx hb hr hlocks rfl hP hD hS rfl (by decide) rfl dX6_nodeAddress_19
  · have h := it_n c2 h
    refine lv_aload_n hx hb dX6_nodeAddress_8 rfl (lv_at hl 0 rfl) ?_
    refine va_get (D := (dC, dI)) (ci := 6) (v := .ref q_nodeAddresses) (C := RX6) (T := TX6) (N := 24) hx hb hts hiX6 hown hK hP 1 rfl rfl 15 (by decide) hf25 (fun _ h9 => h9) rfl dX6_nodeAddress_9 ?_
    refine lv_iload_n hx hb dX6_nodeAddress_12 rfl (lv_at hl 1 rfl) ?_
    obtain ⟨g3, h⟩ := gd_e h
    refine va_iald hx hb hK hP 0 0 rfl rfl g3 dX6_nodeAddress_13 ?_
    refine lv_goto (tgt := 19) hx hb dX6_nodeAddress_14 (by decide) ?_
    have hk0 := Option.some.inj h
    cases hk0
    exact re_i [1, 0] hx hb hr hlocks rfl hP hD hS rfl (by decide) rfl dX6_nodeAddress_19
def fX6_nodeDistance (p1 : Int32) (v_nodes : Int32) (a_nodeDistances : Nat → Int32) : Option (Int32) :=
  bd1 (fX6_isNode p1 v_nodes) fun r1 =>
  if r1 = 0 then
    some (-5 : Int32)
  else
    if ¬ (p1 < 0 ∨ 100 ≤ p1.toNatClampNeg) then
      some (a_nodeDistances p1.toNatClampNeg)
    else none
set_option maxHeartbeats 4000000 in
set_option maxRecDepth 100000 in
theorem mX6_nodeDistance (l : Launch) (dC : Nat → ClassId) (dI : Nat → Nat → Nat) (cI : ClassId) (sz : Nat) (h0 : Nat) (q_parentOf : Nat) (q_addressOf : Nat) (q_depthOf : Nat) (q_marks : Nat) (q_missing : Nat) (q_nodeAddresses : Nat) (q_nodeDistances : Nat) (q_nodeParents : Nat) (q_foundAddress : Nat) (q_foundDistance : Nat) (q_foundParent : Nat) (q_wordAt : Nat) (v_routers : Int32) (v_percent : Int32) (v_random : Int32) (v_distance : Int32) (v_offset : Int32) (v_value : Int32) (v_isMade : Int32) (v_received : Int32) (v_unmarked : Int32) (v_nodes : Int32) (v_found : Int32) (v_words : Int32) (a_nodeDistances : Nat → Int32) (p1 : Int32) {rr : Int32} (h : fX6_nodeDistance p1 v_nodes a_nodeDistances = some rr) : Met l yX6_nodeDistance wsX6_nodeDistance ({ frames := 2, cells := 0, slots := 0, locals := 43 } : Room) (prX dC dI cI [.ref h0, .int p1] sz [(h0, .inr (6, [.int v_routers, .ref q_parentOf, .ref q_addressOf, .ref q_depthOf, .int v_percent, .int v_random, .int v_distance, .int v_offset, .int v_value, .int v_isMade, .ref q_marks, .int v_received, .int v_unmarked, .ref q_missing, .int v_nodes, .ref q_nodeAddresses, .ref q_nodeDistances, .ref q_nodeParents, .int v_found, .ref q_foundAddress, .ref q_foundDistance, .ref q_foundParent, .int v_words, .ref q_wordAt])), (q_nodeDistances, .inl (cI, 100, .inl a_nodeDistances))]) (poI dC dI .int rr [(h0, .inr (6, [.int v_routers, .ref q_parentOf, .ref q_addressOf, .ref q_depthOf, .int v_percent, .int v_random, .int v_distance, .int v_offset, .int v_value, .int v_isMade, .ref q_marks, .int v_received, .int v_unmarked, .ref q_missing, .int v_nodes, .ref q_nodeAddresses, .ref q_nodeDistances, .ref q_nodeParents, .int v_found, .ref q_foundAddress, .ref q_foundDistance, .ref q_foundParent, .int v_words, .ref q_wordAt])), (q_nodeDistances, .inl (cI, 100, .inl a_nodeDistances))] (va_A [(h0, .inr (6, [.int v_routers, .ref q_parentOf, .ref q_addressOf, .ref q_depthOf, .int v_percent, .int v_random, .int v_distance, .int v_offset, .int v_value, .int v_isMade, .ref q_marks, .int v_received, .int v_unmarked, .ref q_missing, .int v_nodes, .ref q_nodeAddresses, .ref q_nodeDistances, .ref q_nodeParents, .int v_found, .ref q_foundAddress, .ref q_foundDistance, .ref q_foundParent, .int v_words, .ref q_wordAt])), (q_nodeDistances, .inl (cI, 100, .inl a_nodeDistances))] sz)) 0 0 (va_A [(h0, .inr (6, [.int v_routers, .ref q_parentOf, .ref q_addressOf, .ref q_depthOf, .int v_percent, .int v_random, .int v_distance, .int v_offset, .int v_value, .int v_isMade, .ref q_marks, .int v_received, .int v_unmarked, .ref q_missing, .int v_nodes, .ref q_nodeAddresses, .ref q_nodeDistances, .ref q_nodeParents, .int v_found, .ref q_foundAddress, .ref q_foundDistance, .ref q_foundParent, .int v_words, .ref q_wordAt])), (q_nodeDistances, .inl (cI, 100, .inl a_nodeDistances))] sz) := by
  refine ofX (cc := cX6_nodeDistance) (maxL := 2) (ret := (some .int)) (lv0 := [(0, .ref h0), (1, .int p1)]) (QA := fun A => poI dC dI .int rr [(h0, .inr (6, [.int v_routers, .ref q_parentOf, .ref q_addressOf, .ref q_depthOf, .int v_percent, .int v_random, .int v_distance, .int v_offset, .int v_value, .int v_isMade, .ref q_marks, .int v_received, .int v_unmarked, .ref q_missing, .int v_nodes, .ref q_nodeAddresses, .ref q_nodeDistances, .ref q_nodeParents, .int v_found, .ref q_foundAddress, .ref q_foundDistance, .ref q_foundParent, .int v_words, .ref q_wordAt])), (q_nodeDistances, .inl (cI, 100, .inl a_nodeDistances))] A) (by decide) rfl (Nat.le_of_ble_eq_true rfl) rfl ?_
  intro p e s m below meth c A ls H locs hx hb hr hml hown hts hlocks hin hK hN hA hP hD hS hl
  have hown : s.vm.findClass RX6 = some m.cls := hown
  unfold fX6_nodeDistance at h
  have hiX6 : ∀ w ∈ u_ws RX6 TX6 24, w ∈ wsX6_nodeDistance := fun _ h => List.mem_cons_of_mem _ (List.mem_append_right _ h)
  have hf28 := (hts (.fieldLink RX6 28 "PacketTracebackModel" "nodeDistances" "[I") (List.mem_of_getElem? (i := 1) (by decide +kernel)))
  refine lv_aload_n hx hb dX6_nodeDistance_0 rfl (lv_at hl 0 rfl) ?_
  refine lv_iload_n hx hb dX6_nodeDistance_1 rfl (lv_at hl 1 rfl) ?_
  obtain ⟨r1, h1, h⟩ := bd1_e h
  refine ca_Vi (wc := [(h0, .inr (6, [.int v_routers, .ref q_parentOf, .ref q_addressOf, .ref q_depthOf, .int v_percent, .int v_random, .int v_distance, .int v_offset, .int v_value, .int v_isMade, .ref q_marks, .int v_received, .int v_unmarked, .ref q_missing, .int v_nodes, .ref q_nodeAddresses, .ref q_nodeDistances, .ref q_nodeParents, .int v_found, .ref q_foundAddress, .ref q_foundDistance, .ref q_foundParent, .int v_words, .ref q_wordAt]))]) (wr := [(q_nodeDistances, .inl (cI, 100, .inl a_nodeDistances))]) (w1 := [(h0, .inr (6, [.int v_routers, .ref q_parentOf, .ref q_addressOf, .ref q_depthOf, .int v_percent, .int v_random, .int v_distance, .int v_offset, .int v_value, .int v_isMade, .ref q_marks, .int v_received, .int v_unmarked, .ref q_missing, .int v_nodes, .ref q_nodeAddresses, .ref q_nodeDistances, .ref q_nodeParents, .int v_found, .ref q_foundAddress, .ref q_foundDistance, .ref q_foundParent, .int v_words, .ref q_wordAt]))]) [.int p1] [] [0] [1] hx hb hml hown hts (mX6_isNode l dC dI cI H.size h0 q_parentOf q_addressOf q_depthOf q_marks q_missing q_nodeAddresses q_nodeDistances q_nodeParents q_foundAddress q_foundDistance q_foundParent q_wordAt v_routers v_percent v_random v_distance v_offset v_value v_isMade v_received v_unmarked v_nodes v_found v_words p1 h1) (cwV 1 hts gX6_nodeDistance_X6_isNode rfl rfl rfl (by decide +kernel) ⟨Nat.le_of_ble_eq_true rfl, Nat.le_of_ble_eq_true rfl⟩) hK hN hP hD hS hA rfl rfl (by decide) (by decide) (by decide) rfl rfl rfl hl.1 rfl (Nat.le_of_ble_eq_true rfl) dX6_nodeDistance_2 ⟨Nat.zero_le _, Nat.zero_le _⟩ (fun H locs hP hD hS hz1 => ?_)
  have hP : va_P (dC, dI) vwCl [(q_nodeDistances, .inl (cI, 100, .inl a_nodeDistances)), (h0, .inr (6, [.int v_routers, .ref q_parentOf, .ref q_addressOf, .ref q_depthOf, .int v_percent, .int v_random, .int v_distance, .int v_offset, .int v_value, .int v_isMade, .ref q_marks, .int v_received, .int v_unmarked, .ref q_missing, .int v_nodes, .ref q_nodeAddresses, .ref q_nodeDistances, .ref q_nodeParents, .int v_found, .ref q_foundAddress, .ref q_foundDistance, .ref q_foundParent, .int v_words, .ref q_wordAt]))] H := hP
  have hD : va_D A [(q_nodeDistances, .inl (cI, 100, .inl a_nodeDistances)), (h0, .inr (6, [.int v_routers, .ref q_parentOf, .ref q_addressOf, .ref q_depthOf, .int v_percent, .int v_random, .int v_distance, .int v_offset, .int v_value, .int v_isMade, .ref q_marks, .int v_received, .int v_unmarked, .ref q_missing, .int v_nodes, .ref q_nodeAddresses, .ref q_nodeDistances, .ref q_nodeParents, .int v_found, .ref q_foundAddress, .ref q_foundDistance, .ref q_foundParent, .int v_words, .ref q_wordAt]))] := hD
  refine lv_if_eq (tgt := 17) hx hb dX6_nodeDistance_5 (by decide) (fun c2 => ?_) (fun c2 => ?_)
  · have h := it_p c2 h
    refine lv_bipush (v := (-5 : Int32)) hx hb dX6_nodeDistance_17 (by decide) ?_
    have hk0 := Option.some.inj h
    cases hk0
    exact re_i [1, 0] hx hb hr hlocks rfl hP hD hS rfl (by decide) rfl dX6_nodeDistance_19
  · have h := it_n c2 h
    refine lv_aload_n hx hb dX6_nodeDistance_8 rfl (lv_at hl 0 rfl) ?_
    refine va_get (D := (dC, dI)) (ci := 6) (v := .ref q_nodeDistances) (C := RX6) (T := TX6) (N := 24) hx hb hts hiX6 hown hK hP 1 rfl rfl 16 (by decide) hf28 (fun _ h9 => h9) rfl dX6_nodeDistance_9 ?_
    refine lv_iload_n hx hb dX6_nodeDistance_12 rfl (lv_at hl 1 rfl) ?_
    obtain ⟨g3, h⟩ := gd_e h
    refine va_iald hx hb hK hP 0 0 rfl rfl g3 dX6_nodeDistance_13 ?_
    refine lv_goto (tgt := 19) hx hb dX6_nodeDistance_14 (by decide) ?_
    have hk0 := Option.some.inj h
    cases hk0
    exact re_i [1, 0] hx hb hr hlocks rfl hP hD hS rfl (by decide) rfl dX6_nodeDistance_19
def fX6_nodeParent (p1 : Int32) (v_nodes : Int32) (a_nodeParents : Nat → Int32) : Option (Int32) :=
  bd1 (fX6_isNode p1 v_nodes) fun r1 =>
  if r1 = 0 then
    some (-5 : Int32)
  else
    if ¬ (p1 < 0 ∨ 100 ≤ p1.toNatClampNeg) then
      some (a_nodeParents p1.toNatClampNeg)
    else none
set_option maxHeartbeats 4000000 in
set_option maxRecDepth 100000 in
theorem mX6_nodeParent (l : Launch) (dC : Nat → ClassId) (dI : Nat → Nat → Nat) (cI : ClassId) (sz : Nat) (h0 : Nat) (q_parentOf : Nat) (q_addressOf : Nat) (q_depthOf : Nat) (q_marks : Nat) (q_missing : Nat) (q_nodeAddresses : Nat) (q_nodeDistances : Nat) (q_nodeParents : Nat) (q_foundAddress : Nat) (q_foundDistance : Nat) (q_foundParent : Nat) (q_wordAt : Nat) (v_routers : Int32) (v_percent : Int32) (v_random : Int32) (v_distance : Int32) (v_offset : Int32) (v_value : Int32) (v_isMade : Int32) (v_received : Int32) (v_unmarked : Int32) (v_nodes : Int32) (v_found : Int32) (v_words : Int32) (a_nodeParents : Nat → Int32) (p1 : Int32) {rr : Int32} (h : fX6_nodeParent p1 v_nodes a_nodeParents = some rr) : Met l yX6_nodeParent wsX6_nodeParent ({ frames := 2, cells := 0, slots := 0, locals := 43 } : Room) (prX dC dI cI [.ref h0, .int p1] sz [(h0, .inr (6, [.int v_routers, .ref q_parentOf, .ref q_addressOf, .ref q_depthOf, .int v_percent, .int v_random, .int v_distance, .int v_offset, .int v_value, .int v_isMade, .ref q_marks, .int v_received, .int v_unmarked, .ref q_missing, .int v_nodes, .ref q_nodeAddresses, .ref q_nodeDistances, .ref q_nodeParents, .int v_found, .ref q_foundAddress, .ref q_foundDistance, .ref q_foundParent, .int v_words, .ref q_wordAt])), (q_nodeParents, .inl (cI, 100, .inl a_nodeParents))]) (poI dC dI .int rr [(h0, .inr (6, [.int v_routers, .ref q_parentOf, .ref q_addressOf, .ref q_depthOf, .int v_percent, .int v_random, .int v_distance, .int v_offset, .int v_value, .int v_isMade, .ref q_marks, .int v_received, .int v_unmarked, .ref q_missing, .int v_nodes, .ref q_nodeAddresses, .ref q_nodeDistances, .ref q_nodeParents, .int v_found, .ref q_foundAddress, .ref q_foundDistance, .ref q_foundParent, .int v_words, .ref q_wordAt])), (q_nodeParents, .inl (cI, 100, .inl a_nodeParents))] (va_A [(h0, .inr (6, [.int v_routers, .ref q_parentOf, .ref q_addressOf, .ref q_depthOf, .int v_percent, .int v_random, .int v_distance, .int v_offset, .int v_value, .int v_isMade, .ref q_marks, .int v_received, .int v_unmarked, .ref q_missing, .int v_nodes, .ref q_nodeAddresses, .ref q_nodeDistances, .ref q_nodeParents, .int v_found, .ref q_foundAddress, .ref q_foundDistance, .ref q_foundParent, .int v_words, .ref q_wordAt])), (q_nodeParents, .inl (cI, 100, .inl a_nodeParents))] sz)) 0 0 (va_A [(h0, .inr (6, [.int v_routers, .ref q_parentOf, .ref q_addressOf, .ref q_depthOf, .int v_percent, .int v_random, .int v_distance, .int v_offset, .int v_value, .int v_isMade, .ref q_marks, .int v_received, .int v_unmarked, .ref q_missing, .int v_nodes, .ref q_nodeAddresses, .ref q_nodeDistances, .ref q_nodeParents, .int v_found, .ref q_foundAddress, .ref q_foundDistance, .ref q_foundParent, .int v_words, .ref q_wordAt])), (q_nodeParents, .inl (cI, 100, .inl a_nodeParents))] sz) := by
  refine ofX (cc := cX6_nodeParent) (maxL := 2) (ret := (some .int)) (lv0 := [(0, .ref h0), (1, .int p1)]) (QA := fun A => poI dC dI .int rr [(h0, .inr (6, [.int v_routers, .ref q_parentOf, .ref q_addressOf, .ref q_depthOf, .int v_percent, .int v_random, .int v_distance, .int v_offset, .int v_value, .int v_isMade, .ref q_marks, .int v_received, .int v_unmarked, .ref q_missing, .int v_nodes, .ref q_nodeAddresses, .ref q_nodeDistances, .ref q_nodeParents, .int v_found, .ref q_foundAddress, .ref q_foundDistance, .ref q_foundParent, .int v_words, .ref q_wordAt])), (q_nodeParents, .inl (cI, 100, .inl a_nodeParents))] A) (by decide) rfl (Nat.le_of_ble_eq_true rfl) rfl ?_
  intro p e s m below meth c A ls H locs hx hb hr hml hown hts hlocks hin hK hN hA hP hD hS hl
  have hown : s.vm.findClass RX6 = some m.cls := hown
  unfold fX6_nodeParent at h
  have hiX6 : ∀ w ∈ u_ws RX6 TX6 24, w ∈ wsX6_nodeParent := fun _ h => List.mem_cons_of_mem _ (List.mem_append_right _ h)
  have hf31 := (hts (.fieldLink RX6 31 "PacketTracebackModel" "nodeParents" "[I") (List.mem_of_getElem? (i := 1) (by decide +kernel)))
  refine lv_aload_n hx hb dX6_nodeParent_0 rfl (lv_at hl 0 rfl) ?_
  refine lv_iload_n hx hb dX6_nodeParent_1 rfl (lv_at hl 1 rfl) ?_
  obtain ⟨r1, h1, h⟩ := bd1_e h
  refine ca_Vi (wc := [(h0, .inr (6, [.int v_routers, .ref q_parentOf, .ref q_addressOf, .ref q_depthOf, .int v_percent, .int v_random, .int v_distance, .int v_offset, .int v_value, .int v_isMade, .ref q_marks, .int v_received, .int v_unmarked, .ref q_missing, .int v_nodes, .ref q_nodeAddresses, .ref q_nodeDistances, .ref q_nodeParents, .int v_found, .ref q_foundAddress, .ref q_foundDistance, .ref q_foundParent, .int v_words, .ref q_wordAt]))]) (wr := [(q_nodeParents, .inl (cI, 100, .inl a_nodeParents))]) (w1 := [(h0, .inr (6, [.int v_routers, .ref q_parentOf, .ref q_addressOf, .ref q_depthOf, .int v_percent, .int v_random, .int v_distance, .int v_offset, .int v_value, .int v_isMade, .ref q_marks, .int v_received, .int v_unmarked, .ref q_missing, .int v_nodes, .ref q_nodeAddresses, .ref q_nodeDistances, .ref q_nodeParents, .int v_found, .ref q_foundAddress, .ref q_foundDistance, .ref q_foundParent, .int v_words, .ref q_wordAt]))]) [.int p1] [] [0] [1] hx hb hml hown hts (mX6_isNode l dC dI cI H.size h0 q_parentOf q_addressOf q_depthOf q_marks q_missing q_nodeAddresses q_nodeDistances q_nodeParents q_foundAddress q_foundDistance q_foundParent q_wordAt v_routers v_percent v_random v_distance v_offset v_value v_isMade v_received v_unmarked v_nodes v_found v_words p1 h1) (cwV 1 hts gX6_nodeParent_X6_isNode rfl rfl rfl (by decide +kernel) ⟨Nat.le_of_ble_eq_true rfl, Nat.le_of_ble_eq_true rfl⟩) hK hN hP hD hS hA rfl rfl (by decide) (by decide) (by decide) rfl rfl rfl hl.1 rfl (Nat.le_of_ble_eq_true rfl) dX6_nodeParent_2 ⟨Nat.zero_le _, Nat.zero_le _⟩ (fun H locs hP hD hS hz1 => ?_)
  have hP : va_P (dC, dI) vwCl [(q_nodeParents, .inl (cI, 100, .inl a_nodeParents)), (h0, .inr (6, [.int v_routers, .ref q_parentOf, .ref q_addressOf, .ref q_depthOf, .int v_percent, .int v_random, .int v_distance, .int v_offset, .int v_value, .int v_isMade, .ref q_marks, .int v_received, .int v_unmarked, .ref q_missing, .int v_nodes, .ref q_nodeAddresses, .ref q_nodeDistances, .ref q_nodeParents, .int v_found, .ref q_foundAddress, .ref q_foundDistance, .ref q_foundParent, .int v_words, .ref q_wordAt]))] H := hP
  have hD : va_D A [(q_nodeParents, .inl (cI, 100, .inl a_nodeParents)), (h0, .inr (6, [.int v_routers, .ref q_parentOf, .ref q_addressOf, .ref q_depthOf, .int v_percent, .int v_random, .int v_distance, .int v_offset, .int v_value, .int v_isMade, .ref q_marks, .int v_received, .int v_unmarked, .ref q_missing, .int v_nodes, .ref q_nodeAddresses, .ref q_nodeDistances, .ref q_nodeParents, .int v_found, .ref q_foundAddress, .ref q_foundDistance, .ref q_foundParent, .int v_words, .ref q_wordAt]))] := hD
  refine lv_if_eq (tgt := 17) hx hb dX6_nodeParent_5 (by decide) (fun c2 => ?_) (fun c2 => ?_)
  · have h := it_p c2 h
    refine lv_bipush (v := (-5 : Int32)) hx hb dX6_nodeParent_17 (by decide) ?_
    have hk0 := Option.some.inj h
    cases hk0
    exact re_i [1, 0] hx hb hr hlocks rfl hP hD hS rfl (by decide) rfl dX6_nodeParent_19
  · have h := it_n c2 h
    refine lv_aload_n hx hb dX6_nodeParent_8 rfl (lv_at hl 0 rfl) ?_
    refine va_get (D := (dC, dI)) (ci := 6) (v := .ref q_nodeParents) (C := RX6) (T := TX6) (N := 24) hx hb hts hiX6 hown hK hP 1 rfl rfl 17 (by decide) hf31 (fun _ h9 => h9) rfl dX6_nodeParent_9 ?_
    refine lv_iload_n hx hb dX6_nodeParent_12 rfl (lv_at hl 1 rfl) ?_
    obtain ⟨g3, h⟩ := gd_e h
    refine va_iald hx hb hK hP 0 0 rfl rfl g3 dX6_nodeParent_13 ?_
    refine lv_goto (tgt := 19) hx hb dX6_nodeParent_14 (by decide) ?_
    have hk0 := Option.some.inj h
    cases hk0
    exact re_i [1, 0] hx hb hr hlocks rfl hP hD hS rfl (by decide) rfl dX6_nodeParent_19
def bX6_routerWith_2 (p1 : Int32) (v_routers : Int32) (a_addressOf : Nat → Int32) (y2_2 : Int32) : Option ((Int32) ⊕ (Int32)) :=
  if v_routers ≤ y2_2 then
    some (.inr (-7 : Int32))
  else
    if ¬ (y2_2 < 0 ∨ 20 ≤ y2_2.toNatClampNeg) then
      if (a_addressOf y2_2.toNatClampNeg) = p1 then
        some (.inr (y2_2))
      else
        some (.inl (y2_2 + 1))
    else none
def fX6_routerWith (N : Nat) (p1 : Int32) (v_routers : Int32) (a_addressOf : Nat → Int32) : Option (Int32) :=
  lp (fun s => bX6_routerWith_2 p1 v_routers a_addressOf s) N (0 : Int32)
set_option maxHeartbeats 4000000 in
set_option maxRecDepth 100000 in
theorem mX6_routerWith (l : Launch) (dC : Nat → ClassId) (dI : Nat → Nat → Nat) (cI : ClassId) (sz : Nat) (N : Nat) (h0 : Nat) (q_parentOf : Nat) (q_addressOf : Nat) (q_depthOf : Nat) (q_marks : Nat) (q_missing : Nat) (q_nodeAddresses : Nat) (q_nodeDistances : Nat) (q_nodeParents : Nat) (q_foundAddress : Nat) (q_foundDistance : Nat) (q_foundParent : Nat) (q_wordAt : Nat) (v_routers : Int32) (v_percent : Int32) (v_random : Int32) (v_distance : Int32) (v_offset : Int32) (v_value : Int32) (v_isMade : Int32) (v_received : Int32) (v_unmarked : Int32) (v_nodes : Int32) (v_found : Int32) (v_words : Int32) (a_addressOf : Nat → Int32) (p1 : Int32) {rr : Int32} (h : fX6_routerWith N p1 v_routers a_addressOf = some rr) : Met l yX6_routerWith wsX6_routerWith ({ frames := 0, cells := 0, slots := 0, locals := 0 } : Room) (prX dC dI cI [.ref h0, .int p1] sz [(h0, .inr (6, [.int v_routers, .ref q_parentOf, .ref q_addressOf, .ref q_depthOf, .int v_percent, .int v_random, .int v_distance, .int v_offset, .int v_value, .int v_isMade, .ref q_marks, .int v_received, .int v_unmarked, .ref q_missing, .int v_nodes, .ref q_nodeAddresses, .ref q_nodeDistances, .ref q_nodeParents, .int v_found, .ref q_foundAddress, .ref q_foundDistance, .ref q_foundParent, .int v_words, .ref q_wordAt])), (q_addressOf, .inl (cI, 20, .inl a_addressOf))]) (poI dC dI .int rr [(h0, .inr (6, [.int v_routers, .ref q_parentOf, .ref q_addressOf, .ref q_depthOf, .int v_percent, .int v_random, .int v_distance, .int v_offset, .int v_value, .int v_isMade, .ref q_marks, .int v_received, .int v_unmarked, .ref q_missing, .int v_nodes, .ref q_nodeAddresses, .ref q_nodeDistances, .ref q_nodeParents, .int v_found, .ref q_foundAddress, .ref q_foundDistance, .ref q_foundParent, .int v_words, .ref q_wordAt])), (q_addressOf, .inl (cI, 20, .inl a_addressOf))] (va_A [(h0, .inr (6, [.int v_routers, .ref q_parentOf, .ref q_addressOf, .ref q_depthOf, .int v_percent, .int v_random, .int v_distance, .int v_offset, .int v_value, .int v_isMade, .ref q_marks, .int v_received, .int v_unmarked, .ref q_missing, .int v_nodes, .ref q_nodeAddresses, .ref q_nodeDistances, .ref q_nodeParents, .int v_found, .ref q_foundAddress, .ref q_foundDistance, .ref q_foundParent, .int v_words, .ref q_wordAt])), (q_addressOf, .inl (cI, 20, .inl a_addressOf))] sz)) 0 0 (va_A [(h0, .inr (6, [.int v_routers, .ref q_parentOf, .ref q_addressOf, .ref q_depthOf, .int v_percent, .int v_random, .int v_distance, .int v_offset, .int v_value, .int v_isMade, .ref q_marks, .int v_received, .int v_unmarked, .ref q_missing, .int v_nodes, .ref q_nodeAddresses, .ref q_nodeDistances, .ref q_nodeParents, .int v_found, .ref q_foundAddress, .ref q_foundDistance, .ref q_foundParent, .int v_words, .ref q_wordAt])), (q_addressOf, .inl (cI, 20, .inl a_addressOf))] sz) := by
  refine ofX (cc := cX6_routerWith) (maxL := 3) (ret := (some .int)) (lv0 := [(0, .ref h0), (1, .int p1)]) (QA := fun A => poI dC dI .int rr [(h0, .inr (6, [.int v_routers, .ref q_parentOf, .ref q_addressOf, .ref q_depthOf, .int v_percent, .int v_random, .int v_distance, .int v_offset, .int v_value, .int v_isMade, .ref q_marks, .int v_received, .int v_unmarked, .ref q_missing, .int v_nodes, .ref q_nodeAddresses, .ref q_nodeDistances, .ref q_nodeParents, .int v_found, .ref q_foundAddress, .ref q_foundDistance, .ref q_foundParent, .int v_words, .ref q_wordAt])), (q_addressOf, .inl (cI, 20, .inl a_addressOf))] A) (by decide) rfl (Nat.le_of_ble_eq_true rfl) rfl ?_
  intro p e s m below meth c A ls H locs hx hb hr hml hown hts hlocks hin hK hN hA hP hD hS hl
  have hown : s.vm.findClass RX6 = some m.cls := hown
  unfold fX6_routerWith at h
  have hiX6 : ∀ w ∈ u_ws RX6 TX6 24, w ∈ wsX6_routerWith := fun _ h => List.mem_cons_of_mem _ (List.mem_append_right _ h)
  have hf53 := (hts (.fieldLink RX6 53 "PacketTracebackModel" "routers" "I") (List.mem_of_getElem? (i := 1) (by decide +kernel)))
  have hf13 := (hts (.fieldLink RX6 13 "PacketTracebackModel" "addressOf" "[I") (List.mem_of_getElem? (i := 2) (by decide +kernel)))
  refine lv_iconst (v := (0 : Int32)) hx hb dX6_routerWith_0 (by decide) ?_
  refine lv_istore_n (lv' := [(2, .int (0 : Int32)), (0, .ref h0), (1, .int p1)]) hx hb dX6_routerWith_1 rfl hl (by decide) rfl (fun ls hl => ?_)
  have key2 : ∀ (n1 : Nat) (y2_2 : Int32) (H : Heap) (locs : List Loc) (ls : Array Slot), lp (fun s => bX6_routerWith_2 p1 v_routers a_addressOf s) n1 y2_2 = some rr → va_P (dC, dI) vwCl [(h0, .inr (6, [.int v_routers, .ref q_parentOf, .ref q_addressOf, .ref q_depthOf, .int v_percent, .int v_random, .int v_distance, .int v_offset, .int v_value, .int v_isMade, .ref q_marks, .int v_received, .int v_unmarked, .ref q_missing, .int v_nodes, .ref q_nodeAddresses, .ref q_nodeDistances, .ref q_nodeParents, .int v_found, .ref q_foundAddress, .ref q_foundDistance, .ref q_foundParent, .int v_words, .ref q_wordAt])), (q_addressOf, .inl (cI, 20, .inl a_addressOf))] H → va_D A [(h0, .inr (6, [.int v_routers, .ref q_parentOf, .ref q_addressOf, .ref q_depthOf, .int v_percent, .int v_random, .int v_distance, .int v_offset, .int v_value, .int v_isMade, .ref q_marks, .int v_received, .int v_unmarked, .ref q_missing, .int v_nodes, .ref q_nodeAddresses, .ref q_nodeDistances, .ref q_nodeParents, .int v_found, .ref q_foundAddress, .ref q_foundDistance, .ref q_foundParent, .int v_words, .ref q_wordAt])), (q_addressOf, .inl (cI, 20, .inl a_addressOf))] → va_S A s.heap H locs → lv_has ls 3 [(2, .int y2_2), (0, .ref h0), (1, .int p1)] → W p l e ({ frames := 0, cells := 0, slots := 0, locals := 0 } : Room) s m [.ref h0, .int p1].toArray below meth c H locs 0 0 (MQ below (poI dC dI .int rr [(h0, .inr (6, [.int v_routers, .ref q_parentOf, .ref q_addressOf, .ref q_depthOf, .int v_percent, .int v_random, .int v_distance, .int v_offset, .int v_value, .int v_isMade, .ref q_marks, .int v_received, .int v_unmarked, .ref q_missing, .int v_nodes, .ref q_nodeAddresses, .ref q_nodeDistances, .ref q_nodeParents, .int v_found, .ref q_foundAddress, .ref q_foundDistance, .ref q_foundParent, .int v_words, .ref q_wordAt])), (q_addressOf, .inl (cI, 20, .inl a_addressOf))] A) [.ref h0, .int p1].toArray s 0 0 A) (F0 m 2 ls []) := by
    intro n1
    induction n1 with
    | zero =>
      intro y2_2 H locs ls h
      exact (lp_0 h).elim
    | succ n1 ih1 =>
      intro y2_2 H locs ls h hP hD hS hl
      obtain ⟨o1, h, hk1⟩ := lp_s h
      unfold bX6_routerWith_2 at h
      try dsimp only at h
      refine lv_iload_n hx hb dX6_routerWith_2 rfl (lv_at hl 0 rfl) ?_
      refine lv_aload_n hx hb dX6_routerWith_3 rfl (lv_at hl 1 rfl) ?_
      refine va_get (D := (dC, dI)) (ci := 6) (v := .int v_routers) (C := RX6) (T := TX6) (N := 24) hx hb hts hiX6 hown hK hP 0 rfl rfl 0 (by decide) hf53 (fun _ h9 => h9) rfl dX6_routerWith_4 ?_
      refine lv_icmp_ge (tgt := 28) hx hb dX6_routerWith_7 (by decide) (fun c1 => ?_) (fun c1 => ?_)
      · have h := it_p c1 h
        refine lv_bipush (v := (-7 : Int32)) hx hb dX6_routerWith_28 (by decide) ?_
        cases Option.some.inj h
        have hk1 := un_r hk1
        cases hk1
        exact re_i [0, 1] hx hb hr hlocks rfl hP hD hS rfl (by decide) rfl dX6_routerWith_30
      · have h := it_n c1 h
        refine lv_aload_n hx hb dX6_routerWith_10 rfl (lv_at hl 1 rfl) ?_
        refine va_get (D := (dC, dI)) (ci := 6) (v := .ref q_addressOf) (C := RX6) (T := TX6) (N := 24) hx hb hts hiX6 hown hK hP 0 rfl rfl 2 (by decide) hf13 (fun _ h9 => h9) rfl dX6_routerWith_11 ?_
        refine lv_iload_n hx hb dX6_routerWith_14 rfl (lv_at hl 0 rfl) ?_
        obtain ⟨g2, h⟩ := gd_e h
        refine va_iald hx hb hK hP 1 0 rfl rfl g2 dX6_routerWith_15 ?_
        refine lv_iload_n hx hb dX6_routerWith_16 rfl (lv_at hl 2 rfl) ?_
        refine lv_icmp_ne (tgt := 22) hx hb dX6_routerWith_17 (by decide) (fun c3 => ?_) (fun c3 => ?_)
        · have h := it_n c3 h
          refine lv_iinc (v := y2_2 + 1) (lv' := [(2, .int (y2_2 + 1)), (0, .ref h0), (1, .int p1)]) hx hb dX6_routerWith_22 hl (k := 0) rfl rfl (by decide) rfl (fun ls hl => ?_)
          refine lv_goto (tgt := 2) hx hb dX6_routerWith_25 (by decide) ?_
          cases Option.some.inj h
          exact ih1 _ _ _ _ (un_l hk1) (hP.sub [0, 1] rfl) (hD.sub [0, 1] (by decide) rfl) hS (lv_sub hl [0, 1, 2] rfl)
        · have h := it_p c3 h
          refine lv_iload_n hx hb dX6_routerWith_20 rfl (lv_at hl 0 rfl) ?_
          cases Option.some.inj h
          have hk1 := un_r hk1
          cases hk1
          exact re_i [0, 1] hx hb hr hlocks rfl hP hD hS rfl (by decide) rfl dX6_routerWith_21
  exact key2 N _ _ _ _ h hP hD hS hl
def bX6_routerOf_16 (a_parentOf : Nat → Int32) (a_addressOf : Nat → Int32) (a_nodeAddresses : Nat → Int32) (a_nodeParents : Nat → Int32) (y2_16 : Int32) (y3_16 : Int32) (y4_16 : Int32) : Option ((Int32 × Int32) ⊕ (Int32)) :=
  if y3_16 = (-7 : Int32) then
    if y3_16 = (-7 : Int32) then
      if y4_16 = (-7 : Int32) then
        some (.inr (y2_16))
      else
        some (.inr (-7 : Int32))
    else
      some (.inr (-7 : Int32))
  else
    if y4_16 = (-7 : Int32) then
      if y3_16 = (-7 : Int32) then
        if y4_16 = (-7 : Int32) then
          some (.inr (y2_16))
        else
          some (.inr (-7 : Int32))
      else
        some (.inr (-7 : Int32))
    else
      if ¬ (y3_16 < 0 ∨ 20 ≤ y3_16.toNatClampNeg) then
        if ¬ (y4_16 < 0 ∨ 100 ≤ y4_16.toNatClampNeg) then
          if (a_addressOf y3_16.toNatClampNeg) = (a_nodeAddresses y4_16.toNatClampNeg) then
            if ¬ (y3_16 < 0 ∨ 20 ≤ y3_16.toNatClampNeg) then
              nm ((a_parentOf y3_16.toNatClampNeg)) fun x15 =>
              if ¬ (y4_16 < 0 ∨ 100 ≤ y4_16.toNatClampNeg) then
                nm ((a_nodeParents y4_16.toNatClampNeg)) fun x17 =>
                some (.inl (x15, x17))
              else none
            else none
          else
            if y3_16 = (-7 : Int32) then
              if y4_16 = (-7 : Int32) then
                some (.inr (y2_16))
              else
                some (.inr (-7 : Int32))
            else
              some (.inr (-7 : Int32))
        else none
      else none
def fX6_routerOf (N : Nat) (p1 : Int32) (v_routers : Int32) (a_parentOf : Nat → Int32) (a_addressOf : Nat → Int32) (a_nodeAddresses : Nat → Int32) (a_nodeParents : Nat → Int32) : Option (Int32) :=
  if ¬ (p1 < 0 ∨ 100 ≤ p1.toNatClampNeg) then
    bd1 (fX6_routerWith N (a_nodeAddresses p1.toNatClampNeg) v_routers a_addressOf) fun r2 =>
    lp (fun s => bX6_routerOf_16 a_parentOf a_addressOf a_nodeAddresses a_nodeParents r2 s.1 s.2) N (r2, p1)
  else none
set_option maxHeartbeats 4000000 in
set_option maxRecDepth 100000 in
theorem mX6_routerOf (l : Launch) (dC : Nat → ClassId) (dI : Nat → Nat → Nat) (cI : ClassId) (sz : Nat) (N : Nat) (h0 : Nat) (q_parentOf : Nat) (q_addressOf : Nat) (q_depthOf : Nat) (q_marks : Nat) (q_missing : Nat) (q_nodeAddresses : Nat) (q_nodeDistances : Nat) (q_nodeParents : Nat) (q_foundAddress : Nat) (q_foundDistance : Nat) (q_foundParent : Nat) (q_wordAt : Nat) (v_routers : Int32) (v_percent : Int32) (v_random : Int32) (v_distance : Int32) (v_offset : Int32) (v_value : Int32) (v_isMade : Int32) (v_received : Int32) (v_unmarked : Int32) (v_nodes : Int32) (v_found : Int32) (v_words : Int32) (a_parentOf : Nat → Int32) (a_addressOf : Nat → Int32) (a_nodeAddresses : Nat → Int32) (a_nodeParents : Nat → Int32) (p1 : Int32) {rr : Int32} (h : fX6_routerOf N p1 v_routers a_parentOf a_addressOf a_nodeAddresses a_nodeParents = some rr) : Met l yX6_routerOf wsX6_routerOf ({ frames := 1, cells := 0, slots := 0, locals := 22 } : Room) (prX dC dI cI [.ref h0, .int p1] sz [(h0, .inr (6, [.int v_routers, .ref q_parentOf, .ref q_addressOf, .ref q_depthOf, .int v_percent, .int v_random, .int v_distance, .int v_offset, .int v_value, .int v_isMade, .ref q_marks, .int v_received, .int v_unmarked, .ref q_missing, .int v_nodes, .ref q_nodeAddresses, .ref q_nodeDistances, .ref q_nodeParents, .int v_found, .ref q_foundAddress, .ref q_foundDistance, .ref q_foundParent, .int v_words, .ref q_wordAt])), (q_parentOf, .inl (cI, 20, .inl a_parentOf)), (q_addressOf, .inl (cI, 20, .inl a_addressOf)), (q_nodeAddresses, .inl (cI, 100, .inl a_nodeAddresses)), (q_nodeParents, .inl (cI, 100, .inl a_nodeParents))]) (poI dC dI .int rr [(h0, .inr (6, [.int v_routers, .ref q_parentOf, .ref q_addressOf, .ref q_depthOf, .int v_percent, .int v_random, .int v_distance, .int v_offset, .int v_value, .int v_isMade, .ref q_marks, .int v_received, .int v_unmarked, .ref q_missing, .int v_nodes, .ref q_nodeAddresses, .ref q_nodeDistances, .ref q_nodeParents, .int v_found, .ref q_foundAddress, .ref q_foundDistance, .ref q_foundParent, .int v_words, .ref q_wordAt])), (q_parentOf, .inl (cI, 20, .inl a_parentOf)), (q_addressOf, .inl (cI, 20, .inl a_addressOf)), (q_nodeAddresses, .inl (cI, 100, .inl a_nodeAddresses)), (q_nodeParents, .inl (cI, 100, .inl a_nodeParents))] (va_A [(h0, .inr (6, [.int v_routers, .ref q_parentOf, .ref q_addressOf, .ref q_depthOf, .int v_percent, .int v_random, .int v_distance, .int v_offset, .int v_value, .int v_isMade, .ref q_marks, .int v_received, .int v_unmarked, .ref q_missing, .int v_nodes, .ref q_nodeAddresses, .ref q_nodeDistances, .ref q_nodeParents, .int v_found, .ref q_foundAddress, .ref q_foundDistance, .ref q_foundParent, .int v_words, .ref q_wordAt])), (q_parentOf, .inl (cI, 20, .inl a_parentOf)), (q_addressOf, .inl (cI, 20, .inl a_addressOf)), (q_nodeAddresses, .inl (cI, 100, .inl a_nodeAddresses)), (q_nodeParents, .inl (cI, 100, .inl a_nodeParents))] sz)) 0 0 (va_A [(h0, .inr (6, [.int v_routers, .ref q_parentOf, .ref q_addressOf, .ref q_depthOf, .int v_percent, .int v_random, .int v_distance, .int v_offset, .int v_value, .int v_isMade, .ref q_marks, .int v_received, .int v_unmarked, .ref q_missing, .int v_nodes, .ref q_nodeAddresses, .ref q_nodeDistances, .ref q_nodeParents, .int v_found, .ref q_foundAddress, .ref q_foundDistance, .ref q_foundParent, .int v_words, .ref q_wordAt])), (q_parentOf, .inl (cI, 20, .inl a_parentOf)), (q_addressOf, .inl (cI, 20, .inl a_addressOf)), (q_nodeAddresses, .inl (cI, 100, .inl a_nodeAddresses)), (q_nodeParents, .inl (cI, 100, .inl a_nodeParents))] sz) := by
  refine ofX (cc := cX6_routerOf) (maxL := 5) (ret := (some .int)) (lv0 := [(0, .ref h0), (1, .int p1)]) (QA := fun A => poI dC dI .int rr [(h0, .inr (6, [.int v_routers, .ref q_parentOf, .ref q_addressOf, .ref q_depthOf, .int v_percent, .int v_random, .int v_distance, .int v_offset, .int v_value, .int v_isMade, .ref q_marks, .int v_received, .int v_unmarked, .ref q_missing, .int v_nodes, .ref q_nodeAddresses, .ref q_nodeDistances, .ref q_nodeParents, .int v_found, .ref q_foundAddress, .ref q_foundDistance, .ref q_foundParent, .int v_words, .ref q_wordAt])), (q_parentOf, .inl (cI, 20, .inl a_parentOf)), (q_addressOf, .inl (cI, 20, .inl a_addressOf)), (q_nodeAddresses, .inl (cI, 100, .inl a_nodeAddresses)), (q_nodeParents, .inl (cI, 100, .inl a_nodeParents))] A) (by decide) rfl (Nat.le_of_ble_eq_true rfl) rfl ?_
  intro p e s m below meth c A ls H locs hx hb hr hml hown hts hlocks hin hK hN hA hP hD hS hl
  have hown : s.vm.findClass RX6 = some m.cls := hown
  unfold fX6_routerOf at h
  have hiX6 : ∀ w ∈ u_ws RX6 TX6 24, w ∈ wsX6_routerOf := fun _ h => List.mem_cons_of_mem _ (List.mem_append_right _ h)
  have hf25 := (hts (.fieldLink RX6 25 "PacketTracebackModel" "nodeAddresses" "[I") (List.mem_of_getElem? (i := 1) (by decide +kernel)))
  have hf13 := (hts (.fieldLink RX6 13 "PacketTracebackModel" "addressOf" "[I") (List.mem_of_getElem? (i := 2) (by decide +kernel)))
  have hf7 := (hts (.fieldLink RX6 7 "PacketTracebackModel" "parentOf" "[I") (List.mem_of_getElem? (i := 3) (by decide +kernel)))
  have hf31 := (hts (.fieldLink RX6 31 "PacketTracebackModel" "nodeParents" "[I") (List.mem_of_getElem? (i := 4) (by decide +kernel)))
  refine lv_aload_n hx hb dX6_routerOf_0 rfl (lv_at hl 0 rfl) ?_
  refine lv_aload_n hx hb dX6_routerOf_1 rfl (lv_at hl 0 rfl) ?_
  refine va_get (D := (dC, dI)) (ci := 6) (v := .ref q_nodeAddresses) (C := RX6) (T := TX6) (N := 24) hx hb hts hiX6 hown hK hP 0 rfl rfl 15 (by decide) hf25 (fun _ h9 => h9) rfl dX6_routerOf_2 ?_
  refine lv_iload_n hx hb dX6_routerOf_5 rfl (lv_at hl 1 rfl) ?_
  obtain ⟨g1, h⟩ := gd_e h
  refine va_iald hx hb hK hP 3 0 rfl rfl g1 dX6_routerOf_6 ?_
  obtain ⟨r2, h2, h⟩ := bd1_e h
  refine ca_Vi (wc := [(h0, .inr (6, [.int v_routers, .ref q_parentOf, .ref q_addressOf, .ref q_depthOf, .int v_percent, .int v_random, .int v_distance, .int v_offset, .int v_value, .int v_isMade, .ref q_marks, .int v_received, .int v_unmarked, .ref q_missing, .int v_nodes, .ref q_nodeAddresses, .ref q_nodeDistances, .ref q_nodeParents, .int v_found, .ref q_foundAddress, .ref q_foundDistance, .ref q_foundParent, .int v_words, .ref q_wordAt])), (q_addressOf, .inl (cI, 20, .inl a_addressOf))]) (wr := [(q_parentOf, .inl (cI, 20, .inl a_parentOf)), (q_nodeAddresses, .inl (cI, 100, .inl a_nodeAddresses)), (q_nodeParents, .inl (cI, 100, .inl a_nodeParents))]) (w1 := [(h0, .inr (6, [.int v_routers, .ref q_parentOf, .ref q_addressOf, .ref q_depthOf, .int v_percent, .int v_random, .int v_distance, .int v_offset, .int v_value, .int v_isMade, .ref q_marks, .int v_received, .int v_unmarked, .ref q_missing, .int v_nodes, .ref q_nodeAddresses, .ref q_nodeDistances, .ref q_nodeParents, .int v_found, .ref q_foundAddress, .ref q_foundDistance, .ref q_foundParent, .int v_words, .ref q_wordAt])), (q_addressOf, .inl (cI, 20, .inl a_addressOf))]) [.int (a_nodeAddresses p1.toNatClampNeg)] [] [0, 2] [1, 3, 4] hx hb hml hown hts (mX6_routerWith l dC dI cI H.size N h0 q_parentOf q_addressOf q_depthOf q_marks q_missing q_nodeAddresses q_nodeDistances q_nodeParents q_foundAddress q_foundDistance q_foundParent q_wordAt v_routers v_percent v_random v_distance v_offset v_value v_isMade v_received v_unmarked v_nodes v_found v_words a_addressOf (a_nodeAddresses p1.toNatClampNeg) h2) (cwV 1 hts gX6_routerOf_X6_routerWith rfl rfl rfl (by decide +kernel) ⟨Nat.le_of_ble_eq_true rfl, Nat.le_of_ble_eq_true rfl⟩) hK hN hP hD hS hA rfl rfl (by decide) (by decide) (by decide) rfl rfl rfl hl.1 rfl (Nat.le_of_ble_eq_true rfl) dX6_routerOf_7 ⟨Nat.zero_le _, Nat.zero_le _⟩ (fun H locs hP hD hS hz2 => ?_)
  have hP : va_P (dC, dI) vwCl [(q_parentOf, .inl (cI, 20, .inl a_parentOf)), (q_nodeAddresses, .inl (cI, 100, .inl a_nodeAddresses)), (q_nodeParents, .inl (cI, 100, .inl a_nodeParents)), (h0, .inr (6, [.int v_routers, .ref q_parentOf, .ref q_addressOf, .ref q_depthOf, .int v_percent, .int v_random, .int v_distance, .int v_offset, .int v_value, .int v_isMade, .ref q_marks, .int v_received, .int v_unmarked, .ref q_missing, .int v_nodes, .ref q_nodeAddresses, .ref q_nodeDistances, .ref q_nodeParents, .int v_found, .ref q_foundAddress, .ref q_foundDistance, .ref q_foundParent, .int v_words, .ref q_wordAt])), (q_addressOf, .inl (cI, 20, .inl a_addressOf))] H := hP
  have hD : va_D A [(q_parentOf, .inl (cI, 20, .inl a_parentOf)), (q_nodeAddresses, .inl (cI, 100, .inl a_nodeAddresses)), (q_nodeParents, .inl (cI, 100, .inl a_nodeParents)), (h0, .inr (6, [.int v_routers, .ref q_parentOf, .ref q_addressOf, .ref q_depthOf, .int v_percent, .int v_random, .int v_distance, .int v_offset, .int v_value, .int v_isMade, .ref q_marks, .int v_received, .int v_unmarked, .ref q_missing, .int v_nodes, .ref q_nodeAddresses, .ref q_nodeDistances, .ref q_nodeParents, .int v_found, .ref q_foundAddress, .ref q_foundDistance, .ref q_foundParent, .int v_words, .ref q_wordAt])), (q_addressOf, .inl (cI, 20, .inl a_addressOf))] := hD
  refine lv_istore_n (lv' := [(2, .int r2), (0, .ref h0), (1, .int p1)]) hx hb dX6_routerOf_10 rfl hl (by decide) rfl (fun ls hl => ?_)
  refine lv_iload_n hx hb dX6_routerOf_11 rfl (lv_at hl 0 rfl) ?_
  refine lv_istore_n (lv' := [(3, .int r2), (2, .int r2), (0, .ref h0), (1, .int p1)]) hx hb dX6_routerOf_12 rfl hl (by decide) rfl (fun ls hl => ?_)
  refine lv_iload_n hx hb dX6_routerOf_13 rfl (lv_at hl 3 rfl) ?_
  refine lv_istore (lv' := [(4, .int p1), (3, .int r2), (2, .int r2), (0, .ref h0), (1, .int p1)]) hx hb dX6_routerOf_14 hl (by decide) rfl (fun ls hl => ?_)
  have key16 : ∀ (y2_16 : Int32) (n1 : Nat) (y3_16 : Int32) (y4_16 : Int32) (H : Heap) (locs : List Loc) (ls : Array Slot), lp (fun s => bX6_routerOf_16 a_parentOf a_addressOf a_nodeAddresses a_nodeParents y2_16 s.1 s.2) n1 (y3_16, y4_16) = some rr → va_P (dC, dI) vwCl [(q_parentOf, .inl (cI, 20, .inl a_parentOf)), (q_nodeAddresses, .inl (cI, 100, .inl a_nodeAddresses)), (q_nodeParents, .inl (cI, 100, .inl a_nodeParents)), (h0, .inr (6, [.int v_routers, .ref q_parentOf, .ref q_addressOf, .ref q_depthOf, .int v_percent, .int v_random, .int v_distance, .int v_offset, .int v_value, .int v_isMade, .ref q_marks, .int v_received, .int v_unmarked, .ref q_missing, .int v_nodes, .ref q_nodeAddresses, .ref q_nodeDistances, .ref q_nodeParents, .int v_found, .ref q_foundAddress, .ref q_foundDistance, .ref q_foundParent, .int v_words, .ref q_wordAt])), (q_addressOf, .inl (cI, 20, .inl a_addressOf))] H → va_D A [(q_parentOf, .inl (cI, 20, .inl a_parentOf)), (q_nodeAddresses, .inl (cI, 100, .inl a_nodeAddresses)), (q_nodeParents, .inl (cI, 100, .inl a_nodeParents)), (h0, .inr (6, [.int v_routers, .ref q_parentOf, .ref q_addressOf, .ref q_depthOf, .int v_percent, .int v_random, .int v_distance, .int v_offset, .int v_value, .int v_isMade, .ref q_marks, .int v_received, .int v_unmarked, .ref q_missing, .int v_nodes, .ref q_nodeAddresses, .ref q_nodeDistances, .ref q_nodeParents, .int v_found, .ref q_foundAddress, .ref q_foundDistance, .ref q_foundParent, .int v_words, .ref q_wordAt])), (q_addressOf, .inl (cI, 20, .inl a_addressOf))] → va_S A s.heap H locs → lv_has ls 5 [(4, .int y4_16), (3, .int y3_16), (2, .int y2_16), (0, .ref h0), (1, .int p1)] → W p l e ({ frames := 1, cells := 0, slots := 0, locals := 22 } : Room) s m [.ref h0, .int p1].toArray below meth c H locs 0 0 (MQ below (poI dC dI .int rr [(h0, .inr (6, [.int v_routers, .ref q_parentOf, .ref q_addressOf, .ref q_depthOf, .int v_percent, .int v_random, .int v_distance, .int v_offset, .int v_value, .int v_isMade, .ref q_marks, .int v_received, .int v_unmarked, .ref q_missing, .int v_nodes, .ref q_nodeAddresses, .ref q_nodeDistances, .ref q_nodeParents, .int v_found, .ref q_foundAddress, .ref q_foundDistance, .ref q_foundParent, .int v_words, .ref q_wordAt])), (q_parentOf, .inl (cI, 20, .inl a_parentOf)), (q_addressOf, .inl (cI, 20, .inl a_addressOf)), (q_nodeAddresses, .inl (cI, 100, .inl a_nodeAddresses)), (q_nodeParents, .inl (cI, 100, .inl a_nodeParents))] A) [.ref h0, .int p1].toArray s 0 0 A) (F0 m 16 ls []) := by
    intro y2_16
    intro n1
    induction n1 with
    | zero =>
      intro y3_16 y4_16 H locs ls h
      exact (lp_0 h).elim
    | succ n1 ih1 =>
      intro y3_16 y4_16 H locs ls h hP hD hS hl
      obtain ⟨o1, h, hk1⟩ := lp_s h
      unfold bX6_routerOf_16 at h
      try dsimp only at h
      refine lv_iload_n hx hb dX6_routerOf_16 rfl (lv_at hl 1 rfl) ?_
      refine lv_bipush (v := (-7 : Int32)) hx hb dX6_routerOf_17 (by decide) ?_
      refine lv_icmp_eq (tgt := 64) hx hb dX6_routerOf_19 (by decide) (fun c3 => ?_) (fun c3 => ?_)
      · have h := it_p c3 h
        refine lv_iload_n hx hb dX6_routerOf_64 rfl (lv_at hl 1 rfl) ?_
        refine lv_bipush (v := (-7 : Int32)) hx hb dX6_routerOf_65 (by decide) ?_
        refine lv_icmp_ne (tgt := 81) hx hb dX6_routerOf_67 (by decide) (fun c4 => ?_) (fun c4 => ?_)
        · have h := it_n c4 h
          refine lv_bipush (v := (-7 : Int32)) hx hb dX6_routerOf_81 (by decide) ?_
          cases Option.some.inj h
          have hk1 := un_r hk1
          cases hk1
          exact re_i [3, 0, 4, 1, 2] hx hb hr hlocks rfl hP hD hS rfl (by decide) rfl dX6_routerOf_83
        · have h := it_p c4 h
          refine lv_iload hx hb dX6_routerOf_70 (lv_at hl 0 rfl) ?_
          refine lv_bipush (v := (-7 : Int32)) hx hb dX6_routerOf_72 (by decide) ?_
          refine lv_icmp_ne (tgt := 81) hx hb dX6_routerOf_74 (by decide) (fun c5 => ?_) (fun c5 => ?_)
          · have h := it_n c5 h
            refine lv_bipush (v := (-7 : Int32)) hx hb dX6_routerOf_81 (by decide) ?_
            cases Option.some.inj h
            have hk1 := un_r hk1
            cases hk1
            exact re_i [3, 0, 4, 1, 2] hx hb hr hlocks rfl hP hD hS rfl (by decide) rfl dX6_routerOf_83
          · have h := it_p c5 h
            refine lv_iload_n hx hb dX6_routerOf_77 rfl (lv_at hl 2 rfl) ?_
            refine lv_goto (tgt := 83) hx hb dX6_routerOf_78 (by decide) ?_
            cases Option.some.inj h
            have hk1 := un_r hk1
            cases hk1
            exact re_i [3, 0, 4, 1, 2] hx hb hr hlocks rfl hP hD hS rfl (by decide) rfl dX6_routerOf_83
      · have h := it_n c3 h
        refine lv_iload hx hb dX6_routerOf_22 (lv_at hl 0 rfl) ?_
        refine lv_bipush (v := (-7 : Int32)) hx hb dX6_routerOf_24 (by decide) ?_
        refine lv_icmp_eq (tgt := 64) hx hb dX6_routerOf_26 (by decide) (fun c6 => ?_) (fun c6 => ?_)
        · have h := it_p c6 h
          refine lv_iload_n hx hb dX6_routerOf_64 rfl (lv_at hl 1 rfl) ?_
          refine lv_bipush (v := (-7 : Int32)) hx hb dX6_routerOf_65 (by decide) ?_
          refine lv_icmp_ne (tgt := 81) hx hb dX6_routerOf_67 (by decide) (fun c7 => ?_) (fun c7 => ?_)
          · have h := it_n c7 h
            refine lv_bipush (v := (-7 : Int32)) hx hb dX6_routerOf_81 (by decide) ?_
            cases Option.some.inj h
            have hk1 := un_r hk1
            cases hk1
            exact re_i [3, 0, 4, 1, 2] hx hb hr hlocks rfl hP hD hS rfl (by decide) rfl dX6_routerOf_83
          · have h := it_p c7 h
            refine lv_iload hx hb dX6_routerOf_70 (lv_at hl 0 rfl) ?_
            refine lv_bipush (v := (-7 : Int32)) hx hb dX6_routerOf_72 (by decide) ?_
            refine lv_icmp_ne (tgt := 81) hx hb dX6_routerOf_74 (by decide) (fun c8 => ?_) (fun c8 => ?_)
            · have h := it_n c8 h
              refine lv_bipush (v := (-7 : Int32)) hx hb dX6_routerOf_81 (by decide) ?_
              cases Option.some.inj h
              have hk1 := un_r hk1
              cases hk1
              exact re_i [3, 0, 4, 1, 2] hx hb hr hlocks rfl hP hD hS rfl (by decide) rfl dX6_routerOf_83
            · have h := it_p c8 h
              refine lv_iload_n hx hb dX6_routerOf_77 rfl (lv_at hl 2 rfl) ?_
              refine lv_goto (tgt := 83) hx hb dX6_routerOf_78 (by decide) ?_
              cases Option.some.inj h
              have hk1 := un_r hk1
              cases hk1
              exact re_i [3, 0, 4, 1, 2] hx hb hr hlocks rfl hP hD hS rfl (by decide) rfl dX6_routerOf_83
        · have h := it_n c6 h
          refine lv_aload_n hx hb dX6_routerOf_29 rfl (lv_at hl 3 rfl) ?_
          refine va_get (D := (dC, dI)) (ci := 6) (v := .ref q_addressOf) (C := RX6) (T := TX6) (N := 24) hx hb hts hiX6 hown hK hP 3 rfl rfl 2 (by decide) hf13 (fun _ h9 => h9) rfl dX6_routerOf_30 ?_
          refine lv_iload_n hx hb dX6_routerOf_33 rfl (lv_at hl 1 rfl) ?_
          obtain ⟨g9, h⟩ := gd_e h
          refine va_iald hx hb hK hP 4 0 rfl rfl g9 dX6_routerOf_34 ?_
          refine lv_aload_n hx hb dX6_routerOf_35 rfl (lv_at hl 3 rfl) ?_
          refine va_get (D := (dC, dI)) (ci := 6) (v := .ref q_nodeAddresses) (C := RX6) (T := TX6) (N := 24) hx hb hts hiX6 hown hK hP 3 rfl rfl 15 (by decide) hf25 (fun _ h9 => h9) rfl dX6_routerOf_36 ?_
          refine lv_iload hx hb dX6_routerOf_39 (lv_at hl 0 rfl) ?_
          obtain ⟨g10, h⟩ := gd_e h
          refine va_iald hx hb hK hP 1 0 rfl rfl g10 dX6_routerOf_41 ?_
          refine lv_icmp_ne (tgt := 64) hx hb dX6_routerOf_42 (by decide) (fun c11 => ?_) (fun c11 => ?_)
          · have h := it_n c11 h
            refine lv_iload_n hx hb dX6_routerOf_64 rfl (lv_at hl 1 rfl) ?_
            refine lv_bipush (v := (-7 : Int32)) hx hb dX6_routerOf_65 (by decide) ?_
            refine lv_icmp_ne (tgt := 81) hx hb dX6_routerOf_67 (by decide) (fun c12 => ?_) (fun c12 => ?_)
            · have h := it_n c12 h
              refine lv_bipush (v := (-7 : Int32)) hx hb dX6_routerOf_81 (by decide) ?_
              cases Option.some.inj h
              have hk1 := un_r hk1
              cases hk1
              exact re_i [3, 0, 4, 1, 2] hx hb hr hlocks rfl hP hD hS rfl (by decide) rfl dX6_routerOf_83
            · have h := it_p c12 h
              refine lv_iload hx hb dX6_routerOf_70 (lv_at hl 0 rfl) ?_
              refine lv_bipush (v := (-7 : Int32)) hx hb dX6_routerOf_72 (by decide) ?_
              refine lv_icmp_ne (tgt := 81) hx hb dX6_routerOf_74 (by decide) (fun c13 => ?_) (fun c13 => ?_)
              · have h := it_n c13 h
                refine lv_bipush (v := (-7 : Int32)) hx hb dX6_routerOf_81 (by decide) ?_
                cases Option.some.inj h
                have hk1 := un_r hk1
                cases hk1
                exact re_i [3, 0, 4, 1, 2] hx hb hr hlocks rfl hP hD hS rfl (by decide) rfl dX6_routerOf_83
              · have h := it_p c13 h
                refine lv_iload_n hx hb dX6_routerOf_77 rfl (lv_at hl 2 rfl) ?_
                refine lv_goto (tgt := 83) hx hb dX6_routerOf_78 (by decide) ?_
                cases Option.some.inj h
                have hk1 := un_r hk1
                cases hk1
                exact re_i [3, 0, 4, 1, 2] hx hb hr hlocks rfl hP hD hS rfl (by decide) rfl dX6_routerOf_83
          · have h := it_p c11 h
            refine lv_aload_n hx hb dX6_routerOf_45 rfl (lv_at hl 3 rfl) ?_
            refine va_get (D := (dC, dI)) (ci := 6) (v := .ref q_parentOf) (C := RX6) (T := TX6) (N := 24) hx hb hts hiX6 hown hK hP 3 rfl rfl 1 (by decide) hf7 (fun _ h9 => h9) rfl dX6_routerOf_46 ?_
            refine lv_iload_n hx hb dX6_routerOf_49 rfl (lv_at hl 1 rfl) ?_
            obtain ⟨g14, h⟩ := gd_e h
            refine va_iald hx hb hK hP 0 0 rfl rfl g14 dX6_routerOf_50 ?_
            refine lv_topi (fun x15 ex15 => ?_)
            have h := nm_u ex15 h
            refine lv_istore_n (lv' := [(3, .int x15), (4, .int y4_16), (2, .int y2_16), (0, .ref h0), (1, .int p1)]) hx hb dX6_routerOf_51 rfl hl (by decide) rfl (fun ls hl => ?_)
            refine lv_aload_n hx hb dX6_routerOf_52 rfl (lv_at hl 3 rfl) ?_
            refine va_get (D := (dC, dI)) (ci := 6) (v := .ref q_nodeParents) (C := RX6) (T := TX6) (N := 24) hx hb hts hiX6 hown hK hP 3 rfl rfl 17 (by decide) hf31 (fun _ h9 => h9) rfl dX6_routerOf_53 ?_
            refine lv_iload hx hb dX6_routerOf_56 (lv_at hl 1 rfl) ?_
            obtain ⟨g16, h⟩ := gd_e h
            refine va_iald hx hb hK hP 2 0 rfl rfl g16 dX6_routerOf_58 ?_
            refine lv_topi (fun x17 ex17 => ?_)
            have h := nm_u ex17 h
            refine lv_istore (lv' := [(4, .int x17), (3, .int x15), (2, .int y2_16), (0, .ref h0), (1, .int p1)]) hx hb dX6_routerOf_59 hl (by decide) rfl (fun ls hl => ?_)
            refine lv_goto (tgt := 16) hx hb dX6_routerOf_61 (by decide) ?_
            cases Option.some.inj h
            exact ih1 _ _ _ _ _ (un_l hk1) (hP.sub [0, 1, 2, 3, 4] rfl) (hD.sub [0, 1, 2, 3, 4] (by decide) rfl) hS (lv_sub hl [0, 1, 2, 3, 4] rfl)
  exact key16 r2 N _ _ _ _ _ h hP hD hS hl
def fX6_nodeRouter (N : Nat) (p1 : Int32) (v_routers : Int32) (v_nodes : Int32) (a_parentOf : Nat → Int32) (a_addressOf : Nat → Int32) (a_nodeAddresses : Nat → Int32) (a_nodeParents : Nat → Int32) : Option (Int32) :=
  bd1 (fX6_isNode p1 v_nodes) fun r1 =>
  if r1 = 0 then
    some (-5 : Int32)
  else
    bd1 (fX6_routerOf N p1 v_routers a_parentOf a_addressOf a_nodeAddresses a_nodeParents) fun r3 =>
    some r3
set_option maxHeartbeats 4000000 in
set_option maxRecDepth 100000 in
theorem mX6_nodeRouter (l : Launch) (dC : Nat → ClassId) (dI : Nat → Nat → Nat) (cI : ClassId) (sz : Nat) (N : Nat) (h0 : Nat) (q_parentOf : Nat) (q_addressOf : Nat) (q_depthOf : Nat) (q_marks : Nat) (q_missing : Nat) (q_nodeAddresses : Nat) (q_nodeDistances : Nat) (q_nodeParents : Nat) (q_foundAddress : Nat) (q_foundDistance : Nat) (q_foundParent : Nat) (q_wordAt : Nat) (v_routers : Int32) (v_percent : Int32) (v_random : Int32) (v_distance : Int32) (v_offset : Int32) (v_value : Int32) (v_isMade : Int32) (v_received : Int32) (v_unmarked : Int32) (v_nodes : Int32) (v_found : Int32) (v_words : Int32) (a_parentOf : Nat → Int32) (a_addressOf : Nat → Int32) (a_nodeAddresses : Nat → Int32) (a_nodeParents : Nat → Int32) (p1 : Int32) {rr : Int32} (h : fX6_nodeRouter N p1 v_routers v_nodes a_parentOf a_addressOf a_nodeAddresses a_nodeParents = some rr) : Met l yX6_nodeRouter wsX6_nodeRouter ({ frames := 2, cells := 0, slots := 0, locals := 46 } : Room) (prX dC dI cI [.ref h0, .int p1] sz [(h0, .inr (6, [.int v_routers, .ref q_parentOf, .ref q_addressOf, .ref q_depthOf, .int v_percent, .int v_random, .int v_distance, .int v_offset, .int v_value, .int v_isMade, .ref q_marks, .int v_received, .int v_unmarked, .ref q_missing, .int v_nodes, .ref q_nodeAddresses, .ref q_nodeDistances, .ref q_nodeParents, .int v_found, .ref q_foundAddress, .ref q_foundDistance, .ref q_foundParent, .int v_words, .ref q_wordAt])), (q_parentOf, .inl (cI, 20, .inl a_parentOf)), (q_addressOf, .inl (cI, 20, .inl a_addressOf)), (q_nodeAddresses, .inl (cI, 100, .inl a_nodeAddresses)), (q_nodeParents, .inl (cI, 100, .inl a_nodeParents))]) (poI dC dI .int rr [(h0, .inr (6, [.int v_routers, .ref q_parentOf, .ref q_addressOf, .ref q_depthOf, .int v_percent, .int v_random, .int v_distance, .int v_offset, .int v_value, .int v_isMade, .ref q_marks, .int v_received, .int v_unmarked, .ref q_missing, .int v_nodes, .ref q_nodeAddresses, .ref q_nodeDistances, .ref q_nodeParents, .int v_found, .ref q_foundAddress, .ref q_foundDistance, .ref q_foundParent, .int v_words, .ref q_wordAt])), (q_parentOf, .inl (cI, 20, .inl a_parentOf)), (q_addressOf, .inl (cI, 20, .inl a_addressOf)), (q_nodeAddresses, .inl (cI, 100, .inl a_nodeAddresses)), (q_nodeParents, .inl (cI, 100, .inl a_nodeParents))] (va_A [(h0, .inr (6, [.int v_routers, .ref q_parentOf, .ref q_addressOf, .ref q_depthOf, .int v_percent, .int v_random, .int v_distance, .int v_offset, .int v_value, .int v_isMade, .ref q_marks, .int v_received, .int v_unmarked, .ref q_missing, .int v_nodes, .ref q_nodeAddresses, .ref q_nodeDistances, .ref q_nodeParents, .int v_found, .ref q_foundAddress, .ref q_foundDistance, .ref q_foundParent, .int v_words, .ref q_wordAt])), (q_parentOf, .inl (cI, 20, .inl a_parentOf)), (q_addressOf, .inl (cI, 20, .inl a_addressOf)), (q_nodeAddresses, .inl (cI, 100, .inl a_nodeAddresses)), (q_nodeParents, .inl (cI, 100, .inl a_nodeParents))] sz)) 0 0 (va_A [(h0, .inr (6, [.int v_routers, .ref q_parentOf, .ref q_addressOf, .ref q_depthOf, .int v_percent, .int v_random, .int v_distance, .int v_offset, .int v_value, .int v_isMade, .ref q_marks, .int v_received, .int v_unmarked, .ref q_missing, .int v_nodes, .ref q_nodeAddresses, .ref q_nodeDistances, .ref q_nodeParents, .int v_found, .ref q_foundAddress, .ref q_foundDistance, .ref q_foundParent, .int v_words, .ref q_wordAt])), (q_parentOf, .inl (cI, 20, .inl a_parentOf)), (q_addressOf, .inl (cI, 20, .inl a_addressOf)), (q_nodeAddresses, .inl (cI, 100, .inl a_nodeAddresses)), (q_nodeParents, .inl (cI, 100, .inl a_nodeParents))] sz) := by
  refine ofX (cc := cX6_nodeRouter) (maxL := 2) (ret := (some .int)) (lv0 := [(0, .ref h0), (1, .int p1)]) (QA := fun A => poI dC dI .int rr [(h0, .inr (6, [.int v_routers, .ref q_parentOf, .ref q_addressOf, .ref q_depthOf, .int v_percent, .int v_random, .int v_distance, .int v_offset, .int v_value, .int v_isMade, .ref q_marks, .int v_received, .int v_unmarked, .ref q_missing, .int v_nodes, .ref q_nodeAddresses, .ref q_nodeDistances, .ref q_nodeParents, .int v_found, .ref q_foundAddress, .ref q_foundDistance, .ref q_foundParent, .int v_words, .ref q_wordAt])), (q_parentOf, .inl (cI, 20, .inl a_parentOf)), (q_addressOf, .inl (cI, 20, .inl a_addressOf)), (q_nodeAddresses, .inl (cI, 100, .inl a_nodeAddresses)), (q_nodeParents, .inl (cI, 100, .inl a_nodeParents))] A) (by decide) rfl (Nat.le_of_ble_eq_true rfl) rfl ?_
  intro p e s m below meth c A ls H locs hx hb hr hml hown hts hlocks hin hK hN hA hP hD hS hl
  have hown : s.vm.findClass RX6 = some m.cls := hown
  unfold fX6_nodeRouter at h
  refine lv_aload_n hx hb dX6_nodeRouter_0 rfl (lv_at hl 0 rfl) ?_
  refine lv_iload_n hx hb dX6_nodeRouter_1 rfl (lv_at hl 1 rfl) ?_
  obtain ⟨r1, h1, h⟩ := bd1_e h
  refine ca_Vi (wc := [(h0, .inr (6, [.int v_routers, .ref q_parentOf, .ref q_addressOf, .ref q_depthOf, .int v_percent, .int v_random, .int v_distance, .int v_offset, .int v_value, .int v_isMade, .ref q_marks, .int v_received, .int v_unmarked, .ref q_missing, .int v_nodes, .ref q_nodeAddresses, .ref q_nodeDistances, .ref q_nodeParents, .int v_found, .ref q_foundAddress, .ref q_foundDistance, .ref q_foundParent, .int v_words, .ref q_wordAt]))]) (wr := [(q_parentOf, .inl (cI, 20, .inl a_parentOf)), (q_addressOf, .inl (cI, 20, .inl a_addressOf)), (q_nodeAddresses, .inl (cI, 100, .inl a_nodeAddresses)), (q_nodeParents, .inl (cI, 100, .inl a_nodeParents))]) (w1 := [(h0, .inr (6, [.int v_routers, .ref q_parentOf, .ref q_addressOf, .ref q_depthOf, .int v_percent, .int v_random, .int v_distance, .int v_offset, .int v_value, .int v_isMade, .ref q_marks, .int v_received, .int v_unmarked, .ref q_missing, .int v_nodes, .ref q_nodeAddresses, .ref q_nodeDistances, .ref q_nodeParents, .int v_found, .ref q_foundAddress, .ref q_foundDistance, .ref q_foundParent, .int v_words, .ref q_wordAt]))]) [.int p1] [] [0] [1, 2, 3, 4] hx hb hml hown hts (mX6_isNode l dC dI cI H.size h0 q_parentOf q_addressOf q_depthOf q_marks q_missing q_nodeAddresses q_nodeDistances q_nodeParents q_foundAddress q_foundDistance q_foundParent q_wordAt v_routers v_percent v_random v_distance v_offset v_value v_isMade v_received v_unmarked v_nodes v_found v_words p1 h1) (cwV 1 hts gX6_nodeRouter_X6_isNode rfl rfl rfl (by decide +kernel) ⟨Nat.le_of_ble_eq_true rfl, Nat.le_of_ble_eq_true rfl⟩) hK hN hP hD hS hA rfl rfl (by decide) (by decide) (by decide) rfl rfl rfl hl.1 rfl (Nat.le_of_ble_eq_true rfl) dX6_nodeRouter_2 ⟨Nat.zero_le _, Nat.zero_le _⟩ (fun H locs hP hD hS hz1 => ?_)
  have hP : va_P (dC, dI) vwCl [(q_parentOf, .inl (cI, 20, .inl a_parentOf)), (q_addressOf, .inl (cI, 20, .inl a_addressOf)), (q_nodeAddresses, .inl (cI, 100, .inl a_nodeAddresses)), (q_nodeParents, .inl (cI, 100, .inl a_nodeParents)), (h0, .inr (6, [.int v_routers, .ref q_parentOf, .ref q_addressOf, .ref q_depthOf, .int v_percent, .int v_random, .int v_distance, .int v_offset, .int v_value, .int v_isMade, .ref q_marks, .int v_received, .int v_unmarked, .ref q_missing, .int v_nodes, .ref q_nodeAddresses, .ref q_nodeDistances, .ref q_nodeParents, .int v_found, .ref q_foundAddress, .ref q_foundDistance, .ref q_foundParent, .int v_words, .ref q_wordAt]))] H := hP
  have hD : va_D A [(q_parentOf, .inl (cI, 20, .inl a_parentOf)), (q_addressOf, .inl (cI, 20, .inl a_addressOf)), (q_nodeAddresses, .inl (cI, 100, .inl a_nodeAddresses)), (q_nodeParents, .inl (cI, 100, .inl a_nodeParents)), (h0, .inr (6, [.int v_routers, .ref q_parentOf, .ref q_addressOf, .ref q_depthOf, .int v_percent, .int v_random, .int v_distance, .int v_offset, .int v_value, .int v_isMade, .ref q_marks, .int v_received, .int v_unmarked, .ref q_missing, .int v_nodes, .ref q_nodeAddresses, .ref q_nodeDistances, .ref q_nodeParents, .int v_found, .ref q_foundAddress, .ref q_foundDistance, .ref q_foundParent, .int v_words, .ref q_wordAt]))] := hD
  refine lv_if_eq (tgt := 16) hx hb dX6_nodeRouter_5 (by decide) (fun c2 => ?_) (fun c2 => ?_)
  · have h := it_p c2 h
    refine lv_bipush (v := (-5 : Int32)) hx hb dX6_nodeRouter_16 (by decide) ?_
    have hk0 := Option.some.inj h
    cases hk0
    exact re_i [4, 0, 1, 2, 3] hx hb hr hlocks rfl hP hD hS rfl (by decide) rfl dX6_nodeRouter_18
  · have h := it_n c2 h
    refine lv_aload_n hx hb dX6_nodeRouter_8 rfl (lv_at hl 0 rfl) ?_
    refine lv_iload_n hx hb dX6_nodeRouter_9 rfl (lv_at hl 1 rfl) ?_
    obtain ⟨r3, h3, h⟩ := bd1_e h
    refine ca_Vi (wc := [(h0, .inr (6, [.int v_routers, .ref q_parentOf, .ref q_addressOf, .ref q_depthOf, .int v_percent, .int v_random, .int v_distance, .int v_offset, .int v_value, .int v_isMade, .ref q_marks, .int v_received, .int v_unmarked, .ref q_missing, .int v_nodes, .ref q_nodeAddresses, .ref q_nodeDistances, .ref q_nodeParents, .int v_found, .ref q_foundAddress, .ref q_foundDistance, .ref q_foundParent, .int v_words, .ref q_wordAt])), (q_parentOf, .inl (cI, 20, .inl a_parentOf)), (q_addressOf, .inl (cI, 20, .inl a_addressOf)), (q_nodeAddresses, .inl (cI, 100, .inl a_nodeAddresses)), (q_nodeParents, .inl (cI, 100, .inl a_nodeParents))]) (wr := []) (w1 := [(h0, .inr (6, [.int v_routers, .ref q_parentOf, .ref q_addressOf, .ref q_depthOf, .int v_percent, .int v_random, .int v_distance, .int v_offset, .int v_value, .int v_isMade, .ref q_marks, .int v_received, .int v_unmarked, .ref q_missing, .int v_nodes, .ref q_nodeAddresses, .ref q_nodeDistances, .ref q_nodeParents, .int v_found, .ref q_foundAddress, .ref q_foundDistance, .ref q_foundParent, .int v_words, .ref q_wordAt])), (q_parentOf, .inl (cI, 20, .inl a_parentOf)), (q_addressOf, .inl (cI, 20, .inl a_addressOf)), (q_nodeAddresses, .inl (cI, 100, .inl a_nodeAddresses)), (q_nodeParents, .inl (cI, 100, .inl a_nodeParents))]) [.int p1] [] [4, 0, 1, 2, 3] [] hx hb hml hown hts (mX6_routerOf l dC dI cI H.size N h0 q_parentOf q_addressOf q_depthOf q_marks q_missing q_nodeAddresses q_nodeDistances q_nodeParents q_foundAddress q_foundDistance q_foundParent q_wordAt v_routers v_percent v_random v_distance v_offset v_value v_isMade v_received v_unmarked v_nodes v_found v_words a_parentOf a_addressOf a_nodeAddresses a_nodeParents p1 h3) (cwV 1 hts gX6_nodeRouter_X6_routerOf rfl rfl rfl (by decide +kernel) ⟨Nat.le_of_ble_eq_true rfl, Nat.le_of_ble_eq_true rfl⟩) hK hN hP hD hS hA rfl rfl (by decide) (by decide) (by decide) rfl rfl rfl hl.1 rfl (Nat.le_of_ble_eq_true rfl) dX6_nodeRouter_10 ⟨Nat.zero_le _, Nat.zero_le _⟩ (fun H locs hP hD hS hz3 => ?_)
    have hP : va_P (dC, dI) vwCl [(h0, .inr (6, [.int v_routers, .ref q_parentOf, .ref q_addressOf, .ref q_depthOf, .int v_percent, .int v_random, .int v_distance, .int v_offset, .int v_value, .int v_isMade, .ref q_marks, .int v_received, .int v_unmarked, .ref q_missing, .int v_nodes, .ref q_nodeAddresses, .ref q_nodeDistances, .ref q_nodeParents, .int v_found, .ref q_foundAddress, .ref q_foundDistance, .ref q_foundParent, .int v_words, .ref q_wordAt])), (q_parentOf, .inl (cI, 20, .inl a_parentOf)), (q_addressOf, .inl (cI, 20, .inl a_addressOf)), (q_nodeAddresses, .inl (cI, 100, .inl a_nodeAddresses)), (q_nodeParents, .inl (cI, 100, .inl a_nodeParents))] H := hP
    have hD : va_D A [(h0, .inr (6, [.int v_routers, .ref q_parentOf, .ref q_addressOf, .ref q_depthOf, .int v_percent, .int v_random, .int v_distance, .int v_offset, .int v_value, .int v_isMade, .ref q_marks, .int v_received, .int v_unmarked, .ref q_missing, .int v_nodes, .ref q_nodeAddresses, .ref q_nodeDistances, .ref q_nodeParents, .int v_found, .ref q_foundAddress, .ref q_foundDistance, .ref q_foundParent, .int v_words, .ref q_wordAt])), (q_parentOf, .inl (cI, 20, .inl a_parentOf)), (q_addressOf, .inl (cI, 20, .inl a_addressOf)), (q_nodeAddresses, .inl (cI, 100, .inl a_nodeAddresses)), (q_nodeParents, .inl (cI, 100, .inl a_nodeParents))] := hD
    refine lv_goto (tgt := 18) hx hb dX6_nodeRouter_13 (by decide) ?_
    have hk0 := Option.some.inj h
    cases hk0
    exact re_i [0, 1, 2, 3, 4] hx hb hr hlocks rfl hP hD hS rfl (by decide) rfl dX6_nodeRouter_18
def bX6_falseNodeCount_4 (N : Nat) (v_routers : Int32) (v_nodes : Int32) (a_parentOf : Nat → Int32) (a_addressOf : Nat → Int32) (a_nodeAddresses : Nat → Int32) (a_nodeParents : Nat → Int32) (y1_4 : Int32) (y2_4 : Int32) : Option ((Int32 × Int32) ⊕ (Int32)) :=
  if v_nodes ≤ y2_4 then
    some (.inr (y1_4))
  else
    bd1 (fX6_routerOf N y2_4 v_routers a_parentOf a_addressOf a_nodeAddresses a_nodeParents) fun r2 =>
    if r2 = (-7 : Int32) then
      nm ((y1_4 + (1 : Int32))) fun x5 =>
      some (.inl (x5, (y2_4 + 1)))
    else
      nm ((y1_4 + (0 : Int32))) fun x4 =>
      some (.inl (x4, (y2_4 + 1)))
def fX6_falseNodeCount (N : Nat) (v_routers : Int32) (v_nodes : Int32) (a_parentOf : Nat → Int32) (a_addressOf : Nat → Int32) (a_nodeAddresses : Nat → Int32) (a_nodeParents : Nat → Int32) : Option (Int32) :=
  lp (fun s => bX6_falseNodeCount_4 N v_routers v_nodes a_parentOf a_addressOf a_nodeAddresses a_nodeParents s.1 s.2) N ((0 : Int32), (0 : Int32))
set_option maxHeartbeats 4000000 in
set_option maxRecDepth 100000 in
theorem mX6_falseNodeCount (l : Launch) (dC : Nat → ClassId) (dI : Nat → Nat → Nat) (cI : ClassId) (sz : Nat) (N : Nat) (h0 : Nat) (q_parentOf : Nat) (q_addressOf : Nat) (q_depthOf : Nat) (q_marks : Nat) (q_missing : Nat) (q_nodeAddresses : Nat) (q_nodeDistances : Nat) (q_nodeParents : Nat) (q_foundAddress : Nat) (q_foundDistance : Nat) (q_foundParent : Nat) (q_wordAt : Nat) (v_routers : Int32) (v_percent : Int32) (v_random : Int32) (v_distance : Int32) (v_offset : Int32) (v_value : Int32) (v_isMade : Int32) (v_received : Int32) (v_unmarked : Int32) (v_nodes : Int32) (v_found : Int32) (v_words : Int32) (a_parentOf : Nat → Int32) (a_addressOf : Nat → Int32) (a_nodeAddresses : Nat → Int32) (a_nodeParents : Nat → Int32) {rr : Int32} (h : fX6_falseNodeCount N v_routers v_nodes a_parentOf a_addressOf a_nodeAddresses a_nodeParents = some rr) : Met l yX6_falseNodeCount wsX6_falseNodeCount ({ frames := 2, cells := 0, slots := 0, locals := 46 } : Room) (prX dC dI cI [.ref h0] sz [(h0, .inr (6, [.int v_routers, .ref q_parentOf, .ref q_addressOf, .ref q_depthOf, .int v_percent, .int v_random, .int v_distance, .int v_offset, .int v_value, .int v_isMade, .ref q_marks, .int v_received, .int v_unmarked, .ref q_missing, .int v_nodes, .ref q_nodeAddresses, .ref q_nodeDistances, .ref q_nodeParents, .int v_found, .ref q_foundAddress, .ref q_foundDistance, .ref q_foundParent, .int v_words, .ref q_wordAt])), (q_parentOf, .inl (cI, 20, .inl a_parentOf)), (q_addressOf, .inl (cI, 20, .inl a_addressOf)), (q_nodeAddresses, .inl (cI, 100, .inl a_nodeAddresses)), (q_nodeParents, .inl (cI, 100, .inl a_nodeParents))]) (poI dC dI .int rr [(h0, .inr (6, [.int v_routers, .ref q_parentOf, .ref q_addressOf, .ref q_depthOf, .int v_percent, .int v_random, .int v_distance, .int v_offset, .int v_value, .int v_isMade, .ref q_marks, .int v_received, .int v_unmarked, .ref q_missing, .int v_nodes, .ref q_nodeAddresses, .ref q_nodeDistances, .ref q_nodeParents, .int v_found, .ref q_foundAddress, .ref q_foundDistance, .ref q_foundParent, .int v_words, .ref q_wordAt])), (q_parentOf, .inl (cI, 20, .inl a_parentOf)), (q_addressOf, .inl (cI, 20, .inl a_addressOf)), (q_nodeAddresses, .inl (cI, 100, .inl a_nodeAddresses)), (q_nodeParents, .inl (cI, 100, .inl a_nodeParents))] (va_A [(h0, .inr (6, [.int v_routers, .ref q_parentOf, .ref q_addressOf, .ref q_depthOf, .int v_percent, .int v_random, .int v_distance, .int v_offset, .int v_value, .int v_isMade, .ref q_marks, .int v_received, .int v_unmarked, .ref q_missing, .int v_nodes, .ref q_nodeAddresses, .ref q_nodeDistances, .ref q_nodeParents, .int v_found, .ref q_foundAddress, .ref q_foundDistance, .ref q_foundParent, .int v_words, .ref q_wordAt])), (q_parentOf, .inl (cI, 20, .inl a_parentOf)), (q_addressOf, .inl (cI, 20, .inl a_addressOf)), (q_nodeAddresses, .inl (cI, 100, .inl a_nodeAddresses)), (q_nodeParents, .inl (cI, 100, .inl a_nodeParents))] sz)) 0 0 (va_A [(h0, .inr (6, [.int v_routers, .ref q_parentOf, .ref q_addressOf, .ref q_depthOf, .int v_percent, .int v_random, .int v_distance, .int v_offset, .int v_value, .int v_isMade, .ref q_marks, .int v_received, .int v_unmarked, .ref q_missing, .int v_nodes, .ref q_nodeAddresses, .ref q_nodeDistances, .ref q_nodeParents, .int v_found, .ref q_foundAddress, .ref q_foundDistance, .ref q_foundParent, .int v_words, .ref q_wordAt])), (q_parentOf, .inl (cI, 20, .inl a_parentOf)), (q_addressOf, .inl (cI, 20, .inl a_addressOf)), (q_nodeAddresses, .inl (cI, 100, .inl a_nodeAddresses)), (q_nodeParents, .inl (cI, 100, .inl a_nodeParents))] sz) := by
  refine ofX (cc := cX6_falseNodeCount) (maxL := 3) (ret := (some .int)) (lv0 := [(0, .ref h0)]) (QA := fun A => poI dC dI .int rr [(h0, .inr (6, [.int v_routers, .ref q_parentOf, .ref q_addressOf, .ref q_depthOf, .int v_percent, .int v_random, .int v_distance, .int v_offset, .int v_value, .int v_isMade, .ref q_marks, .int v_received, .int v_unmarked, .ref q_missing, .int v_nodes, .ref q_nodeAddresses, .ref q_nodeDistances, .ref q_nodeParents, .int v_found, .ref q_foundAddress, .ref q_foundDistance, .ref q_foundParent, .int v_words, .ref q_wordAt])), (q_parentOf, .inl (cI, 20, .inl a_parentOf)), (q_addressOf, .inl (cI, 20, .inl a_addressOf)), (q_nodeAddresses, .inl (cI, 100, .inl a_nodeAddresses)), (q_nodeParents, .inl (cI, 100, .inl a_nodeParents))] A) (by decide) rfl (Nat.le_of_ble_eq_true rfl) rfl ?_
  intro p e s m below meth c A ls H locs hx hb hr hml hown hts hlocks hin hK hN hA hP hD hS hl
  have hown : s.vm.findClass RX6 = some m.cls := hown
  unfold fX6_falseNodeCount at h
  have hiX6 : ∀ w ∈ u_ws RX6 TX6 24, w ∈ wsX6_falseNodeCount := fun _ h => List.mem_cons_of_mem _ (List.mem_append_right _ h)
  have hf166 := (hts (.fieldLink RX6 166 "PacketTracebackModel" "nodes" "I") (List.mem_of_getElem? (i := 1) (by decide +kernel)))
  refine lv_iconst (v := (0 : Int32)) hx hb dX6_falseNodeCount_0 (by decide) ?_
  refine lv_istore_n (lv' := [(1, .int (0 : Int32)), (0, .ref h0)]) hx hb dX6_falseNodeCount_1 rfl hl (by decide) rfl (fun ls hl => ?_)
  refine lv_iconst (v := (0 : Int32)) hx hb dX6_falseNodeCount_2 (by decide) ?_
  refine lv_istore_n (lv' := [(2, .int (0 : Int32)), (1, .int (0 : Int32)), (0, .ref h0)]) hx hb dX6_falseNodeCount_3 rfl hl (by decide) rfl (fun ls hl => ?_)
  have key4 : ∀ (n1 : Nat) (y1_4 : Int32) (y2_4 : Int32) (H : Heap) (locs : List Loc) (ls : Array Slot), lp (fun s => bX6_falseNodeCount_4 N v_routers v_nodes a_parentOf a_addressOf a_nodeAddresses a_nodeParents s.1 s.2) n1 (y1_4, y2_4) = some rr → va_P (dC, dI) vwCl [(h0, .inr (6, [.int v_routers, .ref q_parentOf, .ref q_addressOf, .ref q_depthOf, .int v_percent, .int v_random, .int v_distance, .int v_offset, .int v_value, .int v_isMade, .ref q_marks, .int v_received, .int v_unmarked, .ref q_missing, .int v_nodes, .ref q_nodeAddresses, .ref q_nodeDistances, .ref q_nodeParents, .int v_found, .ref q_foundAddress, .ref q_foundDistance, .ref q_foundParent, .int v_words, .ref q_wordAt])), (q_parentOf, .inl (cI, 20, .inl a_parentOf)), (q_addressOf, .inl (cI, 20, .inl a_addressOf)), (q_nodeAddresses, .inl (cI, 100, .inl a_nodeAddresses)), (q_nodeParents, .inl (cI, 100, .inl a_nodeParents))] H → va_D A [(h0, .inr (6, [.int v_routers, .ref q_parentOf, .ref q_addressOf, .ref q_depthOf, .int v_percent, .int v_random, .int v_distance, .int v_offset, .int v_value, .int v_isMade, .ref q_marks, .int v_received, .int v_unmarked, .ref q_missing, .int v_nodes, .ref q_nodeAddresses, .ref q_nodeDistances, .ref q_nodeParents, .int v_found, .ref q_foundAddress, .ref q_foundDistance, .ref q_foundParent, .int v_words, .ref q_wordAt])), (q_parentOf, .inl (cI, 20, .inl a_parentOf)), (q_addressOf, .inl (cI, 20, .inl a_addressOf)), (q_nodeAddresses, .inl (cI, 100, .inl a_nodeAddresses)), (q_nodeParents, .inl (cI, 100, .inl a_nodeParents))] → va_S A s.heap H locs → lv_has ls 3 [(2, .int y2_4), (1, .int y1_4), (0, .ref h0)] → W p l e ({ frames := 2, cells := 0, slots := 0, locals := 46 } : Room) s m [.ref h0].toArray below meth c H locs 0 0 (MQ below (poI dC dI .int rr [(h0, .inr (6, [.int v_routers, .ref q_parentOf, .ref q_addressOf, .ref q_depthOf, .int v_percent, .int v_random, .int v_distance, .int v_offset, .int v_value, .int v_isMade, .ref q_marks, .int v_received, .int v_unmarked, .ref q_missing, .int v_nodes, .ref q_nodeAddresses, .ref q_nodeDistances, .ref q_nodeParents, .int v_found, .ref q_foundAddress, .ref q_foundDistance, .ref q_foundParent, .int v_words, .ref q_wordAt])), (q_parentOf, .inl (cI, 20, .inl a_parentOf)), (q_addressOf, .inl (cI, 20, .inl a_addressOf)), (q_nodeAddresses, .inl (cI, 100, .inl a_nodeAddresses)), (q_nodeParents, .inl (cI, 100, .inl a_nodeParents))] A) [.ref h0].toArray s 0 0 A) (F0 m 4 ls []) := by
    intro n1
    induction n1 with
    | zero =>
      intro y1_4 y2_4 H locs ls h
      exact (lp_0 h).elim
    | succ n1 ih1 =>
      intro y1_4 y2_4 H locs ls h hP hD hS hl
      obtain ⟨o1, h, hk1⟩ := lp_s h
      unfold bX6_falseNodeCount_4 at h
      try dsimp only at h
      refine lv_iload_n hx hb dX6_falseNodeCount_4 rfl (lv_at hl 0 rfl) ?_
      refine lv_aload_n hx hb dX6_falseNodeCount_5 rfl (lv_at hl 2 rfl) ?_
      refine va_get (D := (dC, dI)) (ci := 6) (v := .int v_nodes) (C := RX6) (T := TX6) (N := 24) hx hb hts hiX6 hown hK hP 0 rfl rfl 14 (by decide) hf166 (fun _ h9 => h9) rfl dX6_falseNodeCount_6 ?_
      refine lv_icmp_ge (tgt := 36) hx hb dX6_falseNodeCount_9 (by decide) (fun c1 => ?_) (fun c1 => ?_)
      · have h := it_p c1 h
        refine lv_iload_n hx hb dX6_falseNodeCount_36 rfl (lv_at hl 1 rfl) ?_
        cases Option.some.inj h
        have hk1 := un_r hk1
        cases hk1
        exact re_i [0, 1, 2, 3, 4] hx hb hr hlocks rfl hP hD hS rfl (by decide) rfl dX6_falseNodeCount_37
      · have h := it_n c1 h
        refine lv_iload_n hx hb dX6_falseNodeCount_12 rfl (lv_at hl 1 rfl) ?_
        refine lv_aload_n hx hb dX6_falseNodeCount_13 rfl (lv_at hl 2 rfl) ?_
        refine lv_iload_n hx hb dX6_falseNodeCount_14 rfl (lv_at hl 0 rfl) ?_
        obtain ⟨r2, h2, h⟩ := bd1_e h
        refine ca_Vi (wc := [(h0, .inr (6, [.int v_routers, .ref q_parentOf, .ref q_addressOf, .ref q_depthOf, .int v_percent, .int v_random, .int v_distance, .int v_offset, .int v_value, .int v_isMade, .ref q_marks, .int v_received, .int v_unmarked, .ref q_missing, .int v_nodes, .ref q_nodeAddresses, .ref q_nodeDistances, .ref q_nodeParents, .int v_found, .ref q_foundAddress, .ref q_foundDistance, .ref q_foundParent, .int v_words, .ref q_wordAt])), (q_parentOf, .inl (cI, 20, .inl a_parentOf)), (q_addressOf, .inl (cI, 20, .inl a_addressOf)), (q_nodeAddresses, .inl (cI, 100, .inl a_nodeAddresses)), (q_nodeParents, .inl (cI, 100, .inl a_nodeParents))]) (wr := []) (w1 := [(h0, .inr (6, [.int v_routers, .ref q_parentOf, .ref q_addressOf, .ref q_depthOf, .int v_percent, .int v_random, .int v_distance, .int v_offset, .int v_value, .int v_isMade, .ref q_marks, .int v_received, .int v_unmarked, .ref q_missing, .int v_nodes, .ref q_nodeAddresses, .ref q_nodeDistances, .ref q_nodeParents, .int v_found, .ref q_foundAddress, .ref q_foundDistance, .ref q_foundParent, .int v_words, .ref q_wordAt])), (q_parentOf, .inl (cI, 20, .inl a_parentOf)), (q_addressOf, .inl (cI, 20, .inl a_addressOf)), (q_nodeAddresses, .inl (cI, 100, .inl a_nodeAddresses)), (q_nodeParents, .inl (cI, 100, .inl a_nodeParents))]) [.int y2_4] [.int y1_4] [0, 1, 2, 3, 4] [] hx hb hml hown hts (mX6_routerOf l dC dI cI H.size N h0 q_parentOf q_addressOf q_depthOf q_marks q_missing q_nodeAddresses q_nodeDistances q_nodeParents q_foundAddress q_foundDistance q_foundParent q_wordAt v_routers v_percent v_random v_distance v_offset v_value v_isMade v_received v_unmarked v_nodes v_found v_words a_parentOf a_addressOf a_nodeAddresses a_nodeParents y2_4 h2) (cwV 1 hts gX6_falseNodeCount_X6_routerOf rfl rfl rfl (by decide +kernel) ⟨Nat.le_of_ble_eq_true rfl, Nat.le_of_ble_eq_true rfl⟩) hK hN hP hD hS hA rfl rfl (by decide) (by decide) (by decide) rfl rfl rfl hl.1 rfl (Nat.le_of_ble_eq_true rfl) dX6_falseNodeCount_15 ⟨Nat.zero_le _, Nat.zero_le _⟩ (fun H locs hP hD hS hz2 => ?_)
        have hP : va_P (dC, dI) vwCl [(h0, .inr (6, [.int v_routers, .ref q_parentOf, .ref q_addressOf, .ref q_depthOf, .int v_percent, .int v_random, .int v_distance, .int v_offset, .int v_value, .int v_isMade, .ref q_marks, .int v_received, .int v_unmarked, .ref q_missing, .int v_nodes, .ref q_nodeAddresses, .ref q_nodeDistances, .ref q_nodeParents, .int v_found, .ref q_foundAddress, .ref q_foundDistance, .ref q_foundParent, .int v_words, .ref q_wordAt])), (q_parentOf, .inl (cI, 20, .inl a_parentOf)), (q_addressOf, .inl (cI, 20, .inl a_addressOf)), (q_nodeAddresses, .inl (cI, 100, .inl a_nodeAddresses)), (q_nodeParents, .inl (cI, 100, .inl a_nodeParents))] H := hP
        have hD : va_D A [(h0, .inr (6, [.int v_routers, .ref q_parentOf, .ref q_addressOf, .ref q_depthOf, .int v_percent, .int v_random, .int v_distance, .int v_offset, .int v_value, .int v_isMade, .ref q_marks, .int v_received, .int v_unmarked, .ref q_missing, .int v_nodes, .ref q_nodeAddresses, .ref q_nodeDistances, .ref q_nodeParents, .int v_found, .ref q_foundAddress, .ref q_foundDistance, .ref q_foundParent, .int v_words, .ref q_wordAt])), (q_parentOf, .inl (cI, 20, .inl a_parentOf)), (q_addressOf, .inl (cI, 20, .inl a_addressOf)), (q_nodeAddresses, .inl (cI, 100, .inl a_nodeAddresses)), (q_nodeParents, .inl (cI, 100, .inl a_nodeParents))] := hD
        refine lv_bipush (v := (-7 : Int32)) hx hb dX6_falseNodeCount_18 (by decide) ?_
        refine lv_icmp_ne (tgt := 27) hx hb dX6_falseNodeCount_20 (by decide) (fun c3 => ?_) (fun c3 => ?_)
        · have h := it_n c3 h
          refine lv_iconst (v := (0 : Int32)) hx hb dX6_falseNodeCount_27 (by decide) ?_
          refine lv_iadd hx hb dX6_falseNodeCount_28 ?_
          refine lv_topi (fun x4 ex4 => ?_)
          have h := nm_u ex4 h
          refine lv_istore_n (lv' := [(1, .int x4), (2, .int y2_4), (0, .ref h0)]) hx hb dX6_falseNodeCount_29 rfl hl (by decide) rfl (fun ls hl => ?_)
          refine lv_iinc (v := y2_4 + 1) (lv' := [(2, .int (y2_4 + 1)), (1, .int x4), (0, .ref h0)]) hx hb dX6_falseNodeCount_30 hl (k := 1) rfl rfl (by decide) rfl (fun ls hl => ?_)
          refine lv_goto (tgt := 4) hx hb dX6_falseNodeCount_33 (by decide) ?_
          cases Option.some.inj h
          exact ih1 _ _ _ _ _ (un_l hk1) (hP.sub [0, 1, 2, 3, 4] rfl) (hD.sub [0, 1, 2, 3, 4] (by decide) rfl) hS (lv_sub hl [0, 1, 2] rfl)
        · have h := it_p c3 h
          refine lv_iconst (v := (1 : Int32)) hx hb dX6_falseNodeCount_23 (by decide) ?_
          refine lv_goto (tgt := 28) hx hb dX6_falseNodeCount_24 (by decide) ?_
          refine lv_iadd hx hb dX6_falseNodeCount_28 ?_
          refine lv_topi (fun x5 ex5 => ?_)
          have h := nm_u ex5 h
          refine lv_istore_n (lv' := [(1, .int x5), (2, .int y2_4), (0, .ref h0)]) hx hb dX6_falseNodeCount_29 rfl hl (by decide) rfl (fun ls hl => ?_)
          refine lv_iinc (v := y2_4 + 1) (lv' := [(2, .int (y2_4 + 1)), (1, .int x5), (0, .ref h0)]) hx hb dX6_falseNodeCount_30 hl (k := 1) rfl rfl (by decide) rfl (fun ls hl => ?_)
          refine lv_goto (tgt := 4) hx hb dX6_falseNodeCount_33 (by decide) ?_
          cases Option.some.inj h
          exact ih1 _ _ _ _ _ (un_l hk1) (hP.sub [0, 1, 2, 3, 4] rfl) (hD.sub [0, 1, 2, 3, 4] (by decide) rfl) hS (lv_sub hl [0, 1, 2] rfl)
  exact key4 N _ _ _ _ _ h hP hD hS hl
def bX6_nodeOf_12 (N : Nat) (p1 : Int32) (v_routers : Int32) (v_nodes : Int32) (a_parentOf : Nat → Int32) (a_addressOf : Nat → Int32) (a_nodeAddresses : Nat → Int32) (a_nodeParents : Nat → Int32) (y2_12 : Int32) : Option ((Int32) ⊕ (Int32)) :=
  if v_nodes ≤ y2_12 then
    some (.inr (-7 : Int32))
  else
    bd1 (fX6_routerOf N y2_12 v_routers a_parentOf a_addressOf a_nodeAddresses a_nodeParents) fun r4 =>
    if r4 = p1 then
      some (.inr (y2_12))
    else
      some (.inl (y2_12 + 1))
def fX6_nodeOf (N : Nat) (p1 : Int32) (v_routers : Int32) (v_nodes : Int32) (a_parentOf : Nat → Int32) (a_addressOf : Nat → Int32) (a_nodeAddresses : Nat → Int32) (a_nodeParents : Nat → Int32) : Option (Int32) :=
  bd1 (fX6_isRouter p1 v_routers) fun r1 =>
  if r1 = 0 then
    some (-1 : Int32)
  else
    lp (fun s => bX6_nodeOf_12 N p1 v_routers v_nodes a_parentOf a_addressOf a_nodeAddresses a_nodeParents s) N (0 : Int32)
set_option maxHeartbeats 4000000 in
set_option maxRecDepth 100000 in
theorem mX6_nodeOf (l : Launch) (dC : Nat → ClassId) (dI : Nat → Nat → Nat) (cI : ClassId) (sz : Nat) (N : Nat) (h0 : Nat) (q_parentOf : Nat) (q_addressOf : Nat) (q_depthOf : Nat) (q_marks : Nat) (q_missing : Nat) (q_nodeAddresses : Nat) (q_nodeDistances : Nat) (q_nodeParents : Nat) (q_foundAddress : Nat) (q_foundDistance : Nat) (q_foundParent : Nat) (q_wordAt : Nat) (v_routers : Int32) (v_percent : Int32) (v_random : Int32) (v_distance : Int32) (v_offset : Int32) (v_value : Int32) (v_isMade : Int32) (v_received : Int32) (v_unmarked : Int32) (v_nodes : Int32) (v_found : Int32) (v_words : Int32) (a_parentOf : Nat → Int32) (a_addressOf : Nat → Int32) (a_nodeAddresses : Nat → Int32) (a_nodeParents : Nat → Int32) (p1 : Int32) {rr : Int32} (h : fX6_nodeOf N p1 v_routers v_nodes a_parentOf a_addressOf a_nodeAddresses a_nodeParents = some rr) : Met l yX6_nodeOf wsX6_nodeOf ({ frames := 2, cells := 0, slots := 0, locals := 46 } : Room) (prX dC dI cI [.ref h0, .int p1] sz [(h0, .inr (6, [.int v_routers, .ref q_parentOf, .ref q_addressOf, .ref q_depthOf, .int v_percent, .int v_random, .int v_distance, .int v_offset, .int v_value, .int v_isMade, .ref q_marks, .int v_received, .int v_unmarked, .ref q_missing, .int v_nodes, .ref q_nodeAddresses, .ref q_nodeDistances, .ref q_nodeParents, .int v_found, .ref q_foundAddress, .ref q_foundDistance, .ref q_foundParent, .int v_words, .ref q_wordAt])), (q_parentOf, .inl (cI, 20, .inl a_parentOf)), (q_addressOf, .inl (cI, 20, .inl a_addressOf)), (q_nodeAddresses, .inl (cI, 100, .inl a_nodeAddresses)), (q_nodeParents, .inl (cI, 100, .inl a_nodeParents))]) (poI dC dI .int rr [(h0, .inr (6, [.int v_routers, .ref q_parentOf, .ref q_addressOf, .ref q_depthOf, .int v_percent, .int v_random, .int v_distance, .int v_offset, .int v_value, .int v_isMade, .ref q_marks, .int v_received, .int v_unmarked, .ref q_missing, .int v_nodes, .ref q_nodeAddresses, .ref q_nodeDistances, .ref q_nodeParents, .int v_found, .ref q_foundAddress, .ref q_foundDistance, .ref q_foundParent, .int v_words, .ref q_wordAt])), (q_parentOf, .inl (cI, 20, .inl a_parentOf)), (q_addressOf, .inl (cI, 20, .inl a_addressOf)), (q_nodeAddresses, .inl (cI, 100, .inl a_nodeAddresses)), (q_nodeParents, .inl (cI, 100, .inl a_nodeParents))] (va_A [(h0, .inr (6, [.int v_routers, .ref q_parentOf, .ref q_addressOf, .ref q_depthOf, .int v_percent, .int v_random, .int v_distance, .int v_offset, .int v_value, .int v_isMade, .ref q_marks, .int v_received, .int v_unmarked, .ref q_missing, .int v_nodes, .ref q_nodeAddresses, .ref q_nodeDistances, .ref q_nodeParents, .int v_found, .ref q_foundAddress, .ref q_foundDistance, .ref q_foundParent, .int v_words, .ref q_wordAt])), (q_parentOf, .inl (cI, 20, .inl a_parentOf)), (q_addressOf, .inl (cI, 20, .inl a_addressOf)), (q_nodeAddresses, .inl (cI, 100, .inl a_nodeAddresses)), (q_nodeParents, .inl (cI, 100, .inl a_nodeParents))] sz)) 0 0 (va_A [(h0, .inr (6, [.int v_routers, .ref q_parentOf, .ref q_addressOf, .ref q_depthOf, .int v_percent, .int v_random, .int v_distance, .int v_offset, .int v_value, .int v_isMade, .ref q_marks, .int v_received, .int v_unmarked, .ref q_missing, .int v_nodes, .ref q_nodeAddresses, .ref q_nodeDistances, .ref q_nodeParents, .int v_found, .ref q_foundAddress, .ref q_foundDistance, .ref q_foundParent, .int v_words, .ref q_wordAt])), (q_parentOf, .inl (cI, 20, .inl a_parentOf)), (q_addressOf, .inl (cI, 20, .inl a_addressOf)), (q_nodeAddresses, .inl (cI, 100, .inl a_nodeAddresses)), (q_nodeParents, .inl (cI, 100, .inl a_nodeParents))] sz) := by
  refine ofX (cc := cX6_nodeOf) (maxL := 3) (ret := (some .int)) (lv0 := [(0, .ref h0), (1, .int p1)]) (QA := fun A => poI dC dI .int rr [(h0, .inr (6, [.int v_routers, .ref q_parentOf, .ref q_addressOf, .ref q_depthOf, .int v_percent, .int v_random, .int v_distance, .int v_offset, .int v_value, .int v_isMade, .ref q_marks, .int v_received, .int v_unmarked, .ref q_missing, .int v_nodes, .ref q_nodeAddresses, .ref q_nodeDistances, .ref q_nodeParents, .int v_found, .ref q_foundAddress, .ref q_foundDistance, .ref q_foundParent, .int v_words, .ref q_wordAt])), (q_parentOf, .inl (cI, 20, .inl a_parentOf)), (q_addressOf, .inl (cI, 20, .inl a_addressOf)), (q_nodeAddresses, .inl (cI, 100, .inl a_nodeAddresses)), (q_nodeParents, .inl (cI, 100, .inl a_nodeParents))] A) (by decide) rfl (Nat.le_of_ble_eq_true rfl) rfl ?_
  intro p e s m below meth c A ls H locs hx hb hr hml hown hts hlocks hin hK hN hA hP hD hS hl
  have hown : s.vm.findClass RX6 = some m.cls := hown
  unfold fX6_nodeOf at h
  have hiX6 : ∀ w ∈ u_ws RX6 TX6 24, w ∈ wsX6_nodeOf := fun _ h => List.mem_cons_of_mem _ (List.mem_append_right _ h)
  have hf166 := (hts (.fieldLink RX6 166 "PacketTracebackModel" "nodes" "I") (List.mem_of_getElem? (i := 1) (by decide +kernel)))
  refine lv_aload_n hx hb dX6_nodeOf_0 rfl (lv_at hl 0 rfl) ?_
  refine lv_iload_n hx hb dX6_nodeOf_1 rfl (lv_at hl 1 rfl) ?_
  obtain ⟨r1, h1, h⟩ := bd1_e h
  refine ca_Vi (wc := [(h0, .inr (6, [.int v_routers, .ref q_parentOf, .ref q_addressOf, .ref q_depthOf, .int v_percent, .int v_random, .int v_distance, .int v_offset, .int v_value, .int v_isMade, .ref q_marks, .int v_received, .int v_unmarked, .ref q_missing, .int v_nodes, .ref q_nodeAddresses, .ref q_nodeDistances, .ref q_nodeParents, .int v_found, .ref q_foundAddress, .ref q_foundDistance, .ref q_foundParent, .int v_words, .ref q_wordAt]))]) (wr := [(q_parentOf, .inl (cI, 20, .inl a_parentOf)), (q_addressOf, .inl (cI, 20, .inl a_addressOf)), (q_nodeAddresses, .inl (cI, 100, .inl a_nodeAddresses)), (q_nodeParents, .inl (cI, 100, .inl a_nodeParents))]) (w1 := [(h0, .inr (6, [.int v_routers, .ref q_parentOf, .ref q_addressOf, .ref q_depthOf, .int v_percent, .int v_random, .int v_distance, .int v_offset, .int v_value, .int v_isMade, .ref q_marks, .int v_received, .int v_unmarked, .ref q_missing, .int v_nodes, .ref q_nodeAddresses, .ref q_nodeDistances, .ref q_nodeParents, .int v_found, .ref q_foundAddress, .ref q_foundDistance, .ref q_foundParent, .int v_words, .ref q_wordAt]))]) [.int p1] [] [0] [1, 2, 3, 4] hx hb hml hown hts (mX6_isRouter l dC dI cI H.size h0 q_parentOf q_addressOf q_depthOf q_marks q_missing q_nodeAddresses q_nodeDistances q_nodeParents q_foundAddress q_foundDistance q_foundParent q_wordAt v_routers v_percent v_random v_distance v_offset v_value v_isMade v_received v_unmarked v_nodes v_found v_words p1 h1) (cwV 1 hts gX6_nodeOf_X6_isRouter rfl rfl rfl (by decide +kernel) ⟨Nat.le_of_ble_eq_true rfl, Nat.le_of_ble_eq_true rfl⟩) hK hN hP hD hS hA rfl rfl (by decide) (by decide) (by decide) rfl rfl rfl hl.1 rfl (Nat.le_of_ble_eq_true rfl) dX6_nodeOf_2 ⟨Nat.zero_le _, Nat.zero_le _⟩ (fun H locs hP hD hS hz1 => ?_)
  have hP : va_P (dC, dI) vwCl [(q_parentOf, .inl (cI, 20, .inl a_parentOf)), (q_addressOf, .inl (cI, 20, .inl a_addressOf)), (q_nodeAddresses, .inl (cI, 100, .inl a_nodeAddresses)), (q_nodeParents, .inl (cI, 100, .inl a_nodeParents)), (h0, .inr (6, [.int v_routers, .ref q_parentOf, .ref q_addressOf, .ref q_depthOf, .int v_percent, .int v_random, .int v_distance, .int v_offset, .int v_value, .int v_isMade, .ref q_marks, .int v_received, .int v_unmarked, .ref q_missing, .int v_nodes, .ref q_nodeAddresses, .ref q_nodeDistances, .ref q_nodeParents, .int v_found, .ref q_foundAddress, .ref q_foundDistance, .ref q_foundParent, .int v_words, .ref q_wordAt]))] H := hP
  have hD : va_D A [(q_parentOf, .inl (cI, 20, .inl a_parentOf)), (q_addressOf, .inl (cI, 20, .inl a_addressOf)), (q_nodeAddresses, .inl (cI, 100, .inl a_nodeAddresses)), (q_nodeParents, .inl (cI, 100, .inl a_nodeParents)), (h0, .inr (6, [.int v_routers, .ref q_parentOf, .ref q_addressOf, .ref q_depthOf, .int v_percent, .int v_random, .int v_distance, .int v_offset, .int v_value, .int v_isMade, .ref q_marks, .int v_received, .int v_unmarked, .ref q_missing, .int v_nodes, .ref q_nodeAddresses, .ref q_nodeDistances, .ref q_nodeParents, .int v_found, .ref q_foundAddress, .ref q_foundDistance, .ref q_foundParent, .int v_words, .ref q_wordAt]))] := hD
  refine lv_if_ne (tgt := 10) hx hb dX6_nodeOf_5 (by decide) (fun c2 => ?_) (fun c2 => ?_)
  · have h := it_n c2 h
    refine lv_iconst (v := (0 : Int32)) hx hb dX6_nodeOf_10 (by decide) ?_
    refine lv_istore_n (lv' := [(2, .int (0 : Int32)), (0, .ref h0), (1, .int p1)]) hx hb dX6_nodeOf_11 rfl hl (by decide) rfl (fun ls hl => ?_)
    have key12 : ∀ (n1 : Nat) (y2_12 : Int32) (H : Heap) (locs : List Loc) (ls : Array Slot), lp (fun s => bX6_nodeOf_12 N p1 v_routers v_nodes a_parentOf a_addressOf a_nodeAddresses a_nodeParents s) n1 y2_12 = some rr → va_P (dC, dI) vwCl [(q_parentOf, .inl (cI, 20, .inl a_parentOf)), (q_addressOf, .inl (cI, 20, .inl a_addressOf)), (q_nodeAddresses, .inl (cI, 100, .inl a_nodeAddresses)), (q_nodeParents, .inl (cI, 100, .inl a_nodeParents)), (h0, .inr (6, [.int v_routers, .ref q_parentOf, .ref q_addressOf, .ref q_depthOf, .int v_percent, .int v_random, .int v_distance, .int v_offset, .int v_value, .int v_isMade, .ref q_marks, .int v_received, .int v_unmarked, .ref q_missing, .int v_nodes, .ref q_nodeAddresses, .ref q_nodeDistances, .ref q_nodeParents, .int v_found, .ref q_foundAddress, .ref q_foundDistance, .ref q_foundParent, .int v_words, .ref q_wordAt]))] H → va_D A [(q_parentOf, .inl (cI, 20, .inl a_parentOf)), (q_addressOf, .inl (cI, 20, .inl a_addressOf)), (q_nodeAddresses, .inl (cI, 100, .inl a_nodeAddresses)), (q_nodeParents, .inl (cI, 100, .inl a_nodeParents)), (h0, .inr (6, [.int v_routers, .ref q_parentOf, .ref q_addressOf, .ref q_depthOf, .int v_percent, .int v_random, .int v_distance, .int v_offset, .int v_value, .int v_isMade, .ref q_marks, .int v_received, .int v_unmarked, .ref q_missing, .int v_nodes, .ref q_nodeAddresses, .ref q_nodeDistances, .ref q_nodeParents, .int v_found, .ref q_foundAddress, .ref q_foundDistance, .ref q_foundParent, .int v_words, .ref q_wordAt]))] → va_S A s.heap H locs → lv_has ls 3 [(2, .int y2_12), (0, .ref h0), (1, .int p1)] → W p l e ({ frames := 2, cells := 0, slots := 0, locals := 46 } : Room) s m [.ref h0, .int p1].toArray below meth c H locs 0 0 (MQ below (poI dC dI .int rr [(h0, .inr (6, [.int v_routers, .ref q_parentOf, .ref q_addressOf, .ref q_depthOf, .int v_percent, .int v_random, .int v_distance, .int v_offset, .int v_value, .int v_isMade, .ref q_marks, .int v_received, .int v_unmarked, .ref q_missing, .int v_nodes, .ref q_nodeAddresses, .ref q_nodeDistances, .ref q_nodeParents, .int v_found, .ref q_foundAddress, .ref q_foundDistance, .ref q_foundParent, .int v_words, .ref q_wordAt])), (q_parentOf, .inl (cI, 20, .inl a_parentOf)), (q_addressOf, .inl (cI, 20, .inl a_addressOf)), (q_nodeAddresses, .inl (cI, 100, .inl a_nodeAddresses)), (q_nodeParents, .inl (cI, 100, .inl a_nodeParents))] A) [.ref h0, .int p1].toArray s 0 0 A) (F0 m 12 ls []) := by
      intro n1
      induction n1 with
      | zero =>
        intro y2_12 H locs ls h
        exact (lp_0 h).elim
      | succ n1 ih1 =>
        intro y2_12 H locs ls h hP hD hS hl
        obtain ⟨o1, h, hk1⟩ := lp_s h
        unfold bX6_nodeOf_12 at h
        try dsimp only at h
        refine lv_iload_n hx hb dX6_nodeOf_12 rfl (lv_at hl 0 rfl) ?_
        refine lv_aload_n hx hb dX6_nodeOf_13 rfl (lv_at hl 1 rfl) ?_
        refine va_get (D := (dC, dI)) (ci := 6) (v := .int v_nodes) (C := RX6) (T := TX6) (N := 24) hx hb hts hiX6 hown hK hP 4 rfl rfl 14 (by decide) hf166 (fun _ h9 => h9) rfl dX6_nodeOf_14 ?_
        refine lv_icmp_ge (tgt := 37) hx hb dX6_nodeOf_17 (by decide) (fun c3 => ?_) (fun c3 => ?_)
        · have h := it_p c3 h
          refine lv_bipush (v := (-7 : Int32)) hx hb dX6_nodeOf_37 (by decide) ?_
          cases Option.some.inj h
          have hk1 := un_r hk1
          cases hk1
          exact re_i [4, 0, 1, 2, 3] hx hb hr hlocks rfl hP hD hS rfl (by decide) rfl dX6_nodeOf_39
        · have h := it_n c3 h
          refine lv_aload_n hx hb dX6_nodeOf_20 rfl (lv_at hl 1 rfl) ?_
          refine lv_iload_n hx hb dX6_nodeOf_21 rfl (lv_at hl 0 rfl) ?_
          obtain ⟨r4, h4, h⟩ := bd1_e h
          refine ca_Vi (wc := [(h0, .inr (6, [.int v_routers, .ref q_parentOf, .ref q_addressOf, .ref q_depthOf, .int v_percent, .int v_random, .int v_distance, .int v_offset, .int v_value, .int v_isMade, .ref q_marks, .int v_received, .int v_unmarked, .ref q_missing, .int v_nodes, .ref q_nodeAddresses, .ref q_nodeDistances, .ref q_nodeParents, .int v_found, .ref q_foundAddress, .ref q_foundDistance, .ref q_foundParent, .int v_words, .ref q_wordAt])), (q_parentOf, .inl (cI, 20, .inl a_parentOf)), (q_addressOf, .inl (cI, 20, .inl a_addressOf)), (q_nodeAddresses, .inl (cI, 100, .inl a_nodeAddresses)), (q_nodeParents, .inl (cI, 100, .inl a_nodeParents))]) (wr := []) (w1 := [(h0, .inr (6, [.int v_routers, .ref q_parentOf, .ref q_addressOf, .ref q_depthOf, .int v_percent, .int v_random, .int v_distance, .int v_offset, .int v_value, .int v_isMade, .ref q_marks, .int v_received, .int v_unmarked, .ref q_missing, .int v_nodes, .ref q_nodeAddresses, .ref q_nodeDistances, .ref q_nodeParents, .int v_found, .ref q_foundAddress, .ref q_foundDistance, .ref q_foundParent, .int v_words, .ref q_wordAt])), (q_parentOf, .inl (cI, 20, .inl a_parentOf)), (q_addressOf, .inl (cI, 20, .inl a_addressOf)), (q_nodeAddresses, .inl (cI, 100, .inl a_nodeAddresses)), (q_nodeParents, .inl (cI, 100, .inl a_nodeParents))]) [.int y2_12] [] [4, 0, 1, 2, 3] [] hx hb hml hown hts (mX6_routerOf l dC dI cI H.size N h0 q_parentOf q_addressOf q_depthOf q_marks q_missing q_nodeAddresses q_nodeDistances q_nodeParents q_foundAddress q_foundDistance q_foundParent q_wordAt v_routers v_percent v_random v_distance v_offset v_value v_isMade v_received v_unmarked v_nodes v_found v_words a_parentOf a_addressOf a_nodeAddresses a_nodeParents y2_12 h4) (cwV 1 hts gX6_nodeOf_X6_routerOf rfl rfl rfl (by decide +kernel) ⟨Nat.le_of_ble_eq_true rfl, Nat.le_of_ble_eq_true rfl⟩) hK hN hP hD hS hA rfl rfl (by decide) (by decide) (by decide) rfl rfl rfl hl.1 rfl (Nat.le_of_ble_eq_true rfl) dX6_nodeOf_22 ⟨Nat.zero_le _, Nat.zero_le _⟩ (fun H locs hP hD hS hz4 => ?_)
          have hP : va_P (dC, dI) vwCl [(h0, .inr (6, [.int v_routers, .ref q_parentOf, .ref q_addressOf, .ref q_depthOf, .int v_percent, .int v_random, .int v_distance, .int v_offset, .int v_value, .int v_isMade, .ref q_marks, .int v_received, .int v_unmarked, .ref q_missing, .int v_nodes, .ref q_nodeAddresses, .ref q_nodeDistances, .ref q_nodeParents, .int v_found, .ref q_foundAddress, .ref q_foundDistance, .ref q_foundParent, .int v_words, .ref q_wordAt])), (q_parentOf, .inl (cI, 20, .inl a_parentOf)), (q_addressOf, .inl (cI, 20, .inl a_addressOf)), (q_nodeAddresses, .inl (cI, 100, .inl a_nodeAddresses)), (q_nodeParents, .inl (cI, 100, .inl a_nodeParents))] H := hP
          have hD : va_D A [(h0, .inr (6, [.int v_routers, .ref q_parentOf, .ref q_addressOf, .ref q_depthOf, .int v_percent, .int v_random, .int v_distance, .int v_offset, .int v_value, .int v_isMade, .ref q_marks, .int v_received, .int v_unmarked, .ref q_missing, .int v_nodes, .ref q_nodeAddresses, .ref q_nodeDistances, .ref q_nodeParents, .int v_found, .ref q_foundAddress, .ref q_foundDistance, .ref q_foundParent, .int v_words, .ref q_wordAt])), (q_parentOf, .inl (cI, 20, .inl a_parentOf)), (q_addressOf, .inl (cI, 20, .inl a_addressOf)), (q_nodeAddresses, .inl (cI, 100, .inl a_nodeAddresses)), (q_nodeParents, .inl (cI, 100, .inl a_nodeParents))] := hD
          refine lv_iload_n hx hb dX6_nodeOf_25 rfl (lv_at hl 2 rfl) ?_
          refine lv_icmp_ne (tgt := 31) hx hb dX6_nodeOf_26 (by decide) (fun c5 => ?_) (fun c5 => ?_)
          · have h := it_n c5 h
            refine lv_iinc (v := y2_12 + 1) (lv' := [(2, .int (y2_12 + 1)), (0, .ref h0), (1, .int p1)]) hx hb dX6_nodeOf_31 hl (k := 0) rfl rfl (by decide) rfl (fun ls hl => ?_)
            refine lv_goto (tgt := 12) hx hb dX6_nodeOf_34 (by decide) ?_
            cases Option.some.inj h
            exact ih1 _ _ _ _ (un_l hk1) (hP.sub [1, 2, 3, 4, 0] rfl) (hD.sub [1, 2, 3, 4, 0] (by decide) rfl) hS (lv_sub hl [0, 1, 2] rfl)
          · have h := it_p c5 h
            refine lv_iload_n hx hb dX6_nodeOf_29 rfl (lv_at hl 0 rfl) ?_
            cases Option.some.inj h
            have hk1 := un_r hk1
            cases hk1
            exact re_i [0, 1, 2, 3, 4] hx hb hr hlocks rfl hP hD hS rfl (by decide) rfl dX6_nodeOf_30
    exact key12 N _ _ _ _ h hP hD hS hl
  · have h := it_p c2 h
    refine lv_iconst (v := (-1 : Int32)) hx hb dX6_nodeOf_8 (by decide) ?_
    have hk0 := Option.some.inj h
    cases hk0
    exact re_i [4, 0, 1, 2, 3] hx hb hr hlocks rfl hP hD hS rfl (by decide) rfl dX6_nodeOf_9
