def fX0_state (v_state : Int32) : Option (Int32) :=
  some v_state
set_option maxHeartbeats 4000000 in
set_option maxRecDepth 100000 in
theorem mX0_state (l : Launch) (dC : Nat → ClassId) (dI : Nat → Nat → Nat) (cI : ClassId) (sz : Nat) (h0 : Nat) (v_state : Int32) {rr : Int32} (h : fX0_state v_state = some rr) : Met l yX0_state wsX0_state ({ frames := 0, cells := 0, slots := 0, locals := 0 } : Room) (prX dC dI cI [.ref h0] sz [(h0, .inr (0, [.int v_state]))]) (poI dC dI .int rr [(h0, .inr (0, [.int v_state]))] (va_A [(h0, .inr (0, [.int v_state]))] sz)) 0 0 (va_A [(h0, .inr (0, [.int v_state]))] sz) := by
  refine ofX (cc := cX0_state) (maxL := 1) (ret := (some .int)) (lv0 := [(0, .ref h0)]) (QA := fun A => poI dC dI .int rr [(h0, .inr (0, [.int v_state]))] A) (by decide) rfl (Nat.le_of_ble_eq_true rfl) rfl ?_
  intro p e s m below meth c A ls H locs hx hb hr hml hown hts hlocks hin hK hN hA hP hD hS hl
  have hown : s.vm.findClass RX0 = some m.cls := hown
  unfold fX0_state at h
  have hiX0 : ∀ w ∈ u_ws RX0 TX0 1, w ∈ wsX0_state := fun _ h => List.mem_cons_of_mem _ (List.mem_append_right _ h)
  have hf7 := (hts (.fieldLink RX0 7 "PacketTraceback$Generator" "state" "I") (List.mem_of_getElem? (i := 1) (by decide +kernel)))
  refine lv_aload_n hx hb dX0_state_0 rfl (lv_at hl 0 rfl) ?_
  refine va_get (D := (dC, dI)) (ci := 0) (v := .int v_state) (C := RX0) (T := TX0) (N := 1) hx hb hts hiX0 hown hK hP 0 rfl rfl 0 (by decide) hf7 (fun _ h9 => h9) rfl dX0_state_1 ?_
  have hk0 := Option.some.inj h
  cases hk0
  exact re_i [0] hx hb hr hlocks rfl hP hD hS rfl (by decide) rfl dX0_state_4
def fX0_restart (p1 : Int32) (v_state : Int32) : Option (Int32 × Int32) :=
  some (v_state, p1)
set_option maxHeartbeats 4000000 in
set_option maxRecDepth 100000 in
theorem mX0_restart (l : Launch) (dC : Nat → ClassId) (dI : Nat → Nat → Nat) (cI : ClassId) (sz : Nat) (h0 : Nat) (v_state : Int32) (p1 : Int32) {rr : Int32} {o_state : Int32} (h : fX0_restart p1 v_state = some (rr, o_state)) : Met l yX0_restart wsX0_restart ({ frames := 0, cells := 0, slots := 0, locals := 0 } : Room) (prX dC dI cI [.ref h0, .int p1] sz [(h0, .inr (0, [.int v_state]))]) (poI dC dI .int rr [(h0, .inr (0, [.int o_state]))] (va_A [(h0, .inr (0, [.int v_state]))] sz)) 0 0 (va_A [(h0, .inr (0, [.int v_state]))] sz) := by
  refine ofX (cc := cX0_restart) (maxL := 3) (ret := (some .int)) (lv0 := [(0, .ref h0), (1, .int p1)]) (QA := fun A => poI dC dI .int rr [(h0, .inr (0, [.int o_state]))] A) (by decide) rfl (Nat.le_of_ble_eq_true rfl) rfl ?_
  intro p e s m below meth c A ls H locs hx hb hr hml hown hts hlocks hin hK hN hA hP hD hS hl
  have hown : s.vm.findClass RX0 = some m.cls := hown
  unfold fX0_restart at h
  have hiX0 : ∀ w ∈ u_ws RX0 TX0 1, w ∈ wsX0_restart := fun _ h => List.mem_cons_of_mem _ (List.mem_append_right _ h)
  have hf7 := (hts (.fieldLink RX0 7 "PacketTraceback$Generator" "state" "I") (List.mem_of_getElem? (i := 1) (by decide +kernel)))
  refine lv_aload_n hx hb dX0_restart_0 rfl (lv_at hl 0 rfl) ?_
  refine va_get (D := (dC, dI)) (ci := 0) (v := .int v_state) (C := RX0) (T := TX0) (N := 1) hx hb hts hiX0 hown hK hP 0 rfl rfl 0 (by decide) hf7 (fun _ h9 => h9) rfl dX0_restart_1 ?_
  refine lv_istore_n (lv' := [(2, .int v_state), (0, .ref h0), (1, .int p1)]) hx hb dX0_restart_4 rfl hl (by decide) rfl (fun ls hl => ?_)
  refine lv_aload_n hx hb dX0_restart_5 rfl (lv_at hl 1 rfl) ?_
  refine lv_iload_n hx hb dX0_restart_6 rfl (lv_at hl 2 rfl) ?_
  refine va_put (D := (dC, dI)) (ci := 0) (v := .int p1) (ty := .int) (C := RX0) (T := TX0) (N := 1) hx hb hts hiX0 tyX0 tyX0_ok nmX0 hown hK hP hD hS 0 rfl rfl 0 (by decide) hf7 (fun _ h9 => h9) rfl (by decide +kernel) rfl rfl (Nat.le_of_ble_eq_true rfl) dX0_restart_7 (fun H locs hP hD hS => ?_)
  have hP : va_P (dC, dI) vwCl [(h0, .inr (0, [.int p1]))] H := hP
  have hD : va_D A [(h0, .inr (0, [.int p1]))] := hD
  refine lv_iload_n hx hb dX0_restart_10 rfl (lv_at hl 0 rfl) ?_
  have hk0 := Option.some.inj h
  cases hk0
  exact re_i [0] hx hb hr hlocks rfl hP hD hS rfl (by decide) rfl dX0_restart_11
def fX0_draw (v_state : Int32) : Option (Int32 × Int32) :=
  some (((usI ((v_state * (1103515245 : Int32)) + (12345 : Int32)) (16 : Int32)) &&& (32767 : Int32)), ((v_state * (1103515245 : Int32)) + (12345 : Int32)))
set_option maxHeartbeats 4000000 in
set_option maxRecDepth 100000 in
theorem mX0_draw (l : Launch) (dC : Nat → ClassId) (dI : Nat → Nat → Nat) (cI : ClassId) (sz : Nat) (h0 : Nat) (v_state : Int32) {rr : Int32} {o_state : Int32} (h : fX0_draw v_state = some (rr, o_state)) : Met l yX0_draw wsX0_draw ({ frames := 0, cells := 0, slots := 0, locals := 0 } : Room) (prX dC dI cI [.ref h0] sz [(h0, .inr (0, [.int v_state]))]) (poI dC dI .int rr [(h0, .inr (0, [.int o_state]))] (va_A [(h0, .inr (0, [.int v_state]))] sz)) 0 0 (va_A [(h0, .inr (0, [.int v_state]))] sz) := by
  refine ofX (cc := cX0_draw) (maxL := 1) (ret := (some .int)) (lv0 := [(0, .ref h0)]) (QA := fun A => poI dC dI .int rr [(h0, .inr (0, [.int o_state]))] A) (by decide) rfl (Nat.le_of_ble_eq_true rfl) rfl ?_
  intro p e s m below meth c A ls H locs hx hb hr hml hown hts hlocks hin hK hN hA hP hD hS hl
  have hown : s.vm.findClass RX0 = some m.cls := hown
  unfold fX0_draw at h
  have hiX0 : ∀ w ∈ u_ws RX0 TX0 1, w ∈ wsX0_draw := fun _ h => List.mem_cons_of_mem _ (List.mem_append_right _ h)
  have hf7 := (hts (.fieldLink RX0 7 "PacketTraceback$Generator" "state" "I") (List.mem_of_getElem? (i := 1) (by decide +kernel)))
  refine lv_aload_n hx hb dX0_draw_0 rfl (lv_at hl 0 rfl) ?_
  refine lv_aload_n hx hb dX0_draw_1 rfl (lv_at hl 0 rfl) ?_
  refine va_get (D := (dC, dI)) (ci := 0) (v := .int v_state) (C := RX0) (T := TX0) (N := 1) hx hb hts hiX0 hown hK hP 0 rfl rfl 0 (by decide) hf7 (fun _ h9 => h9) rfl dX0_draw_2 ?_
  refine lv_ldc hx hb hown (hts (.constant RX0 13 (1103515245)) (List.mem_of_getElem? (i := 2) (by decide +kernel))) dX0_draw_5 ?_
  refine lv_imul hx hb dX0_draw_7 ?_
  refine lv_sipush (v := (12345 : Int32)) hx hb dX0_draw_8 (by decide) ?_
  refine lv_iadd hx hb dX0_draw_11 ?_
  refine va_put (D := (dC, dI)) (ci := 0) (v := .int ((v_state * (1103515245 : Int32)) + (12345 : Int32))) (ty := .int) (C := RX0) (T := TX0) (N := 1) hx hb hts hiX0 tyX0 tyX0_ok nmX0 hown hK hP hD hS 0 rfl rfl 0 (by decide) hf7 (fun _ h9 => h9) rfl (by decide +kernel) rfl rfl (Nat.le_of_ble_eq_true rfl) dX0_draw_12 (fun H locs hP hD hS => ?_)
  have hP : va_P (dC, dI) vwCl [(h0, .inr (0, [.int ((v_state * (1103515245 : Int32)) + (12345 : Int32))]))] H := hP
  have hD : va_D A [(h0, .inr (0, [.int ((v_state * (1103515245 : Int32)) + (12345 : Int32))]))] := hD
  refine lv_aload_n hx hb dX0_draw_15 rfl (lv_at hl 0 rfl) ?_
  refine va_get (D := (dC, dI)) (ci := 0) (v := .int ((v_state * (1103515245 : Int32)) + (12345 : Int32))) (C := RX0) (T := TX0) (N := 1) hx hb hts hiX0 hown hK hP 0 rfl rfl 0 (by decide) hf7 (fun _ h9 => h9) rfl dX0_draw_16 ?_
  refine lv_bipush (v := (16 : Int32)) hx hb dX0_draw_19 (by decide) ?_
  refine lv_iushr (v := (usI ((v_state * (1103515245 : Int32)) + (12345 : Int32)) (16 : Int32))) hx hb dX0_draw_21 rfl ?_
  refine lv_sipush (v := (32767 : Int32)) hx hb dX0_draw_22 (by decide) ?_
  refine lv_iand hx hb dX0_draw_25 ?_
  have hk0 := Option.some.inj h
  cases hk0
  exact re_i [0] hx hb hr hlocks rfl hP hD hS rfl (by decide) rfl dX0_draw_26
def fX1_setPlace (p0 : Int32) (p1 : Int32) : Option (Int32) :=
  some (((p0 &&& (31 : Int32)) * (4 : Int32)) + (p1 &&& (3 : Int32)))
set_option maxHeartbeats 4000000 in
set_option maxRecDepth 100000 in
theorem mX1_setPlace (l : Launch) (dC : Nat → ClassId) (dI : Nat → Nat → Nat) (cI : ClassId) (sz : Nat) (p0 : Int32) (p1 : Int32) {rr : Int32} (h : fX1_setPlace p0 p1 = some rr) : Met l yX1_setPlace wsX1_setPlace ({ frames := 0, cells := 0, slots := 0, locals := 0 } : Room) (prX dC dI cI [.int p0, .int p1] sz []) (poI dC dI .int rr [] (va_A [] sz)) 0 0 (va_A [] sz) := by
  refine ofX (cc := cX1_setPlace) (maxL := 2) (ret := (some .int)) (lv0 := [(0, .int p0), (1, .int p1)]) (QA := fun A => poI dC dI .int rr [] A) (by decide) rfl (Nat.le_of_ble_eq_true rfl) rfl ?_
  intro p e s m below meth c A ls H locs hx hb hr hml hown hts hlocks hin hK hN hA hP hD hS hl
  have hown : s.vm.findClass RX1 = some m.cls := hown
  unfold fX1_setPlace at h
  refine lv_iload_n hx hb dX1_setPlace_0 rfl (lv_at hl 0 rfl) ?_
  refine lv_bipush (v := (31 : Int32)) hx hb dX1_setPlace_1 (by decide) ?_
  refine lv_iand hx hb dX1_setPlace_3 ?_
  refine lv_iconst (v := (4 : Int32)) hx hb dX1_setPlace_4 (by decide) ?_
  refine lv_imul hx hb dX1_setPlace_5 ?_
  refine lv_iload_n hx hb dX1_setPlace_6 rfl (lv_at hl 1 rfl) ?_
  refine lv_iconst (v := (3 : Int32)) hx hb dX1_setPlace_7 (by decide) ?_
  refine lv_iand hx hb dX1_setPlace_8 ?_
  refine lv_iadd hx hb dX1_setPlace_9 ?_
  have hk0 := Option.some.inj h
  cases hk0
  exact re_i [] hx hb hr hlocks rfl hP hD hS rfl (by decide) rfl dX1_setPlace_10
def fX1_countPlace (p0 : Int32) (p1 : Int32) (p2 : Int32) : Option (Int32) :=
  bd1 (fX1_setPlace p0 p1) fun r1 =>
  some ((r1 * (32 : Int32)) + (p2 &&& (31 : Int32)))
set_option maxHeartbeats 4000000 in
set_option maxRecDepth 100000 in
theorem mX1_countPlace (l : Launch) (dC : Nat → ClassId) (dI : Nat → Nat → Nat) (cI : ClassId) (sz : Nat) (p0 : Int32) (p1 : Int32) (p2 : Int32) {rr : Int32} (h : fX1_countPlace p0 p1 p2 = some rr) : Met l yX1_countPlace wsX1_countPlace ({ frames := 1, cells := 0, slots := 0, locals := 21 } : Room) (prX dC dI cI [.int p0, .int p1, .int p2] sz []) (poI dC dI .int rr [] (va_A [] sz)) 0 0 (va_A [] sz) := by
  refine ofX (cc := cX1_countPlace) (maxL := 3) (ret := (some .int)) (lv0 := [(0, .int p0), (1, .int p1), (2, .int p2)]) (QA := fun A => poI dC dI .int rr [] A) (by decide) rfl (Nat.le_of_ble_eq_true rfl) rfl ?_
  intro p e s m below meth c A ls H locs hx hb hr hml hown hts hlocks hin hK hN hA hP hD hS hl
  have hown : s.vm.findClass RX1 = some m.cls := hown
  unfold fX1_countPlace at h
  refine lv_iload_n hx hb dX1_countPlace_0 rfl (lv_at hl 0 rfl) ?_
  refine lv_iload_n hx hb dX1_countPlace_1 rfl (lv_at hl 1 rfl) ?_
  obtain ⟨r1, h1, h⟩ := bd1_e h
  refine ca_Si (wc := []) (wr := []) (w1 := []) [.int p0, .int p1] [] [] [] hx hb hml hown hts (mX1_setPlace l dC dI cI H.size p0 p1 h1) (va_cwS 2 hts gX1_countPlace_X1_setPlace rfl rfl rfl (by decide +kernel) ⟨Nat.le_of_ble_eq_true rfl, Nat.le_of_ble_eq_true rfl⟩) hK hN hP hD hS hA rfl rfl (by decide) (by decide) (by decide) rfl hl.1 rfl (Nat.le_of_ble_eq_true rfl) dX1_countPlace_2 ⟨Nat.zero_le _, Nat.zero_le _⟩ (fun H locs hP hD hS hz1 => ?_)
  have hP : va_P (dC, dI) vwCl [] H := hP
  have hD : va_D A [] := hD
  refine lv_bipush (v := (32 : Int32)) hx hb dX1_countPlace_5 (by decide) ?_
  refine lv_imul hx hb dX1_countPlace_7 ?_
  refine lv_iload_n hx hb dX1_countPlace_8 rfl (lv_at hl 2 rfl) ?_
  refine lv_bipush (v := (31 : Int32)) hx hb dX1_countPlace_9 (by decide) ?_
  refine lv_iand hx hb dX1_countPlace_11 ?_
  refine lv_iadd hx hb dX1_countPlace_12 ?_
  have hk0 := Option.some.inj h
  cases hk0
  exact re_i [] hx hb hr hlocks rfl hP hD hS rfl (by decide) rfl dX1_countPlace_13
def bJ7_fill_53178_5 (n_p0 : Nat) (p1 : Int32) (y3_5 : Int32) (y2_5 : Int32) (a_p0_5 : Nat → Int32) : Option ((Int32 × (Nat → Int32)) ⊕ ((Nat → Int32))) :=
  if y3_5 ≤ y2_5 then
    some (.inr (a_p0_5))
  else
    if ¬ (y2_5 < 0 ∨ n_p0 ≤ y2_5.toNatClampNeg) then
      some (.inl ((y2_5 + 1), (upd a_p0_5 y2_5.toNatClampNeg p1)))
    else none
def fJ7_fill_53178 (N : Nat) (n_p0 : Nat) (p1 : Int32) (a_p0 : Nat → Int32) : Option ((Nat → Int32)) :=
  nm ((Int32.ofNat n_p0)) fun x1 =>
  lp (fun s => bJ7_fill_53178_5 n_p0 p1 x1 s.1 s.2) N ((0 : Int32), a_p0)
set_option maxHeartbeats 4000000 in
set_option maxRecDepth 100000 in
theorem mJ7_fill_53178 (l : Launch) (dC : Nat → ClassId) (dI : Nat → Nat → Nat) (cI : ClassId) (sz : Nat) (N : Nat) (n_p0 : Nat) (q_p0 : Nat) (a_p0 : Nat → Int32) (p1 : Int32) {o_p0 : Nat → Int32} (h : fJ7_fill_53178 N n_p0 p1 a_p0 = some o_p0) : Met l yJ7_fill_53178 wsJ7_fill_53178 ({ frames := 0, cells := 0, slots := 0, locals := 0 } : Room) (prX dC dI cI [.ref q_p0, .int p1] sz [(q_p0, .inl (cI, n_p0, .inl a_p0))]) (poV dC dI [(q_p0, .inl (cI, n_p0, .inl o_p0))] (va_A [(q_p0, .inl (cI, n_p0, .inl a_p0))] sz)) 0 0 (va_A [(q_p0, .inl (cI, n_p0, .inl a_p0))] sz) := by
  refine ofX (cc := cJ7_fill_53178) (maxL := 4) (ret := none) (lv0 := [(0, .ref q_p0), (1, .int p1)]) (QA := fun A => poV dC dI [(q_p0, .inl (cI, n_p0, .inl o_p0))] A) (by decide) rfl (Nat.le_of_ble_eq_true rfl) rfl ?_
  intro p e s m below meth c A ls H locs hx hb hr hml hown hts hlocks hin hK hN hA hP hD hS hl
  have hown : s.vm.findClass RJ7 = some m.cls := hown
  unfold fJ7_fill_53178 at h
  refine lv_iconst (v := (0 : Int32)) hx hb dJ7_fill_53178_0 (by decide) ?_
  refine lv_istore_n (lv' := [(2, .int (0 : Int32)), (0, .ref q_p0), (1, .int p1)]) hx hb dJ7_fill_53178_1 rfl hl (by decide) rfl (fun ls hl => ?_)
  refine lv_aload_n hx hb dJ7_fill_53178_2 rfl (lv_at hl 1 rfl) ?_
  refine va_alen (v := (Int32.ofNat n_p0)) hx hb hK hP 0 0 rfl rfl rfl dJ7_fill_53178_3 ?_
  refine lv_topi (fun x1 ex1 => ?_)
  have h := nm_u ex1 h
  refine lv_istore_n (lv' := [(3, .int x1), (2, .int (0 : Int32)), (0, .ref q_p0), (1, .int p1)]) hx hb dJ7_fill_53178_4 rfl hl (by decide) rfl (fun ls hl => ?_)
  have key5 : ∀ (y3_5 : Int32) (n1 : Nat) (y2_5 : Int32) (a_p0_5 : Nat → Int32) (H : Heap) (locs : List Loc) (ls : Array Slot), lp (fun s => bJ7_fill_53178_5 n_p0 p1 y3_5 s.1 s.2) n1 (y2_5, a_p0_5) = some o_p0 → va_P (dC, dI) vwCl [(q_p0, .inl (cI, n_p0, .inl a_p0_5))] H → va_D A [(q_p0, .inl (cI, n_p0, .inl a_p0_5))] → va_S A s.heap H locs → lv_has ls 4 [(3, .int y3_5), (2, .int y2_5), (0, .ref q_p0), (1, .int p1)] → W p l e ({ frames := 0, cells := 0, slots := 0, locals := 0 } : Room) s m [.ref q_p0, .int p1].toArray below meth c H locs 0 0 (MQ below (poV dC dI [(q_p0, .inl (cI, n_p0, .inl o_p0))] A) [.ref q_p0, .int p1].toArray s 0 0 A) (F0 m 5 ls []) := by
    intro y3_5
    intro n1
    induction n1 with
    | zero =>
      intro y2_5 a_p0_5 H locs ls h
      exact (lp_0 h).elim
    | succ n1 ih1 =>
      intro y2_5 a_p0_5 H locs ls h hP hD hS hl
      obtain ⟨o1, h, hk1⟩ := lp_s h
      unfold bJ7_fill_53178_5 at h
      try dsimp only at h
      refine lv_iload_n hx hb dJ7_fill_53178_5 rfl (lv_at hl 1 rfl) ?_
      refine lv_iload_n hx hb dJ7_fill_53178_6 rfl (lv_at hl 0 rfl) ?_
      refine lv_icmp_ge (tgt := 20) hx hb dJ7_fill_53178_7 (by decide) (fun c2 => ?_) (fun c2 => ?_)
      · have h := it_p c2 h
        cases Option.some.inj h
        have hk1 := un_r hk1
        cases hk1
        exact re_v [0] hx hb hr hlocks hP hD hS rfl (by decide) dJ7_fill_53178_20
      · have h := it_n c2 h
        refine lv_aload_n hx hb dJ7_fill_53178_10 rfl (lv_at hl 2 rfl) ?_
        refine lv_iload_n hx hb dJ7_fill_53178_11 rfl (lv_at hl 1 rfl) ?_
        refine lv_iload_n hx hb dJ7_fill_53178_12 rfl (lv_at hl 3 rfl) ?_
        obtain ⟨g3, h⟩ := gd_e h
        refine va_iast hx hb hK hP hD hS 0 0 rfl rfl g3 dJ7_fill_53178_13 (fun H locs hP hD hS => ?_)
        have hP : va_P (dC, dI) vwCl [(q_p0, .inl (cI, n_p0, .inl (upd a_p0_5 y2_5.toNatClampNeg p1)))] H := hP
        have hD : va_D A [(q_p0, .inl (cI, n_p0, .inl (upd a_p0_5 y2_5.toNatClampNeg p1)))] := hD
        refine lv_iinc (v := y2_5 + 1) (lv' := [(2, .int (y2_5 + 1)), (3, .int y3_5), (0, .ref q_p0), (1, .int p1)]) hx hb dJ7_fill_53178_14 hl (k := 1) rfl rfl (by decide) rfl (fun ls hl => ?_)
        refine lv_goto (tgt := 5) hx hb dJ7_fill_53178_17 (by decide) ?_
        cases Option.some.inj h
        exact ih1 _ _ _ _ _ (un_l hk1) (hP.sub [0] rfl) (hD.sub [0] (by decide) rfl) hS (lv_sub hl [1, 0, 2, 3] rfl)
  exact key5 x1 N _ _ _ _ _ h hP hD hS hl
def fX1_clear (N : Nat) (a_counts : Nat → Int32) (a_fragmentSets : Nat → Int32) : Option (Int32 × Int32 × (Nat → Int32) × (Nat → Int32)) :=
  bd1 (fJ7_fill_53178 N (4096) (0 : Int32) a_counts) fun s_p0_1 =>
  bd1 (fJ7_fill_53178 N (128) (0 : Int32) a_fragmentSets) fun s_p0_2 =>
  some ((0 : Int32), (0 : Int32), s_p0_1, s_p0_2)
set_option maxHeartbeats 4000000 in
set_option maxRecDepth 100000 in
theorem mX1_clear (l : Launch) (dC : Nat → ClassId) (dI : Nat → Nat → Nat) (cI : ClassId) (sz : Nat) (N : Nat) (h0 : Nat) (q_counts : Nat) (q_fragmentSets : Nat) (v_unmarkedPackets : Int32) (v_markedPackets : Int32) (a_counts : Nat → Int32) (a_fragmentSets : Nat → Int32) {o_unmarkedPackets : Int32} {o_markedPackets : Int32} {o_counts : Nat → Int32} {o_fragmentSets : Nat → Int32} (h : fX1_clear N a_counts a_fragmentSets = some (o_unmarkedPackets, o_markedPackets, o_counts, o_fragmentSets)) : Met l yX1_clear wsX1_clear ({ frames := 1, cells := 0, slots := 0, locals := 23 } : Room) (prX dC dI cI [.ref h0] sz [(h0, .inr (1, [.ref q_counts, .ref q_fragmentSets, .int v_unmarkedPackets, .int v_markedPackets])), (q_counts, .inl (cI, 4096, .inl a_counts)), (q_fragmentSets, .inl (cI, 128, .inl a_fragmentSets))]) (poV dC dI [(h0, .inr (1, [.ref q_counts, .ref q_fragmentSets, .int o_unmarkedPackets, .int o_markedPackets])), (q_counts, .inl (cI, 4096, .inl o_counts)), (q_fragmentSets, .inl (cI, 128, .inl o_fragmentSets))] (va_A [(h0, .inr (1, [.ref q_counts, .ref q_fragmentSets, .int v_unmarkedPackets, .int v_markedPackets])), (q_counts, .inl (cI, 4096, .inl a_counts)), (q_fragmentSets, .inl (cI, 128, .inl a_fragmentSets))] sz)) 0 0 (va_A [(h0, .inr (1, [.ref q_counts, .ref q_fragmentSets, .int v_unmarkedPackets, .int v_markedPackets])), (q_counts, .inl (cI, 4096, .inl a_counts)), (q_fragmentSets, .inl (cI, 128, .inl a_fragmentSets))] sz) := by
  refine ofX (cc := cX1_clear) (maxL := 1) (ret := none) (lv0 := [(0, .ref h0)]) (QA := fun A => poV dC dI [(h0, .inr (1, [.ref q_counts, .ref q_fragmentSets, .int o_unmarkedPackets, .int o_markedPackets])), (q_counts, .inl (cI, 4096, .inl o_counts)), (q_fragmentSets, .inl (cI, 128, .inl o_fragmentSets))] A) (by decide) rfl (Nat.le_of_ble_eq_true rfl) rfl ?_
  intro p e s m below meth c A ls H locs hx hb hr hml hown hts hlocks hin hK hN hA hP hD hS hl
  have hown : s.vm.findClass RX1 = some m.cls := hown
  unfold fX1_clear at h
  have hiX1 : ∀ w ∈ u_ws RX1 TX1 4, w ∈ wsX1_clear := fun _ h => List.mem_cons_of_mem _ (List.mem_append_right _ h)
  have hf9 := (hts (.fieldLink RX1 9 "PacketTraceback$MarkRecord" "counts" "[I") (List.mem_of_getElem? (i := 1) (by decide +kernel)))
  have hf15 := (hts (.fieldLink RX1 15 "PacketTraceback$MarkRecord" "fragmentSets" "[I") (List.mem_of_getElem? (i := 2) (by decide +kernel)))
  have hf18 := (hts (.fieldLink RX1 18 "PacketTraceback$MarkRecord" "unmarkedPackets" "I") (List.mem_of_getElem? (i := 3) (by decide +kernel)))
  have hf22 := (hts (.fieldLink RX1 22 "PacketTraceback$MarkRecord" "markedPackets" "I") (List.mem_of_getElem? (i := 4) (by decide +kernel)))
  refine lv_aload_n hx hb dX1_clear_0 rfl (lv_at hl 0 rfl) ?_
  refine va_get (D := (dC, dI)) (ci := 1) (v := .ref q_counts) (C := RX1) (T := TX1) (N := 4) hx hb hts hiX1 hown hK hP 0 rfl rfl 0 (by decide) hf9 (fun _ h9 => h9) rfl dX1_clear_1 ?_
  refine lv_iconst (v := (0 : Int32)) hx hb dX1_clear_4 (by decide) ?_
  obtain ⟨s_p0_1, h1, h⟩ := bd1_e h
  refine ca_Sv (wc := [(q_counts, .inl (cI, 4096, .inl a_counts))]) (wr := [(h0, .inr (1, [.ref q_counts, .ref q_fragmentSets, .int v_unmarkedPackets, .int v_markedPackets])), (q_fragmentSets, .inl (cI, 128, .inl a_fragmentSets))]) (w1 := [(q_counts, .inl (cI, 4096, .inl s_p0_1))]) [.ref q_counts, .int (0 : Int32)] [] [1] [0, 2] hx hb hml hown hts (mJ7_fill_53178 l dC dI cI H.size N (4096) q_counts a_counts (0 : Int32) h1) (va_cwS 2 hts gX1_clear_J7_fill_53178 rfl rfl rfl (by decide +kernel) ⟨Nat.le_of_ble_eq_true rfl, Nat.le_of_ble_eq_true rfl⟩) hK hN hP hD hS hA rfl rfl (by decide) (by decide) (by decide) rfl hl.1 rfl (Nat.le_of_ble_eq_true rfl) dX1_clear_5 ⟨Nat.zero_le _, Nat.zero_le _⟩ (fun H locs hP hD hS => ?_)
  have hP : va_P (dC, dI) vwCl [(h0, .inr (1, [.ref q_counts, .ref q_fragmentSets, .int v_unmarkedPackets, .int v_markedPackets])), (q_fragmentSets, .inl (cI, 128, .inl a_fragmentSets)), (q_counts, .inl (cI, 4096, .inl s_p0_1))] H := hP
  have hD : va_D A [(h0, .inr (1, [.ref q_counts, .ref q_fragmentSets, .int v_unmarkedPackets, .int v_markedPackets])), (q_fragmentSets, .inl (cI, 128, .inl a_fragmentSets)), (q_counts, .inl (cI, 4096, .inl s_p0_1))] := hD
  refine lv_aload_n hx hb dX1_clear_8 rfl (lv_at hl 0 rfl) ?_
  refine va_get (D := (dC, dI)) (ci := 1) (v := .ref q_fragmentSets) (C := RX1) (T := TX1) (N := 4) hx hb hts hiX1 hown hK hP 0 rfl rfl 1 (by decide) hf15 (fun _ h9 => h9) rfl dX1_clear_9 ?_
  refine lv_iconst (v := (0 : Int32)) hx hb dX1_clear_12 (by decide) ?_
  obtain ⟨s_p0_2, h2, h⟩ := bd1_e h
  refine ca_Sv (wc := [(q_fragmentSets, .inl (cI, 128, .inl a_fragmentSets))]) (wr := [(h0, .inr (1, [.ref q_counts, .ref q_fragmentSets, .int v_unmarkedPackets, .int v_markedPackets])), (q_counts, .inl (cI, 4096, .inl s_p0_1))]) (w1 := [(q_fragmentSets, .inl (cI, 128, .inl s_p0_2))]) [.ref q_fragmentSets, .int (0 : Int32)] [] [1] [0, 2] hx hb hml hown hts (mJ7_fill_53178 l dC dI cI H.size N (128) q_fragmentSets a_fragmentSets (0 : Int32) h2) (va_cwS 2 hts gX1_clear_J7_fill_53178 rfl rfl rfl (by decide +kernel) ⟨Nat.le_of_ble_eq_true rfl, Nat.le_of_ble_eq_true rfl⟩) hK hN hP hD hS hA rfl rfl (by decide) (by decide) (by decide) rfl hl.1 rfl (Nat.le_of_ble_eq_true rfl) dX1_clear_13 ⟨Nat.zero_le _, Nat.zero_le _⟩ (fun H locs hP hD hS => ?_)
  have hP : va_P (dC, dI) vwCl [(h0, .inr (1, [.ref q_counts, .ref q_fragmentSets, .int v_unmarkedPackets, .int v_markedPackets])), (q_counts, .inl (cI, 4096, .inl s_p0_1)), (q_fragmentSets, .inl (cI, 128, .inl s_p0_2))] H := hP
  have hD : va_D A [(h0, .inr (1, [.ref q_counts, .ref q_fragmentSets, .int v_unmarkedPackets, .int v_markedPackets])), (q_counts, .inl (cI, 4096, .inl s_p0_1)), (q_fragmentSets, .inl (cI, 128, .inl s_p0_2))] := hD
  refine lv_aload_n hx hb dX1_clear_16 rfl (lv_at hl 0 rfl) ?_
  refine lv_iconst (v := (0 : Int32)) hx hb dX1_clear_17 (by decide) ?_
  refine va_put (D := (dC, dI)) (ci := 1) (v := .int (0 : Int32)) (ty := .int) (C := RX1) (T := TX1) (N := 4) hx hb hts hiX1 tyX1 tyX1_ok nmX1 hown hK hP hD hS 0 rfl rfl 2 (by decide) hf18 (fun _ h9 => h9) rfl (by decide +kernel) rfl rfl (Nat.le_of_ble_eq_true rfl) dX1_clear_18 (fun H locs hP hD hS => ?_)
  have hP : va_P (dC, dI) vwCl [(h0, .inr (1, [.ref q_counts, .ref q_fragmentSets, .int (0 : Int32), .int v_markedPackets])), (q_counts, .inl (cI, 4096, .inl s_p0_1)), (q_fragmentSets, .inl (cI, 128, .inl s_p0_2))] H := hP
  have hD : va_D A [(h0, .inr (1, [.ref q_counts, .ref q_fragmentSets, .int (0 : Int32), .int v_markedPackets])), (q_counts, .inl (cI, 4096, .inl s_p0_1)), (q_fragmentSets, .inl (cI, 128, .inl s_p0_2))] := hD
  refine lv_aload_n hx hb dX1_clear_21 rfl (lv_at hl 0 rfl) ?_
  refine lv_iconst (v := (0 : Int32)) hx hb dX1_clear_22 (by decide) ?_
  refine va_put (D := (dC, dI)) (ci := 1) (v := .int (0 : Int32)) (ty := .int) (C := RX1) (T := TX1) (N := 4) hx hb hts hiX1 tyX1 tyX1_ok nmX1 hown hK hP hD hS 0 rfl rfl 3 (by decide) hf22 (fun _ h9 => h9) rfl (by decide +kernel) rfl rfl (Nat.le_of_ble_eq_true rfl) dX1_clear_23 (fun H locs hP hD hS => ?_)
  have hP : va_P (dC, dI) vwCl [(h0, .inr (1, [.ref q_counts, .ref q_fragmentSets, .int (0 : Int32), .int (0 : Int32)])), (q_counts, .inl (cI, 4096, .inl s_p0_1)), (q_fragmentSets, .inl (cI, 128, .inl s_p0_2))] H := hP
  have hD : va_D A [(h0, .inr (1, [.ref q_counts, .ref q_fragmentSets, .int (0 : Int32), .int (0 : Int32)])), (q_counts, .inl (cI, 4096, .inl s_p0_1)), (q_fragmentSets, .inl (cI, 128, .inl s_p0_2))] := hD
  have hk0 := Option.some.inj h
  cases hk0
  exact re_v [0, 1, 2] hx hb hr hlocks hP hD hS rfl (by decide) dX1_clear_26
def fX4_isMarked (v_marked : Int32) : Option (Int32) :=
  if v_marked = 0 ∨ v_marked = 1 then
    some v_marked
  else none
set_option maxHeartbeats 4000000 in
set_option maxRecDepth 100000 in
theorem mX4_isMarked (l : Launch) (dC : Nat → ClassId) (dI : Nat → Nat → Nat) (cI : ClassId) (sz : Nat) (h0 : Nat) (v_marked : Int32) (v_markedByRouter : Int32) (v_distance : Int32) (v_offset : Int32) (v_fragment : Int32) {rr : Int32} (h : fX4_isMarked v_marked = some rr) : Met l yX4_isMarked wsX4_isMarked ({ frames := 0, cells := 0, slots := 0, locals := 0 } : Room) (prX dC dI cI [.ref h0] sz [(h0, .inr (4, [.int v_marked, .int v_markedByRouter, .int v_distance, .int v_offset, .int v_fragment]))]) (poI dC dI .boolean rr [(h0, .inr (4, [.int v_marked, .int v_markedByRouter, .int v_distance, .int v_offset, .int v_fragment]))] (va_A [(h0, .inr (4, [.int v_marked, .int v_markedByRouter, .int v_distance, .int v_offset, .int v_fragment]))] sz)) 0 0 (va_A [(h0, .inr (4, [.int v_marked, .int v_markedByRouter, .int v_distance, .int v_offset, .int v_fragment]))] sz) := by
  refine ofX (cc := cX4_isMarked) (maxL := 1) (ret := (some .boolean)) (lv0 := [(0, .ref h0)]) (QA := fun A => poI dC dI .boolean rr [(h0, .inr (4, [.int v_marked, .int v_markedByRouter, .int v_distance, .int v_offset, .int v_fragment]))] A) (by decide) rfl (Nat.le_of_ble_eq_true rfl) rfl ?_
  intro p e s m below meth c A ls H locs hx hb hr hml hown hts hlocks hin hK hN hA hP hD hS hl
  have hown : s.vm.findClass RX4 = some m.cls := hown
  unfold fX4_isMarked at h
  have hiX4 : ∀ w ∈ u_ws RX4 TX4 5, w ∈ wsX4_isMarked := fun _ h => List.mem_cons_of_mem _ (List.mem_append_right _ h)
  have hf9 := (hts (.fieldLink RX4 9 "PacketTraceback$Packet" "marked" "Z") (List.mem_of_getElem? (i := 1) (by decide +kernel)))
  refine lv_aload_n hx hb dX4_isMarked_0 rfl (lv_at hl 0 rfl) ?_
  refine va_get (D := (dC, dI)) (ci := 4) (v := .int v_marked) (C := RX4) (T := TX4) (N := 5) hx hb hts hiX4 hown hK hP 0 rfl rfl 0 (by decide) hf9 (fun _ h9 => h9) rfl dX4_isMarked_1 ?_
  obtain ⟨g1, h⟩ := gd_e h
  have hk0 := Option.some.inj h
  cases hk0
  exact re_i [0] hx hb hr hlocks (bl_01 g1) hP hD hS rfl (by decide) rfl dX4_isMarked_4
def fX4_fragmentValue (v_fragment : Int32) : Option (Int32) :=
  some v_fragment
set_option maxHeartbeats 4000000 in
set_option maxRecDepth 100000 in
theorem mX4_fragmentValue (l : Launch) (dC : Nat → ClassId) (dI : Nat → Nat → Nat) (cI : ClassId) (sz : Nat) (h0 : Nat) (v_marked : Int32) (v_markedByRouter : Int32) (v_distance : Int32) (v_offset : Int32) (v_fragment : Int32) {rr : Int32} (h : fX4_fragmentValue v_fragment = some rr) : Met l yX4_fragmentValue wsX4_fragmentValue ({ frames := 0, cells := 0, slots := 0, locals := 0 } : Room) (prX dC dI cI [.ref h0] sz [(h0, .inr (4, [.int v_marked, .int v_markedByRouter, .int v_distance, .int v_offset, .int v_fragment]))]) (poI dC dI .int rr [(h0, .inr (4, [.int v_marked, .int v_markedByRouter, .int v_distance, .int v_offset, .int v_fragment]))] (va_A [(h0, .inr (4, [.int v_marked, .int v_markedByRouter, .int v_distance, .int v_offset, .int v_fragment]))] sz)) 0 0 (va_A [(h0, .inr (4, [.int v_marked, .int v_markedByRouter, .int v_distance, .int v_offset, .int v_fragment]))] sz) := by
  refine ofX (cc := cX4_fragmentValue) (maxL := 1) (ret := (some .int)) (lv0 := [(0, .ref h0)]) (QA := fun A => poI dC dI .int rr [(h0, .inr (4, [.int v_marked, .int v_markedByRouter, .int v_distance, .int v_offset, .int v_fragment]))] A) (by decide) rfl (Nat.le_of_ble_eq_true rfl) rfl ?_
  intro p e s m below meth c A ls H locs hx hb hr hml hown hts hlocks hin hK hN hA hP hD hS hl
  have hown : s.vm.findClass RX4 = some m.cls := hown
  unfold fX4_fragmentValue at h
  have hiX4 : ∀ w ∈ u_ws RX4 TX4 5, w ∈ wsX4_fragmentValue := fun _ h => List.mem_cons_of_mem _ (List.mem_append_right _ h)
  have hf25 := (hts (.fieldLink RX4 25 "PacketTraceback$Packet" "fragment" "I") (List.mem_of_getElem? (i := 1) (by decide +kernel)))
  refine lv_aload_n hx hb dX4_fragmentValue_0 rfl (lv_at hl 0 rfl) ?_
  refine va_get (D := (dC, dI)) (ci := 4) (v := .int v_fragment) (C := RX4) (T := TX4) (N := 5) hx hb hts hiX4 hown hK hP 0 rfl rfl 4 (by decide) hf25 (fun _ h9 => h9) rfl dX4_fragmentValue_1 ?_
  have hk0 := Option.some.inj h
  cases hk0
  exact re_i [0] hx hb hr hlocks rfl hP hD hS rfl (by decide) rfl dX4_fragmentValue_4
def fX4_distance (v_distance : Int32) : Option (Int32) :=
  some v_distance
set_option maxHeartbeats 4000000 in
set_option maxRecDepth 100000 in
theorem mX4_distance (l : Launch) (dC : Nat → ClassId) (dI : Nat → Nat → Nat) (cI : ClassId) (sz : Nat) (h0 : Nat) (v_marked : Int32) (v_markedByRouter : Int32) (v_distance : Int32) (v_offset : Int32) (v_fragment : Int32) {rr : Int32} (h : fX4_distance v_distance = some rr) : Met l yX4_distance wsX4_distance ({ frames := 0, cells := 0, slots := 0, locals := 0 } : Room) (prX dC dI cI [.ref h0] sz [(h0, .inr (4, [.int v_marked, .int v_markedByRouter, .int v_distance, .int v_offset, .int v_fragment]))]) (poI dC dI .int rr [(h0, .inr (4, [.int v_marked, .int v_markedByRouter, .int v_distance, .int v_offset, .int v_fragment]))] (va_A [(h0, .inr (4, [.int v_marked, .int v_markedByRouter, .int v_distance, .int v_offset, .int v_fragment]))] sz)) 0 0 (va_A [(h0, .inr (4, [.int v_marked, .int v_markedByRouter, .int v_distance, .int v_offset, .int v_fragment]))] sz) := by
  refine ofX (cc := cX4_distance) (maxL := 1) (ret := (some .int)) (lv0 := [(0, .ref h0)]) (QA := fun A => poI dC dI .int rr [(h0, .inr (4, [.int v_marked, .int v_markedByRouter, .int v_distance, .int v_offset, .int v_fragment]))] A) (by decide) rfl (Nat.le_of_ble_eq_true rfl) rfl ?_
  intro p e s m below meth c A ls H locs hx hb hr hml hown hts hlocks hin hK hN hA hP hD hS hl
  have hown : s.vm.findClass RX4 = some m.cls := hown
  unfold fX4_distance at h
  have hiX4 : ∀ w ∈ u_ws RX4 TX4 5, w ∈ wsX4_distance := fun _ h => List.mem_cons_of_mem _ (List.mem_append_right _ h)
  have hf18 := (hts (.fieldLink RX4 18 "PacketTraceback$Packet" "distance" "I") (List.mem_of_getElem? (i := 1) (by decide +kernel)))
  refine lv_aload_n hx hb dX4_distance_0 rfl (lv_at hl 0 rfl) ?_
  refine va_get (D := (dC, dI)) (ci := 4) (v := .int v_distance) (C := RX4) (T := TX4) (N := 5) hx hb hts hiX4 hown hK hP 0 rfl rfl 2 (by decide) hf18 (fun _ h9 => h9) rfl dX4_distance_1 ?_
  have hk0 := Option.some.inj h
  cases hk0
  exact re_i [0] hx hb hr hlocks rfl hP hD hS rfl (by decide) rfl dX4_distance_4
def fX4_offset (v_offset : Int32) : Option (Int32) :=
  some v_offset
set_option maxHeartbeats 4000000 in
set_option maxRecDepth 100000 in
theorem mX4_offset (l : Launch) (dC : Nat → ClassId) (dI : Nat → Nat → Nat) (cI : ClassId) (sz : Nat) (h0 : Nat) (v_marked : Int32) (v_markedByRouter : Int32) (v_distance : Int32) (v_offset : Int32) (v_fragment : Int32) {rr : Int32} (h : fX4_offset v_offset = some rr) : Met l yX4_offset wsX4_offset ({ frames := 0, cells := 0, slots := 0, locals := 0 } : Room) (prX dC dI cI [.ref h0] sz [(h0, .inr (4, [.int v_marked, .int v_markedByRouter, .int v_distance, .int v_offset, .int v_fragment]))]) (poI dC dI .int rr [(h0, .inr (4, [.int v_marked, .int v_markedByRouter, .int v_distance, .int v_offset, .int v_fragment]))] (va_A [(h0, .inr (4, [.int v_marked, .int v_markedByRouter, .int v_distance, .int v_offset, .int v_fragment]))] sz)) 0 0 (va_A [(h0, .inr (4, [.int v_marked, .int v_markedByRouter, .int v_distance, .int v_offset, .int v_fragment]))] sz) := by
  refine ofX (cc := cX4_offset) (maxL := 1) (ret := (some .int)) (lv0 := [(0, .ref h0)]) (QA := fun A => poI dC dI .int rr [(h0, .inr (4, [.int v_marked, .int v_markedByRouter, .int v_distance, .int v_offset, .int v_fragment]))] A) (by decide) rfl (Nat.le_of_ble_eq_true rfl) rfl ?_
  intro p e s m below meth c A ls H locs hx hb hr hml hown hts hlocks hin hK hN hA hP hD hS hl
  have hown : s.vm.findClass RX4 = some m.cls := hown
  unfold fX4_offset at h
  have hiX4 : ∀ w ∈ u_ws RX4 TX4 5, w ∈ wsX4_offset := fun _ h => List.mem_cons_of_mem _ (List.mem_append_right _ h)
  have hf22 := (hts (.fieldLink RX4 22 "PacketTraceback$Packet" "offset" "I") (List.mem_of_getElem? (i := 1) (by decide +kernel)))
  refine lv_aload_n hx hb dX4_offset_0 rfl (lv_at hl 0 rfl) ?_
  refine va_get (D := (dC, dI)) (ci := 4) (v := .int v_offset) (C := RX4) (T := TX4) (N := 5) hx hb hts hiX4 hown hK hP 0 rfl rfl 3 (by decide) hf22 (fun _ h9 => h9) rfl dX4_offset_1 ?_
  have hk0 := Option.some.inj h
  cases hk0
  exact re_i [0] hx hb hr hlocks rfl hP hD hS rfl (by decide) rfl dX4_offset_4
def fX1_note (v_unmarkedPackets : Int32) (v_markedPackets : Int32) (a_counts : Nat → Int32) (a_fragmentSets : Nat → Int32) (v_p1_marked : Int32) (v_p1_distance : Int32) (v_p1_offset : Int32) (v_p1_fragment : Int32) : Option (Int32 × Int32 × (Nat → Int32) × (Nat → Int32)) :=
  bd1 (fX4_isMarked v_p1_marked) fun r1 =>
  if r1 = 0 then
    some ((v_unmarkedPackets + (1 : Int32)), v_markedPackets, a_counts, a_fragmentSets)
  else
    bd1 (fX4_fragmentValue v_p1_fragment) fun r3 =>
    bd1 (fX4_distance v_p1_distance) fun r4 =>
    bd1 (fX4_offset v_p1_offset) fun r5 =>
    bd1 (fX1_countPlace r4 r5 r3) fun r6 =>
    if ¬ (r6 < 0 ∨ 4096 ≤ r6.toNatClampNeg) then
      bd1 (fX4_distance v_p1_distance) fun r8 =>
      bd1 (fX4_offset v_p1_offset) fun r9 =>
      bd1 (fX1_setPlace r8 r9) fun r10 =>
      if ¬ (r10 < 0 ∨ 128 ≤ r10.toNatClampNeg) then
        some (v_unmarkedPackets, (v_markedPackets + (1 : Int32)), (upd a_counts r6.toNatClampNeg ((a_counts r6.toNatClampNeg) + (1 : Int32))), (upd a_fragmentSets r10.toNatClampNeg ((a_fragmentSets r10.toNatClampNeg) ||| ((1 : Int32) <<< (r3 &&& 31)))))
      else none
    else none
set_option maxHeartbeats 4000000 in
set_option maxRecDepth 100000 in
theorem mX1_note (l : Launch) (dC : Nat → ClassId) (dI : Nat → Nat → Nat) (cI : ClassId) (sz : Nat) (h0 : Nat) (q_counts : Nat) (q_fragmentSets : Nat) (q_p1 : Nat) (v_unmarkedPackets : Int32) (v_markedPackets : Int32) (a_counts : Nat → Int32) (a_fragmentSets : Nat → Int32) (v_p1_marked : Int32) (v_p1_markedByRouter : Int32) (v_p1_distance : Int32) (v_p1_offset : Int32) (v_p1_fragment : Int32) {o_unmarkedPackets : Int32} {o_markedPackets : Int32} {o_counts : Nat → Int32} {o_fragmentSets : Nat → Int32} (h : fX1_note v_unmarkedPackets v_markedPackets a_counts a_fragmentSets v_p1_marked v_p1_distance v_p1_offset v_p1_fragment = some (o_unmarkedPackets, o_markedPackets, o_counts, o_fragmentSets)) : Met l yX1_note wsX1_note ({ frames := 2, cells := 0, slots := 0, locals := 43 } : Room) (prX dC dI cI [.ref h0, .ref q_p1] sz [(h0, .inr (1, [.ref q_counts, .ref q_fragmentSets, .int v_unmarkedPackets, .int v_markedPackets])), (q_counts, .inl (cI, 4096, .inl a_counts)), (q_fragmentSets, .inl (cI, 128, .inl a_fragmentSets)), (q_p1, .inr (4, [.int v_p1_marked, .int v_p1_markedByRouter, .int v_p1_distance, .int v_p1_offset, .int v_p1_fragment]))]) (poV dC dI [(h0, .inr (1, [.ref q_counts, .ref q_fragmentSets, .int o_unmarkedPackets, .int o_markedPackets])), (q_counts, .inl (cI, 4096, .inl o_counts)), (q_fragmentSets, .inl (cI, 128, .inl o_fragmentSets)), (q_p1, .inr (4, [.int v_p1_marked, .int v_p1_markedByRouter, .int v_p1_distance, .int v_p1_offset, .int v_p1_fragment]))] (va_A [(h0, .inr (1, [.ref q_counts, .ref q_fragmentSets, .int v_unmarkedPackets, .int v_markedPackets])), (q_counts, .inl (cI, 4096, .inl a_counts)), (q_fragmentSets, .inl (cI, 128, .inl a_fragmentSets)), (q_p1, .inr (4, [.int v_p1_marked, .int v_p1_markedByRouter, .int v_p1_distance, .int v_p1_offset, .int v_p1_fragment]))] sz)) 0 0 (va_A [(h0, .inr (1, [.ref q_counts, .ref q_fragmentSets, .int v_unmarkedPackets, .int v_markedPackets])), (q_counts, .inl (cI, 4096, .inl a_counts)), (q_fragmentSets, .inl (cI, 128, .inl a_fragmentSets)), (q_p1, .inr (4, [.int v_p1_marked, .int v_p1_markedByRouter, .int v_p1_distance, .int v_p1_offset, .int v_p1_fragment]))] sz) := by
  refine ofX (cc := cX1_note) (maxL := 3) (ret := none) (lv0 := [(0, .ref h0), (1, .ref q_p1)]) (QA := fun A => poV dC dI [(h0, .inr (1, [.ref q_counts, .ref q_fragmentSets, .int o_unmarkedPackets, .int o_markedPackets])), (q_counts, .inl (cI, 4096, .inl o_counts)), (q_fragmentSets, .inl (cI, 128, .inl o_fragmentSets)), (q_p1, .inr (4, [.int v_p1_marked, .int v_p1_markedByRouter, .int v_p1_distance, .int v_p1_offset, .int v_p1_fragment]))] A) (by decide) rfl (Nat.le_of_ble_eq_true rfl) rfl ?_
  intro p e s m below meth c A ls H locs hx hb hr hml hown hts hlocks hin hK hN hA hP hD hS hl
  have hown : s.vm.findClass RX1 = some m.cls := hown
  unfold fX1_note at h
  have hiX1 : ∀ w ∈ u_ws RX1 TX1 4, w ∈ wsX1_note := fun _ h => List.mem_cons_of_mem _ (List.mem_append_left _ (List.mem_append_right _ h))
  have hf22 := (hts (.fieldLink RX1 22 "PacketTraceback$MarkRecord" "markedPackets" "I") (List.mem_of_getElem? (i := 2) (by decide +kernel)))
  have hf9 := (hts (.fieldLink RX1 9 "PacketTraceback$MarkRecord" "counts" "[I") (List.mem_of_getElem? (i := 3) (by decide +kernel)))
  have hf15 := (hts (.fieldLink RX1 15 "PacketTraceback$MarkRecord" "fragmentSets" "[I") (List.mem_of_getElem? (i := 4) (by decide +kernel)))
  have hf18 := (hts (.fieldLink RX1 18 "PacketTraceback$MarkRecord" "unmarkedPackets" "I") (List.mem_of_getElem? (i := 1) (by decide +kernel)))
  refine lv_aload_n hx hb dX1_note_0 rfl (lv_at hl 1 rfl) ?_
  refine lv_ifnonnull (tgt := 5) hx hb dX1_note_1 (by decide) ?_
  refine lv_aload_n hx hb dX1_note_5 rfl (lv_at hl 1 rfl) ?_
  obtain ⟨r1, h1, h⟩ := bd1_e h
  refine ca_Vi (wc := [(q_p1, .inr (4, [.int v_p1_marked, .int v_p1_markedByRouter, .int v_p1_distance, .int v_p1_offset, .int v_p1_fragment]))]) (wr := [(h0, .inr (1, [.ref q_counts, .ref q_fragmentSets, .int v_unmarkedPackets, .int v_markedPackets])), (q_counts, .inl (cI, 4096, .inl a_counts)), (q_fragmentSets, .inl (cI, 128, .inl a_fragmentSets))]) (w1 := [(q_p1, .inr (4, [.int v_p1_marked, .int v_p1_markedByRouter, .int v_p1_distance, .int v_p1_offset, .int v_p1_fragment]))]) [] [] [3] [0, 1, 2] hx hb hml hown hts (mX4_isMarked l dC dI cI H.size q_p1 v_p1_marked v_p1_markedByRouter v_p1_distance v_p1_offset v_p1_fragment h1) (cwV 0 hts gX1_note_X4_isMarked rfl rfl rfl (by decide +kernel) ⟨Nat.le_of_ble_eq_true rfl, Nat.le_of_ble_eq_true rfl⟩) hK hN hP hD hS hA rfl rfl (by decide) (by decide) (by decide) rfl rfl rfl hl.1 rfl (Nat.le_of_ble_eq_true rfl) dX1_note_6 ⟨Nat.zero_le _, Nat.zero_le _⟩ (fun H locs hP hD hS hz1 => ?_)
  have hP : va_P (dC, dI) vwCl [(h0, .inr (1, [.ref q_counts, .ref q_fragmentSets, .int v_unmarkedPackets, .int v_markedPackets])), (q_counts, .inl (cI, 4096, .inl a_counts)), (q_fragmentSets, .inl (cI, 128, .inl a_fragmentSets)), (q_p1, .inr (4, [.int v_p1_marked, .int v_p1_markedByRouter, .int v_p1_distance, .int v_p1_offset, .int v_p1_fragment]))] H := hP
  have hD : va_D A [(h0, .inr (1, [.ref q_counts, .ref q_fragmentSets, .int v_unmarkedPackets, .int v_markedPackets])), (q_counts, .inl (cI, 4096, .inl a_counts)), (q_fragmentSets, .inl (cI, 128, .inl a_fragmentSets)), (q_p1, .inr (4, [.int v_p1_marked, .int v_p1_markedByRouter, .int v_p1_distance, .int v_p1_offset, .int v_p1_fragment]))] := hD
  refine lv_if_ne (tgt := 23) hx hb dX1_note_9 (by decide) (fun c2 => ?_) (fun c2 => ?_)
  · have h := it_n c2 h
    refine lv_aload_n hx hb dX1_note_23 rfl (lv_at hl 1 rfl) ?_
    obtain ⟨r3, h3, h⟩ := bd1_e h
    refine ca_Vi (wc := [(q_p1, .inr (4, [.int v_p1_marked, .int v_p1_markedByRouter, .int v_p1_distance, .int v_p1_offset, .int v_p1_fragment]))]) (wr := [(h0, .inr (1, [.ref q_counts, .ref q_fragmentSets, .int v_unmarkedPackets, .int v_markedPackets])), (q_counts, .inl (cI, 4096, .inl a_counts)), (q_fragmentSets, .inl (cI, 128, .inl a_fragmentSets))]) (w1 := [(q_p1, .inr (4, [.int v_p1_marked, .int v_p1_markedByRouter, .int v_p1_distance, .int v_p1_offset, .int v_p1_fragment]))]) [] [] [3] [0, 1, 2] hx hb hml hown hts (mX4_fragmentValue l dC dI cI H.size q_p1 v_p1_marked v_p1_markedByRouter v_p1_distance v_p1_offset v_p1_fragment h3) (cwV 0 hts gX1_note_X4_fragmentValue rfl rfl rfl (by decide +kernel) ⟨Nat.le_of_ble_eq_true rfl, Nat.le_of_ble_eq_true rfl⟩) hK hN hP hD hS hA rfl rfl (by decide) (by decide) (by decide) rfl rfl rfl hl.1 rfl (Nat.le_of_ble_eq_true rfl) dX1_note_24 ⟨Nat.zero_le _, Nat.zero_le _⟩ (fun H locs hP hD hS hz3 => ?_)
    have hP : va_P (dC, dI) vwCl [(h0, .inr (1, [.ref q_counts, .ref q_fragmentSets, .int v_unmarkedPackets, .int v_markedPackets])), (q_counts, .inl (cI, 4096, .inl a_counts)), (q_fragmentSets, .inl (cI, 128, .inl a_fragmentSets)), (q_p1, .inr (4, [.int v_p1_marked, .int v_p1_markedByRouter, .int v_p1_distance, .int v_p1_offset, .int v_p1_fragment]))] H := hP
    have hD : va_D A [(h0, .inr (1, [.ref q_counts, .ref q_fragmentSets, .int v_unmarkedPackets, .int v_markedPackets])), (q_counts, .inl (cI, 4096, .inl a_counts)), (q_fragmentSets, .inl (cI, 128, .inl a_fragmentSets)), (q_p1, .inr (4, [.int v_p1_marked, .int v_p1_markedByRouter, .int v_p1_distance, .int v_p1_offset, .int v_p1_fragment]))] := hD
    refine lv_istore_n (lv' := [(2, .int r3), (0, .ref h0), (1, .ref q_p1)]) hx hb dX1_note_27 rfl hl (by decide) rfl (fun ls hl => ?_)
    refine lv_aload_n hx hb dX1_note_28 rfl (lv_at hl 1 rfl) ?_
    refine lv_dup hx hb dX1_note_29 rfl ?_
    refine va_get (D := (dC, dI)) (ci := 1) (v := .int v_markedPackets) (C := RX1) (T := TX1) (N := 4) hx hb hts hiX1 hown hK hP 0 rfl rfl 3 (by decide) hf22 (fun _ h9 => h9) rfl dX1_note_30 ?_
    refine lv_iconst (v := (1 : Int32)) hx hb dX1_note_33 (by decide) ?_
    refine lv_iadd hx hb dX1_note_34 ?_
    refine va_put (D := (dC, dI)) (ci := 1) (v := .int (v_markedPackets + (1 : Int32))) (ty := .int) (C := RX1) (T := TX1) (N := 4) hx hb hts hiX1 tyX1 tyX1_ok nmX1 hown hK hP hD hS 0 rfl rfl 3 (by decide) hf22 (fun _ h9 => h9) rfl (by decide +kernel) rfl rfl (Nat.le_of_ble_eq_true rfl) dX1_note_35 (fun H locs hP hD hS => ?_)
    have hP : va_P (dC, dI) vwCl [(h0, .inr (1, [.ref q_counts, .ref q_fragmentSets, .int v_unmarkedPackets, .int (v_markedPackets + (1 : Int32))])), (q_counts, .inl (cI, 4096, .inl a_counts)), (q_fragmentSets, .inl (cI, 128, .inl a_fragmentSets)), (q_p1, .inr (4, [.int v_p1_marked, .int v_p1_markedByRouter, .int v_p1_distance, .int v_p1_offset, .int v_p1_fragment]))] H := hP
    have hD : va_D A [(h0, .inr (1, [.ref q_counts, .ref q_fragmentSets, .int v_unmarkedPackets, .int (v_markedPackets + (1 : Int32))])), (q_counts, .inl (cI, 4096, .inl a_counts)), (q_fragmentSets, .inl (cI, 128, .inl a_fragmentSets)), (q_p1, .inr (4, [.int v_p1_marked, .int v_p1_markedByRouter, .int v_p1_distance, .int v_p1_offset, .int v_p1_fragment]))] := hD
    refine lv_aload_n hx hb dX1_note_38 rfl (lv_at hl 1 rfl) ?_
    refine va_get (D := (dC, dI)) (ci := 1) (v := .ref q_counts) (C := RX1) (T := TX1) (N := 4) hx hb hts hiX1 hown hK hP 0 rfl rfl 0 (by decide) hf9 (fun _ h9 => h9) rfl dX1_note_39 ?_
    refine lv_aload_n hx hb dX1_note_42 rfl (lv_at hl 2 rfl) ?_
    obtain ⟨r4, h4, h⟩ := bd1_e h
    refine ca_Vi (wc := [(q_p1, .inr (4, [.int v_p1_marked, .int v_p1_markedByRouter, .int v_p1_distance, .int v_p1_offset, .int v_p1_fragment]))]) (wr := [(h0, .inr (1, [.ref q_counts, .ref q_fragmentSets, .int v_unmarkedPackets, .int (v_markedPackets + (1 : Int32))])), (q_counts, .inl (cI, 4096, .inl a_counts)), (q_fragmentSets, .inl (cI, 128, .inl a_fragmentSets))]) (w1 := [(q_p1, .inr (4, [.int v_p1_marked, .int v_p1_markedByRouter, .int v_p1_distance, .int v_p1_offset, .int v_p1_fragment]))]) [] [.ref q_counts] [3] [0, 1, 2] hx hb hml hown hts (mX4_distance l dC dI cI H.size q_p1 v_p1_marked v_p1_markedByRouter v_p1_distance v_p1_offset v_p1_fragment h4) (cwV 0 hts gX1_note_X4_distance rfl rfl rfl (by decide +kernel) ⟨Nat.le_of_ble_eq_true rfl, Nat.le_of_ble_eq_true rfl⟩) hK hN hP hD hS hA rfl rfl (by decide) (by decide) (by decide) rfl rfl rfl hl.1 rfl (Nat.le_of_ble_eq_true rfl) dX1_note_43 ⟨Nat.zero_le _, Nat.zero_le _⟩ (fun H locs hP hD hS hz4 => ?_)
    have hP : va_P (dC, dI) vwCl [(h0, .inr (1, [.ref q_counts, .ref q_fragmentSets, .int v_unmarkedPackets, .int (v_markedPackets + (1 : Int32))])), (q_counts, .inl (cI, 4096, .inl a_counts)), (q_fragmentSets, .inl (cI, 128, .inl a_fragmentSets)), (q_p1, .inr (4, [.int v_p1_marked, .int v_p1_markedByRouter, .int v_p1_distance, .int v_p1_offset, .int v_p1_fragment]))] H := hP
    have hD : va_D A [(h0, .inr (1, [.ref q_counts, .ref q_fragmentSets, .int v_unmarkedPackets, .int (v_markedPackets + (1 : Int32))])), (q_counts, .inl (cI, 4096, .inl a_counts)), (q_fragmentSets, .inl (cI, 128, .inl a_fragmentSets)), (q_p1, .inr (4, [.int v_p1_marked, .int v_p1_markedByRouter, .int v_p1_distance, .int v_p1_offset, .int v_p1_fragment]))] := hD
    refine lv_aload_n hx hb dX1_note_46 rfl (lv_at hl 2 rfl) ?_
    obtain ⟨r5, h5, h⟩ := bd1_e h
    refine ca_Vi (wc := [(q_p1, .inr (4, [.int v_p1_marked, .int v_p1_markedByRouter, .int v_p1_distance, .int v_p1_offset, .int v_p1_fragment]))]) (wr := [(h0, .inr (1, [.ref q_counts, .ref q_fragmentSets, .int v_unmarkedPackets, .int (v_markedPackets + (1 : Int32))])), (q_counts, .inl (cI, 4096, .inl a_counts)), (q_fragmentSets, .inl (cI, 128, .inl a_fragmentSets))]) (w1 := [(q_p1, .inr (4, [.int v_p1_marked, .int v_p1_markedByRouter, .int v_p1_distance, .int v_p1_offset, .int v_p1_fragment]))]) [] [.int r4, .ref q_counts] [3] [0, 1, 2] hx hb hml hown hts (mX4_offset l dC dI cI H.size q_p1 v_p1_marked v_p1_markedByRouter v_p1_distance v_p1_offset v_p1_fragment h5) (cwV 0 hts gX1_note_X4_offset rfl rfl rfl (by decide +kernel) ⟨Nat.le_of_ble_eq_true rfl, Nat.le_of_ble_eq_true rfl⟩) hK hN hP hD hS hA rfl rfl (by decide) (by decide) (by decide) rfl rfl rfl hl.1 rfl (Nat.le_of_ble_eq_true rfl) dX1_note_47 ⟨Nat.zero_le _, Nat.zero_le _⟩ (fun H locs hP hD hS hz5 => ?_)
    have hP : va_P (dC, dI) vwCl [(h0, .inr (1, [.ref q_counts, .ref q_fragmentSets, .int v_unmarkedPackets, .int (v_markedPackets + (1 : Int32))])), (q_counts, .inl (cI, 4096, .inl a_counts)), (q_fragmentSets, .inl (cI, 128, .inl a_fragmentSets)), (q_p1, .inr (4, [.int v_p1_marked, .int v_p1_markedByRouter, .int v_p1_distance, .int v_p1_offset, .int v_p1_fragment]))] H := hP
    have hD : va_D A [(h0, .inr (1, [.ref q_counts, .ref q_fragmentSets, .int v_unmarkedPackets, .int (v_markedPackets + (1 : Int32))])), (q_counts, .inl (cI, 4096, .inl a_counts)), (q_fragmentSets, .inl (cI, 128, .inl a_fragmentSets)), (q_p1, .inr (4, [.int v_p1_marked, .int v_p1_markedByRouter, .int v_p1_distance, .int v_p1_offset, .int v_p1_fragment]))] := hD
    refine lv_iload_n hx hb dX1_note_50 rfl (lv_at hl 0 rfl) ?_
    obtain ⟨r6, h6, h⟩ := bd1_e h
    refine ca_Si (wc := []) (wr := [(h0, .inr (1, [.ref q_counts, .ref q_fragmentSets, .int v_unmarkedPackets, .int (v_markedPackets + (1 : Int32))])), (q_counts, .inl (cI, 4096, .inl a_counts)), (q_fragmentSets, .inl (cI, 128, .inl a_fragmentSets)), (q_p1, .inr (4, [.int v_p1_marked, .int v_p1_markedByRouter, .int v_p1_distance, .int v_p1_offset, .int v_p1_fragment]))]) (w1 := []) [.int r4, .int r5, .int r3] [.ref q_counts] [] [0, 1, 2, 3] hx hb hml hown hts (mX1_countPlace l dC dI cI H.size r4 r5 r3 h6) (va_cwS 3 hts gX1_note_X1_countPlace rfl rfl rfl (by decide +kernel) ⟨Nat.le_of_ble_eq_true rfl, Nat.le_of_ble_eq_true rfl⟩) hK hN hP hD hS hA rfl rfl (by decide) (by decide) (by decide) rfl hl.1 rfl (Nat.le_of_ble_eq_true rfl) dX1_note_51 ⟨Nat.zero_le _, Nat.zero_le _⟩ (fun H locs hP hD hS hz6 => ?_)
    have hP : va_P (dC, dI) vwCl [(h0, .inr (1, [.ref q_counts, .ref q_fragmentSets, .int v_unmarkedPackets, .int (v_markedPackets + (1 : Int32))])), (q_counts, .inl (cI, 4096, .inl a_counts)), (q_fragmentSets, .inl (cI, 128, .inl a_fragmentSets)), (q_p1, .inr (4, [.int v_p1_marked, .int v_p1_markedByRouter, .int v_p1_distance, .int v_p1_offset, .int v_p1_fragment]))] H := hP
    have hD : va_D A [(h0, .inr (1, [.ref q_counts, .ref q_fragmentSets, .int v_unmarkedPackets, .int (v_markedPackets + (1 : Int32))])), (q_counts, .inl (cI, 4096, .inl a_counts)), (q_fragmentSets, .inl (cI, 128, .inl a_fragmentSets)), (q_p1, .inr (4, [.int v_p1_marked, .int v_p1_markedByRouter, .int v_p1_distance, .int v_p1_offset, .int v_p1_fragment]))] := hD
    refine lv_dup2_11 hx hb dX1_note_54 rfl rfl ?_
    obtain ⟨g7, h⟩ := gd_e h
    refine va_iald hx hb hK hP 1 0 rfl rfl g7 dX1_note_55 ?_
    refine lv_iconst (v := (1 : Int32)) hx hb dX1_note_56 (by decide) ?_
    refine lv_iadd hx hb dX1_note_57 ?_
    refine va_iast hx hb hK hP hD hS 1 0 rfl rfl g7 dX1_note_58 (fun H locs hP hD hS => ?_)
    have hP : va_P (dC, dI) vwCl [(h0, .inr (1, [.ref q_counts, .ref q_fragmentSets, .int v_unmarkedPackets, .int (v_markedPackets + (1 : Int32))])), (q_counts, .inl (cI, 4096, .inl (upd a_counts r6.toNatClampNeg ((a_counts r6.toNatClampNeg) + (1 : Int32))))), (q_fragmentSets, .inl (cI, 128, .inl a_fragmentSets)), (q_p1, .inr (4, [.int v_p1_marked, .int v_p1_markedByRouter, .int v_p1_distance, .int v_p1_offset, .int v_p1_fragment]))] H := hP
    have hD : va_D A [(h0, .inr (1, [.ref q_counts, .ref q_fragmentSets, .int v_unmarkedPackets, .int (v_markedPackets + (1 : Int32))])), (q_counts, .inl (cI, 4096, .inl (upd a_counts r6.toNatClampNeg ((a_counts r6.toNatClampNeg) + (1 : Int32))))), (q_fragmentSets, .inl (cI, 128, .inl a_fragmentSets)), (q_p1, .inr (4, [.int v_p1_marked, .int v_p1_markedByRouter, .int v_p1_distance, .int v_p1_offset, .int v_p1_fragment]))] := hD
    refine lv_aload_n hx hb dX1_note_59 rfl (lv_at hl 1 rfl) ?_
    refine va_get (D := (dC, dI)) (ci := 1) (v := .ref q_fragmentSets) (C := RX1) (T := TX1) (N := 4) hx hb hts hiX1 hown hK hP 0 rfl rfl 1 (by decide) hf15 (fun _ h9 => h9) rfl dX1_note_60 ?_
    refine lv_aload_n hx hb dX1_note_63 rfl (lv_at hl 2 rfl) ?_
    obtain ⟨r8, h8, h⟩ := bd1_e h
    refine ca_Vi (wc := [(q_p1, .inr (4, [.int v_p1_marked, .int v_p1_markedByRouter, .int v_p1_distance, .int v_p1_offset, .int v_p1_fragment]))]) (wr := [(h0, .inr (1, [.ref q_counts, .ref q_fragmentSets, .int v_unmarkedPackets, .int (v_markedPackets + (1 : Int32))])), (q_counts, .inl (cI, 4096, .inl (upd a_counts r6.toNatClampNeg ((a_counts r6.toNatClampNeg) + (1 : Int32))))), (q_fragmentSets, .inl (cI, 128, .inl a_fragmentSets))]) (w1 := [(q_p1, .inr (4, [.int v_p1_marked, .int v_p1_markedByRouter, .int v_p1_distance, .int v_p1_offset, .int v_p1_fragment]))]) [] [.ref q_fragmentSets] [3] [0, 1, 2] hx hb hml hown hts (mX4_distance l dC dI cI H.size q_p1 v_p1_marked v_p1_markedByRouter v_p1_distance v_p1_offset v_p1_fragment h8) (cwV 0 hts gX1_note_X4_distance rfl rfl rfl (by decide +kernel) ⟨Nat.le_of_ble_eq_true rfl, Nat.le_of_ble_eq_true rfl⟩) hK hN hP hD hS hA rfl rfl (by decide) (by decide) (by decide) rfl rfl rfl hl.1 rfl (Nat.le_of_ble_eq_true rfl) dX1_note_64 ⟨Nat.zero_le _, Nat.zero_le _⟩ (fun H locs hP hD hS hz8 => ?_)
    have hP : va_P (dC, dI) vwCl [(h0, .inr (1, [.ref q_counts, .ref q_fragmentSets, .int v_unmarkedPackets, .int (v_markedPackets + (1 : Int32))])), (q_counts, .inl (cI, 4096, .inl (upd a_counts r6.toNatClampNeg ((a_counts r6.toNatClampNeg) + (1 : Int32))))), (q_fragmentSets, .inl (cI, 128, .inl a_fragmentSets)), (q_p1, .inr (4, [.int v_p1_marked, .int v_p1_markedByRouter, .int v_p1_distance, .int v_p1_offset, .int v_p1_fragment]))] H := hP
    have hD : va_D A [(h0, .inr (1, [.ref q_counts, .ref q_fragmentSets, .int v_unmarkedPackets, .int (v_markedPackets + (1 : Int32))])), (q_counts, .inl (cI, 4096, .inl (upd a_counts r6.toNatClampNeg ((a_counts r6.toNatClampNeg) + (1 : Int32))))), (q_fragmentSets, .inl (cI, 128, .inl a_fragmentSets)), (q_p1, .inr (4, [.int v_p1_marked, .int v_p1_markedByRouter, .int v_p1_distance, .int v_p1_offset, .int v_p1_fragment]))] := hD
    refine lv_aload_n hx hb dX1_note_67 rfl (lv_at hl 2 rfl) ?_
    obtain ⟨r9, h9, h⟩ := bd1_e h
    refine ca_Vi (wc := [(q_p1, .inr (4, [.int v_p1_marked, .int v_p1_markedByRouter, .int v_p1_distance, .int v_p1_offset, .int v_p1_fragment]))]) (wr := [(h0, .inr (1, [.ref q_counts, .ref q_fragmentSets, .int v_unmarkedPackets, .int (v_markedPackets + (1 : Int32))])), (q_counts, .inl (cI, 4096, .inl (upd a_counts r6.toNatClampNeg ((a_counts r6.toNatClampNeg) + (1 : Int32))))), (q_fragmentSets, .inl (cI, 128, .inl a_fragmentSets))]) (w1 := [(q_p1, .inr (4, [.int v_p1_marked, .int v_p1_markedByRouter, .int v_p1_distance, .int v_p1_offset, .int v_p1_fragment]))]) [] [.int r8, .ref q_fragmentSets] [3] [0, 1, 2] hx hb hml hown hts (mX4_offset l dC dI cI H.size q_p1 v_p1_marked v_p1_markedByRouter v_p1_distance v_p1_offset v_p1_fragment h9) (cwV 0 hts gX1_note_X4_offset rfl rfl rfl (by decide +kernel) ⟨Nat.le_of_ble_eq_true rfl, Nat.le_of_ble_eq_true rfl⟩) hK hN hP hD hS hA rfl rfl (by decide) (by decide) (by decide) rfl rfl rfl hl.1 rfl (Nat.le_of_ble_eq_true rfl) dX1_note_68 ⟨Nat.zero_le _, Nat.zero_le _⟩ (fun H locs hP hD hS hz9 => ?_)
    have hP : va_P (dC, dI) vwCl [(h0, .inr (1, [.ref q_counts, .ref q_fragmentSets, .int v_unmarkedPackets, .int (v_markedPackets + (1 : Int32))])), (q_counts, .inl (cI, 4096, .inl (upd a_counts r6.toNatClampNeg ((a_counts r6.toNatClampNeg) + (1 : Int32))))), (q_fragmentSets, .inl (cI, 128, .inl a_fragmentSets)), (q_p1, .inr (4, [.int v_p1_marked, .int v_p1_markedByRouter, .int v_p1_distance, .int v_p1_offset, .int v_p1_fragment]))] H := hP
    have hD : va_D A [(h0, .inr (1, [.ref q_counts, .ref q_fragmentSets, .int v_unmarkedPackets, .int (v_markedPackets + (1 : Int32))])), (q_counts, .inl (cI, 4096, .inl (upd a_counts r6.toNatClampNeg ((a_counts r6.toNatClampNeg) + (1 : Int32))))), (q_fragmentSets, .inl (cI, 128, .inl a_fragmentSets)), (q_p1, .inr (4, [.int v_p1_marked, .int v_p1_markedByRouter, .int v_p1_distance, .int v_p1_offset, .int v_p1_fragment]))] := hD
    obtain ⟨r10, h10, h⟩ := bd1_e h
    refine ca_Si (wc := []) (wr := [(h0, .inr (1, [.ref q_counts, .ref q_fragmentSets, .int v_unmarkedPackets, .int (v_markedPackets + (1 : Int32))])), (q_counts, .inl (cI, 4096, .inl (upd a_counts r6.toNatClampNeg ((a_counts r6.toNatClampNeg) + (1 : Int32))))), (q_fragmentSets, .inl (cI, 128, .inl a_fragmentSets)), (q_p1, .inr (4, [.int v_p1_marked, .int v_p1_markedByRouter, .int v_p1_distance, .int v_p1_offset, .int v_p1_fragment]))]) (w1 := []) [.int r8, .int r9] [.ref q_fragmentSets] [] [0, 1, 2, 3] hx hb hml hown hts (mX1_setPlace l dC dI cI H.size r8 r9 h10) (va_cwS 2 hts gX1_note_X1_setPlace rfl rfl rfl (by decide +kernel) ⟨Nat.le_of_ble_eq_true rfl, Nat.le_of_ble_eq_true rfl⟩) hK hN hP hD hS hA rfl rfl (by decide) (by decide) (by decide) rfl hl.1 rfl (Nat.le_of_ble_eq_true rfl) dX1_note_71 ⟨Nat.zero_le _, Nat.zero_le _⟩ (fun H locs hP hD hS hz10 => ?_)
    have hP : va_P (dC, dI) vwCl [(h0, .inr (1, [.ref q_counts, .ref q_fragmentSets, .int v_unmarkedPackets, .int (v_markedPackets + (1 : Int32))])), (q_counts, .inl (cI, 4096, .inl (upd a_counts r6.toNatClampNeg ((a_counts r6.toNatClampNeg) + (1 : Int32))))), (q_fragmentSets, .inl (cI, 128, .inl a_fragmentSets)), (q_p1, .inr (4, [.int v_p1_marked, .int v_p1_markedByRouter, .int v_p1_distance, .int v_p1_offset, .int v_p1_fragment]))] H := hP
    have hD : va_D A [(h0, .inr (1, [.ref q_counts, .ref q_fragmentSets, .int v_unmarkedPackets, .int (v_markedPackets + (1 : Int32))])), (q_counts, .inl (cI, 4096, .inl (upd a_counts r6.toNatClampNeg ((a_counts r6.toNatClampNeg) + (1 : Int32))))), (q_fragmentSets, .inl (cI, 128, .inl a_fragmentSets)), (q_p1, .inr (4, [.int v_p1_marked, .int v_p1_markedByRouter, .int v_p1_distance, .int v_p1_offset, .int v_p1_fragment]))] := hD
    refine lv_dup2_11 hx hb dX1_note_74 rfl rfl ?_
    obtain ⟨g11, h⟩ := gd_e h
    refine va_iald hx hb hK hP 2 0 rfl rfl g11 dX1_note_75 ?_
    refine lv_iconst (v := (1 : Int32)) hx hb dX1_note_76 (by decide) ?_
    refine lv_iload_n hx hb dX1_note_77 rfl (lv_at hl 0 rfl) ?_
    refine lv_ishl hx hb dX1_note_78 ?_
    refine lv_ior hx hb dX1_note_79 ?_
    refine va_iast hx hb hK hP hD hS 2 0 rfl rfl g11 dX1_note_80 (fun H locs hP hD hS => ?_)
    have hP : va_P (dC, dI) vwCl [(h0, .inr (1, [.ref q_counts, .ref q_fragmentSets, .int v_unmarkedPackets, .int (v_markedPackets + (1 : Int32))])), (q_counts, .inl (cI, 4096, .inl (upd a_counts r6.toNatClampNeg ((a_counts r6.toNatClampNeg) + (1 : Int32))))), (q_fragmentSets, .inl (cI, 128, .inl (upd a_fragmentSets r10.toNatClampNeg ((a_fragmentSets r10.toNatClampNeg) ||| ((1 : Int32) <<< (r3 &&& 31)))))), (q_p1, .inr (4, [.int v_p1_marked, .int v_p1_markedByRouter, .int v_p1_distance, .int v_p1_offset, .int v_p1_fragment]))] H := hP
    have hD : va_D A [(h0, .inr (1, [.ref q_counts, .ref q_fragmentSets, .int v_unmarkedPackets, .int (v_markedPackets + (1 : Int32))])), (q_counts, .inl (cI, 4096, .inl (upd a_counts r6.toNatClampNeg ((a_counts r6.toNatClampNeg) + (1 : Int32))))), (q_fragmentSets, .inl (cI, 128, .inl (upd a_fragmentSets r10.toNatClampNeg ((a_fragmentSets r10.toNatClampNeg) ||| ((1 : Int32) <<< (r3 &&& 31)))))), (q_p1, .inr (4, [.int v_p1_marked, .int v_p1_markedByRouter, .int v_p1_distance, .int v_p1_offset, .int v_p1_fragment]))] := hD
    have hk0 := Option.some.inj h
    cases hk0
    exact re_v [0, 1, 2, 3] hx hb hr hlocks hP hD hS rfl (by decide) dX1_note_81
  · have h := it_p c2 h
    refine lv_aload_n hx hb dX1_note_12 rfl (lv_at hl 0 rfl) ?_
    refine lv_dup hx hb dX1_note_13 rfl ?_
    refine va_get (D := (dC, dI)) (ci := 1) (v := .int v_unmarkedPackets) (C := RX1) (T := TX1) (N := 4) hx hb hts hiX1 hown hK hP 0 rfl rfl 2 (by decide) hf18 (fun _ h9 => h9) rfl dX1_note_14 ?_
    refine lv_iconst (v := (1 : Int32)) hx hb dX1_note_17 (by decide) ?_
    refine lv_iadd hx hb dX1_note_18 ?_
    refine va_put (D := (dC, dI)) (ci := 1) (v := .int (v_unmarkedPackets + (1 : Int32))) (ty := .int) (C := RX1) (T := TX1) (N := 4) hx hb hts hiX1 tyX1 tyX1_ok nmX1 hown hK hP hD hS 0 rfl rfl 2 (by decide) hf18 (fun _ h9 => h9) rfl (by decide +kernel) rfl rfl (Nat.le_of_ble_eq_true rfl) dX1_note_19 (fun H locs hP hD hS => ?_)
    have hP : va_P (dC, dI) vwCl [(h0, .inr (1, [.ref q_counts, .ref q_fragmentSets, .int (v_unmarkedPackets + (1 : Int32)), .int v_markedPackets])), (q_counts, .inl (cI, 4096, .inl a_counts)), (q_fragmentSets, .inl (cI, 128, .inl a_fragmentSets)), (q_p1, .inr (4, [.int v_p1_marked, .int v_p1_markedByRouter, .int v_p1_distance, .int v_p1_offset, .int v_p1_fragment]))] H := hP
    have hD : va_D A [(h0, .inr (1, [.ref q_counts, .ref q_fragmentSets, .int (v_unmarkedPackets + (1 : Int32)), .int v_markedPackets])), (q_counts, .inl (cI, 4096, .inl a_counts)), (q_fragmentSets, .inl (cI, 128, .inl a_fragmentSets)), (q_p1, .inr (4, [.int v_p1_marked, .int v_p1_markedByRouter, .int v_p1_distance, .int v_p1_offset, .int v_p1_fragment]))] := hD
    have hk0 := Option.some.inj h
    cases hk0
    exact re_v [0, 1, 2, 3] hx hb hr hlocks hP hD hS rfl (by decide) dX1_note_22
def fX1_received (v_unmarkedPackets : Int32) (v_markedPackets : Int32) : Option (Int32) :=
  some (v_unmarkedPackets + v_markedPackets)
set_option maxHeartbeats 4000000 in
set_option maxRecDepth 100000 in
theorem mX1_received (l : Launch) (dC : Nat → ClassId) (dI : Nat → Nat → Nat) (cI : ClassId) (sz : Nat) (h0 : Nat) (q_counts : Nat) (q_fragmentSets : Nat) (v_unmarkedPackets : Int32) (v_markedPackets : Int32) {rr : Int32} (h : fX1_received v_unmarkedPackets v_markedPackets = some rr) : Met l yX1_received wsX1_received ({ frames := 0, cells := 0, slots := 0, locals := 0 } : Room) (prX dC dI cI [.ref h0] sz [(h0, .inr (1, [.ref q_counts, .ref q_fragmentSets, .int v_unmarkedPackets, .int v_markedPackets]))]) (poI dC dI .int rr [(h0, .inr (1, [.ref q_counts, .ref q_fragmentSets, .int v_unmarkedPackets, .int v_markedPackets]))] (va_A [(h0, .inr (1, [.ref q_counts, .ref q_fragmentSets, .int v_unmarkedPackets, .int v_markedPackets]))] sz)) 0 0 (va_A [(h0, .inr (1, [.ref q_counts, .ref q_fragmentSets, .int v_unmarkedPackets, .int v_markedPackets]))] sz) := by
  refine ofX (cc := cX1_received) (maxL := 1) (ret := (some .int)) (lv0 := [(0, .ref h0)]) (QA := fun A => poI dC dI .int rr [(h0, .inr (1, [.ref q_counts, .ref q_fragmentSets, .int v_unmarkedPackets, .int v_markedPackets]))] A) (by decide) rfl (Nat.le_of_ble_eq_true rfl) rfl ?_
  intro p e s m below meth c A ls H locs hx hb hr hml hown hts hlocks hin hK hN hA hP hD hS hl
  have hown : s.vm.findClass RX1 = some m.cls := hown
  unfold fX1_received at h
  have hiX1 : ∀ w ∈ u_ws RX1 TX1 4, w ∈ wsX1_received := fun _ h => List.mem_cons_of_mem _ (List.mem_append_right _ h)
  have hf18 := (hts (.fieldLink RX1 18 "PacketTraceback$MarkRecord" "unmarkedPackets" "I") (List.mem_of_getElem? (i := 1) (by decide +kernel)))
  have hf22 := (hts (.fieldLink RX1 22 "PacketTraceback$MarkRecord" "markedPackets" "I") (List.mem_of_getElem? (i := 2) (by decide +kernel)))
  refine lv_aload_n hx hb dX1_received_0 rfl (lv_at hl 0 rfl) ?_
  refine va_get (D := (dC, dI)) (ci := 1) (v := .int v_unmarkedPackets) (C := RX1) (T := TX1) (N := 4) hx hb hts hiX1 hown hK hP 0 rfl rfl 2 (by decide) hf18 (fun _ h9 => h9) rfl dX1_received_1 ?_
  refine lv_aload_n hx hb dX1_received_4 rfl (lv_at hl 0 rfl) ?_
  refine va_get (D := (dC, dI)) (ci := 1) (v := .int v_markedPackets) (C := RX1) (T := TX1) (N := 4) hx hb hts hiX1 hown hK hP 0 rfl rfl 3 (by decide) hf22 (fun _ h9 => h9) rfl dX1_received_5 ?_
  refine lv_iadd hx hb dX1_received_8 ?_
  have hk0 := Option.some.inj h
  cases hk0
  exact re_i [0] hx hb hr hlocks rfl hP hD hS rfl (by decide) rfl dX1_received_9
def fX1_unmarked (v_unmarkedPackets : Int32) : Option (Int32) :=
  some v_unmarkedPackets
set_option maxHeartbeats 4000000 in
set_option maxRecDepth 100000 in
theorem mX1_unmarked (l : Launch) (dC : Nat → ClassId) (dI : Nat → Nat → Nat) (cI : ClassId) (sz : Nat) (h0 : Nat) (q_counts : Nat) (q_fragmentSets : Nat) (v_unmarkedPackets : Int32) (v_markedPackets : Int32) {rr : Int32} (h : fX1_unmarked v_unmarkedPackets = some rr) : Met l yX1_unmarked wsX1_unmarked ({ frames := 0, cells := 0, slots := 0, locals := 0 } : Room) (prX dC dI cI [.ref h0] sz [(h0, .inr (1, [.ref q_counts, .ref q_fragmentSets, .int v_unmarkedPackets, .int v_markedPackets]))]) (poI dC dI .int rr [(h0, .inr (1, [.ref q_counts, .ref q_fragmentSets, .int v_unmarkedPackets, .int v_markedPackets]))] (va_A [(h0, .inr (1, [.ref q_counts, .ref q_fragmentSets, .int v_unmarkedPackets, .int v_markedPackets]))] sz)) 0 0 (va_A [(h0, .inr (1, [.ref q_counts, .ref q_fragmentSets, .int v_unmarkedPackets, .int v_markedPackets]))] sz) := by
  refine ofX (cc := cX1_unmarked) (maxL := 1) (ret := (some .int)) (lv0 := [(0, .ref h0)]) (QA := fun A => poI dC dI .int rr [(h0, .inr (1, [.ref q_counts, .ref q_fragmentSets, .int v_unmarkedPackets, .int v_markedPackets]))] A) (by decide) rfl (Nat.le_of_ble_eq_true rfl) rfl ?_
  intro p e s m below meth c A ls H locs hx hb hr hml hown hts hlocks hin hK hN hA hP hD hS hl
  have hown : s.vm.findClass RX1 = some m.cls := hown
  unfold fX1_unmarked at h
  have hiX1 : ∀ w ∈ u_ws RX1 TX1 4, w ∈ wsX1_unmarked := fun _ h => List.mem_cons_of_mem _ (List.mem_append_right _ h)
  have hf18 := (hts (.fieldLink RX1 18 "PacketTraceback$MarkRecord" "unmarkedPackets" "I") (List.mem_of_getElem? (i := 1) (by decide +kernel)))
  refine lv_aload_n hx hb dX1_unmarked_0 rfl (lv_at hl 0 rfl) ?_
  refine va_get (D := (dC, dI)) (ci := 1) (v := .int v_unmarkedPackets) (C := RX1) (T := TX1) (N := 4) hx hb hts hiX1 hown hK hP 0 rfl rfl 2 (by decide) hf18 (fun _ h9 => h9) rfl dX1_unmarked_1 ?_
  have hk0 := Option.some.inj h
  cases hk0
  exact re_i [0] hx hb hr hlocks rfl hP hD hS rfl (by decide) rfl dX1_unmarked_4
def fX1_countOf (p1 : Int32) (p2 : Int32) (p3 : Int32) (a_counts : Nat → Int32) : Option (Int32) :=
  bd1 (fX1_countPlace p1 p2 p3) fun r1 =>
  if ¬ (r1 < 0 ∨ 4096 ≤ r1.toNatClampNeg) then
    some (a_counts r1.toNatClampNeg)
  else none
set_option maxHeartbeats 4000000 in
set_option maxRecDepth 100000 in
theorem mX1_countOf (l : Launch) (dC : Nat → ClassId) (dI : Nat → Nat → Nat) (cI : ClassId) (sz : Nat) (h0 : Nat) (q_counts : Nat) (q_fragmentSets : Nat) (v_unmarkedPackets : Int32) (v_markedPackets : Int32) (a_counts : Nat → Int32) (p1 : Int32) (p2 : Int32) (p3 : Int32) {rr : Int32} (h : fX1_countOf p1 p2 p3 a_counts = some rr) : Met l yX1_countOf wsX1_countOf ({ frames := 2, cells := 0, slots := 0, locals := 43 } : Room) (prX dC dI cI [.ref h0, .int p1, .int p2, .int p3] sz [(h0, .inr (1, [.ref q_counts, .ref q_fragmentSets, .int v_unmarkedPackets, .int v_markedPackets])), (q_counts, .inl (cI, 4096, .inl a_counts))]) (poI dC dI .int rr [(h0, .inr (1, [.ref q_counts, .ref q_fragmentSets, .int v_unmarkedPackets, .int v_markedPackets])), (q_counts, .inl (cI, 4096, .inl a_counts))] (va_A [(h0, .inr (1, [.ref q_counts, .ref q_fragmentSets, .int v_unmarkedPackets, .int v_markedPackets])), (q_counts, .inl (cI, 4096, .inl a_counts))] sz)) 0 0 (va_A [(h0, .inr (1, [.ref q_counts, .ref q_fragmentSets, .int v_unmarkedPackets, .int v_markedPackets])), (q_counts, .inl (cI, 4096, .inl a_counts))] sz) := by
  refine ofX (cc := cX1_countOf) (maxL := 4) (ret := (some .int)) (lv0 := [(0, .ref h0), (1, .int p1), (2, .int p2), (3, .int p3)]) (QA := fun A => poI dC dI .int rr [(h0, .inr (1, [.ref q_counts, .ref q_fragmentSets, .int v_unmarkedPackets, .int v_markedPackets])), (q_counts, .inl (cI, 4096, .inl a_counts))] A) (by decide) rfl (Nat.le_of_ble_eq_true rfl) rfl ?_
  intro p e s m below meth c A ls H locs hx hb hr hml hown hts hlocks hin hK hN hA hP hD hS hl
  have hown : s.vm.findClass RX1 = some m.cls := hown
  unfold fX1_countOf at h
  have hiX1 : ∀ w ∈ u_ws RX1 TX1 4, w ∈ wsX1_countOf := fun _ h => List.mem_cons_of_mem _ (List.mem_append_right _ h)
  have hf9 := (hts (.fieldLink RX1 9 "PacketTraceback$MarkRecord" "counts" "[I") (List.mem_of_getElem? (i := 1) (by decide +kernel)))
  refine lv_aload_n hx hb dX1_countOf_0 rfl (lv_at hl 0 rfl) ?_
  refine va_get (D := (dC, dI)) (ci := 1) (v := .ref q_counts) (C := RX1) (T := TX1) (N := 4) hx hb hts hiX1 hown hK hP 0 rfl rfl 0 (by decide) hf9 (fun _ h9 => h9) rfl dX1_countOf_1 ?_
  refine lv_iload_n hx hb dX1_countOf_4 rfl (lv_at hl 1 rfl) ?_
  refine lv_iload_n hx hb dX1_countOf_5 rfl (lv_at hl 2 rfl) ?_
  refine lv_iload_n hx hb dX1_countOf_6 rfl (lv_at hl 3 rfl) ?_
  obtain ⟨r1, h1, h⟩ := bd1_e h
  refine ca_Si (wc := []) (wr := [(h0, .inr (1, [.ref q_counts, .ref q_fragmentSets, .int v_unmarkedPackets, .int v_markedPackets])), (q_counts, .inl (cI, 4096, .inl a_counts))]) (w1 := []) [.int p1, .int p2, .int p3] [.ref q_counts] [] [0, 1] hx hb hml hown hts (mX1_countPlace l dC dI cI H.size p1 p2 p3 h1) (va_cwS 3 hts gX1_countOf_X1_countPlace rfl rfl rfl (by decide +kernel) ⟨Nat.le_of_ble_eq_true rfl, Nat.le_of_ble_eq_true rfl⟩) hK hN hP hD hS hA rfl rfl (by decide) (by decide) (by decide) rfl hl.1 rfl (Nat.le_of_ble_eq_true rfl) dX1_countOf_7 ⟨Nat.zero_le _, Nat.zero_le _⟩ (fun H locs hP hD hS hz1 => ?_)
  have hP : va_P (dC, dI) vwCl [(h0, .inr (1, [.ref q_counts, .ref q_fragmentSets, .int v_unmarkedPackets, .int v_markedPackets])), (q_counts, .inl (cI, 4096, .inl a_counts))] H := hP
  have hD : va_D A [(h0, .inr (1, [.ref q_counts, .ref q_fragmentSets, .int v_unmarkedPackets, .int v_markedPackets])), (q_counts, .inl (cI, 4096, .inl a_counts))] := hD
  obtain ⟨g2, h⟩ := gd_e h
  refine va_iald hx hb hK hP 1 0 rfl rfl g2 dX1_countOf_10 ?_
  have hk0 := Option.some.inj h
  cases hk0
  exact re_i [0, 1] hx hb hr hlocks rfl hP hD hS rfl (by decide) rfl dX1_countOf_11
def bX1_countAt_12 (p1 : Int32) (a_counts : Nat → Int32) (y3_12 : Int32) (y2_12 : Int32) (y4_12 : Int32) : Option ((Int32 × Int32) ⊕ (((Int32 × Int32) ⊕ (Int32)))) :=
  if (32 : Int32) ≤ y4_12 then
    some (.inr (.inl (y2_12, (y3_12 + 1))))
  else
    bd1 (fX1_countOf p1 y3_12 y4_12 a_counts) fun r3 =>
    nm ((y2_12 + r3)) fun x4 =>
    some (.inl (x4, (y4_12 + 1)))
def bX1_countAt_4 (N : Nat) (p1 : Int32) (a_counts : Nat → Int32) (y2_4 : Int32) (y3_4 : Int32) : Option ((Int32 × Int32) ⊕ (Int32)) :=
  if (4 : Int32) ≤ y3_4 then
    some (.inr (y2_4))
  else
    lp (fun s => bX1_countAt_12 p1 a_counts y3_4 s.1 s.2) N (y2_4, (0 : Int32))
def fX1_countAt (N : Nat) (p1 : Int32) (a_counts : Nat → Int32) : Option (Int32) :=
  lp (fun s => bX1_countAt_4 N p1 a_counts s.1 s.2) N ((0 : Int32), (0 : Int32))
set_option maxHeartbeats 4000000 in
set_option maxRecDepth 100000 in
theorem mX1_countAt (l : Launch) (dC : Nat → ClassId) (dI : Nat → Nat → Nat) (cI : ClassId) (sz : Nat) (N : Nat) (h0 : Nat) (q_counts : Nat) (q_fragmentSets : Nat) (v_unmarkedPackets : Int32) (v_markedPackets : Int32) (a_counts : Nat → Int32) (p1 : Int32) {rr : Int32} (h : fX1_countAt N p1 a_counts = some rr) : Met l yX1_countAt wsX1_countAt ({ frames := 3, cells := 0, slots := 0, locals := 66 } : Room) (prX dC dI cI [.ref h0, .int p1] sz [(h0, .inr (1, [.ref q_counts, .ref q_fragmentSets, .int v_unmarkedPackets, .int v_markedPackets])), (q_counts, .inl (cI, 4096, .inl a_counts))]) (poI dC dI .int rr [(h0, .inr (1, [.ref q_counts, .ref q_fragmentSets, .int v_unmarkedPackets, .int v_markedPackets])), (q_counts, .inl (cI, 4096, .inl a_counts))] (va_A [(h0, .inr (1, [.ref q_counts, .ref q_fragmentSets, .int v_unmarkedPackets, .int v_markedPackets])), (q_counts, .inl (cI, 4096, .inl a_counts))] sz)) 0 0 (va_A [(h0, .inr (1, [.ref q_counts, .ref q_fragmentSets, .int v_unmarkedPackets, .int v_markedPackets])), (q_counts, .inl (cI, 4096, .inl a_counts))] sz) := by
  refine ofX (cc := cX1_countAt) (maxL := 5) (ret := (some .int)) (lv0 := [(0, .ref h0), (1, .int p1)]) (QA := fun A => poI dC dI .int rr [(h0, .inr (1, [.ref q_counts, .ref q_fragmentSets, .int v_unmarkedPackets, .int v_markedPackets])), (q_counts, .inl (cI, 4096, .inl a_counts))] A) (by decide) rfl (Nat.le_of_ble_eq_true rfl) rfl ?_
  intro p e s m below meth c A ls H locs hx hb hr hml hown hts hlocks hin hK hN hA hP hD hS hl
  have hown : s.vm.findClass RX1 = some m.cls := hown
  unfold fX1_countAt at h
  refine lv_iconst (v := (0 : Int32)) hx hb dX1_countAt_0 (by decide) ?_
  refine lv_istore_n (lv' := [(2, .int (0 : Int32)), (0, .ref h0), (1, .int p1)]) hx hb dX1_countAt_1 rfl hl (by decide) rfl (fun ls hl => ?_)
  refine lv_iconst (v := (0 : Int32)) hx hb dX1_countAt_2 (by decide) ?_
  refine lv_istore_n (lv' := [(3, .int (0 : Int32)), (2, .int (0 : Int32)), (0, .ref h0), (1, .int p1)]) hx hb dX1_countAt_3 rfl hl (by decide) rfl (fun ls hl => ?_)
  have key4 : ∀ (n1 : Nat) (y2_4 : Int32) (y3_4 : Int32) (H : Heap) (locs : List Loc) (ls : Array Slot), lp (fun s => bX1_countAt_4 N p1 a_counts s.1 s.2) n1 (y2_4, y3_4) = some rr → va_P (dC, dI) vwCl [(h0, .inr (1, [.ref q_counts, .ref q_fragmentSets, .int v_unmarkedPackets, .int v_markedPackets])), (q_counts, .inl (cI, 4096, .inl a_counts))] H → va_D A [(h0, .inr (1, [.ref q_counts, .ref q_fragmentSets, .int v_unmarkedPackets, .int v_markedPackets])), (q_counts, .inl (cI, 4096, .inl a_counts))] → va_S A s.heap H locs → lv_has ls 5 [(3, .int y3_4), (2, .int y2_4), (0, .ref h0), (1, .int p1)] → W p l e ({ frames := 3, cells := 0, slots := 0, locals := 66 } : Room) s m [.ref h0, .int p1].toArray below meth c H locs 0 0 (MQ below (poI dC dI .int rr [(h0, .inr (1, [.ref q_counts, .ref q_fragmentSets, .int v_unmarkedPackets, .int v_markedPackets])), (q_counts, .inl (cI, 4096, .inl a_counts))] A) [.ref h0, .int p1].toArray s 0 0 A) (F0 m 4 ls []) := by
    intro n1
    induction n1 with
    | zero =>
      intro y2_4 y3_4 H locs ls h
      exact (lp_0 h).elim
    | succ n1 ih1 =>
      intro y2_4 y3_4 H locs ls h hP hD hS hl
      obtain ⟨o1, h, hk1⟩ := lp_s h
      unfold bX1_countAt_4 at h
      try dsimp only at h
      refine lv_iload_n hx hb dX1_countAt_4 rfl (lv_at hl 0 rfl) ?_
      refine lv_iconst (v := (4 : Int32)) hx hb dX1_countAt_5 (by decide) ?_
      refine lv_icmp_ge (tgt := 42) hx hb dX1_countAt_6 (by decide) (fun c1 => ?_) (fun c1 => ?_)
      · have h := it_p c1 h
        refine lv_iload_n hx hb dX1_countAt_42 rfl (lv_at hl 1 rfl) ?_
        cases Option.some.inj h
        have hk1 := un_r hk1
        cases hk1
        exact re_i [0, 1] hx hb hr hlocks rfl hP hD hS rfl (by decide) rfl dX1_countAt_43
      · have h := it_n c1 h
        refine lv_iconst (v := (0 : Int32)) hx hb dX1_countAt_9 (by decide) ?_
        refine lv_istore (lv' := [(4, .int (0 : Int32)), (3, .int y3_4), (2, .int y2_4), (0, .ref h0), (1, .int p1)]) hx hb dX1_countAt_10 hl (by decide) rfl (fun ls hl => ?_)
        have key12 : ∀ (y3_12 : Int32) (n2 : Nat) (y2_12 : Int32) (y4_12 : Int32) (H : Heap) (locs : List Loc) (ls : Array Slot), lp (fun s => bX1_countAt_12 p1 a_counts y3_12 s.1 s.2) n2 (y2_12, y4_12) = some o1 → va_P (dC, dI) vwCl [(h0, .inr (1, [.ref q_counts, .ref q_fragmentSets, .int v_unmarkedPackets, .int v_markedPackets])), (q_counts, .inl (cI, 4096, .inl a_counts))] H → va_D A [(h0, .inr (1, [.ref q_counts, .ref q_fragmentSets, .int v_unmarkedPackets, .int v_markedPackets])), (q_counts, .inl (cI, 4096, .inl a_counts))] → va_S A s.heap H locs → lv_has ls 5 [(4, .int y4_12), (3, .int y3_12), (2, .int y2_12), (0, .ref h0), (1, .int p1)] → W p l e ({ frames := 3, cells := 0, slots := 0, locals := 66 } : Room) s m [.ref h0, .int p1].toArray below meth c H locs 0 0 (MQ below (poI dC dI .int rr [(h0, .inr (1, [.ref q_counts, .ref q_fragmentSets, .int v_unmarkedPackets, .int v_markedPackets])), (q_counts, .inl (cI, 4096, .inl a_counts))] A) [.ref h0, .int p1].toArray s 0 0 A) (F0 m 12 ls []) := by
          intro y3_12
          intro n2
          induction n2 with
          | zero =>
            intro y2_12 y4_12 H locs ls h
            exact (lp_0 h).elim
          | succ n2 ih2 =>
            intro y2_12 y4_12 H locs ls h hP hD hS hl
            obtain ⟨o2, h, hk2⟩ := lp_s h
            unfold bX1_countAt_12 at h
            try dsimp only at h
            refine lv_iload hx hb dX1_countAt_12 (lv_at hl 0 rfl) ?_
            refine lv_bipush (v := (32 : Int32)) hx hb dX1_countAt_14 (by decide) ?_
            refine lv_icmp_ge (tgt := 36) hx hb dX1_countAt_16 (by decide) (fun c2 => ?_) (fun c2 => ?_)
            · have h := it_p c2 h
              refine lv_iinc (v := y3_12 + 1) (lv' := [(3, .int (y3_12 + 1)), (4, .int y4_12), (2, .int y2_12), (0, .ref h0), (1, .int p1)]) hx hb dX1_countAt_36 hl (k := 1) rfl rfl (by decide) rfl (fun ls hl => ?_)
              refine lv_goto (tgt := 4) hx hb dX1_countAt_39 (by decide) ?_
              cases Option.some.inj h
              have hk2 := un_r hk2
              cases hk2
              exact ih1 _ _ _ _ _ (un_l hk1) (hP.sub [0, 1] rfl) (hD.sub [0, 1] (by decide) rfl) hS (lv_sub hl [0, 2, 3, 4] rfl)
            · have h := it_n c2 h
              refine lv_iload_n hx hb dX1_countAt_19 rfl (lv_at hl 2 rfl) ?_
              refine lv_aload_n hx hb dX1_countAt_20 rfl (lv_at hl 3 rfl) ?_
              refine lv_iload_n hx hb dX1_countAt_21 rfl (lv_at hl 4 rfl) ?_
              refine lv_iload_n hx hb dX1_countAt_22 rfl (lv_at hl 1 rfl) ?_
              refine lv_iload hx hb dX1_countAt_23 (lv_at hl 0 rfl) ?_
              obtain ⟨r3, h3, h⟩ := bd1_e h
              refine ca_Vi (wc := [(h0, .inr (1, [.ref q_counts, .ref q_fragmentSets, .int v_unmarkedPackets, .int v_markedPackets])), (q_counts, .inl (cI, 4096, .inl a_counts))]) (wr := []) (w1 := [(h0, .inr (1, [.ref q_counts, .ref q_fragmentSets, .int v_unmarkedPackets, .int v_markedPackets])), (q_counts, .inl (cI, 4096, .inl a_counts))]) [.int p1, .int y3_12, .int y4_12] [.int y2_12] [0, 1] [] hx hb hml hown hts (mX1_countOf l dC dI cI H.size h0 q_counts q_fragmentSets v_unmarkedPackets v_markedPackets a_counts p1 y3_12 y4_12 h3) (cwV 3 hts gX1_countAt_X1_countOf rfl rfl rfl (by decide +kernel) ⟨Nat.le_of_ble_eq_true rfl, Nat.le_of_ble_eq_true rfl⟩) hK hN hP hD hS hA rfl rfl (by decide) (by decide) (by decide) rfl rfl rfl hl.1 rfl (Nat.le_of_ble_eq_true rfl) dX1_countAt_25 ⟨Nat.zero_le _, Nat.zero_le _⟩ (fun H locs hP hD hS hz3 => ?_)
              have hP : va_P (dC, dI) vwCl [(h0, .inr (1, [.ref q_counts, .ref q_fragmentSets, .int v_unmarkedPackets, .int v_markedPackets])), (q_counts, .inl (cI, 4096, .inl a_counts))] H := hP
              have hD : va_D A [(h0, .inr (1, [.ref q_counts, .ref q_fragmentSets, .int v_unmarkedPackets, .int v_markedPackets])), (q_counts, .inl (cI, 4096, .inl a_counts))] := hD
              refine lv_iadd hx hb dX1_countAt_28 ?_
              refine lv_topi (fun x4 ex4 => ?_)
              have h := nm_u ex4 h
              refine lv_istore_n (lv' := [(2, .int x4), (4, .int y4_12), (3, .int y3_12), (0, .ref h0), (1, .int p1)]) hx hb dX1_countAt_29 rfl hl (by decide) rfl (fun ls hl => ?_)
              refine lv_iinc (v := y4_12 + 1) (lv' := [(4, .int (y4_12 + 1)), (2, .int x4), (3, .int y3_12), (0, .ref h0), (1, .int p1)]) hx hb dX1_countAt_30 hl (k := 1) rfl rfl (by decide) rfl (fun ls hl => ?_)
              refine lv_goto (tgt := 12) hx hb dX1_countAt_33 (by decide) ?_
              cases Option.some.inj h
              exact ih2 _ _ _ _ _ (un_l hk2) (hP.sub [0, 1] rfl) (hD.sub [0, 1] (by decide) rfl) hS (lv_sub hl [0, 2, 1, 3, 4] rfl)
        exact key12 y3_4 N _ _ _ _ _ h hP hD hS hl
  exact key4 N _ _ _ _ _ h hP hD hS hl
def bX1_hasDistance_2 (p1 : Int32) (a_fragmentSets : Nat → Int32) (y2_2 : Int32) : Option ((Int32) ⊕ (Int32)) :=
  if (4 : Int32) ≤ y2_2 then
    some (.inr (0 : Int32))
  else
    bd1 (fX1_setPlace p1 y2_2) fun r2 =>
    if ¬ (r2 < 0 ∨ 128 ≤ r2.toNatClampNeg) then
      if (a_fragmentSets r2.toNatClampNeg) = 0 then
        some (.inl (y2_2 + 1))
      else
        some (.inr (1 : Int32))
    else none
def fX1_hasDistance (N : Nat) (p1 : Int32) (a_fragmentSets : Nat → Int32) : Option (Int32) :=
  lp (fun s => bX1_hasDistance_2 p1 a_fragmentSets s) N (0 : Int32)
set_option maxHeartbeats 4000000 in
set_option maxRecDepth 100000 in
theorem mX1_hasDistance (l : Launch) (dC : Nat → ClassId) (dI : Nat → Nat → Nat) (cI : ClassId) (sz : Nat) (N : Nat) (h0 : Nat) (q_counts : Nat) (q_fragmentSets : Nat) (v_unmarkedPackets : Int32) (v_markedPackets : Int32) (a_fragmentSets : Nat → Int32) (p1 : Int32) {rr : Int32} (h : fX1_hasDistance N p1 a_fragmentSets = some rr) : Met l yX1_hasDistance wsX1_hasDistance ({ frames := 1, cells := 0, slots := 0, locals := 21 } : Room) (prX dC dI cI [.ref h0, .int p1] sz [(h0, .inr (1, [.ref q_counts, .ref q_fragmentSets, .int v_unmarkedPackets, .int v_markedPackets])), (q_fragmentSets, .inl (cI, 128, .inl a_fragmentSets))]) (poI dC dI .boolean rr [(h0, .inr (1, [.ref q_counts, .ref q_fragmentSets, .int v_unmarkedPackets, .int v_markedPackets])), (q_fragmentSets, .inl (cI, 128, .inl a_fragmentSets))] (va_A [(h0, .inr (1, [.ref q_counts, .ref q_fragmentSets, .int v_unmarkedPackets, .int v_markedPackets])), (q_fragmentSets, .inl (cI, 128, .inl a_fragmentSets))] sz)) 0 0 (va_A [(h0, .inr (1, [.ref q_counts, .ref q_fragmentSets, .int v_unmarkedPackets, .int v_markedPackets])), (q_fragmentSets, .inl (cI, 128, .inl a_fragmentSets))] sz) := by
  refine ofX (cc := cX1_hasDistance) (maxL := 3) (ret := (some .boolean)) (lv0 := [(0, .ref h0), (1, .int p1)]) (QA := fun A => poI dC dI .boolean rr [(h0, .inr (1, [.ref q_counts, .ref q_fragmentSets, .int v_unmarkedPackets, .int v_markedPackets])), (q_fragmentSets, .inl (cI, 128, .inl a_fragmentSets))] A) (by decide) rfl (Nat.le_of_ble_eq_true rfl) rfl ?_
  intro p e s m below meth c A ls H locs hx hb hr hml hown hts hlocks hin hK hN hA hP hD hS hl
  have hown : s.vm.findClass RX1 = some m.cls := hown
  unfold fX1_hasDistance at h
  have hiX1 : ∀ w ∈ u_ws RX1 TX1 4, w ∈ wsX1_hasDistance := fun _ h => List.mem_cons_of_mem _ (List.mem_append_right _ h)
  have hf15 := (hts (.fieldLink RX1 15 "PacketTraceback$MarkRecord" "fragmentSets" "[I") (List.mem_of_getElem? (i := 1) (by decide +kernel)))
  refine lv_iconst (v := (0 : Int32)) hx hb dX1_hasDistance_0 (by decide) ?_
  refine lv_istore_n (lv' := [(2, .int (0 : Int32)), (0, .ref h0), (1, .int p1)]) hx hb dX1_hasDistance_1 rfl hl (by decide) rfl (fun ls hl => ?_)
  have key2 : ∀ (n1 : Nat) (y2_2 : Int32) (H : Heap) (locs : List Loc) (ls : Array Slot), lp (fun s => bX1_hasDistance_2 p1 a_fragmentSets s) n1 y2_2 = some rr → va_P (dC, dI) vwCl [(h0, .inr (1, [.ref q_counts, .ref q_fragmentSets, .int v_unmarkedPackets, .int v_markedPackets])), (q_fragmentSets, .inl (cI, 128, .inl a_fragmentSets))] H → va_D A [(h0, .inr (1, [.ref q_counts, .ref q_fragmentSets, .int v_unmarkedPackets, .int v_markedPackets])), (q_fragmentSets, .inl (cI, 128, .inl a_fragmentSets))] → va_S A s.heap H locs → lv_has ls 3 [(2, .int y2_2), (0, .ref h0), (1, .int p1)] → W p l e ({ frames := 1, cells := 0, slots := 0, locals := 21 } : Room) s m [.ref h0, .int p1].toArray below meth c H locs 0 0 (MQ below (poI dC dI .boolean rr [(h0, .inr (1, [.ref q_counts, .ref q_fragmentSets, .int v_unmarkedPackets, .int v_markedPackets])), (q_fragmentSets, .inl (cI, 128, .inl a_fragmentSets))] A) [.ref h0, .int p1].toArray s 0 0 A) (F0 m 2 ls []) := by
    intro n1
    induction n1 with
    | zero =>
      intro y2_2 H locs ls h
      exact (lp_0 h).elim
    | succ n1 ih1 =>
      intro y2_2 H locs ls h hP hD hS hl
      obtain ⟨o1, h, hk1⟩ := lp_s h
      unfold bX1_hasDistance_2 at h
      try dsimp only at h
      refine lv_iload_n hx hb dX1_hasDistance_2 rfl (lv_at hl 0 rfl) ?_
      refine lv_iconst (v := (4 : Int32)) hx hb dX1_hasDistance_3 (by decide) ?_
      refine lv_icmp_ge (tgt := 28) hx hb dX1_hasDistance_4 (by decide) (fun c1 => ?_) (fun c1 => ?_)
      · have h := it_p c1 h
        refine lv_iconst (v := (0 : Int32)) hx hb dX1_hasDistance_28 (by decide) ?_
        cases Option.some.inj h
        have hk1 := un_r hk1
        cases hk1
        exact re_i [0, 1] hx hb hr hlocks rfl hP hD hS rfl (by decide) rfl dX1_hasDistance_29
      · have h := it_n c1 h
        refine lv_aload_n hx hb dX1_hasDistance_7 rfl (lv_at hl 1 rfl) ?_
        refine va_get (D := (dC, dI)) (ci := 1) (v := .ref q_fragmentSets) (C := RX1) (T := TX1) (N := 4) hx hb hts hiX1 hown hK hP 0 rfl rfl 1 (by decide) hf15 (fun _ h9 => h9) rfl dX1_hasDistance_8 ?_
        refine lv_iload_n hx hb dX1_hasDistance_11 rfl (lv_at hl 2 rfl) ?_
        refine lv_iload_n hx hb dX1_hasDistance_12 rfl (lv_at hl 0 rfl) ?_
        obtain ⟨r2, h2, h⟩ := bd1_e h
        refine ca_Si (wc := []) (wr := [(h0, .inr (1, [.ref q_counts, .ref q_fragmentSets, .int v_unmarkedPackets, .int v_markedPackets])), (q_fragmentSets, .inl (cI, 128, .inl a_fragmentSets))]) (w1 := []) [.int p1, .int y2_2] [.ref q_fragmentSets] [] [0, 1] hx hb hml hown hts (mX1_setPlace l dC dI cI H.size p1 y2_2 h2) (va_cwS 2 hts gX1_hasDistance_X1_setPlace rfl rfl rfl (by decide +kernel) ⟨Nat.le_of_ble_eq_true rfl, Nat.le_of_ble_eq_true rfl⟩) hK hN hP hD hS hA rfl rfl (by decide) (by decide) (by decide) rfl hl.1 rfl (Nat.le_of_ble_eq_true rfl) dX1_hasDistance_13 ⟨Nat.zero_le _, Nat.zero_le _⟩ (fun H locs hP hD hS hz2 => ?_)
        have hP : va_P (dC, dI) vwCl [(h0, .inr (1, [.ref q_counts, .ref q_fragmentSets, .int v_unmarkedPackets, .int v_markedPackets])), (q_fragmentSets, .inl (cI, 128, .inl a_fragmentSets))] H := hP
        have hD : va_D A [(h0, .inr (1, [.ref q_counts, .ref q_fragmentSets, .int v_unmarkedPackets, .int v_markedPackets])), (q_fragmentSets, .inl (cI, 128, .inl a_fragmentSets))] := hD
        obtain ⟨g3, h⟩ := gd_e h
        refine va_iald hx hb hK hP 1 0 rfl rfl g3 dX1_hasDistance_16 ?_
        refine lv_if_eq (tgt := 22) hx hb dX1_hasDistance_17 (by decide) (fun c4 => ?_) (fun c4 => ?_)
        · have h := it_p c4 h
          refine lv_iinc (v := y2_2 + 1) (lv' := [(2, .int (y2_2 + 1)), (0, .ref h0), (1, .int p1)]) hx hb dX1_hasDistance_22 hl (k := 0) rfl rfl (by decide) rfl (fun ls hl => ?_)
          refine lv_goto (tgt := 2) hx hb dX1_hasDistance_25 (by decide) ?_
          cases Option.some.inj h
          exact ih1 _ _ _ _ (un_l hk1) (hP.sub [0, 1] rfl) (hD.sub [0, 1] (by decide) rfl) hS (lv_sub hl [0, 1, 2] rfl)
        · have h := it_n c4 h
          refine lv_iconst (v := (1 : Int32)) hx hb dX1_hasDistance_20 (by decide) ?_
          cases Option.some.inj h
          have hk1 := un_r hk1
          cases hk1
          exact re_i [0, 1] hx hb hr hlocks rfl hP hD hS rfl (by decide) rfl dX1_hasDistance_21
  exact key2 N _ _ _ _ h hP hD hS hl
def fJ6_bitCount_0f7a4 (p0 : Int32) : Option (Int32) :=
  nm ((p0 - ((usI p0 (1 : Int32)) &&& (1431655765 : Int32)))) fun x1 =>
  nm (((x1 &&& (858993459 : Int32)) + ((usI x1 (2 : Int32)) &&& (858993459 : Int32)))) fun x2 =>
  nm (((x2 + (usI x2 (4 : Int32))) &&& (252645135 : Int32))) fun x3 =>
  nm ((x3 + (usI x3 (8 : Int32)))) fun x4 =>
  nm ((x4 + (usI x4 (16 : Int32)))) fun x5 =>
  some (x5 &&& (63 : Int32))
set_option maxHeartbeats 4000000 in
set_option maxRecDepth 100000 in
theorem mJ6_bitCount_0f7a4 (l : Launch) (dC : Nat → ClassId) (dI : Nat → Nat → Nat) (cI : ClassId) (sz : Nat) (p0 : Int32) {rr : Int32} (h : fJ6_bitCount_0f7a4 p0 = some rr) : Met l yJ6_bitCount_0f7a4 wsJ6_bitCount_0f7a4 ({ frames := 0, cells := 0, slots := 0, locals := 0 } : Room) (prX dC dI cI [.int p0] sz []) (poI dC dI .int rr [] (va_A [] sz)) 0 0 (va_A [] sz) := by
  refine ofX (cc := cJ6_bitCount_0f7a4) (maxL := 1) (ret := (some .int)) (lv0 := [(0, .int p0)]) (QA := fun A => poI dC dI .int rr [] A) (by decide) rfl (Nat.le_of_ble_eq_true rfl) rfl ?_
  intro p e s m below meth c A ls H locs hx hb hr hml hown hts hlocks hin hK hN hA hP hD hS hl
  have hown : s.vm.findClass RJ6 = some m.cls := hown
  unfold fJ6_bitCount_0f7a4 at h
  refine lv_iload_n hx hb dJ6_bitCount_0f7a4_0 rfl (lv_at hl 0 rfl) ?_
  refine lv_iload_n hx hb dJ6_bitCount_0f7a4_1 rfl (lv_at hl 0 rfl) ?_
  refine lv_iconst (v := (1 : Int32)) hx hb dJ6_bitCount_0f7a4_2 (by decide) ?_
  refine lv_iushr (v := (usI p0 (1 : Int32))) hx hb dJ6_bitCount_0f7a4_3 rfl ?_
  refine lv_ldcw hx hb hown (hts (.constant RJ6 265 (1431655765)) (List.mem_of_getElem? (i := 1) (by decide +kernel))) dJ6_bitCount_0f7a4_4 ?_
  refine lv_iand hx hb dJ6_bitCount_0f7a4_7 ?_
  refine lv_isub hx hb dJ6_bitCount_0f7a4_8 ?_
  refine lv_topi (fun x1 ex1 => ?_)
  have h := nm_u ex1 h
  refine lv_istore_n (lv' := [(0, .int x1)]) hx hb dJ6_bitCount_0f7a4_9 rfl hl (by decide) rfl (fun ls hl => ?_)
  refine lv_iload_n hx hb dJ6_bitCount_0f7a4_10 rfl (lv_at hl 0 rfl) ?_
  refine lv_ldcw hx hb hown (hts (.constant RJ6 266 (858993459)) (List.mem_of_getElem? (i := 2) (by decide +kernel))) dJ6_bitCount_0f7a4_11 ?_
  refine lv_iand hx hb dJ6_bitCount_0f7a4_14 ?_
  refine lv_iload_n hx hb dJ6_bitCount_0f7a4_15 rfl (lv_at hl 0 rfl) ?_
  refine lv_iconst (v := (2 : Int32)) hx hb dJ6_bitCount_0f7a4_16 (by decide) ?_
  refine lv_iushr (v := (usI x1 (2 : Int32))) hx hb dJ6_bitCount_0f7a4_17 rfl ?_
  refine lv_ldcw hx hb hown (hts (.constant RJ6 266 (858993459)) (List.mem_of_getElem? (i := 2) (by decide +kernel))) dJ6_bitCount_0f7a4_18 ?_
  refine lv_iand hx hb dJ6_bitCount_0f7a4_21 ?_
  refine lv_iadd hx hb dJ6_bitCount_0f7a4_22 ?_
  refine lv_topi (fun x2 ex2 => ?_)
  have h := nm_u ex2 h
  refine lv_istore_n (lv' := [(0, .int x2)]) hx hb dJ6_bitCount_0f7a4_23 rfl hl (by decide) rfl (fun ls hl => ?_)
  refine lv_iload_n hx hb dJ6_bitCount_0f7a4_24 rfl (lv_at hl 0 rfl) ?_
  refine lv_iload_n hx hb dJ6_bitCount_0f7a4_25 rfl (lv_at hl 0 rfl) ?_
  refine lv_iconst (v := (4 : Int32)) hx hb dJ6_bitCount_0f7a4_26 (by decide) ?_
  refine lv_iushr (v := (usI x2 (4 : Int32))) hx hb dJ6_bitCount_0f7a4_27 rfl ?_
  refine lv_iadd hx hb dJ6_bitCount_0f7a4_28 ?_
  refine lv_ldcw hx hb hown (hts (.constant RJ6 267 (252645135)) (List.mem_of_getElem? (i := 3) (by decide +kernel))) dJ6_bitCount_0f7a4_29 ?_
  refine lv_iand hx hb dJ6_bitCount_0f7a4_32 ?_
  refine lv_topi (fun x3 ex3 => ?_)
  have h := nm_u ex3 h
  refine lv_istore_n (lv' := [(0, .int x3)]) hx hb dJ6_bitCount_0f7a4_33 rfl hl (by decide) rfl (fun ls hl => ?_)
  refine lv_iload_n hx hb dJ6_bitCount_0f7a4_34 rfl (lv_at hl 0 rfl) ?_
  refine lv_iload_n hx hb dJ6_bitCount_0f7a4_35 rfl (lv_at hl 0 rfl) ?_
  refine lv_bipush (v := (8 : Int32)) hx hb dJ6_bitCount_0f7a4_36 (by decide) ?_
  refine lv_iushr (v := (usI x3 (8 : Int32))) hx hb dJ6_bitCount_0f7a4_38 rfl ?_
  refine lv_iadd hx hb dJ6_bitCount_0f7a4_39 ?_
  refine lv_topi (fun x4 ex4 => ?_)
  have h := nm_u ex4 h
  refine lv_istore_n (lv' := [(0, .int x4)]) hx hb dJ6_bitCount_0f7a4_40 rfl hl (by decide) rfl (fun ls hl => ?_)
  refine lv_iload_n hx hb dJ6_bitCount_0f7a4_41 rfl (lv_at hl 0 rfl) ?_
  refine lv_iload_n hx hb dJ6_bitCount_0f7a4_42 rfl (lv_at hl 0 rfl) ?_
  refine lv_bipush (v := (16 : Int32)) hx hb dJ6_bitCount_0f7a4_43 (by decide) ?_
  refine lv_iushr (v := (usI x4 (16 : Int32))) hx hb dJ6_bitCount_0f7a4_45 rfl ?_
  refine lv_iadd hx hb dJ6_bitCount_0f7a4_46 ?_
  refine lv_topi (fun x5 ex5 => ?_)
  have h := nm_u ex5 h
  refine lv_istore_n (lv' := [(0, .int x5)]) hx hb dJ6_bitCount_0f7a4_47 rfl hl (by decide) rfl (fun ls hl => ?_)
  refine lv_iload_n hx hb dJ6_bitCount_0f7a4_48 rfl (lv_at hl 0 rfl) ?_
  refine lv_bipush (v := (63 : Int32)) hx hb dJ6_bitCount_0f7a4_49 (by decide) ?_
  refine lv_iand hx hb dJ6_bitCount_0f7a4_51 ?_
  have hk0 := Option.some.inj h
  cases hk0
  exact re_i [] hx hb hr hlocks rfl hP hD hS rfl (by decide) rfl dJ6_bitCount_0f7a4_52
def fX1_differentFragments (p1 : Int32) (p2 : Int32) (a_fragmentSets : Nat → Int32) : Option (Int32) :=
  bd1 (fX1_setPlace p1 p2) fun r1 =>
  if ¬ (r1 < 0 ∨ 128 ≤ r1.toNatClampNeg) then
    bd1 (fJ6_bitCount_0f7a4 (a_fragmentSets r1.toNatClampNeg)) fun r3 =>
    some r3
  else none
set_option maxHeartbeats 4000000 in
set_option maxRecDepth 100000 in
theorem mX1_differentFragments (l : Launch) (dC : Nat → ClassId) (dI : Nat → Nat → Nat) (cI : ClassId) (sz : Nat) (h0 : Nat) (q_counts : Nat) (q_fragmentSets : Nat) (v_unmarkedPackets : Int32) (v_markedPackets : Int32) (a_fragmentSets : Nat → Int32) (p1 : Int32) (p2 : Int32) {rr : Int32} (h : fX1_differentFragments p1 p2 a_fragmentSets = some rr) : Met l yX1_differentFragments wsX1_differentFragments ({ frames := 1, cells := 0, slots := 0, locals := 21 } : Room) (prX dC dI cI [.ref h0, .int p1, .int p2] sz [(h0, .inr (1, [.ref q_counts, .ref q_fragmentSets, .int v_unmarkedPackets, .int v_markedPackets])), (q_fragmentSets, .inl (cI, 128, .inl a_fragmentSets))]) (poI dC dI .int rr [(h0, .inr (1, [.ref q_counts, .ref q_fragmentSets, .int v_unmarkedPackets, .int v_markedPackets])), (q_fragmentSets, .inl (cI, 128, .inl a_fragmentSets))] (va_A [(h0, .inr (1, [.ref q_counts, .ref q_fragmentSets, .int v_unmarkedPackets, .int v_markedPackets])), (q_fragmentSets, .inl (cI, 128, .inl a_fragmentSets))] sz)) 0 0 (va_A [(h0, .inr (1, [.ref q_counts, .ref q_fragmentSets, .int v_unmarkedPackets, .int v_markedPackets])), (q_fragmentSets, .inl (cI, 128, .inl a_fragmentSets))] sz) := by
  refine ofX (cc := cX1_differentFragments) (maxL := 3) (ret := (some .int)) (lv0 := [(0, .ref h0), (1, .int p1), (2, .int p2)]) (QA := fun A => poI dC dI .int rr [(h0, .inr (1, [.ref q_counts, .ref q_fragmentSets, .int v_unmarkedPackets, .int v_markedPackets])), (q_fragmentSets, .inl (cI, 128, .inl a_fragmentSets))] A) (by decide) rfl (Nat.le_of_ble_eq_true rfl) rfl ?_
  intro p e s m below meth c A ls H locs hx hb hr hml hown hts hlocks hin hK hN hA hP hD hS hl
  have hown : s.vm.findClass RX1 = some m.cls := hown
  unfold fX1_differentFragments at h
  have hiX1 : ∀ w ∈ u_ws RX1 TX1 4, w ∈ wsX1_differentFragments := fun _ h => List.mem_cons_of_mem _ (List.mem_append_right _ h)
  have hf15 := (hts (.fieldLink RX1 15 "PacketTraceback$MarkRecord" "fragmentSets" "[I") (List.mem_of_getElem? (i := 1) (by decide +kernel)))
  refine lv_aload_n hx hb dX1_differentFragments_0 rfl (lv_at hl 0 rfl) ?_
  refine va_get (D := (dC, dI)) (ci := 1) (v := .ref q_fragmentSets) (C := RX1) (T := TX1) (N := 4) hx hb hts hiX1 hown hK hP 0 rfl rfl 1 (by decide) hf15 (fun _ h9 => h9) rfl dX1_differentFragments_1 ?_
  refine lv_iload_n hx hb dX1_differentFragments_4 rfl (lv_at hl 1 rfl) ?_
  refine lv_iload_n hx hb dX1_differentFragments_5 rfl (lv_at hl 2 rfl) ?_
  obtain ⟨r1, h1, h⟩ := bd1_e h
  refine ca_Si (wc := []) (wr := [(h0, .inr (1, [.ref q_counts, .ref q_fragmentSets, .int v_unmarkedPackets, .int v_markedPackets])), (q_fragmentSets, .inl (cI, 128, .inl a_fragmentSets))]) (w1 := []) [.int p1, .int p2] [.ref q_fragmentSets] [] [0, 1] hx hb hml hown hts (mX1_setPlace l dC dI cI H.size p1 p2 h1) (va_cwS 2 hts gX1_differentFragments_X1_setPlace rfl rfl rfl (by decide +kernel) ⟨Nat.le_of_ble_eq_true rfl, Nat.le_of_ble_eq_true rfl⟩) hK hN hP hD hS hA rfl rfl (by decide) (by decide) (by decide) rfl hl.1 rfl (Nat.le_of_ble_eq_true rfl) dX1_differentFragments_6 ⟨Nat.zero_le _, Nat.zero_le _⟩ (fun H locs hP hD hS hz1 => ?_)
  have hP : va_P (dC, dI) vwCl [(h0, .inr (1, [.ref q_counts, .ref q_fragmentSets, .int v_unmarkedPackets, .int v_markedPackets])), (q_fragmentSets, .inl (cI, 128, .inl a_fragmentSets))] H := hP
  have hD : va_D A [(h0, .inr (1, [.ref q_counts, .ref q_fragmentSets, .int v_unmarkedPackets, .int v_markedPackets])), (q_fragmentSets, .inl (cI, 128, .inl a_fragmentSets))] := hD
  obtain ⟨g2, h⟩ := gd_e h
  refine va_iald hx hb hK hP 1 0 rfl rfl g2 dX1_differentFragments_9 ?_
  obtain ⟨r3, h3, h⟩ := bd1_e h
  refine ca_Si (wc := []) (wr := [(h0, .inr (1, [.ref q_counts, .ref q_fragmentSets, .int v_unmarkedPackets, .int v_markedPackets])), (q_fragmentSets, .inl (cI, 128, .inl a_fragmentSets))]) (w1 := []) [.int (a_fragmentSets r1.toNatClampNeg)] [] [] [0, 1] hx hb hml hown hts (mJ6_bitCount_0f7a4 l dC dI cI H.size (a_fragmentSets r1.toNatClampNeg) h3) (va_cwS 1 hts gX1_differentFragments_J6_bitCount_0f7a4 rfl rfl rfl (by decide +kernel) ⟨Nat.le_of_ble_eq_true rfl, Nat.le_of_ble_eq_true rfl⟩) hK hN hP hD hS hA rfl rfl (by decide) (by decide) (by decide) rfl hl.1 rfl (Nat.le_of_ble_eq_true rfl) dX1_differentFragments_10 ⟨Nat.zero_le _, Nat.zero_le _⟩ (fun H locs hP hD hS hz3 => ?_)
  have hP : va_P (dC, dI) vwCl [(h0, .inr (1, [.ref q_counts, .ref q_fragmentSets, .int v_unmarkedPackets, .int v_markedPackets])), (q_fragmentSets, .inl (cI, 128, .inl a_fragmentSets))] H := hP
  have hD : va_D A [(h0, .inr (1, [.ref q_counts, .ref q_fragmentSets, .int v_unmarkedPackets, .int v_markedPackets])), (q_fragmentSets, .inl (cI, 128, .inl a_fragmentSets))] := hD
  have hk0 := Option.some.inj h
  cases hk0
  exact re_i [0, 1] hx hb hr hlocks rfl hP hD hS rfl (by decide) rfl dX1_differentFragments_13
def bX1_combinations_4 (p1 : Int32) (a_fragmentSets : Nat → Int32) (y2_4 : Int32) (y3_4 : Int32) : Option ((Int32 × Int32) ⊕ (Int32)) :=
  if (4 : Int32) ≤ y3_4 then
    some (.inr (y2_4))
  else
    bd1 (fX1_differentFragments p1 y3_4 a_fragmentSets) fun r2 =>
    nm ((y2_4 * r2)) fun x3 =>
    some (.inl (x3, (y3_4 + 1)))
def fX1_combinations (N : Nat) (p1 : Int32) (a_fragmentSets : Nat → Int32) : Option (Int32) :=
  lp (fun s => bX1_combinations_4 p1 a_fragmentSets s.1 s.2) N ((1 : Int32), (0 : Int32))
set_option maxHeartbeats 4000000 in
set_option maxRecDepth 100000 in
theorem mX1_combinations (l : Launch) (dC : Nat → ClassId) (dI : Nat → Nat → Nat) (cI : ClassId) (sz : Nat) (N : Nat) (h0 : Nat) (q_counts : Nat) (q_fragmentSets : Nat) (v_unmarkedPackets : Int32) (v_markedPackets : Int32) (a_fragmentSets : Nat → Int32) (p1 : Int32) {rr : Int32} (h : fX1_combinations N p1 a_fragmentSets = some rr) : Met l yX1_combinations wsX1_combinations ({ frames := 2, cells := 0, slots := 0, locals := 43 } : Room) (prX dC dI cI [.ref h0, .int p1] sz [(h0, .inr (1, [.ref q_counts, .ref q_fragmentSets, .int v_unmarkedPackets, .int v_markedPackets])), (q_fragmentSets, .inl (cI, 128, .inl a_fragmentSets))]) (poI dC dI .int rr [(h0, .inr (1, [.ref q_counts, .ref q_fragmentSets, .int v_unmarkedPackets, .int v_markedPackets])), (q_fragmentSets, .inl (cI, 128, .inl a_fragmentSets))] (va_A [(h0, .inr (1, [.ref q_counts, .ref q_fragmentSets, .int v_unmarkedPackets, .int v_markedPackets])), (q_fragmentSets, .inl (cI, 128, .inl a_fragmentSets))] sz)) 0 0 (va_A [(h0, .inr (1, [.ref q_counts, .ref q_fragmentSets, .int v_unmarkedPackets, .int v_markedPackets])), (q_fragmentSets, .inl (cI, 128, .inl a_fragmentSets))] sz) := by
  refine ofX (cc := cX1_combinations) (maxL := 4) (ret := (some .int)) (lv0 := [(0, .ref h0), (1, .int p1)]) (QA := fun A => poI dC dI .int rr [(h0, .inr (1, [.ref q_counts, .ref q_fragmentSets, .int v_unmarkedPackets, .int v_markedPackets])), (q_fragmentSets, .inl (cI, 128, .inl a_fragmentSets))] A) (by decide) rfl (Nat.le_of_ble_eq_true rfl) rfl ?_
  intro p e s m below meth c A ls H locs hx hb hr hml hown hts hlocks hin hK hN hA hP hD hS hl
  have hown : s.vm.findClass RX1 = some m.cls := hown
  unfold fX1_combinations at h
  refine lv_iconst (v := (1 : Int32)) hx hb dX1_combinations_0 (by decide) ?_
  refine lv_istore_n (lv' := [(2, .int (1 : Int32)), (0, .ref h0), (1, .int p1)]) hx hb dX1_combinations_1 rfl hl (by decide) rfl (fun ls hl => ?_)
  refine lv_iconst (v := (0 : Int32)) hx hb dX1_combinations_2 (by decide) ?_
  refine lv_istore_n (lv' := [(3, .int (0 : Int32)), (2, .int (1 : Int32)), (0, .ref h0), (1, .int p1)]) hx hb dX1_combinations_3 rfl hl (by decide) rfl (fun ls hl => ?_)
  have key4 : ∀ (n1 : Nat) (y2_4 : Int32) (y3_4 : Int32) (H : Heap) (locs : List Loc) (ls : Array Slot), lp (fun s => bX1_combinations_4 p1 a_fragmentSets s.1 s.2) n1 (y2_4, y3_4) = some rr → va_P (dC, dI) vwCl [(h0, .inr (1, [.ref q_counts, .ref q_fragmentSets, .int v_unmarkedPackets, .int v_markedPackets])), (q_fragmentSets, .inl (cI, 128, .inl a_fragmentSets))] H → va_D A [(h0, .inr (1, [.ref q_counts, .ref q_fragmentSets, .int v_unmarkedPackets, .int v_markedPackets])), (q_fragmentSets, .inl (cI, 128, .inl a_fragmentSets))] → va_S A s.heap H locs → lv_has ls 4 [(3, .int y3_4), (2, .int y2_4), (0, .ref h0), (1, .int p1)] → W p l e ({ frames := 2, cells := 0, slots := 0, locals := 43 } : Room) s m [.ref h0, .int p1].toArray below meth c H locs 0 0 (MQ below (poI dC dI .int rr [(h0, .inr (1, [.ref q_counts, .ref q_fragmentSets, .int v_unmarkedPackets, .int v_markedPackets])), (q_fragmentSets, .inl (cI, 128, .inl a_fragmentSets))] A) [.ref h0, .int p1].toArray s 0 0 A) (F0 m 4 ls []) := by
    intro n1
    induction n1 with
    | zero =>
      intro y2_4 y3_4 H locs ls h
      exact (lp_0 h).elim
    | succ n1 ih1 =>
      intro y2_4 y3_4 H locs ls h hP hD hS hl
      obtain ⟨o1, h, hk1⟩ := lp_s h
      unfold bX1_combinations_4 at h
      try dsimp only at h
      refine lv_iload_n hx hb dX1_combinations_4 rfl (lv_at hl 0 rfl) ?_
      refine lv_iconst (v := (4 : Int32)) hx hb dX1_combinations_5 (by decide) ?_
      refine lv_icmp_ge (tgt := 24) hx hb dX1_combinations_6 (by decide) (fun c1 => ?_) (fun c1 => ?_)
      · have h := it_p c1 h
        refine lv_iload_n hx hb dX1_combinations_24 rfl (lv_at hl 1 rfl) ?_
        cases Option.some.inj h
        have hk1 := un_r hk1
        cases hk1
        exact re_i [0, 1] hx hb hr hlocks rfl hP hD hS rfl (by decide) rfl dX1_combinations_25
      · have h := it_n c1 h
        refine lv_iload_n hx hb dX1_combinations_9 rfl (lv_at hl 1 rfl) ?_
        refine lv_aload_n hx hb dX1_combinations_10 rfl (lv_at hl 2 rfl) ?_
        refine lv_iload_n hx hb dX1_combinations_11 rfl (lv_at hl 3 rfl) ?_
        refine lv_iload_n hx hb dX1_combinations_12 rfl (lv_at hl 0 rfl) ?_
        obtain ⟨r2, h2, h⟩ := bd1_e h
        refine ca_Vi (wc := [(h0, .inr (1, [.ref q_counts, .ref q_fragmentSets, .int v_unmarkedPackets, .int v_markedPackets])), (q_fragmentSets, .inl (cI, 128, .inl a_fragmentSets))]) (wr := []) (w1 := [(h0, .inr (1, [.ref q_counts, .ref q_fragmentSets, .int v_unmarkedPackets, .int v_markedPackets])), (q_fragmentSets, .inl (cI, 128, .inl a_fragmentSets))]) [.int p1, .int y3_4] [.int y2_4] [0, 1] [] hx hb hml hown hts (mX1_differentFragments l dC dI cI H.size h0 q_counts q_fragmentSets v_unmarkedPackets v_markedPackets a_fragmentSets p1 y3_4 h2) (cwV 2 hts gX1_combinations_X1_differentFragments rfl rfl rfl (by decide +kernel) ⟨Nat.le_of_ble_eq_true rfl, Nat.le_of_ble_eq_true rfl⟩) hK hN hP hD hS hA rfl rfl (by decide) (by decide) (by decide) rfl rfl rfl hl.1 rfl (Nat.le_of_ble_eq_true rfl) dX1_combinations_13 ⟨Nat.zero_le _, Nat.zero_le _⟩ (fun H locs hP hD hS hz2 => ?_)
        have hP : va_P (dC, dI) vwCl [(h0, .inr (1, [.ref q_counts, .ref q_fragmentSets, .int v_unmarkedPackets, .int v_markedPackets])), (q_fragmentSets, .inl (cI, 128, .inl a_fragmentSets))] H := hP
        have hD : va_D A [(h0, .inr (1, [.ref q_counts, .ref q_fragmentSets, .int v_unmarkedPackets, .int v_markedPackets])), (q_fragmentSets, .inl (cI, 128, .inl a_fragmentSets))] := hD
        refine lv_imul hx hb dX1_combinations_16 ?_
        refine lv_topi (fun x3 ex3 => ?_)
        have h := nm_u ex3 h
        refine lv_istore_n (lv' := [(2, .int x3), (3, .int y3_4), (0, .ref h0), (1, .int p1)]) hx hb dX1_combinations_17 rfl hl (by decide) rfl (fun ls hl => ?_)
        refine lv_iinc (v := y3_4 + 1) (lv' := [(3, .int (y3_4 + 1)), (2, .int x3), (0, .ref h0), (1, .int p1)]) hx hb dX1_combinations_18 hl (k := 1) rfl rfl (by decide) rfl (fun ls hl => ?_)
        refine lv_goto (tgt := 4) hx hb dX1_combinations_21 (by decide) ?_
        cases Option.some.inj h
        exact ih1 _ _ _ _ _ (un_l hk1) (hP.sub [0, 1] rfl) (hD.sub [0, 1] (by decide) rfl) hS (lv_sub hl [0, 1, 2, 3] rfl)
  exact key4 N _ _ _ _ _ h hP hD hS hl
def fX5_fragmentOf (p0 : Int32) (p1 : Int32) : Option (Int32) :=
  some ((p0 >>> ((p1 * (5 : Int32)) &&& 31)) &&& (31 : Int32))
set_option maxHeartbeats 4000000 in
set_option maxRecDepth 100000 in
theorem mX5_fragmentOf (l : Launch) (dC : Nat → ClassId) (dI : Nat → Nat → Nat) (cI : ClassId) (sz : Nat) (p0 : Int32) (p1 : Int32) {rr : Int32} (h : fX5_fragmentOf p0 p1 = some rr) : Met l yX5_fragmentOf wsX5_fragmentOf ({ frames := 0, cells := 0, slots := 0, locals := 0 } : Room) (prX dC dI cI [.int p0, .int p1] sz []) (poI dC dI .int rr [] (va_A [] sz)) 0 0 (va_A [] sz) := by
  refine ofX (cc := cX5_fragmentOf) (maxL := 2) (ret := (some .int)) (lv0 := [(0, .int p0), (1, .int p1)]) (QA := fun A => poI dC dI .int rr [] A) (by decide) rfl (Nat.le_of_ble_eq_true rfl) rfl ?_
  intro p e s m below meth c A ls H locs hx hb hr hml hown hts hlocks hin hK hN hA hP hD hS hl
  have hown : s.vm.findClass RX5 = some m.cls := hown
  unfold fX5_fragmentOf at h
  refine lv_iload_n hx hb dX5_fragmentOf_0 rfl (lv_at hl 0 rfl) ?_
  refine lv_iload_n hx hb dX5_fragmentOf_1 rfl (lv_at hl 1 rfl) ?_
  refine lv_iconst (v := (5 : Int32)) hx hb dX5_fragmentOf_2 (by decide) ?_
  refine lv_imul hx hb dX5_fragmentOf_3 ?_
  refine lv_ishr hx hb dX5_fragmentOf_4 ?_
  refine lv_bipush (v := (31 : Int32)) hx hb dX5_fragmentOf_5 (by decide) ?_
  refine lv_iand hx hb dX5_fragmentOf_7 ?_
  have hk0 := Option.some.inj h
  cases hk0
  exact re_i [] hx hb hr hlocks rfl hP hD hS rfl (by decide) rfl dX5_fragmentOf_8
def fX1_holdsPart (p1 : Int32) (p2 : Int32) (p3 : Int32) (a_fragmentSets : Nat → Int32) : Option (Int32) :=
  bd1 (fX1_setPlace p1 p2) fun r1 =>
  if ¬ (r1 < 0 ∨ 128 ≤ r1.toNatClampNeg) then
    nm ((a_fragmentSets r1.toNatClampNeg)) fun x3 =>
    bd1 (fX5_fragmentOf p3 p2) fun r4 =>
    if ((usI x3 r4) &&& (1 : Int32)) = 0 then
      some (0 : Int32)
    else
      some (1 : Int32)
  else none
set_option maxHeartbeats 4000000 in
set_option maxRecDepth 100000 in
theorem mX1_holdsPart (l : Launch) (dC : Nat → ClassId) (dI : Nat → Nat → Nat) (cI : ClassId) (sz : Nat) (h0 : Nat) (q_counts : Nat) (q_fragmentSets : Nat) (v_unmarkedPackets : Int32) (v_markedPackets : Int32) (a_fragmentSets : Nat → Int32) (p1 : Int32) (p2 : Int32) (p3 : Int32) {rr : Int32} (h : fX1_holdsPart p1 p2 p3 a_fragmentSets = some rr) : Met l yX1_holdsPart wsX1_holdsPart ({ frames := 1, cells := 0, slots := 0, locals := 21 } : Room) (prX dC dI cI [.ref h0, .int p1, .int p2, .int p3] sz [(h0, .inr (1, [.ref q_counts, .ref q_fragmentSets, .int v_unmarkedPackets, .int v_markedPackets])), (q_fragmentSets, .inl (cI, 128, .inl a_fragmentSets))]) (poI dC dI .boolean rr [(h0, .inr (1, [.ref q_counts, .ref q_fragmentSets, .int v_unmarkedPackets, .int v_markedPackets])), (q_fragmentSets, .inl (cI, 128, .inl a_fragmentSets))] (va_A [(h0, .inr (1, [.ref q_counts, .ref q_fragmentSets, .int v_unmarkedPackets, .int v_markedPackets])), (q_fragmentSets, .inl (cI, 128, .inl a_fragmentSets))] sz)) 0 0 (va_A [(h0, .inr (1, [.ref q_counts, .ref q_fragmentSets, .int v_unmarkedPackets, .int v_markedPackets])), (q_fragmentSets, .inl (cI, 128, .inl a_fragmentSets))] sz) := by
  refine ofX (cc := cX1_holdsPart) (maxL := 5) (ret := (some .boolean)) (lv0 := [(0, .ref h0), (1, .int p1), (2, .int p2), (3, .int p3)]) (QA := fun A => poI dC dI .boolean rr [(h0, .inr (1, [.ref q_counts, .ref q_fragmentSets, .int v_unmarkedPackets, .int v_markedPackets])), (q_fragmentSets, .inl (cI, 128, .inl a_fragmentSets))] A) (by decide) rfl (Nat.le_of_ble_eq_true rfl) rfl ?_
  intro p e s m below meth c A ls H locs hx hb hr hml hown hts hlocks hin hK hN hA hP hD hS hl
  have hown : s.vm.findClass RX1 = some m.cls := hown
  unfold fX1_holdsPart at h
  have hiX1 : ∀ w ∈ u_ws RX1 TX1 4, w ∈ wsX1_holdsPart := fun _ h => List.mem_cons_of_mem _ (List.mem_append_right _ h)
  have hf15 := (hts (.fieldLink RX1 15 "PacketTraceback$MarkRecord" "fragmentSets" "[I") (List.mem_of_getElem? (i := 1) (by decide +kernel)))
  refine lv_aload_n hx hb dX1_holdsPart_0 rfl (lv_at hl 0 rfl) ?_
  refine va_get (D := (dC, dI)) (ci := 1) (v := .ref q_fragmentSets) (C := RX1) (T := TX1) (N := 4) hx hb hts hiX1 hown hK hP 0 rfl rfl 1 (by decide) hf15 (fun _ h9 => h9) rfl dX1_holdsPart_1 ?_
  refine lv_iload_n hx hb dX1_holdsPart_4 rfl (lv_at hl 1 rfl) ?_
  refine lv_iload_n hx hb dX1_holdsPart_5 rfl (lv_at hl 2 rfl) ?_
  obtain ⟨r1, h1, h⟩ := bd1_e h
  refine ca_Si (wc := []) (wr := [(h0, .inr (1, [.ref q_counts, .ref q_fragmentSets, .int v_unmarkedPackets, .int v_markedPackets])), (q_fragmentSets, .inl (cI, 128, .inl a_fragmentSets))]) (w1 := []) [.int p1, .int p2] [.ref q_fragmentSets] [] [0, 1] hx hb hml hown hts (mX1_setPlace l dC dI cI H.size p1 p2 h1) (va_cwS 2 hts gX1_holdsPart_X1_setPlace rfl rfl rfl (by decide +kernel) ⟨Nat.le_of_ble_eq_true rfl, Nat.le_of_ble_eq_true rfl⟩) hK hN hP hD hS hA rfl rfl (by decide) (by decide) (by decide) rfl hl.1 rfl (Nat.le_of_ble_eq_true rfl) dX1_holdsPart_6 ⟨Nat.zero_le _, Nat.zero_le _⟩ (fun H locs hP hD hS hz1 => ?_)
  have hP : va_P (dC, dI) vwCl [(h0, .inr (1, [.ref q_counts, .ref q_fragmentSets, .int v_unmarkedPackets, .int v_markedPackets])), (q_fragmentSets, .inl (cI, 128, .inl a_fragmentSets))] H := hP
  have hD : va_D A [(h0, .inr (1, [.ref q_counts, .ref q_fragmentSets, .int v_unmarkedPackets, .int v_markedPackets])), (q_fragmentSets, .inl (cI, 128, .inl a_fragmentSets))] := hD
  obtain ⟨g2, h⟩ := gd_e h
  refine va_iald hx hb hK hP 1 0 rfl rfl g2 dX1_holdsPart_9 ?_
  refine lv_topi (fun x3 ex3 => ?_)
  have h := nm_u ex3 h
  refine lv_istore (lv' := [(4, .int x3), (0, .ref h0), (1, .int p1), (2, .int p2), (3, .int p3)]) hx hb dX1_holdsPart_10 hl (by decide) rfl (fun ls hl => ?_)
  refine lv_iload hx hb dX1_holdsPart_12 (lv_at hl 0 rfl) ?_
  refine lv_iload_n hx hb dX1_holdsPart_14 rfl (lv_at hl 4 rfl) ?_
  refine lv_iload_n hx hb dX1_holdsPart_15 rfl (lv_at hl 3 rfl) ?_
  obtain ⟨r4, h4, h⟩ := bd1_e h
  refine ca_Ni (wc := []) (wr := [(h0, .inr (1, [.ref q_counts, .ref q_fragmentSets, .int v_unmarkedPackets, .int v_markedPackets])), (q_fragmentSets, .inl (cI, 128, .inl a_fragmentSets))]) (w1 := []) [.int p3, .int p2] [.int x3] [] [0, 1] hx hb hml hown hts (mX5_fragmentOf l dC dI cI H.size p3 p2 h4) ⟨va_cnB 2 hts gX1_holdsPart_X5_fragmentOf_n67 rfl rfl rfl hN.1 (hts (.initialized RX5) (List.mem_of_getElem? (i := 7) (by decide +kernel))) (by decide +kernel) ⟨Nat.le_of_ble_eq_true rfl, Nat.le_of_ble_eq_true rfl⟩, (hts (.static yX5_fragmentOf) (List.mem_of_getElem? (i := 6) (by decide +kernel))), trivial⟩ hK hN hP hD hS hA rfl rfl (by decide) (by decide) (by decide) rfl hl.1 rfl (Nat.le_of_ble_eq_true rfl) dX1_holdsPart_16 ⟨Nat.zero_le _, Nat.zero_le _⟩ (fun H locs hP hD hS hz4 => ?_)
  have hP : va_P (dC, dI) vwCl [(h0, .inr (1, [.ref q_counts, .ref q_fragmentSets, .int v_unmarkedPackets, .int v_markedPackets])), (q_fragmentSets, .inl (cI, 128, .inl a_fragmentSets))] H := hP
  have hD : va_D A [(h0, .inr (1, [.ref q_counts, .ref q_fragmentSets, .int v_unmarkedPackets, .int v_markedPackets])), (q_fragmentSets, .inl (cI, 128, .inl a_fragmentSets))] := hD
  refine lv_iushr (v := (usI x3 r4)) hx hb dX1_holdsPart_19 rfl ?_
  refine lv_iconst (v := (1 : Int32)) hx hb dX1_holdsPart_20 (by decide) ?_
  refine lv_iand hx hb dX1_holdsPart_21 ?_
  refine lv_if_eq (tgt := 29) hx hb dX1_holdsPart_22 (by decide) (fun c5 => ?_) (fun c5 => ?_)
  · have h := it_p c5 h
    refine lv_iconst (v := (0 : Int32)) hx hb dX1_holdsPart_29 (by decide) ?_
    have hk0 := Option.some.inj h
    cases hk0
    exact re_i [0, 1] hx hb hr hlocks rfl hP hD hS rfl (by decide) rfl dX1_holdsPart_30
  · have h := it_n c5 h
    refine lv_iconst (v := (1 : Int32)) hx hb dX1_holdsPart_25 (by decide) ?_
    refine lv_goto (tgt := 30) hx hb dX1_holdsPart_26 (by decide) ?_
    have hk0 := Option.some.inj h
    cases hk0
    exact re_i [0, 1] hx hb hr hlocks rfl hP hD hS rfl (by decide) rfl dX1_holdsPart_30
def bX1_holdsWord_2 (p1 : Int32) (p2 : Int32) (a_fragmentSets : Nat → Int32) (y3_2 : Int32) : Option ((Int32) ⊕ (Int32)) :=
  if (4 : Int32) ≤ y3_2 then
    some (.inr (1 : Int32))
  else
    bd1 (fX1_holdsPart p1 y3_2 p2 a_fragmentSets) fun r2 =>
    if r2 = 0 then
      some (.inr (0 : Int32))
    else
      some (.inl (y3_2 + 1))
def fX1_holdsWord (N : Nat) (p1 : Int32) (p2 : Int32) (a_fragmentSets : Nat → Int32) : Option (Int32) :=
  lp (fun s => bX1_holdsWord_2 p1 p2 a_fragmentSets s) N (0 : Int32)
set_option maxHeartbeats 4000000 in
set_option maxRecDepth 100000 in
theorem mX1_holdsWord (l : Launch) (dC : Nat → ClassId) (dI : Nat → Nat → Nat) (cI : ClassId) (sz : Nat) (N : Nat) (h0 : Nat) (q_counts : Nat) (q_fragmentSets : Nat) (v_unmarkedPackets : Int32) (v_markedPackets : Int32) (a_fragmentSets : Nat → Int32) (p1 : Int32) (p2 : Int32) {rr : Int32} (h : fX1_holdsWord N p1 p2 a_fragmentSets = some rr) : Met l yX1_holdsWord wsX1_holdsWord ({ frames := 2, cells := 0, slots := 0, locals := 45 } : Room) (prX dC dI cI [.ref h0, .int p1, .int p2] sz [(h0, .inr (1, [.ref q_counts, .ref q_fragmentSets, .int v_unmarkedPackets, .int v_markedPackets])), (q_fragmentSets, .inl (cI, 128, .inl a_fragmentSets))]) (poI dC dI .boolean rr [(h0, .inr (1, [.ref q_counts, .ref q_fragmentSets, .int v_unmarkedPackets, .int v_markedPackets])), (q_fragmentSets, .inl (cI, 128, .inl a_fragmentSets))] (va_A [(h0, .inr (1, [.ref q_counts, .ref q_fragmentSets, .int v_unmarkedPackets, .int v_markedPackets])), (q_fragmentSets, .inl (cI, 128, .inl a_fragmentSets))] sz)) 0 0 (va_A [(h0, .inr (1, [.ref q_counts, .ref q_fragmentSets, .int v_unmarkedPackets, .int v_markedPackets])), (q_fragmentSets, .inl (cI, 128, .inl a_fragmentSets))] sz) := by
  refine ofX (cc := cX1_holdsWord) (maxL := 4) (ret := (some .boolean)) (lv0 := [(0, .ref h0), (1, .int p1), (2, .int p2)]) (QA := fun A => poI dC dI .boolean rr [(h0, .inr (1, [.ref q_counts, .ref q_fragmentSets, .int v_unmarkedPackets, .int v_markedPackets])), (q_fragmentSets, .inl (cI, 128, .inl a_fragmentSets))] A) (by decide) rfl (Nat.le_of_ble_eq_true rfl) rfl ?_
  intro p e s m below meth c A ls H locs hx hb hr hml hown hts hlocks hin hK hN hA hP hD hS hl
  have hown : s.vm.findClass RX1 = some m.cls := hown
  unfold fX1_holdsWord at h
  refine lv_iconst (v := (0 : Int32)) hx hb dX1_holdsWord_0 (by decide) ?_
  refine lv_istore_n (lv' := [(3, .int (0 : Int32)), (0, .ref h0), (1, .int p1), (2, .int p2)]) hx hb dX1_holdsWord_1 rfl hl (by decide) rfl (fun ls hl => ?_)
  have key2 : ∀ (n1 : Nat) (y3_2 : Int32) (H : Heap) (locs : List Loc) (ls : Array Slot), lp (fun s => bX1_holdsWord_2 p1 p2 a_fragmentSets s) n1 y3_2 = some rr → va_P (dC, dI) vwCl [(h0, .inr (1, [.ref q_counts, .ref q_fragmentSets, .int v_unmarkedPackets, .int v_markedPackets])), (q_fragmentSets, .inl (cI, 128, .inl a_fragmentSets))] H → va_D A [(h0, .inr (1, [.ref q_counts, .ref q_fragmentSets, .int v_unmarkedPackets, .int v_markedPackets])), (q_fragmentSets, .inl (cI, 128, .inl a_fragmentSets))] → va_S A s.heap H locs → lv_has ls 4 [(3, .int y3_2), (0, .ref h0), (1, .int p1), (2, .int p2)] → W p l e ({ frames := 2, cells := 0, slots := 0, locals := 45 } : Room) s m [.ref h0, .int p1, .int p2].toArray below meth c H locs 0 0 (MQ below (poI dC dI .boolean rr [(h0, .inr (1, [.ref q_counts, .ref q_fragmentSets, .int v_unmarkedPackets, .int v_markedPackets])), (q_fragmentSets, .inl (cI, 128, .inl a_fragmentSets))] A) [.ref h0, .int p1, .int p2].toArray s 0 0 A) (F0 m 2 ls []) := by
    intro n1
    induction n1 with
    | zero =>
      intro y3_2 H locs ls h
      exact (lp_0 h).elim
    | succ n1 ih1 =>
      intro y3_2 H locs ls h hP hD hS hl
      obtain ⟨o1, h, hk1⟩ := lp_s h
      unfold bX1_holdsWord_2 at h
      try dsimp only at h
      refine lv_iload_n hx hb dX1_holdsWord_2 rfl (lv_at hl 0 rfl) ?_
      refine lv_iconst (v := (4 : Int32)) hx hb dX1_holdsWord_3 (by decide) ?_
      refine lv_icmp_ge (tgt := 25) hx hb dX1_holdsWord_4 (by decide) (fun c1 => ?_) (fun c1 => ?_)
      · have h := it_p c1 h
        refine lv_iconst (v := (1 : Int32)) hx hb dX1_holdsWord_25 (by decide) ?_
        cases Option.some.inj h
        have hk1 := un_r hk1
        cases hk1
        exact re_i [0, 1] hx hb hr hlocks rfl hP hD hS rfl (by decide) rfl dX1_holdsWord_26
      · have h := it_n c1 h
        refine lv_aload_n hx hb dX1_holdsWord_7 rfl (lv_at hl 1 rfl) ?_
        refine lv_iload_n hx hb dX1_holdsWord_8 rfl (lv_at hl 2 rfl) ?_
        refine lv_iload_n hx hb dX1_holdsWord_9 rfl (lv_at hl 0 rfl) ?_
        refine lv_iload_n hx hb dX1_holdsWord_10 rfl (lv_at hl 3 rfl) ?_
        obtain ⟨r2, h2, h⟩ := bd1_e h
        refine ca_Vi (wc := [(h0, .inr (1, [.ref q_counts, .ref q_fragmentSets, .int v_unmarkedPackets, .int v_markedPackets])), (q_fragmentSets, .inl (cI, 128, .inl a_fragmentSets))]) (wr := []) (w1 := [(h0, .inr (1, [.ref q_counts, .ref q_fragmentSets, .int v_unmarkedPackets, .int v_markedPackets])), (q_fragmentSets, .inl (cI, 128, .inl a_fragmentSets))]) [.int p1, .int y3_2, .int p2] [] [0, 1] [] hx hb hml hown hts (mX1_holdsPart l dC dI cI H.size h0 q_counts q_fragmentSets v_unmarkedPackets v_markedPackets a_fragmentSets p1 y3_2 p2 h2) (cwV 3 hts gX1_holdsWord_X1_holdsPart rfl rfl rfl (by decide +kernel) ⟨Nat.le_of_ble_eq_true rfl, Nat.le_of_ble_eq_true rfl⟩) hK hN hP hD hS hA rfl rfl (by decide) (by decide) (by decide) rfl rfl rfl hl.1 rfl (Nat.le_of_ble_eq_true rfl) dX1_holdsWord_11 ⟨Nat.zero_le _, Nat.zero_le _⟩ (fun H locs hP hD hS hz2 => ?_)
        have hP : va_P (dC, dI) vwCl [(h0, .inr (1, [.ref q_counts, .ref q_fragmentSets, .int v_unmarkedPackets, .int v_markedPackets])), (q_fragmentSets, .inl (cI, 128, .inl a_fragmentSets))] H := hP
        have hD : va_D A [(h0, .inr (1, [.ref q_counts, .ref q_fragmentSets, .int v_unmarkedPackets, .int v_markedPackets])), (q_fragmentSets, .inl (cI, 128, .inl a_fragmentSets))] := hD
        refine lv_if_ne (tgt := 19) hx hb dX1_holdsWord_14 (by decide) (fun c3 => ?_) (fun c3 => ?_)
        · have h := it_n c3 h
          refine lv_iinc (v := y3_2 + 1) (lv' := [(3, .int (y3_2 + 1)), (0, .ref h0), (1, .int p1), (2, .int p2)]) hx hb dX1_holdsWord_19 hl (k := 0) rfl rfl (by decide) rfl (fun ls hl => ?_)
          refine lv_goto (tgt := 2) hx hb dX1_holdsWord_22 (by decide) ?_
          cases Option.some.inj h
          exact ih1 _ _ _ _ (un_l hk1) (hP.sub [0, 1] rfl) (hD.sub [0, 1] (by decide) rfl) hS (lv_sub hl [0, 1, 2, 3] rfl)
        · have h := it_p c3 h
          refine lv_iconst (v := (0 : Int32)) hx hb dX1_holdsWord_17 (by decide) ?_
          cases Option.some.inj h
          have hk1 := un_r hk1
          cases hk1
          exact re_i [0, 1] hx hb hr hlocks rfl hP hD hS rfl (by decide) rfl dX1_holdsWord_18
  exact key2 N _ _ _ _ h hP hD hS hl
def fX2_size (v_count : Int32) : Option (Int32) :=
  some v_count
set_option maxHeartbeats 4000000 in
set_option maxRecDepth 100000 in
theorem mX2_size (l : Launch) (dC : Nat → ClassId) (dI : Nat → Nat → Nat) (cI : ClassId) (sz : Nat) (h0 : Nat) (q_parents : Nat) (q_addresses : Nat) (q_depths : Nat) (v_count : Int32) {rr : Int32} (h : fX2_size v_count = some rr) : Met l yX2_size wsX2_size ({ frames := 0, cells := 0, slots := 0, locals := 0 } : Room) (prX dC dI cI [.ref h0] sz [(h0, .inr (2, [.ref q_parents, .ref q_addresses, .ref q_depths, .int v_count]))]) (poI dC dI .int rr [(h0, .inr (2, [.ref q_parents, .ref q_addresses, .ref q_depths, .int v_count]))] (va_A [(h0, .inr (2, [.ref q_parents, .ref q_addresses, .ref q_depths, .int v_count]))] sz)) 0 0 (va_A [(h0, .inr (2, [.ref q_parents, .ref q_addresses, .ref q_depths, .int v_count]))] sz) := by
  refine ofX (cc := cX2_size) (maxL := 1) (ret := (some .int)) (lv0 := [(0, .ref h0)]) (QA := fun A => poI dC dI .int rr [(h0, .inr (2, [.ref q_parents, .ref q_addresses, .ref q_depths, .int v_count]))] A) (by decide) rfl (Nat.le_of_ble_eq_true rfl) rfl ?_
  intro p e s m below meth c A ls H locs hx hb hr hml hown hts hlocks hin hK hN hA hP hD hS hl
  have hown : s.vm.findClass RX2 = some m.cls := hown
  unfold fX2_size at h
  have hiX2 : ∀ w ∈ u_ws RX2 TX2 4, w ∈ wsX2_size := fun _ h => List.mem_cons_of_mem _ (List.mem_append_right _ h)
  have hf21 := (hts (.fieldLink RX2 21 "PacketTraceback$Network" "count" "I") (List.mem_of_getElem? (i := 1) (by decide +kernel)))
  refine lv_aload_n hx hb dX2_size_0 rfl (lv_at hl 0 rfl) ?_
  refine va_get (D := (dC, dI)) (ci := 2) (v := .int v_count) (C := RX2) (T := TX2) (N := 4) hx hb hts hiX2 hown hK hP 0 rfl rfl 3 (by decide) hf21 (fun _ h9 => h9) rfl dX2_size_1 ?_
  have hk0 := Option.some.inj h
  cases hk0
  exact re_i [0] hx hb hr hlocks rfl hP hD hS rfl (by decide) rfl dX2_size_4
def fX2_isEmpty (v_count : Int32) : Option (Int32) :=
  if v_count = 0 then
    some (1 : Int32)
  else
    some (0 : Int32)
set_option maxHeartbeats 4000000 in
set_option maxRecDepth 100000 in
theorem mX2_isEmpty (l : Launch) (dC : Nat → ClassId) (dI : Nat → Nat → Nat) (cI : ClassId) (sz : Nat) (h0 : Nat) (q_parents : Nat) (q_addresses : Nat) (q_depths : Nat) (v_count : Int32) {rr : Int32} (h : fX2_isEmpty v_count = some rr) : Met l yX2_isEmpty wsX2_isEmpty ({ frames := 0, cells := 0, slots := 0, locals := 0 } : Room) (prX dC dI cI [.ref h0] sz [(h0, .inr (2, [.ref q_parents, .ref q_addresses, .ref q_depths, .int v_count]))]) (poI dC dI .boolean rr [(h0, .inr (2, [.ref q_parents, .ref q_addresses, .ref q_depths, .int v_count]))] (va_A [(h0, .inr (2, [.ref q_parents, .ref q_addresses, .ref q_depths, .int v_count]))] sz)) 0 0 (va_A [(h0, .inr (2, [.ref q_parents, .ref q_addresses, .ref q_depths, .int v_count]))] sz) := by
  refine ofX (cc := cX2_isEmpty) (maxL := 1) (ret := (some .boolean)) (lv0 := [(0, .ref h0)]) (QA := fun A => poI dC dI .boolean rr [(h0, .inr (2, [.ref q_parents, .ref q_addresses, .ref q_depths, .int v_count]))] A) (by decide) rfl (Nat.le_of_ble_eq_true rfl) rfl ?_
  intro p e s m below meth c A ls H locs hx hb hr hml hown hts hlocks hin hK hN hA hP hD hS hl
  have hown : s.vm.findClass RX2 = some m.cls := hown
  unfold fX2_isEmpty at h
  have hiX2 : ∀ w ∈ u_ws RX2 TX2 4, w ∈ wsX2_isEmpty := fun _ h => List.mem_cons_of_mem _ (List.mem_append_right _ h)
  have hf21 := (hts (.fieldLink RX2 21 "PacketTraceback$Network" "count" "I") (List.mem_of_getElem? (i := 1) (by decide +kernel)))
  refine lv_aload_n hx hb dX2_isEmpty_0 rfl (lv_at hl 0 rfl) ?_
  refine va_get (D := (dC, dI)) (ci := 2) (v := .int v_count) (C := RX2) (T := TX2) (N := 4) hx hb hts hiX2 hown hK hP 0 rfl rfl 3 (by decide) hf21 (fun _ h9 => h9) rfl dX2_isEmpty_1 ?_
  refine lv_if_ne (tgt := 11) hx hb dX2_isEmpty_4 (by decide) (fun c1 => ?_) (fun c1 => ?_)
  · have h := it_n c1 h
    refine lv_iconst (v := (0 : Int32)) hx hb dX2_isEmpty_11 (by decide) ?_
    have hk0 := Option.some.inj h
    cases hk0
    exact re_i [0] hx hb hr hlocks rfl hP hD hS rfl (by decide) rfl dX2_isEmpty_12
  · have h := it_p c1 h
    refine lv_iconst (v := (1 : Int32)) hx hb dX2_isEmpty_7 (by decide) ?_
    refine lv_goto (tgt := 12) hx hb dX2_isEmpty_8 (by decide) ?_
    have hk0 := Option.some.inj h
    cases hk0
    exact re_i [0] hx hb hr hlocks rfl hP hD hS rfl (by decide) rfl dX2_isEmpty_12
def fX5_isBelow (p0 : Int32) (p1 : Int32) : Option (Int32) :=
  if p0 < 0 then
    some (0 : Int32)
  else
    if p1 ≤ p0 then
      some (0 : Int32)
    else
      some (1 : Int32)
set_option maxHeartbeats 4000000 in
set_option maxRecDepth 100000 in
theorem mX5_isBelow (l : Launch) (dC : Nat → ClassId) (dI : Nat → Nat → Nat) (cI : ClassId) (sz : Nat) (p0 : Int32) (p1 : Int32) {rr : Int32} (h : fX5_isBelow p0 p1 = some rr) : Met l yX5_isBelow wsX5_isBelow ({ frames := 0, cells := 0, slots := 0, locals := 0 } : Room) (prX dC dI cI [.int p0, .int p1] sz []) (poI dC dI .boolean rr [] (va_A [] sz)) 0 0 (va_A [] sz) := by
  refine ofX (cc := cX5_isBelow) (maxL := 2) (ret := (some .boolean)) (lv0 := [(0, .int p0), (1, .int p1)]) (QA := fun A => poI dC dI .boolean rr [] A) (by decide) rfl (Nat.le_of_ble_eq_true rfl) rfl ?_
  intro p e s m below meth c A ls H locs hx hb hr hml hown hts hlocks hin hK hN hA hP hD hS hl
  have hown : s.vm.findClass RX5 = some m.cls := hown
  unfold fX5_isBelow at h
  refine lv_iload_n hx hb dX5_isBelow_0 rfl (lv_at hl 0 rfl) ?_
  refine lv_if_lt (tgt := 13) hx hb dX5_isBelow_1 (by decide) (fun c1 => ?_) (fun c1 => ?_)
  · have h := it_p c1 h
    refine lv_iconst (v := (0 : Int32)) hx hb dX5_isBelow_13 (by decide) ?_
    have hk0 := Option.some.inj h
    cases hk0
    exact re_i [] hx hb hr hlocks rfl hP hD hS rfl (by decide) rfl dX5_isBelow_14
  · have h := it_n c1 h
    refine lv_iload_n hx hb dX5_isBelow_4 rfl (lv_at hl 0 rfl) ?_
    refine lv_iload_n hx hb dX5_isBelow_5 rfl (lv_at hl 1 rfl) ?_
    refine lv_icmp_ge (tgt := 13) hx hb dX5_isBelow_6 (by decide) (fun c2 => ?_) (fun c2 => ?_)
    · have h := it_p c2 h
      refine lv_iconst (v := (0 : Int32)) hx hb dX5_isBelow_13 (by decide) ?_
      have hk0 := Option.some.inj h
      cases hk0
      exact re_i [] hx hb hr hlocks rfl hP hD hS rfl (by decide) rfl dX5_isBelow_14
    · have h := it_n c2 h
      refine lv_iconst (v := (1 : Int32)) hx hb dX5_isBelow_9 (by decide) ?_
      refine lv_goto (tgt := 14) hx hb dX5_isBelow_10 (by decide) ?_
      have hk0 := Option.some.inj h
      cases hk0
      exact re_i [] hx hb hr hlocks rfl hP hD hS rfl (by decide) rfl dX5_isBelow_14
def fX2_has (p1 : Int32) (v_count : Int32) : Option (Int32) :=
  bd1 (fX5_isBelow p1 v_count) fun r1 =>
  if r1 = 0 then
    some (0 : Int32)
  else
    bd1 (fX5_isBelow p1 (20 : Int32)) fun r3 =>
    if r3 = 0 then
      some (0 : Int32)
    else
      some (1 : Int32)
set_option maxHeartbeats 4000000 in
set_option maxRecDepth 100000 in
theorem mX2_has (l : Launch) (dC : Nat → ClassId) (dI : Nat → Nat → Nat) (cI : ClassId) (sz : Nat) (h0 : Nat) (q_parents : Nat) (q_addresses : Nat) (q_depths : Nat) (v_count : Int32) (p1 : Int32) {rr : Int32} (h : fX2_has p1 v_count = some rr) : Met l yX2_has wsX2_has ({ frames := 1, cells := 0, slots := 0, locals := 21 } : Room) (prX dC dI cI [.ref h0, .int p1] sz [(h0, .inr (2, [.ref q_parents, .ref q_addresses, .ref q_depths, .int v_count]))]) (poI dC dI .boolean rr [(h0, .inr (2, [.ref q_parents, .ref q_addresses, .ref q_depths, .int v_count]))] (va_A [(h0, .inr (2, [.ref q_parents, .ref q_addresses, .ref q_depths, .int v_count]))] sz)) 0 0 (va_A [(h0, .inr (2, [.ref q_parents, .ref q_addresses, .ref q_depths, .int v_count]))] sz) := by
  refine ofX (cc := cX2_has) (maxL := 2) (ret := (some .boolean)) (lv0 := [(0, .ref h0), (1, .int p1)]) (QA := fun A => poI dC dI .boolean rr [(h0, .inr (2, [.ref q_parents, .ref q_addresses, .ref q_depths, .int v_count]))] A) (by decide) rfl (Nat.le_of_ble_eq_true rfl) rfl ?_
  intro p e s m below meth c A ls H locs hx hb hr hml hown hts hlocks hin hK hN hA hP hD hS hl
  have hown : s.vm.findClass RX2 = some m.cls := hown
  unfold fX2_has at h
  have hiX2 : ∀ w ∈ u_ws RX2 TX2 4, w ∈ wsX2_has := fun _ h => List.mem_cons_of_mem _ (List.mem_append_right _ h)
  have hf21 := (hts (.fieldLink RX2 21 "PacketTraceback$Network" "count" "I") (List.mem_of_getElem? (i := 1) (by decide +kernel)))
  refine lv_iload_n hx hb dX2_has_0 rfl (lv_at hl 1 rfl) ?_
  refine lv_aload_n hx hb dX2_has_1 rfl (lv_at hl 0 rfl) ?_
  refine va_get (D := (dC, dI)) (ci := 2) (v := .int v_count) (C := RX2) (T := TX2) (N := 4) hx hb hts hiX2 hown hK hP 0 rfl rfl 3 (by decide) hf21 (fun _ h9 => h9) rfl dX2_has_2 ?_
  obtain ⟨r1, h1, h⟩ := bd1_e h
  refine ca_Ni (wc := []) (wr := [(h0, .inr (2, [.ref q_parents, .ref q_addresses, .ref q_depths, .int v_count]))]) (w1 := []) [.int p1, .int v_count] [] [] [0] hx hb hml hown hts (mX5_isBelow l dC dI cI H.size p1 v_count h1) ⟨va_cnB 2 hts gX2_has_X5_isBelow_n25 rfl rfl rfl hN.2.1 (hts (.initialized RX5) (List.mem_of_getElem? (i := 3) (by decide +kernel))) (by decide +kernel) ⟨Nat.le_of_ble_eq_true rfl, Nat.le_of_ble_eq_true rfl⟩, (hts (.static yX5_isBelow) (List.mem_of_getElem? (i := 2) (by decide +kernel))), trivial⟩ hK hN hP hD hS hA rfl rfl (by decide) (by decide) (by decide) rfl hl.1 rfl (Nat.le_of_ble_eq_true rfl) dX2_has_5 ⟨Nat.zero_le _, Nat.zero_le _⟩ (fun H locs hP hD hS hz1 => ?_)
  have hP : va_P (dC, dI) vwCl [(h0, .inr (2, [.ref q_parents, .ref q_addresses, .ref q_depths, .int v_count]))] H := hP
  have hD : va_D A [(h0, .inr (2, [.ref q_parents, .ref q_addresses, .ref q_depths, .int v_count]))] := hD
  refine lv_if_eq (tgt := 24) hx hb dX2_has_8 (by decide) (fun c2 => ?_) (fun c2 => ?_)
  · have h := it_p c2 h
    refine lv_iconst (v := (0 : Int32)) hx hb dX2_has_24 (by decide) ?_
    have hk0 := Option.some.inj h
    cases hk0
    exact re_i [0] hx hb hr hlocks rfl hP hD hS rfl (by decide) rfl dX2_has_25
  · have h := it_n c2 h
    refine lv_iload_n hx hb dX2_has_11 rfl (lv_at hl 1 rfl) ?_
    refine lv_bipush (v := (20 : Int32)) hx hb dX2_has_12 (by decide) ?_
    obtain ⟨r3, h3, h⟩ := bd1_e h
    refine ca_Ni (wc := []) (wr := [(h0, .inr (2, [.ref q_parents, .ref q_addresses, .ref q_depths, .int v_count]))]) (w1 := []) [.int p1, .int (20 : Int32)] [] [] [0] hx hb hml hown hts (mX5_isBelow l dC dI cI H.size p1 (20 : Int32) h3) ⟨va_cnB 2 hts gX2_has_X5_isBelow_n25 rfl rfl rfl hN.2.1 (hts (.initialized RX5) (List.mem_of_getElem? (i := 3) (by decide +kernel))) (by decide +kernel) ⟨Nat.le_of_ble_eq_true rfl, Nat.le_of_ble_eq_true rfl⟩, (hts (.static yX5_isBelow) (List.mem_of_getElem? (i := 2) (by decide +kernel))), trivial⟩ hK hN hP hD hS hA rfl rfl (by decide) (by decide) (by decide) rfl hl.1 rfl (Nat.le_of_ble_eq_true rfl) dX2_has_14 ⟨Nat.zero_le _, Nat.zero_le _⟩ (fun H locs hP hD hS hz3 => ?_)
    have hP : va_P (dC, dI) vwCl [(h0, .inr (2, [.ref q_parents, .ref q_addresses, .ref q_depths, .int v_count]))] H := hP
    have hD : va_D A [(h0, .inr (2, [.ref q_parents, .ref q_addresses, .ref q_depths, .int v_count]))] := hD
    refine lv_if_eq (tgt := 24) hx hb dX2_has_17 (by decide) (fun c4 => ?_) (fun c4 => ?_)
    · have h := it_p c4 h
      refine lv_iconst (v := (0 : Int32)) hx hb dX2_has_24 (by decide) ?_
      have hk0 := Option.some.inj h
      cases hk0
      exact re_i [0] hx hb hr hlocks rfl hP hD hS rfl (by decide) rfl dX2_has_25
    · have h := it_n c4 h
      refine lv_iconst (v := (1 : Int32)) hx hb dX2_has_20 (by decide) ?_
      refine lv_goto (tgt := 25) hx hb dX2_has_21 (by decide) ?_
      have hk0 := Option.some.inj h
      cases hk0
      exact re_i [0] hx hb hr hlocks rfl hP hD hS rfl (by decide) rfl dX2_has_25
def fX2_depthOf (p1 : Int32) (v_count : Int32) (a_depths : Nat → Int32) : Option (Int32) :=
  bd1 (fX2_has p1 v_count) fun r1 =>
  if r1 = 0 then
    some (0 : Int32)
  else
    if ¬ (p1 < 0 ∨ 20 ≤ p1.toNatClampNeg) then
      some (a_depths p1.toNatClampNeg)
    else none
set_option maxHeartbeats 4000000 in
set_option maxRecDepth 100000 in
theorem mX2_depthOf (l : Launch) (dC : Nat → ClassId) (dI : Nat → Nat → Nat) (cI : ClassId) (sz : Nat) (h0 : Nat) (q_parents : Nat) (q_addresses : Nat) (q_depths : Nat) (v_count : Int32) (a_depths : Nat → Int32) (p1 : Int32) {rr : Int32} (h : fX2_depthOf p1 v_count a_depths = some rr) : Met l yX2_depthOf wsX2_depthOf ({ frames := 2, cells := 0, slots := 0, locals := 42 } : Room) (prX dC dI cI [.ref h0, .int p1] sz [(h0, .inr (2, [.ref q_parents, .ref q_addresses, .ref q_depths, .int v_count])), (q_depths, .inl (cI, 20, .inl a_depths))]) (poI dC dI .int rr [(h0, .inr (2, [.ref q_parents, .ref q_addresses, .ref q_depths, .int v_count])), (q_depths, .inl (cI, 20, .inl a_depths))] (va_A [(h0, .inr (2, [.ref q_parents, .ref q_addresses, .ref q_depths, .int v_count])), (q_depths, .inl (cI, 20, .inl a_depths))] sz)) 0 0 (va_A [(h0, .inr (2, [.ref q_parents, .ref q_addresses, .ref q_depths, .int v_count])), (q_depths, .inl (cI, 20, .inl a_depths))] sz) := by
  refine ofX (cc := cX2_depthOf) (maxL := 2) (ret := (some .int)) (lv0 := [(0, .ref h0), (1, .int p1)]) (QA := fun A => poI dC dI .int rr [(h0, .inr (2, [.ref q_parents, .ref q_addresses, .ref q_depths, .int v_count])), (q_depths, .inl (cI, 20, .inl a_depths))] A) (by decide) rfl (Nat.le_of_ble_eq_true rfl) rfl ?_
  intro p e s m below meth c A ls H locs hx hb hr hml hown hts hlocks hin hK hN hA hP hD hS hl
  have hown : s.vm.findClass RX2 = some m.cls := hown
  unfold fX2_depthOf at h
  have hiX2 : ∀ w ∈ u_ws RX2 TX2 4, w ∈ wsX2_depthOf := fun _ h => List.mem_cons_of_mem _ (List.mem_append_right _ h)
  have hf18 := (hts (.fieldLink RX2 18 "PacketTraceback$Network" "depths" "[I") (List.mem_of_getElem? (i := 1) (by decide +kernel)))
  refine lv_aload_n hx hb dX2_depthOf_0 rfl (lv_at hl 0 rfl) ?_
  refine lv_iload_n hx hb dX2_depthOf_1 rfl (lv_at hl 1 rfl) ?_
  obtain ⟨r1, h1, h⟩ := bd1_e h
  refine ca_Vi (wc := [(h0, .inr (2, [.ref q_parents, .ref q_addresses, .ref q_depths, .int v_count]))]) (wr := [(q_depths, .inl (cI, 20, .inl a_depths))]) (w1 := [(h0, .inr (2, [.ref q_parents, .ref q_addresses, .ref q_depths, .int v_count]))]) [.int p1] [] [0] [1] hx hb hml hown hts (mX2_has l dC dI cI H.size h0 q_parents q_addresses q_depths v_count p1 h1) (cwV 1 hts gX2_depthOf_X2_has rfl rfl rfl (by decide +kernel) ⟨Nat.le_of_ble_eq_true rfl, Nat.le_of_ble_eq_true rfl⟩) hK hN hP hD hS hA rfl rfl (by decide) (by decide) (by decide) rfl rfl rfl hl.1 rfl (Nat.le_of_ble_eq_true rfl) dX2_depthOf_2 ⟨Nat.zero_le _, Nat.zero_le _⟩ (fun H locs hP hD hS hz1 => ?_)
  have hP : va_P (dC, dI) vwCl [(q_depths, .inl (cI, 20, .inl a_depths)), (h0, .inr (2, [.ref q_parents, .ref q_addresses, .ref q_depths, .int v_count]))] H := hP
  have hD : va_D A [(q_depths, .inl (cI, 20, .inl a_depths)), (h0, .inr (2, [.ref q_parents, .ref q_addresses, .ref q_depths, .int v_count]))] := hD
  refine lv_if_eq (tgt := 17) hx hb dX2_depthOf_5 (by decide) (fun c2 => ?_) (fun c2 => ?_)
  · have h := it_p c2 h
    refine lv_iconst (v := (0 : Int32)) hx hb dX2_depthOf_17 (by decide) ?_
    have hk0 := Option.some.inj h
    cases hk0
    exact re_i [1, 0] hx hb hr hlocks rfl hP hD hS rfl (by decide) rfl dX2_depthOf_18
  · have h := it_n c2 h
    refine lv_aload_n hx hb dX2_depthOf_8 rfl (lv_at hl 0 rfl) ?_
    refine va_get (D := (dC, dI)) (ci := 2) (v := .ref q_depths) (C := RX2) (T := TX2) (N := 4) hx hb hts hiX2 hown hK hP 1 rfl rfl 2 (by decide) hf18 (fun _ h9 => h9) rfl dX2_depthOf_9 ?_
    refine lv_iload_n hx hb dX2_depthOf_12 rfl (lv_at hl 1 rfl) ?_
    obtain ⟨g3, h⟩ := gd_e h
    refine va_iald hx hb hK hP 0 0 rfl rfl g3 dX2_depthOf_13 ?_
    refine lv_goto (tgt := 18) hx hb dX2_depthOf_14 (by decide) ?_
    have hk0 := Option.some.inj h
    cases hk0
    exact re_i [1, 0] hx hb hr hlocks rfl hP hD hS rfl (by decide) rfl dX2_depthOf_18
def fX2_append (p1 : Int32) (p2 : Int32) (v_count : Int32) (a_parents : Nat → Int32) (a_addresses : Nat → Int32) (a_depths : Nat → Int32) : Option (Int32 × Int32 × (Nat → Int32) × (Nat → Int32) × (Nat → Int32)) :=
  bd1 (fX5_isBelow v_count (20 : Int32)) fun r1 =>
  if r1 = 0 then
    some ((-4 : Int32), v_count, a_parents, a_addresses, a_depths)
  else
    if v_count = 0 then
      if ¬ (v_count < 0 ∨ 20 ≤ v_count.toNatClampNeg) then
        some (v_count, (v_count + (1 : Int32)), (upd a_parents v_count.toNatClampNeg (-1 : Int32)), (upd a_addresses v_count.toNatClampNeg p2), (upd a_depths v_count.toNatClampNeg (0 : Int32)))
      else none
    else
      if ¬ (v_count < 0 ∨ 20 ≤ v_count.toNatClampNeg) then
        bd1 (fX2_depthOf p1 v_count a_depths) fun r7 =>
        some (v_count, (v_count + (1 : Int32)), (upd a_parents v_count.toNatClampNeg p1), (upd a_addresses v_count.toNatClampNeg p2), (upd a_depths v_count.toNatClampNeg (r7 + (1 : Int32))))
      else none
set_option maxHeartbeats 4000000 in
set_option maxRecDepth 100000 in
theorem mX2_append (l : Launch) (dC : Nat → ClassId) (dI : Nat → Nat → Nat) (cI : ClassId) (sz : Nat) (h0 : Nat) (q_parents : Nat) (q_addresses : Nat) (q_depths : Nat) (v_count : Int32) (a_parents : Nat → Int32) (a_addresses : Nat → Int32) (a_depths : Nat → Int32) (p1 : Int32) (p2 : Int32) {rr : Int32} {o_count : Int32} {o_parents : Nat → Int32} {o_addresses : Nat → Int32} {o_depths : Nat → Int32} (h : fX2_append p1 p2 v_count a_parents a_addresses a_depths = some (rr, o_count, o_parents, o_addresses, o_depths)) : Met l yX2_append wsX2_append ({ frames := 3, cells := 0, slots := 0, locals := 63 } : Room) (prX dC dI cI [.ref h0, .int p1, .int p2] sz [(h0, .inr (2, [.ref q_parents, .ref q_addresses, .ref q_depths, .int v_count])), (q_parents, .inl (cI, 20, .inl a_parents)), (q_addresses, .inl (cI, 20, .inl a_addresses)), (q_depths, .inl (cI, 20, .inl a_depths))]) (poI dC dI .int rr [(h0, .inr (2, [.ref q_parents, .ref q_addresses, .ref q_depths, .int o_count])), (q_parents, .inl (cI, 20, .inl o_parents)), (q_addresses, .inl (cI, 20, .inl o_addresses)), (q_depths, .inl (cI, 20, .inl o_depths))] (va_A [(h0, .inr (2, [.ref q_parents, .ref q_addresses, .ref q_depths, .int v_count])), (q_parents, .inl (cI, 20, .inl a_parents)), (q_addresses, .inl (cI, 20, .inl a_addresses)), (q_depths, .inl (cI, 20, .inl a_depths))] sz)) 0 0 (va_A [(h0, .inr (2, [.ref q_parents, .ref q_addresses, .ref q_depths, .int v_count])), (q_parents, .inl (cI, 20, .inl a_parents)), (q_addresses, .inl (cI, 20, .inl a_addresses)), (q_depths, .inl (cI, 20, .inl a_depths))] sz) := by
  refine ofX (cc := cX2_append) (maxL := 5) (ret := (some .int)) (lv0 := [(0, .ref h0), (1, .int p1), (2, .int p2)]) (QA := fun A => poI dC dI .int rr [(h0, .inr (2, [.ref q_parents, .ref q_addresses, .ref q_depths, .int o_count])), (q_parents, .inl (cI, 20, .inl o_parents)), (q_addresses, .inl (cI, 20, .inl o_addresses)), (q_depths, .inl (cI, 20, .inl o_depths))] A) (by decide) rfl (Nat.le_of_ble_eq_true rfl) rfl ?_
  intro p e s m below meth c A ls H locs hx hb hr hml hown hts hlocks hin hK hN hA hP hD hS hl
  have hown : s.vm.findClass RX2 = some m.cls := hown
  unfold fX2_append at h
  have hiX2 : ∀ w ∈ u_ws RX2 TX2 4, w ∈ wsX2_append := fun _ h => List.mem_cons_of_mem _ (List.mem_append_right _ h)
  have hf21 := (hts (.fieldLink RX2 21 "PacketTraceback$Network" "count" "I") (List.mem_of_getElem? (i := 1) (by decide +kernel)))
  have hf9 := (hts (.fieldLink RX2 9 "PacketTraceback$Network" "parents" "[I") (List.mem_of_getElem? (i := 2) (by decide +kernel)))
  have hf18 := (hts (.fieldLink RX2 18 "PacketTraceback$Network" "depths" "[I") (List.mem_of_getElem? (i := 3) (by decide +kernel)))
  have hf15 := (hts (.fieldLink RX2 15 "PacketTraceback$Network" "addresses" "[I") (List.mem_of_getElem? (i := 4) (by decide +kernel)))
  refine lv_aload_n hx hb dX2_append_0 rfl (lv_at hl 0 rfl) ?_
  refine va_get (D := (dC, dI)) (ci := 2) (v := .int v_count) (C := RX2) (T := TX2) (N := 4) hx hb hts hiX2 hown hK hP 0 rfl rfl 3 (by decide) hf21 (fun _ h9 => h9) rfl dX2_append_1 ?_
  refine lv_bipush (v := (20 : Int32)) hx hb dX2_append_4 (by decide) ?_
  obtain ⟨r1, h1, h⟩ := bd1_e h
  refine ca_Ni (wc := []) (wr := [(h0, .inr (2, [.ref q_parents, .ref q_addresses, .ref q_depths, .int v_count])), (q_parents, .inl (cI, 20, .inl a_parents)), (q_addresses, .inl (cI, 20, .inl a_addresses)), (q_depths, .inl (cI, 20, .inl a_depths))]) (w1 := []) [.int v_count, .int (20 : Int32)] [] [] [0, 1, 2, 3] hx hb hml hown hts (mX5_isBelow l dC dI cI H.size v_count (20 : Int32) h1) ⟨va_cnB 2 hts gX2_append_X5_isBelow_n25 rfl rfl rfl hN.2.1 (hts (.initialized RX5) (List.mem_of_getElem? (i := 6) (by decide +kernel))) (by decide +kernel) ⟨Nat.le_of_ble_eq_true rfl, Nat.le_of_ble_eq_true rfl⟩, (hts (.static yX5_isBelow) (List.mem_of_getElem? (i := 5) (by decide +kernel))), trivial⟩ hK hN hP hD hS hA rfl rfl (by decide) (by decide) (by decide) rfl hl.1 rfl (Nat.le_of_ble_eq_true rfl) dX2_append_6 ⟨Nat.zero_le _, Nat.zero_le _⟩ (fun H locs hP hD hS hz1 => ?_)
  have hP : va_P (dC, dI) vwCl [(h0, .inr (2, [.ref q_parents, .ref q_addresses, .ref q_depths, .int v_count])), (q_parents, .inl (cI, 20, .inl a_parents)), (q_addresses, .inl (cI, 20, .inl a_addresses)), (q_depths, .inl (cI, 20, .inl a_depths))] H := hP
  have hD : va_D A [(h0, .inr (2, [.ref q_parents, .ref q_addresses, .ref q_depths, .int v_count])), (q_parents, .inl (cI, 20, .inl a_parents)), (q_addresses, .inl (cI, 20, .inl a_addresses)), (q_depths, .inl (cI, 20, .inl a_depths))] := hD
  refine lv_if_ne (tgt := 15) hx hb dX2_append_9 (by decide) (fun c2 => ?_) (fun c2 => ?_)
  · have h := it_n c2 h
    refine lv_aload_n hx hb dX2_append_15 rfl (lv_at hl 0 rfl) ?_
    refine va_get (D := (dC, dI)) (ci := 2) (v := .int v_count) (C := RX2) (T := TX2) (N := 4) hx hb hts hiX2 hown hK hP 0 rfl rfl 3 (by decide) hf21 (fun _ h9 => h9) rfl dX2_append_16 ?_
    refine lv_istore_n (lv' := [(3, .int v_count), (0, .ref h0), (1, .int p1), (2, .int p2)]) hx hb dX2_append_19 rfl hl (by decide) rfl (fun ls hl => ?_)
    refine lv_iload_n hx hb dX2_append_20 rfl (lv_at hl 0 rfl) ?_
    refine lv_if_ne (tgt := 28) hx hb dX2_append_21 (by decide) (fun c3 => ?_) (fun c3 => ?_)
    · have h := it_n c3 h
      refine lv_iconst (v := (0 : Int32)) hx hb dX2_append_28 (by decide) ?_
      refine lv_istore (lv' := [(4, .int (0 : Int32)), (3, .int v_count), (0, .ref h0), (1, .int p1), (2, .int p2)]) hx hb dX2_append_29 hl (by decide) rfl (fun ls hl => ?_)
      refine lv_aload_n hx hb dX2_append_31 rfl (lv_at hl 2 rfl) ?_
      refine va_get (D := (dC, dI)) (ci := 2) (v := .ref q_parents) (C := RX2) (T := TX2) (N := 4) hx hb hts hiX2 hown hK hP 0 rfl rfl 0 (by decide) hf9 (fun _ h9 => h9) rfl dX2_append_32 ?_
      refine lv_iload_n hx hb dX2_append_35 rfl (lv_at hl 1 rfl) ?_
      refine lv_iload hx hb dX2_append_36 (lv_at hl 0 rfl) ?_
      refine lv_if_eq (tgt := 45) hx hb dX2_append_38 (by decide) (fun _ => ?_) (fun c4 => absurd c4 (by decide))
      refine lv_iload_n hx hb dX2_append_45 rfl (lv_at hl 3 rfl) ?_
      obtain ⟨g5, h⟩ := gd_e h
      refine va_iast hx hb hK hP hD hS 1 0 rfl rfl g5 dX2_append_46 (fun H locs hP hD hS => ?_)
      have hP : va_P (dC, dI) vwCl [(h0, .inr (2, [.ref q_parents, .ref q_addresses, .ref q_depths, .int v_count])), (q_parents, .inl (cI, 20, .inl (upd a_parents v_count.toNatClampNeg p1))), (q_addresses, .inl (cI, 20, .inl a_addresses)), (q_depths, .inl (cI, 20, .inl a_depths))] H := hP
      have hD : va_D A [(h0, .inr (2, [.ref q_parents, .ref q_addresses, .ref q_depths, .int v_count])), (q_parents, .inl (cI, 20, .inl (upd a_parents v_count.toNatClampNeg p1))), (q_addresses, .inl (cI, 20, .inl a_addresses)), (q_depths, .inl (cI, 20, .inl a_depths))] := hD
      refine lv_aload_n hx hb dX2_append_47 rfl (lv_at hl 2 rfl) ?_
      refine va_get (D := (dC, dI)) (ci := 2) (v := .ref q_depths) (C := RX2) (T := TX2) (N := 4) hx hb hts hiX2 hown hK hP 0 rfl rfl 2 (by decide) hf18 (fun _ h9 => h9) rfl dX2_append_48 ?_
      refine lv_iload_n hx hb dX2_append_51 rfl (lv_at hl 1 rfl) ?_
      refine lv_iload hx hb dX2_append_52 (lv_at hl 0 rfl) ?_
      refine lv_if_eq (tgt := 61) hx hb dX2_append_54 (by decide) (fun _ => ?_) (fun c6 => absurd c6 (by decide))
      refine lv_aload_n hx hb dX2_append_61 rfl (lv_at hl 2 rfl) ?_
      refine lv_iload_n hx hb dX2_append_62 rfl (lv_at hl 3 rfl) ?_
      obtain ⟨r7, h7, h⟩ := bd1_e h
      refine ca_Vi (wc := [(h0, .inr (2, [.ref q_parents, .ref q_addresses, .ref q_depths, .int v_count])), (q_depths, .inl (cI, 20, .inl a_depths))]) (wr := [(q_parents, .inl (cI, 20, .inl (upd a_parents v_count.toNatClampNeg p1))), (q_addresses, .inl (cI, 20, .inl a_addresses))]) (w1 := [(h0, .inr (2, [.ref q_parents, .ref q_addresses, .ref q_depths, .int v_count])), (q_depths, .inl (cI, 20, .inl a_depths))]) [.int p1] [.int v_count, .ref q_depths] [0, 3] [1, 2] hx hb hml hown hts (mX2_depthOf l dC dI cI H.size h0 q_parents q_addresses q_depths v_count a_depths p1 h7) (cwV 1 hts gX2_append_X2_depthOf rfl rfl rfl (by decide +kernel) ⟨Nat.le_of_ble_eq_true rfl, Nat.le_of_ble_eq_true rfl⟩) hK hN hP hD hS hA rfl rfl (by decide) (by decide) (by decide) rfl rfl rfl hl.1 rfl (Nat.le_of_ble_eq_true rfl) dX2_append_63 ⟨Nat.zero_le _, Nat.zero_le _⟩ (fun H locs hP hD hS hz7 => ?_)
      have hP : va_P (dC, dI) vwCl [(q_parents, .inl (cI, 20, .inl (upd a_parents v_count.toNatClampNeg p1))), (q_addresses, .inl (cI, 20, .inl a_addresses)), (h0, .inr (2, [.ref q_parents, .ref q_addresses, .ref q_depths, .int v_count])), (q_depths, .inl (cI, 20, .inl a_depths))] H := hP
      have hD : va_D A [(q_parents, .inl (cI, 20, .inl (upd a_parents v_count.toNatClampNeg p1))), (q_addresses, .inl (cI, 20, .inl a_addresses)), (h0, .inr (2, [.ref q_parents, .ref q_addresses, .ref q_depths, .int v_count])), (q_depths, .inl (cI, 20, .inl a_depths))] := hD
      refine lv_iconst (v := (1 : Int32)) hx hb dX2_append_66 (by decide) ?_
      refine lv_iadd hx hb dX2_append_67 ?_
      refine va_iast hx hb hK hP hD hS 3 0 rfl rfl g5 dX2_append_68 (fun H locs hP hD hS => ?_)
      have hP : va_P (dC, dI) vwCl [(q_parents, .inl (cI, 20, .inl (upd a_parents v_count.toNatClampNeg p1))), (q_addresses, .inl (cI, 20, .inl a_addresses)), (h0, .inr (2, [.ref q_parents, .ref q_addresses, .ref q_depths, .int v_count])), (q_depths, .inl (cI, 20, .inl (upd a_depths v_count.toNatClampNeg (r7 + (1 : Int32)))))] H := hP
      have hD : va_D A [(q_parents, .inl (cI, 20, .inl (upd a_parents v_count.toNatClampNeg p1))), (q_addresses, .inl (cI, 20, .inl a_addresses)), (h0, .inr (2, [.ref q_parents, .ref q_addresses, .ref q_depths, .int v_count])), (q_depths, .inl (cI, 20, .inl (upd a_depths v_count.toNatClampNeg (r7 + (1 : Int32)))))] := hD
      refine lv_aload_n hx hb dX2_append_69 rfl (lv_at hl 2 rfl) ?_
      refine va_get (D := (dC, dI)) (ci := 2) (v := .ref q_addresses) (C := RX2) (T := TX2) (N := 4) hx hb hts hiX2 hown hK hP 2 rfl rfl 1 (by decide) hf15 (fun _ h9 => h9) rfl dX2_append_70 ?_
      refine lv_iload_n hx hb dX2_append_73 rfl (lv_at hl 1 rfl) ?_
      refine lv_iload_n hx hb dX2_append_74 rfl (lv_at hl 4 rfl) ?_
      refine va_iast hx hb hK hP hD hS 1 0 rfl rfl g5 dX2_append_75 (fun H locs hP hD hS => ?_)
      have hP : va_P (dC, dI) vwCl [(q_parents, .inl (cI, 20, .inl (upd a_parents v_count.toNatClampNeg p1))), (q_addresses, .inl (cI, 20, .inl (upd a_addresses v_count.toNatClampNeg p2))), (h0, .inr (2, [.ref q_parents, .ref q_addresses, .ref q_depths, .int v_count])), (q_depths, .inl (cI, 20, .inl (upd a_depths v_count.toNatClampNeg (r7 + (1 : Int32)))))] H := hP
      have hD : va_D A [(q_parents, .inl (cI, 20, .inl (upd a_parents v_count.toNatClampNeg p1))), (q_addresses, .inl (cI, 20, .inl (upd a_addresses v_count.toNatClampNeg p2))), (h0, .inr (2, [.ref q_parents, .ref q_addresses, .ref q_depths, .int v_count])), (q_depths, .inl (cI, 20, .inl (upd a_depths v_count.toNatClampNeg (r7 + (1 : Int32)))))] := hD
      refine lv_aload_n hx hb dX2_append_76 rfl (lv_at hl 2 rfl) ?_
      refine lv_dup hx hb dX2_append_77 rfl ?_
      refine va_get (D := (dC, dI)) (ci := 2) (v := .int v_count) (C := RX2) (T := TX2) (N := 4) hx hb hts hiX2 hown hK hP 2 rfl rfl 3 (by decide) hf21 (fun _ h9 => h9) rfl dX2_append_78 ?_
      refine lv_iconst (v := (1 : Int32)) hx hb dX2_append_81 (by decide) ?_
      refine lv_iadd hx hb dX2_append_82 ?_
      refine va_put (D := (dC, dI)) (ci := 2) (v := .int (v_count + (1 : Int32))) (ty := .int) (C := RX2) (T := TX2) (N := 4) hx hb hts hiX2 tyX2 tyX2_ok nmX2 hown hK hP hD hS 2 rfl rfl 3 (by decide) hf21 (fun _ h9 => h9) rfl (by decide +kernel) rfl rfl (Nat.le_of_ble_eq_true rfl) dX2_append_83 (fun H locs hP hD hS => ?_)
      have hP : va_P (dC, dI) vwCl [(q_parents, .inl (cI, 20, .inl (upd a_parents v_count.toNatClampNeg p1))), (q_addresses, .inl (cI, 20, .inl (upd a_addresses v_count.toNatClampNeg p2))), (h0, .inr (2, [.ref q_parents, .ref q_addresses, .ref q_depths, .int (v_count + (1 : Int32))])), (q_depths, .inl (cI, 20, .inl (upd a_depths v_count.toNatClampNeg (r7 + (1 : Int32)))))] H := hP
      have hD : va_D A [(q_parents, .inl (cI, 20, .inl (upd a_parents v_count.toNatClampNeg p1))), (q_addresses, .inl (cI, 20, .inl (upd a_addresses v_count.toNatClampNeg p2))), (h0, .inr (2, [.ref q_parents, .ref q_addresses, .ref q_depths, .int (v_count + (1 : Int32))])), (q_depths, .inl (cI, 20, .inl (upd a_depths v_count.toNatClampNeg (r7 + (1 : Int32)))))] := hD
      refine lv_iload_n hx hb dX2_append_86 rfl (lv_at hl 1 rfl) ?_
      have hk0 := Option.some.inj h
      cases hk0
      exact re_i [2, 0, 1, 3] hx hb hr hlocks rfl hP hD hS rfl (by decide) rfl dX2_append_87
    · have h := it_p c3 h
      refine lv_iconst (v := (1 : Int32)) hx hb dX2_append_24 (by decide) ?_
      refine lv_goto (tgt := 29) hx hb dX2_append_25 (by decide) ?_
      refine lv_istore (lv' := [(4, .int (1 : Int32)), (3, .int v_count), (0, .ref h0), (1, .int p1), (2, .int p2)]) hx hb dX2_append_29 hl (by decide) rfl (fun ls hl => ?_)
      refine lv_aload_n hx hb dX2_append_31 rfl (lv_at hl 2 rfl) ?_
      refine va_get (D := (dC, dI)) (ci := 2) (v := .ref q_parents) (C := RX2) (T := TX2) (N := 4) hx hb hts hiX2 hown hK hP 0 rfl rfl 0 (by decide) hf9 (fun _ h9 => h9) rfl dX2_append_32 ?_
      refine lv_iload_n hx hb dX2_append_35 rfl (lv_at hl 1 rfl) ?_
      refine lv_iload hx hb dX2_append_36 (lv_at hl 0 rfl) ?_
      refine lv_if_eq (tgt := 45) hx hb dX2_append_38 (by decide) (fun c8 => absurd c8 (by decide)) (fun _ => ?_)
      refine lv_iconst (v := (-1 : Int32)) hx hb dX2_append_41 (by decide) ?_
      refine lv_goto (tgt := 46) hx hb dX2_append_42 (by decide) ?_
      obtain ⟨g9, h⟩ := gd_e h
      refine va_iast hx hb hK hP hD hS 1 0 rfl rfl g9 dX2_append_46 (fun H locs hP hD hS => ?_)
      have hP : va_P (dC, dI) vwCl [(h0, .inr (2, [.ref q_parents, .ref q_addresses, .ref q_depths, .int v_count])), (q_parents, .inl (cI, 20, .inl (upd a_parents v_count.toNatClampNeg (-1 : Int32)))), (q_addresses, .inl (cI, 20, .inl a_addresses)), (q_depths, .inl (cI, 20, .inl a_depths))] H := hP
      have hD : va_D A [(h0, .inr (2, [.ref q_parents, .ref q_addresses, .ref q_depths, .int v_count])), (q_parents, .inl (cI, 20, .inl (upd a_parents v_count.toNatClampNeg (-1 : Int32)))), (q_addresses, .inl (cI, 20, .inl a_addresses)), (q_depths, .inl (cI, 20, .inl a_depths))] := hD
      refine lv_aload_n hx hb dX2_append_47 rfl (lv_at hl 2 rfl) ?_
      refine va_get (D := (dC, dI)) (ci := 2) (v := .ref q_depths) (C := RX2) (T := TX2) (N := 4) hx hb hts hiX2 hown hK hP 0 rfl rfl 2 (by decide) hf18 (fun _ h9 => h9) rfl dX2_append_48 ?_
      refine lv_iload_n hx hb dX2_append_51 rfl (lv_at hl 1 rfl) ?_
      refine lv_iload hx hb dX2_append_52 (lv_at hl 0 rfl) ?_
      refine lv_if_eq (tgt := 61) hx hb dX2_append_54 (by decide) (fun c10 => absurd c10 (by decide)) (fun _ => ?_)
      refine lv_iconst (v := (0 : Int32)) hx hb dX2_append_57 (by decide) ?_
      refine lv_goto (tgt := 68) hx hb dX2_append_58 (by decide) ?_
      refine va_iast hx hb hK hP hD hS 3 0 rfl rfl g9 dX2_append_68 (fun H locs hP hD hS => ?_)
      have hP : va_P (dC, dI) vwCl [(h0, .inr (2, [.ref q_parents, .ref q_addresses, .ref q_depths, .int v_count])), (q_parents, .inl (cI, 20, .inl (upd a_parents v_count.toNatClampNeg (-1 : Int32)))), (q_addresses, .inl (cI, 20, .inl a_addresses)), (q_depths, .inl (cI, 20, .inl (upd a_depths v_count.toNatClampNeg (0 : Int32))))] H := hP
      have hD : va_D A [(h0, .inr (2, [.ref q_parents, .ref q_addresses, .ref q_depths, .int v_count])), (q_parents, .inl (cI, 20, .inl (upd a_parents v_count.toNatClampNeg (-1 : Int32)))), (q_addresses, .inl (cI, 20, .inl a_addresses)), (q_depths, .inl (cI, 20, .inl (upd a_depths v_count.toNatClampNeg (0 : Int32))))] := hD
      refine lv_aload_n hx hb dX2_append_69 rfl (lv_at hl 2 rfl) ?_
      refine va_get (D := (dC, dI)) (ci := 2) (v := .ref q_addresses) (C := RX2) (T := TX2) (N := 4) hx hb hts hiX2 hown hK hP 0 rfl rfl 1 (by decide) hf15 (fun _ h9 => h9) rfl dX2_append_70 ?_
      refine lv_iload_n hx hb dX2_append_73 rfl (lv_at hl 1 rfl) ?_
      refine lv_iload_n hx hb dX2_append_74 rfl (lv_at hl 4 rfl) ?_
      refine va_iast hx hb hK hP hD hS 2 0 rfl rfl g9 dX2_append_75 (fun H locs hP hD hS => ?_)
      have hP : va_P (dC, dI) vwCl [(h0, .inr (2, [.ref q_parents, .ref q_addresses, .ref q_depths, .int v_count])), (q_parents, .inl (cI, 20, .inl (upd a_parents v_count.toNatClampNeg (-1 : Int32)))), (q_addresses, .inl (cI, 20, .inl (upd a_addresses v_count.toNatClampNeg p2))), (q_depths, .inl (cI, 20, .inl (upd a_depths v_count.toNatClampNeg (0 : Int32))))] H := hP
      have hD : va_D A [(h0, .inr (2, [.ref q_parents, .ref q_addresses, .ref q_depths, .int v_count])), (q_parents, .inl (cI, 20, .inl (upd a_parents v_count.toNatClampNeg (-1 : Int32)))), (q_addresses, .inl (cI, 20, .inl (upd a_addresses v_count.toNatClampNeg p2))), (q_depths, .inl (cI, 20, .inl (upd a_depths v_count.toNatClampNeg (0 : Int32))))] := hD
      refine lv_aload_n hx hb dX2_append_76 rfl (lv_at hl 2 rfl) ?_
      refine lv_dup hx hb dX2_append_77 rfl ?_
      refine va_get (D := (dC, dI)) (ci := 2) (v := .int v_count) (C := RX2) (T := TX2) (N := 4) hx hb hts hiX2 hown hK hP 0 rfl rfl 3 (by decide) hf21 (fun _ h9 => h9) rfl dX2_append_78 ?_
      refine lv_iconst (v := (1 : Int32)) hx hb dX2_append_81 (by decide) ?_
      refine lv_iadd hx hb dX2_append_82 ?_
      refine va_put (D := (dC, dI)) (ci := 2) (v := .int (v_count + (1 : Int32))) (ty := .int) (C := RX2) (T := TX2) (N := 4) hx hb hts hiX2 tyX2 tyX2_ok nmX2 hown hK hP hD hS 0 rfl rfl 3 (by decide) hf21 (fun _ h9 => h9) rfl (by decide +kernel) rfl rfl (Nat.le_of_ble_eq_true rfl) dX2_append_83 (fun H locs hP hD hS => ?_)
      have hP : va_P (dC, dI) vwCl [(h0, .inr (2, [.ref q_parents, .ref q_addresses, .ref q_depths, .int (v_count + (1 : Int32))])), (q_parents, .inl (cI, 20, .inl (upd a_parents v_count.toNatClampNeg (-1 : Int32)))), (q_addresses, .inl (cI, 20, .inl (upd a_addresses v_count.toNatClampNeg p2))), (q_depths, .inl (cI, 20, .inl (upd a_depths v_count.toNatClampNeg (0 : Int32))))] H := hP
      have hD : va_D A [(h0, .inr (2, [.ref q_parents, .ref q_addresses, .ref q_depths, .int (v_count + (1 : Int32))])), (q_parents, .inl (cI, 20, .inl (upd a_parents v_count.toNatClampNeg (-1 : Int32)))), (q_addresses, .inl (cI, 20, .inl (upd a_addresses v_count.toNatClampNeg p2))), (q_depths, .inl (cI, 20, .inl (upd a_depths v_count.toNatClampNeg (0 : Int32))))] := hD
      refine lv_iload_n hx hb dX2_append_86 rfl (lv_at hl 1 rfl) ?_
      have hk0 := Option.some.inj h
      cases hk0
      exact re_i [0, 1, 2, 3] hx hb hr hlocks rfl hP hD hS rfl (by decide) rfl dX2_append_87
  · have h := it_p c2 h
    refine lv_bipush (v := (-4 : Int32)) hx hb dX2_append_12 (by decide) ?_
    have hk0 := Option.some.inj h
    cases hk0
    exact re_i [0, 1, 2, 3] hx hb hr hlocks rfl hP hD hS rfl (by decide) rfl dX2_append_14
def bX2_find_2 (p1 : Int32) (v_count : Int32) (a_addresses : Nat → Int32) (y2_2 : Int32) : Option ((Int32) ⊕ (Int32)) :=
  if v_count ≤ y2_2 then
    some (.inr (-1 : Int32))
  else
    if (20 : Int32) ≤ y2_2 then
      some (.inr (-1 : Int32))
    else
      if ¬ (y2_2 < 0 ∨ 20 ≤ y2_2.toNatClampNeg) then
        if (a_addresses y2_2.toNatClampNeg) = p1 then
          some (.inr (y2_2))
        else
          some (.inl (y2_2 + 1))
      else none
def fX2_find (N : Nat) (p1 : Int32) (v_count : Int32) (a_addresses : Nat → Int32) : Option (Int32) :=
  lp (fun s => bX2_find_2 p1 v_count a_addresses s) N (0 : Int32)
set_option maxHeartbeats 4000000 in
set_option maxRecDepth 100000 in
theorem mX2_find (l : Launch) (dC : Nat → ClassId) (dI : Nat → Nat → Nat) (cI : ClassId) (sz : Nat) (N : Nat) (h0 : Nat) (q_parents : Nat) (q_addresses : Nat) (q_depths : Nat) (v_count : Int32) (a_addresses : Nat → Int32) (p1 : Int32) {rr : Int32} (h : fX2_find N p1 v_count a_addresses = some rr) : Met l yX2_find wsX2_find ({ frames := 0, cells := 0, slots := 0, locals := 0 } : Room) (prX dC dI cI [.ref h0, .int p1] sz [(h0, .inr (2, [.ref q_parents, .ref q_addresses, .ref q_depths, .int v_count])), (q_addresses, .inl (cI, 20, .inl a_addresses))]) (poI dC dI .int rr [(h0, .inr (2, [.ref q_parents, .ref q_addresses, .ref q_depths, .int v_count])), (q_addresses, .inl (cI, 20, .inl a_addresses))] (va_A [(h0, .inr (2, [.ref q_parents, .ref q_addresses, .ref q_depths, .int v_count])), (q_addresses, .inl (cI, 20, .inl a_addresses))] sz)) 0 0 (va_A [(h0, .inr (2, [.ref q_parents, .ref q_addresses, .ref q_depths, .int v_count])), (q_addresses, .inl (cI, 20, .inl a_addresses))] sz) := by
  refine ofX (cc := cX2_find) (maxL := 3) (ret := (some .int)) (lv0 := [(0, .ref h0), (1, .int p1)]) (QA := fun A => poI dC dI .int rr [(h0, .inr (2, [.ref q_parents, .ref q_addresses, .ref q_depths, .int v_count])), (q_addresses, .inl (cI, 20, .inl a_addresses))] A) (by decide) rfl (Nat.le_of_ble_eq_true rfl) rfl ?_
  intro p e s m below meth c A ls H locs hx hb hr hml hown hts hlocks hin hK hN hA hP hD hS hl
  have hown : s.vm.findClass RX2 = some m.cls := hown
  unfold fX2_find at h
  have hiX2 : ∀ w ∈ u_ws RX2 TX2 4, w ∈ wsX2_find := fun _ h => List.mem_cons_of_mem _ (List.mem_append_right _ h)
  have hf21 := (hts (.fieldLink RX2 21 "PacketTraceback$Network" "count" "I") (List.mem_of_getElem? (i := 1) (by decide +kernel)))
  have hf15 := (hts (.fieldLink RX2 15 "PacketTraceback$Network" "addresses" "[I") (List.mem_of_getElem? (i := 2) (by decide +kernel)))
  refine lv_iconst (v := (0 : Int32)) hx hb dX2_find_0 (by decide) ?_
  refine lv_istore_n (lv' := [(2, .int (0 : Int32)), (0, .ref h0), (1, .int p1)]) hx hb dX2_find_1 rfl hl (by decide) rfl (fun ls hl => ?_)
  have key2 : ∀ (n1 : Nat) (y2_2 : Int32) (H : Heap) (locs : List Loc) (ls : Array Slot), lp (fun s => bX2_find_2 p1 v_count a_addresses s) n1 y2_2 = some rr → va_P (dC, dI) vwCl [(h0, .inr (2, [.ref q_parents, .ref q_addresses, .ref q_depths, .int v_count])), (q_addresses, .inl (cI, 20, .inl a_addresses))] H → va_D A [(h0, .inr (2, [.ref q_parents, .ref q_addresses, .ref q_depths, .int v_count])), (q_addresses, .inl (cI, 20, .inl a_addresses))] → va_S A s.heap H locs → lv_has ls 3 [(2, .int y2_2), (0, .ref h0), (1, .int p1)] → W p l e ({ frames := 0, cells := 0, slots := 0, locals := 0 } : Room) s m [.ref h0, .int p1].toArray below meth c H locs 0 0 (MQ below (poI dC dI .int rr [(h0, .inr (2, [.ref q_parents, .ref q_addresses, .ref q_depths, .int v_count])), (q_addresses, .inl (cI, 20, .inl a_addresses))] A) [.ref h0, .int p1].toArray s 0 0 A) (F0 m 2 ls []) := by
    intro n1
    induction n1 with
    | zero =>
      intro y2_2 H locs ls h
      exact (lp_0 h).elim
    | succ n1 ih1 =>
      intro y2_2 H locs ls h hP hD hS hl
      obtain ⟨o1, h, hk1⟩ := lp_s h
      unfold bX2_find_2 at h
      try dsimp only at h
      refine lv_iload_n hx hb dX2_find_2 rfl (lv_at hl 0 rfl) ?_
      refine lv_aload_n hx hb dX2_find_3 rfl (lv_at hl 1 rfl) ?_
      refine va_get (D := (dC, dI)) (ci := 2) (v := .int v_count) (C := RX2) (T := TX2) (N := 4) hx hb hts hiX2 hown hK hP 0 rfl rfl 3 (by decide) hf21 (fun _ h9 => h9) rfl dX2_find_4 ?_
      refine lv_icmp_ge (tgt := 34) hx hb dX2_find_7 (by decide) (fun c1 => ?_) (fun c1 => ?_)
      · have h := it_p c1 h
        refine lv_iconst (v := (-1 : Int32)) hx hb dX2_find_34 (by decide) ?_
        cases Option.some.inj h
        have hk1 := un_r hk1
        cases hk1
        exact re_i [0, 1] hx hb hr hlocks rfl hP hD hS rfl (by decide) rfl dX2_find_35
      · have h := it_n c1 h
        refine lv_iload_n hx hb dX2_find_10 rfl (lv_at hl 0 rfl) ?_
        refine lv_bipush (v := (20 : Int32)) hx hb dX2_find_11 (by decide) ?_
        refine lv_icmp_ge (tgt := 34) hx hb dX2_find_13 (by decide) (fun c2 => ?_) (fun c2 => ?_)
        · have h := it_p c2 h
          refine lv_iconst (v := (-1 : Int32)) hx hb dX2_find_34 (by decide) ?_
          cases Option.some.inj h
          have hk1 := un_r hk1
          cases hk1
          exact re_i [0, 1] hx hb hr hlocks rfl hP hD hS rfl (by decide) rfl dX2_find_35
        · have h := it_n c2 h
          refine lv_aload_n hx hb dX2_find_16 rfl (lv_at hl 1 rfl) ?_
          refine va_get (D := (dC, dI)) (ci := 2) (v := .ref q_addresses) (C := RX2) (T := TX2) (N := 4) hx hb hts hiX2 hown hK hP 0 rfl rfl 1 (by decide) hf15 (fun _ h9 => h9) rfl dX2_find_17 ?_
          refine lv_iload_n hx hb dX2_find_20 rfl (lv_at hl 0 rfl) ?_
          obtain ⟨g3, h⟩ := gd_e h
          refine va_iald hx hb hK hP 1 0 rfl rfl g3 dX2_find_21 ?_
          refine lv_iload_n hx hb dX2_find_22 rfl (lv_at hl 2 rfl) ?_
          refine lv_icmp_ne (tgt := 28) hx hb dX2_find_23 (by decide) (fun c4 => ?_) (fun c4 => ?_)
          · have h := it_n c4 h
            refine lv_iinc (v := y2_2 + 1) (lv' := [(2, .int (y2_2 + 1)), (0, .ref h0), (1, .int p1)]) hx hb dX2_find_28 hl (k := 0) rfl rfl (by decide) rfl (fun ls hl => ?_)
            refine lv_goto (tgt := 2) hx hb dX2_find_31 (by decide) ?_
            cases Option.some.inj h
            exact ih1 _ _ _ _ (un_l hk1) (hP.sub [0, 1] rfl) (hD.sub [0, 1] (by decide) rfl) hS (lv_sub hl [0, 1, 2] rfl)
          · have h := it_p c4 h
            refine lv_iload_n hx hb dX2_find_26 rfl (lv_at hl 0 rfl) ?_
            cases Option.some.inj h
            have hk1 := un_r hk1
            cases hk1
            exact re_i [0, 1] hx hb hr hlocks rfl hP hD hS rfl (by decide) rfl dX2_find_27
  exact key2 N _ _ _ _ h hP hD hS hl
def fX2_parentOf (p1 : Int32) (v_count : Int32) (a_parents : Nat → Int32) : Option (Int32) :=
  bd1 (fX2_has p1 v_count) fun r1 =>
  if r1 = 0 then
    some (-1 : Int32)
  else
    if ¬ (p1 < 0 ∨ 20 ≤ p1.toNatClampNeg) then
      some (a_parents p1.toNatClampNeg)
    else none
set_option maxHeartbeats 4000000 in
set_option maxRecDepth 100000 in
theorem mX2_parentOf (l : Launch) (dC : Nat → ClassId) (dI : Nat → Nat → Nat) (cI : ClassId) (sz : Nat) (h0 : Nat) (q_parents : Nat) (q_addresses : Nat) (q_depths : Nat) (v_count : Int32) (a_parents : Nat → Int32) (p1 : Int32) {rr : Int32} (h : fX2_parentOf p1 v_count a_parents = some rr) : Met l yX2_parentOf wsX2_parentOf ({ frames := 2, cells := 0, slots := 0, locals := 42 } : Room) (prX dC dI cI [.ref h0, .int p1] sz [(h0, .inr (2, [.ref q_parents, .ref q_addresses, .ref q_depths, .int v_count])), (q_parents, .inl (cI, 20, .inl a_parents))]) (poI dC dI .int rr [(h0, .inr (2, [.ref q_parents, .ref q_addresses, .ref q_depths, .int v_count])), (q_parents, .inl (cI, 20, .inl a_parents))] (va_A [(h0, .inr (2, [.ref q_parents, .ref q_addresses, .ref q_depths, .int v_count])), (q_parents, .inl (cI, 20, .inl a_parents))] sz)) 0 0 (va_A [(h0, .inr (2, [.ref q_parents, .ref q_addresses, .ref q_depths, .int v_count])), (q_parents, .inl (cI, 20, .inl a_parents))] sz) := by
  refine ofX (cc := cX2_parentOf) (maxL := 2) (ret := (some .int)) (lv0 := [(0, .ref h0), (1, .int p1)]) (QA := fun A => poI dC dI .int rr [(h0, .inr (2, [.ref q_parents, .ref q_addresses, .ref q_depths, .int v_count])), (q_parents, .inl (cI, 20, .inl a_parents))] A) (by decide) rfl (Nat.le_of_ble_eq_true rfl) rfl ?_
  intro p e s m below meth c A ls H locs hx hb hr hml hown hts hlocks hin hK hN hA hP hD hS hl
  have hown : s.vm.findClass RX2 = some m.cls := hown
  unfold fX2_parentOf at h
  have hiX2 : ∀ w ∈ u_ws RX2 TX2 4, w ∈ wsX2_parentOf := fun _ h => List.mem_cons_of_mem _ (List.mem_append_right _ h)
  have hf9 := (hts (.fieldLink RX2 9 "PacketTraceback$Network" "parents" "[I") (List.mem_of_getElem? (i := 1) (by decide +kernel)))
  refine lv_aload_n hx hb dX2_parentOf_0 rfl (lv_at hl 0 rfl) ?_
  refine lv_iload_n hx hb dX2_parentOf_1 rfl (lv_at hl 1 rfl) ?_
  obtain ⟨r1, h1, h⟩ := bd1_e h
  refine ca_Vi (wc := [(h0, .inr (2, [.ref q_parents, .ref q_addresses, .ref q_depths, .int v_count]))]) (wr := [(q_parents, .inl (cI, 20, .inl a_parents))]) (w1 := [(h0, .inr (2, [.ref q_parents, .ref q_addresses, .ref q_depths, .int v_count]))]) [.int p1] [] [0] [1] hx hb hml hown hts (mX2_has l dC dI cI H.size h0 q_parents q_addresses q_depths v_count p1 h1) (cwV 1 hts gX2_parentOf_X2_has rfl rfl rfl (by decide +kernel) ⟨Nat.le_of_ble_eq_true rfl, Nat.le_of_ble_eq_true rfl⟩) hK hN hP hD hS hA rfl rfl (by decide) (by decide) (by decide) rfl rfl rfl hl.1 rfl (Nat.le_of_ble_eq_true rfl) dX2_parentOf_2 ⟨Nat.zero_le _, Nat.zero_le _⟩ (fun H locs hP hD hS hz1 => ?_)
  have hP : va_P (dC, dI) vwCl [(q_parents, .inl (cI, 20, .inl a_parents)), (h0, .inr (2, [.ref q_parents, .ref q_addresses, .ref q_depths, .int v_count]))] H := hP
  have hD : va_D A [(q_parents, .inl (cI, 20, .inl a_parents)), (h0, .inr (2, [.ref q_parents, .ref q_addresses, .ref q_depths, .int v_count]))] := hD
  refine lv_if_eq (tgt := 17) hx hb dX2_parentOf_5 (by decide) (fun c2 => ?_) (fun c2 => ?_)
  · have h := it_p c2 h
    refine lv_iconst (v := (-1 : Int32)) hx hb dX2_parentOf_17 (by decide) ?_
    have hk0 := Option.some.inj h
    cases hk0
    exact re_i [1, 0] hx hb hr hlocks rfl hP hD hS rfl (by decide) rfl dX2_parentOf_18
  · have h := it_n c2 h
    refine lv_aload_n hx hb dX2_parentOf_8 rfl (lv_at hl 0 rfl) ?_
    refine va_get (D := (dC, dI)) (ci := 2) (v := .ref q_parents) (C := RX2) (T := TX2) (N := 4) hx hb hts hiX2 hown hK hP 1 rfl rfl 0 (by decide) hf9 (fun _ h9 => h9) rfl dX2_parentOf_9 ?_
    refine lv_iload_n hx hb dX2_parentOf_12 rfl (lv_at hl 1 rfl) ?_
    obtain ⟨g3, h⟩ := gd_e h
    refine va_iald hx hb hK hP 0 0 rfl rfl g3 dX2_parentOf_13 ?_
    refine lv_goto (tgt := 18) hx hb dX2_parentOf_14 (by decide) ?_
    have hk0 := Option.some.inj h
    cases hk0
    exact re_i [1, 0] hx hb hr hlocks rfl hP hD hS rfl (by decide) rfl dX2_parentOf_18
def fX2_addressOf (p1 : Int32) (v_count : Int32) (a_addresses : Nat → Int32) : Option (Int32) :=
  bd1 (fX2_has p1 v_count) fun r1 =>
  if r1 = 0 then
    some (0 : Int32)
  else
    if ¬ (p1 < 0 ∨ 20 ≤ p1.toNatClampNeg) then
      some (a_addresses p1.toNatClampNeg)
    else none
set_option maxHeartbeats 4000000 in
set_option maxRecDepth 100000 in
theorem mX2_addressOf (l : Launch) (dC : Nat → ClassId) (dI : Nat → Nat → Nat) (cI : ClassId) (sz : Nat) (h0 : Nat) (q_parents : Nat) (q_addresses : Nat) (q_depths : Nat) (v_count : Int32) (a_addresses : Nat → Int32) (p1 : Int32) {rr : Int32} (h : fX2_addressOf p1 v_count a_addresses = some rr) : Met l yX2_addressOf wsX2_addressOf ({ frames := 2, cells := 0, slots := 0, locals := 42 } : Room) (prX dC dI cI [.ref h0, .int p1] sz [(h0, .inr (2, [.ref q_parents, .ref q_addresses, .ref q_depths, .int v_count])), (q_addresses, .inl (cI, 20, .inl a_addresses))]) (poI dC dI .int rr [(h0, .inr (2, [.ref q_parents, .ref q_addresses, .ref q_depths, .int v_count])), (q_addresses, .inl (cI, 20, .inl a_addresses))] (va_A [(h0, .inr (2, [.ref q_parents, .ref q_addresses, .ref q_depths, .int v_count])), (q_addresses, .inl (cI, 20, .inl a_addresses))] sz)) 0 0 (va_A [(h0, .inr (2, [.ref q_parents, .ref q_addresses, .ref q_depths, .int v_count])), (q_addresses, .inl (cI, 20, .inl a_addresses))] sz) := by
  refine ofX (cc := cX2_addressOf) (maxL := 2) (ret := (some .int)) (lv0 := [(0, .ref h0), (1, .int p1)]) (QA := fun A => poI dC dI .int rr [(h0, .inr (2, [.ref q_parents, .ref q_addresses, .ref q_depths, .int v_count])), (q_addresses, .inl (cI, 20, .inl a_addresses))] A) (by decide) rfl (Nat.le_of_ble_eq_true rfl) rfl ?_
  intro p e s m below meth c A ls H locs hx hb hr hml hown hts hlocks hin hK hN hA hP hD hS hl
  have hown : s.vm.findClass RX2 = some m.cls := hown
  unfold fX2_addressOf at h
  have hiX2 : ∀ w ∈ u_ws RX2 TX2 4, w ∈ wsX2_addressOf := fun _ h => List.mem_cons_of_mem _ (List.mem_append_right _ h)
  have hf15 := (hts (.fieldLink RX2 15 "PacketTraceback$Network" "addresses" "[I") (List.mem_of_getElem? (i := 1) (by decide +kernel)))
  refine lv_aload_n hx hb dX2_addressOf_0 rfl (lv_at hl 0 rfl) ?_
  refine lv_iload_n hx hb dX2_addressOf_1 rfl (lv_at hl 1 rfl) ?_
  obtain ⟨r1, h1, h⟩ := bd1_e h
  refine ca_Vi (wc := [(h0, .inr (2, [.ref q_parents, .ref q_addresses, .ref q_depths, .int v_count]))]) (wr := [(q_addresses, .inl (cI, 20, .inl a_addresses))]) (w1 := [(h0, .inr (2, [.ref q_parents, .ref q_addresses, .ref q_depths, .int v_count]))]) [.int p1] [] [0] [1] hx hb hml hown hts (mX2_has l dC dI cI H.size h0 q_parents q_addresses q_depths v_count p1 h1) (cwV 1 hts gX2_addressOf_X2_has rfl rfl rfl (by decide +kernel) ⟨Nat.le_of_ble_eq_true rfl, Nat.le_of_ble_eq_true rfl⟩) hK hN hP hD hS hA rfl rfl (by decide) (by decide) (by decide) rfl rfl rfl hl.1 rfl (Nat.le_of_ble_eq_true rfl) dX2_addressOf_2 ⟨Nat.zero_le _, Nat.zero_le _⟩ (fun H locs hP hD hS hz1 => ?_)
  have hP : va_P (dC, dI) vwCl [(q_addresses, .inl (cI, 20, .inl a_addresses)), (h0, .inr (2, [.ref q_parents, .ref q_addresses, .ref q_depths, .int v_count]))] H := hP
  have hD : va_D A [(q_addresses, .inl (cI, 20, .inl a_addresses)), (h0, .inr (2, [.ref q_parents, .ref q_addresses, .ref q_depths, .int v_count]))] := hD
  refine lv_if_eq (tgt := 17) hx hb dX2_addressOf_5 (by decide) (fun c2 => ?_) (fun c2 => ?_)
  · have h := it_p c2 h
    refine lv_iconst (v := (0 : Int32)) hx hb dX2_addressOf_17 (by decide) ?_
    have hk0 := Option.some.inj h
    cases hk0
    exact re_i [1, 0] hx hb hr hlocks rfl hP hD hS rfl (by decide) rfl dX2_addressOf_18
  · have h := it_n c2 h
    refine lv_aload_n hx hb dX2_addressOf_8 rfl (lv_at hl 0 rfl) ?_
    refine va_get (D := (dC, dI)) (ci := 2) (v := .ref q_addresses) (C := RX2) (T := TX2) (N := 4) hx hb hts hiX2 hown hK hP 1 rfl rfl 1 (by decide) hf15 (fun _ h9 => h9) rfl dX2_addressOf_9 ?_
    refine lv_iload_n hx hb dX2_addressOf_12 rfl (lv_at hl 1 rfl) ?_
    obtain ⟨g3, h⟩ := gd_e h
    refine va_iald hx hb hK hP 0 0 rfl rfl g3 dX2_addressOf_13 ?_
    refine lv_goto (tgt := 18) hx hb dX2_addressOf_14 (by decide) ?_
    have hk0 := Option.some.inj h
    cases hk0
    exact re_i [1, 0] hx hb hr hlocks rfl hP hD hS rfl (by decide) rfl dX2_addressOf_18
def fX5_digestOf (p0 : Int32) : Option (Int32) :=
  some (((((p0 * (167 : Int32)) + (29 : Int32)) >>> ((3 : Int32) &&& 31)) ^^^ p0) &&& (255 : Int32))
set_option maxHeartbeats 4000000 in
set_option maxRecDepth 100000 in
theorem mX5_digestOf (l : Launch) (dC : Nat → ClassId) (dI : Nat → Nat → Nat) (cI : ClassId) (sz : Nat) (p0 : Int32) {rr : Int32} (h : fX5_digestOf p0 = some rr) : Met l yX5_digestOf wsX5_digestOf ({ frames := 0, cells := 0, slots := 0, locals := 0 } : Room) (prX dC dI cI [.int p0] sz []) (poI dC dI .int rr [] (va_A [] sz)) 0 0 (va_A [] sz) := by
  refine ofX (cc := cX5_digestOf) (maxL := 1) (ret := (some .int)) (lv0 := [(0, .int p0)]) (QA := fun A => poI dC dI .int rr [] A) (by decide) rfl (Nat.le_of_ble_eq_true rfl) rfl ?_
  intro p e s m below meth c A ls H locs hx hb hr hml hown hts hlocks hin hK hN hA hP hD hS hl
  have hown : s.vm.findClass RX5 = some m.cls := hown
  unfold fX5_digestOf at h
  refine lv_iload_n hx hb dX5_digestOf_0 rfl (lv_at hl 0 rfl) ?_
  refine lv_sipush (v := (167 : Int32)) hx hb dX5_digestOf_1 (by decide) ?_
  refine lv_imul hx hb dX5_digestOf_4 ?_
  refine lv_bipush (v := (29 : Int32)) hx hb dX5_digestOf_5 (by decide) ?_
  refine lv_iadd hx hb dX5_digestOf_7 ?_
  refine lv_iconst (v := (3 : Int32)) hx hb dX5_digestOf_8 (by decide) ?_
  refine lv_ishr hx hb dX5_digestOf_9 ?_
  refine lv_iload_n hx hb dX5_digestOf_10 rfl (lv_at hl 0 rfl) ?_
  refine lv_ixor hx hb dX5_digestOf_11 ?_
  refine lv_sipush (v := (255 : Int32)) hx hb dX5_digestOf_12 (by decide) ?_
  refine lv_iand hx hb dX5_digestOf_15 ?_
  have hk0 := Option.some.inj h
  cases hk0
  exact re_i [] hx hb hr hlocks rfl hP hD hS rfl (by decide) rfl dX5_digestOf_16
def fX5_wordOf (p0 : Int32) : Option (Int32) :=
  bd1 (fX5_digestOf p0) fun r1 =>
  some ((p0 * (256 : Int32)) + r1)
set_option maxHeartbeats 4000000 in
set_option maxRecDepth 100000 in
theorem mX5_wordOf (l : Launch) (dC : Nat → ClassId) (dI : Nat → Nat → Nat) (cI : ClassId) (sz : Nat) (p0 : Int32) {rr : Int32} (h : fX5_wordOf p0 = some rr) : Met l yX5_wordOf wsX5_wordOf ({ frames := 1, cells := 0, slots := 0, locals := 20 } : Room) (prX dC dI cI [.int p0] sz []) (poI dC dI .int rr [] (va_A [] sz)) 0 0 (va_A [] sz) := by
  refine ofX (cc := cX5_wordOf) (maxL := 1) (ret := (some .int)) (lv0 := [(0, .int p0)]) (QA := fun A => poI dC dI .int rr [] A) (by decide) rfl (Nat.le_of_ble_eq_true rfl) rfl ?_
  intro p e s m below meth c A ls H locs hx hb hr hml hown hts hlocks hin hK hN hA hP hD hS hl
  have hown : s.vm.findClass RX5 = some m.cls := hown
  unfold fX5_wordOf at h
  refine lv_iload_n hx hb dX5_wordOf_0 rfl (lv_at hl 0 rfl) ?_
  refine lv_sipush (v := (256 : Int32)) hx hb dX5_wordOf_1 (by decide) ?_
  refine lv_imul hx hb dX5_wordOf_4 ?_
  refine lv_iload_n hx hb dX5_wordOf_5 rfl (lv_at hl 0 rfl) ?_
  obtain ⟨r1, h1, h⟩ := bd1_e h
  refine ca_Si (wc := []) (wr := []) (w1 := []) [.int p0] [.int (p0 * (256 : Int32))] [] [] hx hb hml hown hts (mX5_digestOf l dC dI cI H.size p0 h1) (va_cwS 1 hts gX5_wordOf_X5_digestOf rfl rfl rfl (by decide +kernel) ⟨Nat.le_of_ble_eq_true rfl, Nat.le_of_ble_eq_true rfl⟩) hK hN hP hD hS hA rfl rfl (by decide) (by decide) (by decide) rfl hl.1 rfl (Nat.le_of_ble_eq_true rfl) dX5_wordOf_6 ⟨Nat.zero_le _, Nat.zero_le _⟩ (fun H locs hP hD hS hz1 => ?_)
  have hP : va_P (dC, dI) vwCl [] H := hP
  have hD : va_D A [] := hD
  refine lv_iadd hx hb dX5_wordOf_9 ?_
  have hk0 := Option.some.inj h
  cases hk0
  exact re_i [] hx hb hr hlocks rfl hP hD hS rfl (by decide) rfl dX5_wordOf_10
def fX2_wordAt (p1 : Int32) (v_count : Int32) (a_addresses : Nat → Int32) : Option (Int32) :=
  bd1 (fX2_addressOf p1 v_count a_addresses) fun r1 =>
  bd1 (fX5_wordOf r1) fun r2 =>
  some r2
set_option maxHeartbeats 4000000 in
set_option maxRecDepth 100000 in
theorem mX2_wordAt (l : Launch) (dC : Nat → ClassId) (dI : Nat → Nat → Nat) (cI : ClassId) (sz : Nat) (h0 : Nat) (q_parents : Nat) (q_addresses : Nat) (q_depths : Nat) (v_count : Int32) (a_addresses : Nat → Int32) (p1 : Int32) {rr : Int32} (h : fX2_wordAt p1 v_count a_addresses = some rr) : Met l yX2_wordAt wsX2_wordAt ({ frames := 3, cells := 0, slots := 0, locals := 63 } : Room) (prX dC dI cI [.ref h0, .int p1] sz [(h0, .inr (2, [.ref q_parents, .ref q_addresses, .ref q_depths, .int v_count])), (q_addresses, .inl (cI, 20, .inl a_addresses))]) (poI dC dI .int rr [(h0, .inr (2, [.ref q_parents, .ref q_addresses, .ref q_depths, .int v_count])), (q_addresses, .inl (cI, 20, .inl a_addresses))] (va_A [(h0, .inr (2, [.ref q_parents, .ref q_addresses, .ref q_depths, .int v_count])), (q_addresses, .inl (cI, 20, .inl a_addresses))] sz)) 0 0 (va_A [(h0, .inr (2, [.ref q_parents, .ref q_addresses, .ref q_depths, .int v_count])), (q_addresses, .inl (cI, 20, .inl a_addresses))] sz) := by
  refine ofX (cc := cX2_wordAt) (maxL := 2) (ret := (some .int)) (lv0 := [(0, .ref h0), (1, .int p1)]) (QA := fun A => poI dC dI .int rr [(h0, .inr (2, [.ref q_parents, .ref q_addresses, .ref q_depths, .int v_count])), (q_addresses, .inl (cI, 20, .inl a_addresses))] A) (by decide) rfl (Nat.le_of_ble_eq_true rfl) rfl ?_
  intro p e s m below meth c A ls H locs hx hb hr hml hown hts hlocks hin hK hN hA hP hD hS hl
  have hown : s.vm.findClass RX2 = some m.cls := hown
  unfold fX2_wordAt at h
  refine lv_aload_n hx hb dX2_wordAt_0 rfl (lv_at hl 0 rfl) ?_
  refine lv_iload_n hx hb dX2_wordAt_1 rfl (lv_at hl 1 rfl) ?_
  obtain ⟨r1, h1, h⟩ := bd1_e h
  refine ca_Vi (wc := [(h0, .inr (2, [.ref q_parents, .ref q_addresses, .ref q_depths, .int v_count])), (q_addresses, .inl (cI, 20, .inl a_addresses))]) (wr := []) (w1 := [(h0, .inr (2, [.ref q_parents, .ref q_addresses, .ref q_depths, .int v_count])), (q_addresses, .inl (cI, 20, .inl a_addresses))]) [.int p1] [] [0, 1] [] hx hb hml hown hts (mX2_addressOf l dC dI cI H.size h0 q_parents q_addresses q_depths v_count a_addresses p1 h1) (cwV 1 hts gX2_wordAt_X2_addressOf rfl rfl rfl (by decide +kernel) ⟨Nat.le_of_ble_eq_true rfl, Nat.le_of_ble_eq_true rfl⟩) hK hN hP hD hS hA rfl rfl (by decide) (by decide) (by decide) rfl rfl rfl hl.1 rfl (Nat.le_of_ble_eq_true rfl) dX2_wordAt_2 ⟨Nat.zero_le _, Nat.zero_le _⟩ (fun H locs hP hD hS hz1 => ?_)
  have hP : va_P (dC, dI) vwCl [(h0, .inr (2, [.ref q_parents, .ref q_addresses, .ref q_depths, .int v_count])), (q_addresses, .inl (cI, 20, .inl a_addresses))] H := hP
  have hD : va_D A [(h0, .inr (2, [.ref q_parents, .ref q_addresses, .ref q_depths, .int v_count])), (q_addresses, .inl (cI, 20, .inl a_addresses))] := hD
  obtain ⟨r2, h2, h⟩ := bd1_e h
  refine ca_Ni (wc := []) (wr := [(h0, .inr (2, [.ref q_parents, .ref q_addresses, .ref q_depths, .int v_count])), (q_addresses, .inl (cI, 20, .inl a_addresses))]) (w1 := []) [.int r1] [] [] [0, 1] hx hb hml hown hts (mX5_wordOf l dC dI cI H.size r1 h2) ⟨va_cnB 1 hts gX2_wordAt_X5_wordOf_n40 rfl rfl rfl hN.2.2.1 (hts (.initialized RX5) (List.mem_of_getElem? (i := 13) (by decide +kernel))) (by decide +kernel) ⟨Nat.le_of_ble_eq_true rfl, Nat.le_of_ble_eq_true rfl⟩, (hts (.static yX5_wordOf) (List.mem_of_getElem? (i := 15) (by decide +kernel))), trivial⟩ hK hN hP hD hS hA rfl rfl (by decide) (by decide) (by decide) rfl hl.1 rfl (Nat.le_of_ble_eq_true rfl) dX2_wordAt_5 ⟨Nat.zero_le _, Nat.zero_le _⟩ (fun H locs hP hD hS hz2 => ?_)
  have hP : va_P (dC, dI) vwCl [(h0, .inr (2, [.ref q_parents, .ref q_addresses, .ref q_depths, .int v_count])), (q_addresses, .inl (cI, 20, .inl a_addresses))] H := hP
  have hD : va_D A [(h0, .inr (2, [.ref q_parents, .ref q_addresses, .ref q_depths, .int v_count])), (q_addresses, .inl (cI, 20, .inl a_addresses))] := hD
  have hk0 := Option.some.inj h
  cases hk0
  exact re_i [0, 1] hx hb hr hlocks rfl hP hD hS rfl (by decide) rfl dX2_wordAt_8
def fX2_trueMarksOf (p1 : Int32) (v_count : Int32) (a_parents : Nat → Int32) (a_addresses : Nat → Int32) : Option (Int32) :=
  bd1 (fX2_parentOf p1 v_count a_parents) fun r1 =>
  bd1 (fX2_has r1 v_count) fun r2 =>
  if r2 = 0 then
    bd1 (fX2_wordAt p1 v_count a_addresses) fun r4 =>
    some r4
  else
    bd1 (fX2_wordAt p1 v_count a_addresses) fun r5 =>
    bd1 (fX2_wordAt r1 v_count a_addresses) fun r6 =>
    some (r5 ^^^ r6)
set_option maxHeartbeats 4000000 in
set_option maxRecDepth 100000 in
theorem mX2_trueMarksOf (l : Launch) (dC : Nat → ClassId) (dI : Nat → Nat → Nat) (cI : ClassId) (sz : Nat) (h0 : Nat) (q_parents : Nat) (q_addresses : Nat) (q_depths : Nat) (v_count : Int32) (a_parents : Nat → Int32) (a_addresses : Nat → Int32) (p1 : Int32) {rr : Int32} (h : fX2_trueMarksOf p1 v_count a_parents a_addresses = some rr) : Met l yX2_trueMarksOf wsX2_trueMarksOf ({ frames := 4, cells := 0, slots := 0, locals := 84 } : Room) (prX dC dI cI [.ref h0, .int p1] sz [(h0, .inr (2, [.ref q_parents, .ref q_addresses, .ref q_depths, .int v_count])), (q_parents, .inl (cI, 20, .inl a_parents)), (q_addresses, .inl (cI, 20, .inl a_addresses))]) (poI dC dI .int rr [(h0, .inr (2, [.ref q_parents, .ref q_addresses, .ref q_depths, .int v_count])), (q_parents, .inl (cI, 20, .inl a_parents)), (q_addresses, .inl (cI, 20, .inl a_addresses))] (va_A [(h0, .inr (2, [.ref q_parents, .ref q_addresses, .ref q_depths, .int v_count])), (q_parents, .inl (cI, 20, .inl a_parents)), (q_addresses, .inl (cI, 20, .inl a_addresses))] sz)) 0 0 (va_A [(h0, .inr (2, [.ref q_parents, .ref q_addresses, .ref q_depths, .int v_count])), (q_parents, .inl (cI, 20, .inl a_parents)), (q_addresses, .inl (cI, 20, .inl a_addresses))] sz) := by
  refine ofX (cc := cX2_trueMarksOf) (maxL := 3) (ret := (some .int)) (lv0 := [(0, .ref h0), (1, .int p1)]) (QA := fun A => poI dC dI .int rr [(h0, .inr (2, [.ref q_parents, .ref q_addresses, .ref q_depths, .int v_count])), (q_parents, .inl (cI, 20, .inl a_parents)), (q_addresses, .inl (cI, 20, .inl a_addresses))] A) (by decide) rfl (Nat.le_of_ble_eq_true rfl) rfl ?_
  intro p e s m below meth c A ls H locs hx hb hr hml hown hts hlocks hin hK hN hA hP hD hS hl
  have hown : s.vm.findClass RX2 = some m.cls := hown
  unfold fX2_trueMarksOf at h
  refine lv_aload_n hx hb dX2_trueMarksOf_0 rfl (lv_at hl 0 rfl) ?_
  refine lv_iload_n hx hb dX2_trueMarksOf_1 rfl (lv_at hl 1 rfl) ?_
  obtain ⟨r1, h1, h⟩ := bd1_e h
  refine ca_Vi (wc := [(h0, .inr (2, [.ref q_parents, .ref q_addresses, .ref q_depths, .int v_count])), (q_parents, .inl (cI, 20, .inl a_parents))]) (wr := [(q_addresses, .inl (cI, 20, .inl a_addresses))]) (w1 := [(h0, .inr (2, [.ref q_parents, .ref q_addresses, .ref q_depths, .int v_count])), (q_parents, .inl (cI, 20, .inl a_parents))]) [.int p1] [] [0, 1] [2] hx hb hml hown hts (mX2_parentOf l dC dI cI H.size h0 q_parents q_addresses q_depths v_count a_parents p1 h1) (cwV 1 hts gX2_trueMarksOf_X2_parentOf rfl rfl rfl (by decide +kernel) ⟨Nat.le_of_ble_eq_true rfl, Nat.le_of_ble_eq_true rfl⟩) hK hN hP hD hS hA rfl rfl (by decide) (by decide) (by decide) rfl rfl rfl hl.1 rfl (Nat.le_of_ble_eq_true rfl) dX2_trueMarksOf_2 ⟨Nat.zero_le _, Nat.zero_le _⟩ (fun H locs hP hD hS hz1 => ?_)
  have hP : va_P (dC, dI) vwCl [(q_addresses, .inl (cI, 20, .inl a_addresses)), (h0, .inr (2, [.ref q_parents, .ref q_addresses, .ref q_depths, .int v_count])), (q_parents, .inl (cI, 20, .inl a_parents))] H := hP
  have hD : va_D A [(q_addresses, .inl (cI, 20, .inl a_addresses)), (h0, .inr (2, [.ref q_parents, .ref q_addresses, .ref q_depths, .int v_count])), (q_parents, .inl (cI, 20, .inl a_parents))] := hD
  refine lv_istore_n (lv' := [(2, .int r1), (0, .ref h0), (1, .int p1)]) hx hb dX2_trueMarksOf_5 rfl hl (by decide) rfl (fun ls hl => ?_)
  refine lv_aload_n hx hb dX2_trueMarksOf_6 rfl (lv_at hl 1 rfl) ?_
  refine lv_iload_n hx hb dX2_trueMarksOf_7 rfl (lv_at hl 0 rfl) ?_
  obtain ⟨r2, h2, h⟩ := bd1_e h
  refine ca_Vi (wc := [(h0, .inr (2, [.ref q_parents, .ref q_addresses, .ref q_depths, .int v_count]))]) (wr := [(q_addresses, .inl (cI, 20, .inl a_addresses)), (q_parents, .inl (cI, 20, .inl a_parents))]) (w1 := [(h0, .inr (2, [.ref q_parents, .ref q_addresses, .ref q_depths, .int v_count]))]) [.int r1] [] [1] [0, 2] hx hb hml hown hts (mX2_has l dC dI cI H.size h0 q_parents q_addresses q_depths v_count r1 h2) (cwV 1 hts gX2_trueMarksOf_X2_has rfl rfl rfl (by decide +kernel) ⟨Nat.le_of_ble_eq_true rfl, Nat.le_of_ble_eq_true rfl⟩) hK hN hP hD hS hA rfl rfl (by decide) (by decide) (by decide) rfl rfl rfl hl.1 rfl (Nat.le_of_ble_eq_true rfl) dX2_trueMarksOf_8 ⟨Nat.zero_le _, Nat.zero_le _⟩ (fun H locs hP hD hS hz2 => ?_)
  have hP : va_P (dC, dI) vwCl [(q_addresses, .inl (cI, 20, .inl a_addresses)), (q_parents, .inl (cI, 20, .inl a_parents)), (h0, .inr (2, [.ref q_parents, .ref q_addresses, .ref q_depths, .int v_count]))] H := hP
  have hD : va_D A [(q_addresses, .inl (cI, 20, .inl a_addresses)), (q_parents, .inl (cI, 20, .inl a_parents)), (h0, .inr (2, [.ref q_parents, .ref q_addresses, .ref q_depths, .int v_count]))] := hD
  refine lv_if_eq (tgt := 28) hx hb dX2_trueMarksOf_11 (by decide) (fun c3 => ?_) (fun c3 => ?_)
  · have h := it_p c3 h
    refine lv_aload_n hx hb dX2_trueMarksOf_28 rfl (lv_at hl 1 rfl) ?_
    refine lv_iload_n hx hb dX2_trueMarksOf_29 rfl (lv_at hl 2 rfl) ?_
    obtain ⟨r4, h4, h⟩ := bd1_e h
    refine ca_Vi (wc := [(h0, .inr (2, [.ref q_parents, .ref q_addresses, .ref q_depths, .int v_count])), (q_addresses, .inl (cI, 20, .inl a_addresses))]) (wr := [(q_parents, .inl (cI, 20, .inl a_parents))]) (w1 := [(h0, .inr (2, [.ref q_parents, .ref q_addresses, .ref q_depths, .int v_count])), (q_addresses, .inl (cI, 20, .inl a_addresses))]) [.int p1] [] [2, 0] [1] hx hb hml hown hts (mX2_wordAt l dC dI cI H.size h0 q_parents q_addresses q_depths v_count a_addresses p1 h4) (cwV 1 hts gX2_trueMarksOf_X2_wordAt rfl rfl rfl (by decide +kernel) ⟨Nat.le_of_ble_eq_true rfl, Nat.le_of_ble_eq_true rfl⟩) hK hN hP hD hS hA rfl rfl (by decide) (by decide) (by decide) rfl rfl rfl hl.1 rfl (Nat.le_of_ble_eq_true rfl) dX2_trueMarksOf_30 ⟨Nat.zero_le _, Nat.zero_le _⟩ (fun H locs hP hD hS hz4 => ?_)
    have hP : va_P (dC, dI) vwCl [(q_parents, .inl (cI, 20, .inl a_parents)), (h0, .inr (2, [.ref q_parents, .ref q_addresses, .ref q_depths, .int v_count])), (q_addresses, .inl (cI, 20, .inl a_addresses))] H := hP
    have hD : va_D A [(q_parents, .inl (cI, 20, .inl a_parents)), (h0, .inr (2, [.ref q_parents, .ref q_addresses, .ref q_depths, .int v_count])), (q_addresses, .inl (cI, 20, .inl a_addresses))] := hD
    have hk0 := Option.some.inj h
    cases hk0
    exact re_i [1, 0, 2] hx hb hr hlocks rfl hP hD hS rfl (by decide) rfl dX2_trueMarksOf_33
  · have h := it_n c3 h
    refine lv_aload_n hx hb dX2_trueMarksOf_14 rfl (lv_at hl 1 rfl) ?_
    refine lv_iload_n hx hb dX2_trueMarksOf_15 rfl (lv_at hl 2 rfl) ?_
    obtain ⟨r5, h5, h⟩ := bd1_e h
    refine ca_Vi (wc := [(h0, .inr (2, [.ref q_parents, .ref q_addresses, .ref q_depths, .int v_count])), (q_addresses, .inl (cI, 20, .inl a_addresses))]) (wr := [(q_parents, .inl (cI, 20, .inl a_parents))]) (w1 := [(h0, .inr (2, [.ref q_parents, .ref q_addresses, .ref q_depths, .int v_count])), (q_addresses, .inl (cI, 20, .inl a_addresses))]) [.int p1] [] [2, 0] [1] hx hb hml hown hts (mX2_wordAt l dC dI cI H.size h0 q_parents q_addresses q_depths v_count a_addresses p1 h5) (cwV 1 hts gX2_trueMarksOf_X2_wordAt rfl rfl rfl (by decide +kernel) ⟨Nat.le_of_ble_eq_true rfl, Nat.le_of_ble_eq_true rfl⟩) hK hN hP hD hS hA rfl rfl (by decide) (by decide) (by decide) rfl rfl rfl hl.1 rfl (Nat.le_of_ble_eq_true rfl) dX2_trueMarksOf_16 ⟨Nat.zero_le _, Nat.zero_le _⟩ (fun H locs hP hD hS hz5 => ?_)
    have hP : va_P (dC, dI) vwCl [(q_parents, .inl (cI, 20, .inl a_parents)), (h0, .inr (2, [.ref q_parents, .ref q_addresses, .ref q_depths, .int v_count])), (q_addresses, .inl (cI, 20, .inl a_addresses))] H := hP
    have hD : va_D A [(q_parents, .inl (cI, 20, .inl a_parents)), (h0, .inr (2, [.ref q_parents, .ref q_addresses, .ref q_depths, .int v_count])), (q_addresses, .inl (cI, 20, .inl a_addresses))] := hD
    refine lv_aload_n hx hb dX2_trueMarksOf_19 rfl (lv_at hl 1 rfl) ?_
    refine lv_iload_n hx hb dX2_trueMarksOf_20 rfl (lv_at hl 0 rfl) ?_
    obtain ⟨r6, h6, h⟩ := bd1_e h
    refine ca_Vi (wc := [(h0, .inr (2, [.ref q_parents, .ref q_addresses, .ref q_depths, .int v_count])), (q_addresses, .inl (cI, 20, .inl a_addresses))]) (wr := [(q_parents, .inl (cI, 20, .inl a_parents))]) (w1 := [(h0, .inr (2, [.ref q_parents, .ref q_addresses, .ref q_depths, .int v_count])), (q_addresses, .inl (cI, 20, .inl a_addresses))]) [.int r1] [.int r5] [1, 2] [0] hx hb hml hown hts (mX2_wordAt l dC dI cI H.size h0 q_parents q_addresses q_depths v_count a_addresses r1 h6) (cwV 1 hts gX2_trueMarksOf_X2_wordAt rfl rfl rfl (by decide +kernel) ⟨Nat.le_of_ble_eq_true rfl, Nat.le_of_ble_eq_true rfl⟩) hK hN hP hD hS hA rfl rfl (by decide) (by decide) (by decide) rfl rfl rfl hl.1 rfl (Nat.le_of_ble_eq_true rfl) dX2_trueMarksOf_21 ⟨Nat.zero_le _, Nat.zero_le _⟩ (fun H locs hP hD hS hz6 => ?_)
    have hP : va_P (dC, dI) vwCl [(q_parents, .inl (cI, 20, .inl a_parents)), (h0, .inr (2, [.ref q_parents, .ref q_addresses, .ref q_depths, .int v_count])), (q_addresses, .inl (cI, 20, .inl a_addresses))] H := hP
    have hD : va_D A [(q_parents, .inl (cI, 20, .inl a_parents)), (h0, .inr (2, [.ref q_parents, .ref q_addresses, .ref q_depths, .int v_count])), (q_addresses, .inl (cI, 20, .inl a_addresses))] := hD
    refine lv_ixor hx hb dX2_trueMarksOf_24 ?_
    refine lv_goto (tgt := 33) hx hb dX2_trueMarksOf_25 (by decide) ?_
    have hk0 := Option.some.inj h
    cases hk0
    exact re_i [1, 0, 2] hx hb hr hlocks rfl hP hD hS rfl (by decide) rfl dX2_trueMarksOf_33
def fX3_clear  : Option (Int32) :=
  some (0 : Int32)
set_option maxHeartbeats 4000000 in
set_option maxRecDepth 100000 in
theorem mX3_clear (l : Launch) (dC : Nat → ClassId) (dI : Nat → Nat → Nat) (cI : ClassId) (sz : Nat) (h0 : Nat) (q_addresses : Nat) (q_distances : Nat) (q_parents : Nat) (v_count : Int32) {o_count : Int32} (h : fX3_clear = some o_count) : Met l yX3_clear wsX3_clear ({ frames := 0, cells := 0, slots := 0, locals := 0 } : Room) (prX dC dI cI [.ref h0] sz [(h0, .inr (3, [.ref q_addresses, .ref q_distances, .ref q_parents, .int v_count]))]) (poV dC dI [(h0, .inr (3, [.ref q_addresses, .ref q_distances, .ref q_parents, .int o_count]))] (va_A [(h0, .inr (3, [.ref q_addresses, .ref q_distances, .ref q_parents, .int v_count]))] sz)) 0 0 (va_A [(h0, .inr (3, [.ref q_addresses, .ref q_distances, .ref q_parents, .int v_count]))] sz) := by
  refine ofX (cc := cX3_clear) (maxL := 1) (ret := none) (lv0 := [(0, .ref h0)]) (QA := fun A => poV dC dI [(h0, .inr (3, [.ref q_addresses, .ref q_distances, .ref q_parents, .int o_count]))] A) (by decide) rfl (Nat.le_of_ble_eq_true rfl) rfl ?_
  intro p e s m below meth c A ls H locs hx hb hr hml hown hts hlocks hin hK hN hA hP hD hS hl
  have hown : s.vm.findClass RX3 = some m.cls := hown
  unfold fX3_clear at h
  have hiX3 : ∀ w ∈ u_ws RX3 TX3 4, w ∈ wsX3_clear := fun _ h => List.mem_cons_of_mem _ (List.mem_append_right _ h)
  have hf21 := (hts (.fieldLink RX3 21 "PacketTraceback$NodeTable" "count" "I") (List.mem_of_getElem? (i := 1) (by decide +kernel)))
  refine lv_aload_n hx hb dX3_clear_0 rfl (lv_at hl 0 rfl) ?_
  refine lv_iconst (v := (0 : Int32)) hx hb dX3_clear_1 (by decide) ?_
  refine va_put (D := (dC, dI)) (ci := 3) (v := .int (0 : Int32)) (ty := .int) (C := RX3) (T := TX3) (N := 4) hx hb hts hiX3 tyX3 tyX3_ok nmX3 hown hK hP hD hS 0 rfl rfl 3 (by decide) hf21 (fun _ h9 => h9) rfl (by decide +kernel) rfl rfl (Nat.le_of_ble_eq_true rfl) dX3_clear_2 (fun H locs hP hD hS => ?_)
  have hP : va_P (dC, dI) vwCl [(h0, .inr (3, [.ref q_addresses, .ref q_distances, .ref q_parents, .int (0 : Int32)]))] H := hP
  have hD : va_D A [(h0, .inr (3, [.ref q_addresses, .ref q_distances, .ref q_parents, .int (0 : Int32)]))] := hD
  have hk0 := Option.some.inj h
  cases hk0
  exact re_v [0] hx hb hr hlocks hP hD hS rfl (by decide) dX3_clear_5
def fX3_size (v_count : Int32) : Option (Int32) :=
  some v_count
set_option maxHeartbeats 4000000 in
set_option maxRecDepth 100000 in
theorem mX3_size (l : Launch) (dC : Nat → ClassId) (dI : Nat → Nat → Nat) (cI : ClassId) (sz : Nat) (h0 : Nat) (q_addresses : Nat) (q_distances : Nat) (q_parents : Nat) (v_count : Int32) {rr : Int32} (h : fX3_size v_count = some rr) : Met l yX3_size wsX3_size ({ frames := 0, cells := 0, slots := 0, locals := 0 } : Room) (prX dC dI cI [.ref h0] sz [(h0, .inr (3, [.ref q_addresses, .ref q_distances, .ref q_parents, .int v_count]))]) (poI dC dI .int rr [(h0, .inr (3, [.ref q_addresses, .ref q_distances, .ref q_parents, .int v_count]))] (va_A [(h0, .inr (3, [.ref q_addresses, .ref q_distances, .ref q_parents, .int v_count]))] sz)) 0 0 (va_A [(h0, .inr (3, [.ref q_addresses, .ref q_distances, .ref q_parents, .int v_count]))] sz) := by
  refine ofX (cc := cX3_size) (maxL := 1) (ret := (some .int)) (lv0 := [(0, .ref h0)]) (QA := fun A => poI dC dI .int rr [(h0, .inr (3, [.ref q_addresses, .ref q_distances, .ref q_parents, .int v_count]))] A) (by decide) rfl (Nat.le_of_ble_eq_true rfl) rfl ?_
  intro p e s m below meth c A ls H locs hx hb hr hml hown hts hlocks hin hK hN hA hP hD hS hl
  have hown : s.vm.findClass RX3 = some m.cls := hown
  unfold fX3_size at h
  have hiX3 : ∀ w ∈ u_ws RX3 TX3 4, w ∈ wsX3_size := fun _ h => List.mem_cons_of_mem _ (List.mem_append_right _ h)
  have hf21 := (hts (.fieldLink RX3 21 "PacketTraceback$NodeTable" "count" "I") (List.mem_of_getElem? (i := 1) (by decide +kernel)))
  refine lv_aload_n hx hb dX3_size_0 rfl (lv_at hl 0 rfl) ?_
  refine va_get (D := (dC, dI)) (ci := 3) (v := .int v_count) (C := RX3) (T := TX3) (N := 4) hx hb hts hiX3 hown hK hP 0 rfl rfl 3 (by decide) hf21 (fun _ h9 => h9) rfl dX3_size_1 ?_
  have hk0 := Option.some.inj h
  cases hk0
  exact re_i [0] hx hb hr hlocks rfl hP hD hS rfl (by decide) rfl dX3_size_4
def fX3_has (p1 : Int32) (v_count : Int32) : Option (Int32) :=
  bd1 (fX5_isBelow p1 v_count) fun r1 =>
  if r1 = 0 then
    some (0 : Int32)
  else
    bd1 (fX5_isBelow p1 (100 : Int32)) fun r3 =>
    if r3 = 0 then
      some (0 : Int32)
    else
      some (1 : Int32)
set_option maxHeartbeats 4000000 in
set_option maxRecDepth 100000 in
theorem mX3_has (l : Launch) (dC : Nat → ClassId) (dI : Nat → Nat → Nat) (cI : ClassId) (sz : Nat) (h0 : Nat) (q_addresses : Nat) (q_distances : Nat) (q_parents : Nat) (v_count : Int32) (p1 : Int32) {rr : Int32} (h : fX3_has p1 v_count = some rr) : Met l yX3_has wsX3_has ({ frames := 1, cells := 0, slots := 0, locals := 21 } : Room) (prX dC dI cI [.ref h0, .int p1] sz [(h0, .inr (3, [.ref q_addresses, .ref q_distances, .ref q_parents, .int v_count]))]) (poI dC dI .boolean rr [(h0, .inr (3, [.ref q_addresses, .ref q_distances, .ref q_parents, .int v_count]))] (va_A [(h0, .inr (3, [.ref q_addresses, .ref q_distances, .ref q_parents, .int v_count]))] sz)) 0 0 (va_A [(h0, .inr (3, [.ref q_addresses, .ref q_distances, .ref q_parents, .int v_count]))] sz) := by
  refine ofX (cc := cX3_has) (maxL := 2) (ret := (some .boolean)) (lv0 := [(0, .ref h0), (1, .int p1)]) (QA := fun A => poI dC dI .boolean rr [(h0, .inr (3, [.ref q_addresses, .ref q_distances, .ref q_parents, .int v_count]))] A) (by decide) rfl (Nat.le_of_ble_eq_true rfl) rfl ?_
  intro p e s m below meth c A ls H locs hx hb hr hml hown hts hlocks hin hK hN hA hP hD hS hl
  have hown : s.vm.findClass RX3 = some m.cls := hown
  unfold fX3_has at h
  have hiX3 : ∀ w ∈ u_ws RX3 TX3 4, w ∈ wsX3_has := fun _ h => List.mem_cons_of_mem _ (List.mem_append_right _ h)
  have hf21 := (hts (.fieldLink RX3 21 "PacketTraceback$NodeTable" "count" "I") (List.mem_of_getElem? (i := 1) (by decide +kernel)))
  refine lv_iload_n hx hb dX3_has_0 rfl (lv_at hl 1 rfl) ?_
  refine lv_aload_n hx hb dX3_has_1 rfl (lv_at hl 0 rfl) ?_
  refine va_get (D := (dC, dI)) (ci := 3) (v := .int v_count) (C := RX3) (T := TX3) (N := 4) hx hb hts hiX3 hown hK hP 0 rfl rfl 3 (by decide) hf21 (fun _ h9 => h9) rfl dX3_has_2 ?_
  obtain ⟨r1, h1, h⟩ := bd1_e h
  refine ca_Ni (wc := []) (wr := [(h0, .inr (3, [.ref q_addresses, .ref q_distances, .ref q_parents, .int v_count]))]) (w1 := []) [.int p1, .int v_count] [] [] [0] hx hb hml hown hts (mX5_isBelow l dC dI cI H.size p1 v_count h1) ⟨va_cnB 2 hts gX3_has_X5_isBelow_n25 rfl rfl rfl hN.2.2.2.1 (hts (.initialized RX5) (List.mem_of_getElem? (i := 3) (by decide +kernel))) (by decide +kernel) ⟨Nat.le_of_ble_eq_true rfl, Nat.le_of_ble_eq_true rfl⟩, (hts (.static yX5_isBelow) (List.mem_of_getElem? (i := 2) (by decide +kernel))), trivial⟩ hK hN hP hD hS hA rfl rfl (by decide) (by decide) (by decide) rfl hl.1 rfl (Nat.le_of_ble_eq_true rfl) dX3_has_5 ⟨Nat.zero_le _, Nat.zero_le _⟩ (fun H locs hP hD hS hz1 => ?_)
  have hP : va_P (dC, dI) vwCl [(h0, .inr (3, [.ref q_addresses, .ref q_distances, .ref q_parents, .int v_count]))] H := hP
  have hD : va_D A [(h0, .inr (3, [.ref q_addresses, .ref q_distances, .ref q_parents, .int v_count]))] := hD
  refine lv_if_eq (tgt := 24) hx hb dX3_has_8 (by decide) (fun c2 => ?_) (fun c2 => ?_)
  · have h := it_p c2 h
    refine lv_iconst (v := (0 : Int32)) hx hb dX3_has_24 (by decide) ?_
    have hk0 := Option.some.inj h
    cases hk0
    exact re_i [0] hx hb hr hlocks rfl hP hD hS rfl (by decide) rfl dX3_has_25
  · have h := it_n c2 h
    refine lv_iload_n hx hb dX3_has_11 rfl (lv_at hl 1 rfl) ?_
    refine lv_bipush (v := (100 : Int32)) hx hb dX3_has_12 (by decide) ?_
    obtain ⟨r3, h3, h⟩ := bd1_e h
    refine ca_Ni (wc := []) (wr := [(h0, .inr (3, [.ref q_addresses, .ref q_distances, .ref q_parents, .int v_count]))]) (w1 := []) [.int p1, .int (100 : Int32)] [] [] [0] hx hb hml hown hts (mX5_isBelow l dC dI cI H.size p1 (100 : Int32) h3) ⟨va_cnB 2 hts gX3_has_X5_isBelow_n25 rfl rfl rfl hN.2.2.2.1 (hts (.initialized RX5) (List.mem_of_getElem? (i := 3) (by decide +kernel))) (by decide +kernel) ⟨Nat.le_of_ble_eq_true rfl, Nat.le_of_ble_eq_true rfl⟩, (hts (.static yX5_isBelow) (List.mem_of_getElem? (i := 2) (by decide +kernel))), trivial⟩ hK hN hP hD hS hA rfl rfl (by decide) (by decide) (by decide) rfl hl.1 rfl (Nat.le_of_ble_eq_true rfl) dX3_has_14 ⟨Nat.zero_le _, Nat.zero_le _⟩ (fun H locs hP hD hS hz3 => ?_)
    have hP : va_P (dC, dI) vwCl [(h0, .inr (3, [.ref q_addresses, .ref q_distances, .ref q_parents, .int v_count]))] H := hP
    have hD : va_D A [(h0, .inr (3, [.ref q_addresses, .ref q_distances, .ref q_parents, .int v_count]))] := hD
    refine lv_if_eq (tgt := 24) hx hb dX3_has_17 (by decide) (fun c4 => ?_) (fun c4 => ?_)
    · have h := it_p c4 h
      refine lv_iconst (v := (0 : Int32)) hx hb dX3_has_24 (by decide) ?_
      have hk0 := Option.some.inj h
      cases hk0
      exact re_i [0] hx hb hr hlocks rfl hP hD hS rfl (by decide) rfl dX3_has_25
    · have h := it_n c4 h
      refine lv_iconst (v := (1 : Int32)) hx hb dX3_has_20 (by decide) ?_
      refine lv_goto (tgt := 25) hx hb dX3_has_21 (by decide) ?_
      have hk0 := Option.some.inj h
      cases hk0
      exact re_i [0] hx hb hr hlocks rfl hP hD hS rfl (by decide) rfl dX3_has_25
def fX3_append (p1 : Int32) (p2 : Int32) (p3 : Int32) (v_count : Int32) (a_addresses : Nat → Int32) (a_distances : Nat → Int32) (a_parents : Nat → Int32) : Option (Int32 × Int32 × (Nat → Int32) × (Nat → Int32) × (Nat → Int32)) :=
  bd1 (fX5_isBelow v_count (100 : Int32)) fun r1 =>
  if r1 = 0 then
    some ((0 : Int32), v_count, a_addresses, a_distances, a_parents)
  else
    if ¬ (v_count < 0 ∨ 100 ≤ v_count.toNatClampNeg) then
      some ((1 : Int32), (v_count + (1 : Int32)), (upd a_addresses v_count.toNatClampNeg p1), (upd a_distances v_count.toNatClampNeg p2), (upd a_parents v_count.toNatClampNeg p3))
    else none
set_option maxHeartbeats 4000000 in
set_option maxRecDepth 100000 in
theorem mX3_append (l : Launch) (dC : Nat → ClassId) (dI : Nat → Nat → Nat) (cI : ClassId) (sz : Nat) (h0 : Nat) (q_addresses : Nat) (q_distances : Nat) (q_parents : Nat) (v_count : Int32) (a_addresses : Nat → Int32) (a_distances : Nat → Int32) (a_parents : Nat → Int32) (p1 : Int32) (p2 : Int32) (p3 : Int32) {rr : Int32} {o_count : Int32} {o_addresses : Nat → Int32} {o_distances : Nat → Int32} {o_parents : Nat → Int32} (h : fX3_append p1 p2 p3 v_count a_addresses a_distances a_parents = some (rr, o_count, o_addresses, o_distances, o_parents)) : Met l yX3_append wsX3_append ({ frames := 1, cells := 0, slots := 0, locals := 21 } : Room) (prX dC dI cI [.ref h0, .int p1, .int p2, .int p3] sz [(h0, .inr (3, [.ref q_addresses, .ref q_distances, .ref q_parents, .int v_count])), (q_addresses, .inl (cI, 100, .inl a_addresses)), (q_distances, .inl (cI, 100, .inl a_distances)), (q_parents, .inl (cI, 100, .inl a_parents))]) (poI dC dI .boolean rr [(h0, .inr (3, [.ref q_addresses, .ref q_distances, .ref q_parents, .int o_count])), (q_addresses, .inl (cI, 100, .inl o_addresses)), (q_distances, .inl (cI, 100, .inl o_distances)), (q_parents, .inl (cI, 100, .inl o_parents))] (va_A [(h0, .inr (3, [.ref q_addresses, .ref q_distances, .ref q_parents, .int v_count])), (q_addresses, .inl (cI, 100, .inl a_addresses)), (q_distances, .inl (cI, 100, .inl a_distances)), (q_parents, .inl (cI, 100, .inl a_parents))] sz)) 0 0 (va_A [(h0, .inr (3, [.ref q_addresses, .ref q_distances, .ref q_parents, .int v_count])), (q_addresses, .inl (cI, 100, .inl a_addresses)), (q_distances, .inl (cI, 100, .inl a_distances)), (q_parents, .inl (cI, 100, .inl a_parents))] sz) := by
  refine ofX (cc := cX3_append) (maxL := 4) (ret := (some .boolean)) (lv0 := [(0, .ref h0), (1, .int p1), (2, .int p2), (3, .int p3)]) (QA := fun A => poI dC dI .boolean rr [(h0, .inr (3, [.ref q_addresses, .ref q_distances, .ref q_parents, .int o_count])), (q_addresses, .inl (cI, 100, .inl o_addresses)), (q_distances, .inl (cI, 100, .inl o_distances)), (q_parents, .inl (cI, 100, .inl o_parents))] A) (by decide) rfl (Nat.le_of_ble_eq_true rfl) rfl ?_
  intro p e s m below meth c A ls H locs hx hb hr hml hown hts hlocks hin hK hN hA hP hD hS hl
  have hown : s.vm.findClass RX3 = some m.cls := hown
  unfold fX3_append at h
  have hiX3 : ∀ w ∈ u_ws RX3 TX3 4, w ∈ wsX3_append := fun _ h => List.mem_cons_of_mem _ (List.mem_append_right _ h)
  have hf21 := (hts (.fieldLink RX3 21 "PacketTraceback$NodeTable" "count" "I") (List.mem_of_getElem? (i := 1) (by decide +kernel)))
  have hf9 := (hts (.fieldLink RX3 9 "PacketTraceback$NodeTable" "addresses" "[I") (List.mem_of_getElem? (i := 2) (by decide +kernel)))
  have hf15 := (hts (.fieldLink RX3 15 "PacketTraceback$NodeTable" "distances" "[I") (List.mem_of_getElem? (i := 3) (by decide +kernel)))
  have hf18 := (hts (.fieldLink RX3 18 "PacketTraceback$NodeTable" "parents" "[I") (List.mem_of_getElem? (i := 4) (by decide +kernel)))
  refine lv_aload_n hx hb dX3_append_0 rfl (lv_at hl 0 rfl) ?_
  refine va_get (D := (dC, dI)) (ci := 3) (v := .int v_count) (C := RX3) (T := TX3) (N := 4) hx hb hts hiX3 hown hK hP 0 rfl rfl 3 (by decide) hf21 (fun _ h9 => h9) rfl dX3_append_1 ?_
  refine lv_bipush (v := (100 : Int32)) hx hb dX3_append_4 (by decide) ?_
  obtain ⟨r1, h1, h⟩ := bd1_e h
  refine ca_Ni (wc := []) (wr := [(h0, .inr (3, [.ref q_addresses, .ref q_distances, .ref q_parents, .int v_count])), (q_addresses, .inl (cI, 100, .inl a_addresses)), (q_distances, .inl (cI, 100, .inl a_distances)), (q_parents, .inl (cI, 100, .inl a_parents))]) (w1 := []) [.int v_count, .int (100 : Int32)] [] [] [0, 1, 2, 3] hx hb hml hown hts (mX5_isBelow l dC dI cI H.size v_count (100 : Int32) h1) ⟨va_cnB 2 hts gX3_append_X5_isBelow_n25 rfl rfl rfl hN.2.2.2.1 (hts (.initialized RX5) (List.mem_of_getElem? (i := 6) (by decide +kernel))) (by decide +kernel) ⟨Nat.le_of_ble_eq_true rfl, Nat.le_of_ble_eq_true rfl⟩, (hts (.static yX5_isBelow) (List.mem_of_getElem? (i := 5) (by decide +kernel))), trivial⟩ hK hN hP hD hS hA rfl rfl (by decide) (by decide) (by decide) rfl hl.1 rfl (Nat.le_of_ble_eq_true rfl) dX3_append_6 ⟨Nat.zero_le _, Nat.zero_le _⟩ (fun H locs hP hD hS hz1 => ?_)
  have hP : va_P (dC, dI) vwCl [(h0, .inr (3, [.ref q_addresses, .ref q_distances, .ref q_parents, .int v_count])), (q_addresses, .inl (cI, 100, .inl a_addresses)), (q_distances, .inl (cI, 100, .inl a_distances)), (q_parents, .inl (cI, 100, .inl a_parents))] H := hP
  have hD : va_D A [(h0, .inr (3, [.ref q_addresses, .ref q_distances, .ref q_parents, .int v_count])), (q_addresses, .inl (cI, 100, .inl a_addresses)), (q_distances, .inl (cI, 100, .inl a_distances)), (q_parents, .inl (cI, 100, .inl a_parents))] := hD
  refine lv_if_ne (tgt := 14) hx hb dX3_append_9 (by decide) (fun c2 => ?_) (fun c2 => ?_)
  · have h := it_n c2 h
    refine lv_aload_n hx hb dX3_append_14 rfl (lv_at hl 0 rfl) ?_
    refine va_get (D := (dC, dI)) (ci := 3) (v := .ref q_addresses) (C := RX3) (T := TX3) (N := 4) hx hb hts hiX3 hown hK hP 0 rfl rfl 0 (by decide) hf9 (fun _ h9 => h9) rfl dX3_append_15 ?_
    refine lv_aload_n hx hb dX3_append_18 rfl (lv_at hl 0 rfl) ?_
    refine va_get (D := (dC, dI)) (ci := 3) (v := .int v_count) (C := RX3) (T := TX3) (N := 4) hx hb hts hiX3 hown hK hP 0 rfl rfl 3 (by decide) hf21 (fun _ h9 => h9) rfl dX3_append_19 ?_
    refine lv_iload_n hx hb dX3_append_22 rfl (lv_at hl 1 rfl) ?_
    obtain ⟨g3, h⟩ := gd_e h
    refine va_iast hx hb hK hP hD hS 1 0 rfl rfl g3 dX3_append_23 (fun H locs hP hD hS => ?_)
    have hP : va_P (dC, dI) vwCl [(h0, .inr (3, [.ref q_addresses, .ref q_distances, .ref q_parents, .int v_count])), (q_addresses, .inl (cI, 100, .inl (upd a_addresses v_count.toNatClampNeg p1))), (q_distances, .inl (cI, 100, .inl a_distances)), (q_parents, .inl (cI, 100, .inl a_parents))] H := hP
    have hD : va_D A [(h0, .inr (3, [.ref q_addresses, .ref q_distances, .ref q_parents, .int v_count])), (q_addresses, .inl (cI, 100, .inl (upd a_addresses v_count.toNatClampNeg p1))), (q_distances, .inl (cI, 100, .inl a_distances)), (q_parents, .inl (cI, 100, .inl a_parents))] := hD
    refine lv_aload_n hx hb dX3_append_24 rfl (lv_at hl 0 rfl) ?_
    refine va_get (D := (dC, dI)) (ci := 3) (v := .ref q_distances) (C := RX3) (T := TX3) (N := 4) hx hb hts hiX3 hown hK hP 0 rfl rfl 1 (by decide) hf15 (fun _ h9 => h9) rfl dX3_append_25 ?_
    refine lv_aload_n hx hb dX3_append_28 rfl (lv_at hl 0 rfl) ?_
    refine va_get (D := (dC, dI)) (ci := 3) (v := .int v_count) (C := RX3) (T := TX3) (N := 4) hx hb hts hiX3 hown hK hP 0 rfl rfl 3 (by decide) hf21 (fun _ h9 => h9) rfl dX3_append_29 ?_
    refine lv_iload_n hx hb dX3_append_32 rfl (lv_at hl 2 rfl) ?_
    refine va_iast hx hb hK hP hD hS 2 0 rfl rfl g3 dX3_append_33 (fun H locs hP hD hS => ?_)
    have hP : va_P (dC, dI) vwCl [(h0, .inr (3, [.ref q_addresses, .ref q_distances, .ref q_parents, .int v_count])), (q_addresses, .inl (cI, 100, .inl (upd a_addresses v_count.toNatClampNeg p1))), (q_distances, .inl (cI, 100, .inl (upd a_distances v_count.toNatClampNeg p2))), (q_parents, .inl (cI, 100, .inl a_parents))] H := hP
    have hD : va_D A [(h0, .inr (3, [.ref q_addresses, .ref q_distances, .ref q_parents, .int v_count])), (q_addresses, .inl (cI, 100, .inl (upd a_addresses v_count.toNatClampNeg p1))), (q_distances, .inl (cI, 100, .inl (upd a_distances v_count.toNatClampNeg p2))), (q_parents, .inl (cI, 100, .inl a_parents))] := hD
    refine lv_aload_n hx hb dX3_append_34 rfl (lv_at hl 0 rfl) ?_
    refine va_get (D := (dC, dI)) (ci := 3) (v := .ref q_parents) (C := RX3) (T := TX3) (N := 4) hx hb hts hiX3 hown hK hP 0 rfl rfl 2 (by decide) hf18 (fun _ h9 => h9) rfl dX3_append_35 ?_
    refine lv_aload_n hx hb dX3_append_38 rfl (lv_at hl 0 rfl) ?_
    refine va_get (D := (dC, dI)) (ci := 3) (v := .int v_count) (C := RX3) (T := TX3) (N := 4) hx hb hts hiX3 hown hK hP 0 rfl rfl 3 (by decide) hf21 (fun _ h9 => h9) rfl dX3_append_39 ?_
    refine lv_iload_n hx hb dX3_append_42 rfl (lv_at hl 3 rfl) ?_
    refine va_iast hx hb hK hP hD hS 3 0 rfl rfl g3 dX3_append_43 (fun H locs hP hD hS => ?_)
    have hP : va_P (dC, dI) vwCl [(h0, .inr (3, [.ref q_addresses, .ref q_distances, .ref q_parents, .int v_count])), (q_addresses, .inl (cI, 100, .inl (upd a_addresses v_count.toNatClampNeg p1))), (q_distances, .inl (cI, 100, .inl (upd a_distances v_count.toNatClampNeg p2))), (q_parents, .inl (cI, 100, .inl (upd a_parents v_count.toNatClampNeg p3)))] H := hP
    have hD : va_D A [(h0, .inr (3, [.ref q_addresses, .ref q_distances, .ref q_parents, .int v_count])), (q_addresses, .inl (cI, 100, .inl (upd a_addresses v_count.toNatClampNeg p1))), (q_distances, .inl (cI, 100, .inl (upd a_distances v_count.toNatClampNeg p2))), (q_parents, .inl (cI, 100, .inl (upd a_parents v_count.toNatClampNeg p3)))] := hD
    refine lv_aload_n hx hb dX3_append_44 rfl (lv_at hl 0 rfl) ?_
    refine lv_dup hx hb dX3_append_45 rfl ?_
    refine va_get (D := (dC, dI)) (ci := 3) (v := .int v_count) (C := RX3) (T := TX3) (N := 4) hx hb hts hiX3 hown hK hP 0 rfl rfl 3 (by decide) hf21 (fun _ h9 => h9) rfl dX3_append_46 ?_
    refine lv_iconst (v := (1 : Int32)) hx hb dX3_append_49 (by decide) ?_
    refine lv_iadd hx hb dX3_append_50 ?_
    refine va_put (D := (dC, dI)) (ci := 3) (v := .int (v_count + (1 : Int32))) (ty := .int) (C := RX3) (T := TX3) (N := 4) hx hb hts hiX3 tyX3 tyX3_ok nmX3 hown hK hP hD hS 0 rfl rfl 3 (by decide) hf21 (fun _ h9 => h9) rfl (by decide +kernel) rfl rfl (Nat.le_of_ble_eq_true rfl) dX3_append_51 (fun H locs hP hD hS => ?_)
    have hP : va_P (dC, dI) vwCl [(h0, .inr (3, [.ref q_addresses, .ref q_distances, .ref q_parents, .int (v_count + (1 : Int32))])), (q_addresses, .inl (cI, 100, .inl (upd a_addresses v_count.toNatClampNeg p1))), (q_distances, .inl (cI, 100, .inl (upd a_distances v_count.toNatClampNeg p2))), (q_parents, .inl (cI, 100, .inl (upd a_parents v_count.toNatClampNeg p3)))] H := hP
    have hD : va_D A [(h0, .inr (3, [.ref q_addresses, .ref q_distances, .ref q_parents, .int (v_count + (1 : Int32))])), (q_addresses, .inl (cI, 100, .inl (upd a_addresses v_count.toNatClampNeg p1))), (q_distances, .inl (cI, 100, .inl (upd a_distances v_count.toNatClampNeg p2))), (q_parents, .inl (cI, 100, .inl (upd a_parents v_count.toNatClampNeg p3)))] := hD
    refine lv_iconst (v := (1 : Int32)) hx hb dX3_append_54 (by decide) ?_
    have hk0 := Option.some.inj h
    cases hk0
    exact re_i [0, 1, 2, 3] hx hb hr hlocks rfl hP hD hS rfl (by decide) rfl dX3_append_55
  · have h := it_p c2 h
    refine lv_iconst (v := (0 : Int32)) hx hb dX3_append_12 (by decide) ?_
    have hk0 := Option.some.inj h
    cases hk0
    exact re_i [0, 1, 2, 3] hx hb hr hlocks rfl hP hD hS rfl (by decide) rfl dX3_append_13
def fX3_addressOf (p1 : Int32) (v_count : Int32) (a_addresses : Nat → Int32) : Option (Int32) :=
  bd1 (fX3_has p1 v_count) fun r1 =>
  if r1 = 0 then
    some (0 : Int32)
  else
    if ¬ (p1 < 0 ∨ 100 ≤ p1.toNatClampNeg) then
      some (a_addresses p1.toNatClampNeg)
    else none
set_option maxHeartbeats 4000000 in
set_option maxRecDepth 100000 in
theorem mX3_addressOf (l : Launch) (dC : Nat → ClassId) (dI : Nat → Nat → Nat) (cI : ClassId) (sz : Nat) (h0 : Nat) (q_addresses : Nat) (q_distances : Nat) (q_parents : Nat) (v_count : Int32) (a_addresses : Nat → Int32) (p1 : Int32) {rr : Int32} (h : fX3_addressOf p1 v_count a_addresses = some rr) : Met l yX3_addressOf wsX3_addressOf ({ frames := 2, cells := 0, slots := 0, locals := 42 } : Room) (prX dC dI cI [.ref h0, .int p1] sz [(h0, .inr (3, [.ref q_addresses, .ref q_distances, .ref q_parents, .int v_count])), (q_addresses, .inl (cI, 100, .inl a_addresses))]) (poI dC dI .int rr [(h0, .inr (3, [.ref q_addresses, .ref q_distances, .ref q_parents, .int v_count])), (q_addresses, .inl (cI, 100, .inl a_addresses))] (va_A [(h0, .inr (3, [.ref q_addresses, .ref q_distances, .ref q_parents, .int v_count])), (q_addresses, .inl (cI, 100, .inl a_addresses))] sz)) 0 0 (va_A [(h0, .inr (3, [.ref q_addresses, .ref q_distances, .ref q_parents, .int v_count])), (q_addresses, .inl (cI, 100, .inl a_addresses))] sz) := by
  refine ofX (cc := cX3_addressOf) (maxL := 2) (ret := (some .int)) (lv0 := [(0, .ref h0), (1, .int p1)]) (QA := fun A => poI dC dI .int rr [(h0, .inr (3, [.ref q_addresses, .ref q_distances, .ref q_parents, .int v_count])), (q_addresses, .inl (cI, 100, .inl a_addresses))] A) (by decide) rfl (Nat.le_of_ble_eq_true rfl) rfl ?_
  intro p e s m below meth c A ls H locs hx hb hr hml hown hts hlocks hin hK hN hA hP hD hS hl
  have hown : s.vm.findClass RX3 = some m.cls := hown
  unfold fX3_addressOf at h
  have hiX3 : ∀ w ∈ u_ws RX3 TX3 4, w ∈ wsX3_addressOf := fun _ h => List.mem_cons_of_mem _ (List.mem_append_right _ h)
  have hf9 := (hts (.fieldLink RX3 9 "PacketTraceback$NodeTable" "addresses" "[I") (List.mem_of_getElem? (i := 1) (by decide +kernel)))
  refine lv_aload_n hx hb dX3_addressOf_0 rfl (lv_at hl 0 rfl) ?_
  refine lv_iload_n hx hb dX3_addressOf_1 rfl (lv_at hl 1 rfl) ?_
  obtain ⟨r1, h1, h⟩ := bd1_e h
  refine ca_Vi (wc := [(h0, .inr (3, [.ref q_addresses, .ref q_distances, .ref q_parents, .int v_count]))]) (wr := [(q_addresses, .inl (cI, 100, .inl a_addresses))]) (w1 := [(h0, .inr (3, [.ref q_addresses, .ref q_distances, .ref q_parents, .int v_count]))]) [.int p1] [] [0] [1] hx hb hml hown hts (mX3_has l dC dI cI H.size h0 q_addresses q_distances q_parents v_count p1 h1) (cwV 1 hts gX3_addressOf_X3_has rfl rfl rfl (by decide +kernel) ⟨Nat.le_of_ble_eq_true rfl, Nat.le_of_ble_eq_true rfl⟩) hK hN hP hD hS hA rfl rfl (by decide) (by decide) (by decide) rfl rfl rfl hl.1 rfl (Nat.le_of_ble_eq_true rfl) dX3_addressOf_2 ⟨Nat.zero_le _, Nat.zero_le _⟩ (fun H locs hP hD hS hz1 => ?_)
  have hP : va_P (dC, dI) vwCl [(q_addresses, .inl (cI, 100, .inl a_addresses)), (h0, .inr (3, [.ref q_addresses, .ref q_distances, .ref q_parents, .int v_count]))] H := hP
  have hD : va_D A [(q_addresses, .inl (cI, 100, .inl a_addresses)), (h0, .inr (3, [.ref q_addresses, .ref q_distances, .ref q_parents, .int v_count]))] := hD
  refine lv_if_eq (tgt := 17) hx hb dX3_addressOf_5 (by decide) (fun c2 => ?_) (fun c2 => ?_)
  · have h := it_p c2 h
    refine lv_iconst (v := (0 : Int32)) hx hb dX3_addressOf_17 (by decide) ?_
    have hk0 := Option.some.inj h
    cases hk0
    exact re_i [1, 0] hx hb hr hlocks rfl hP hD hS rfl (by decide) rfl dX3_addressOf_18
  · have h := it_n c2 h
    refine lv_aload_n hx hb dX3_addressOf_8 rfl (lv_at hl 0 rfl) ?_
    refine va_get (D := (dC, dI)) (ci := 3) (v := .ref q_addresses) (C := RX3) (T := TX3) (N := 4) hx hb hts hiX3 hown hK hP 1 rfl rfl 0 (by decide) hf9 (fun _ h9 => h9) rfl dX3_addressOf_9 ?_
    refine lv_iload_n hx hb dX3_addressOf_12 rfl (lv_at hl 1 rfl) ?_
    obtain ⟨g3, h⟩ := gd_e h
    refine va_iald hx hb hK hP 0 0 rfl rfl g3 dX3_addressOf_13 ?_
    refine lv_goto (tgt := 18) hx hb dX3_addressOf_14 (by decide) ?_
    have hk0 := Option.some.inj h
    cases hk0
    exact re_i [1, 0] hx hb hr hlocks rfl hP hD hS rfl (by decide) rfl dX3_addressOf_18
def fX3_distanceOf (p1 : Int32) (v_count : Int32) (a_distances : Nat → Int32) : Option (Int32) :=
  bd1 (fX3_has p1 v_count) fun r1 =>
  if r1 = 0 then
    some (0 : Int32)
  else
    if ¬ (p1 < 0 ∨ 100 ≤ p1.toNatClampNeg) then
      some (a_distances p1.toNatClampNeg)
    else none
set_option maxHeartbeats 4000000 in
set_option maxRecDepth 100000 in
theorem mX3_distanceOf (l : Launch) (dC : Nat → ClassId) (dI : Nat → Nat → Nat) (cI : ClassId) (sz : Nat) (h0 : Nat) (q_addresses : Nat) (q_distances : Nat) (q_parents : Nat) (v_count : Int32) (a_distances : Nat → Int32) (p1 : Int32) {rr : Int32} (h : fX3_distanceOf p1 v_count a_distances = some rr) : Met l yX3_distanceOf wsX3_distanceOf ({ frames := 2, cells := 0, slots := 0, locals := 42 } : Room) (prX dC dI cI [.ref h0, .int p1] sz [(h0, .inr (3, [.ref q_addresses, .ref q_distances, .ref q_parents, .int v_count])), (q_distances, .inl (cI, 100, .inl a_distances))]) (poI dC dI .int rr [(h0, .inr (3, [.ref q_addresses, .ref q_distances, .ref q_parents, .int v_count])), (q_distances, .inl (cI, 100, .inl a_distances))] (va_A [(h0, .inr (3, [.ref q_addresses, .ref q_distances, .ref q_parents, .int v_count])), (q_distances, .inl (cI, 100, .inl a_distances))] sz)) 0 0 (va_A [(h0, .inr (3, [.ref q_addresses, .ref q_distances, .ref q_parents, .int v_count])), (q_distances, .inl (cI, 100, .inl a_distances))] sz) := by
  refine ofX (cc := cX3_distanceOf) (maxL := 2) (ret := (some .int)) (lv0 := [(0, .ref h0), (1, .int p1)]) (QA := fun A => poI dC dI .int rr [(h0, .inr (3, [.ref q_addresses, .ref q_distances, .ref q_parents, .int v_count])), (q_distances, .inl (cI, 100, .inl a_distances))] A) (by decide) rfl (Nat.le_of_ble_eq_true rfl) rfl ?_
  intro p e s m below meth c A ls H locs hx hb hr hml hown hts hlocks hin hK hN hA hP hD hS hl
  have hown : s.vm.findClass RX3 = some m.cls := hown
  unfold fX3_distanceOf at h
  have hiX3 : ∀ w ∈ u_ws RX3 TX3 4, w ∈ wsX3_distanceOf := fun _ h => List.mem_cons_of_mem _ (List.mem_append_right _ h)
  have hf15 := (hts (.fieldLink RX3 15 "PacketTraceback$NodeTable" "distances" "[I") (List.mem_of_getElem? (i := 1) (by decide +kernel)))
  refine lv_aload_n hx hb dX3_distanceOf_0 rfl (lv_at hl 0 rfl) ?_
  refine lv_iload_n hx hb dX3_distanceOf_1 rfl (lv_at hl 1 rfl) ?_
  obtain ⟨r1, h1, h⟩ := bd1_e h
  refine ca_Vi (wc := [(h0, .inr (3, [.ref q_addresses, .ref q_distances, .ref q_parents, .int v_count]))]) (wr := [(q_distances, .inl (cI, 100, .inl a_distances))]) (w1 := [(h0, .inr (3, [.ref q_addresses, .ref q_distances, .ref q_parents, .int v_count]))]) [.int p1] [] [0] [1] hx hb hml hown hts (mX3_has l dC dI cI H.size h0 q_addresses q_distances q_parents v_count p1 h1) (cwV 1 hts gX3_distanceOf_X3_has rfl rfl rfl (by decide +kernel) ⟨Nat.le_of_ble_eq_true rfl, Nat.le_of_ble_eq_true rfl⟩) hK hN hP hD hS hA rfl rfl (by decide) (by decide) (by decide) rfl rfl rfl hl.1 rfl (Nat.le_of_ble_eq_true rfl) dX3_distanceOf_2 ⟨Nat.zero_le _, Nat.zero_le _⟩ (fun H locs hP hD hS hz1 => ?_)
  have hP : va_P (dC, dI) vwCl [(q_distances, .inl (cI, 100, .inl a_distances)), (h0, .inr (3, [.ref q_addresses, .ref q_distances, .ref q_parents, .int v_count]))] H := hP
  have hD : va_D A [(q_distances, .inl (cI, 100, .inl a_distances)), (h0, .inr (3, [.ref q_addresses, .ref q_distances, .ref q_parents, .int v_count]))] := hD
  refine lv_if_eq (tgt := 17) hx hb dX3_distanceOf_5 (by decide) (fun c2 => ?_) (fun c2 => ?_)
  · have h := it_p c2 h
    refine lv_iconst (v := (0 : Int32)) hx hb dX3_distanceOf_17 (by decide) ?_
    have hk0 := Option.some.inj h
    cases hk0
    exact re_i [1, 0] hx hb hr hlocks rfl hP hD hS rfl (by decide) rfl dX3_distanceOf_18
  · have h := it_n c2 h
    refine lv_aload_n hx hb dX3_distanceOf_8 rfl (lv_at hl 0 rfl) ?_
    refine va_get (D := (dC, dI)) (ci := 3) (v := .ref q_distances) (C := RX3) (T := TX3) (N := 4) hx hb hts hiX3 hown hK hP 1 rfl rfl 1 (by decide) hf15 (fun _ h9 => h9) rfl dX3_distanceOf_9 ?_
    refine lv_iload_n hx hb dX3_distanceOf_12 rfl (lv_at hl 1 rfl) ?_
    obtain ⟨g3, h⟩ := gd_e h
    refine va_iald hx hb hK hP 0 0 rfl rfl g3 dX3_distanceOf_13 ?_
    refine lv_goto (tgt := 18) hx hb dX3_distanceOf_14 (by decide) ?_
    have hk0 := Option.some.inj h
    cases hk0
    exact re_i [1, 0] hx hb hr hlocks rfl hP hD hS rfl (by decide) rfl dX3_distanceOf_18
def fX3_parentOf (p1 : Int32) (v_count : Int32) (a_parents : Nat → Int32) : Option (Int32) :=
  bd1 (fX3_has p1 v_count) fun r1 =>
  if r1 = 0 then
    some (-7 : Int32)
  else
    if ¬ (p1 < 0 ∨ 100 ≤ p1.toNatClampNeg) then
      some (a_parents p1.toNatClampNeg)
    else none
set_option maxHeartbeats 4000000 in
set_option maxRecDepth 100000 in
theorem mX3_parentOf (l : Launch) (dC : Nat → ClassId) (dI : Nat → Nat → Nat) (cI : ClassId) (sz : Nat) (h0 : Nat) (q_addresses : Nat) (q_distances : Nat) (q_parents : Nat) (v_count : Int32) (a_parents : Nat → Int32) (p1 : Int32) {rr : Int32} (h : fX3_parentOf p1 v_count a_parents = some rr) : Met l yX3_parentOf wsX3_parentOf ({ frames := 2, cells := 0, slots := 0, locals := 42 } : Room) (prX dC dI cI [.ref h0, .int p1] sz [(h0, .inr (3, [.ref q_addresses, .ref q_distances, .ref q_parents, .int v_count])), (q_parents, .inl (cI, 100, .inl a_parents))]) (poI dC dI .int rr [(h0, .inr (3, [.ref q_addresses, .ref q_distances, .ref q_parents, .int v_count])), (q_parents, .inl (cI, 100, .inl a_parents))] (va_A [(h0, .inr (3, [.ref q_addresses, .ref q_distances, .ref q_parents, .int v_count])), (q_parents, .inl (cI, 100, .inl a_parents))] sz)) 0 0 (va_A [(h0, .inr (3, [.ref q_addresses, .ref q_distances, .ref q_parents, .int v_count])), (q_parents, .inl (cI, 100, .inl a_parents))] sz) := by
  refine ofX (cc := cX3_parentOf) (maxL := 2) (ret := (some .int)) (lv0 := [(0, .ref h0), (1, .int p1)]) (QA := fun A => poI dC dI .int rr [(h0, .inr (3, [.ref q_addresses, .ref q_distances, .ref q_parents, .int v_count])), (q_parents, .inl (cI, 100, .inl a_parents))] A) (by decide) rfl (Nat.le_of_ble_eq_true rfl) rfl ?_
  intro p e s m below meth c A ls H locs hx hb hr hml hown hts hlocks hin hK hN hA hP hD hS hl
  have hown : s.vm.findClass RX3 = some m.cls := hown
  unfold fX3_parentOf at h
  have hiX3 : ∀ w ∈ u_ws RX3 TX3 4, w ∈ wsX3_parentOf := fun _ h => List.mem_cons_of_mem _ (List.mem_append_right _ h)
  have hf18 := (hts (.fieldLink RX3 18 "PacketTraceback$NodeTable" "parents" "[I") (List.mem_of_getElem? (i := 1) (by decide +kernel)))
  refine lv_aload_n hx hb dX3_parentOf_0 rfl (lv_at hl 0 rfl) ?_
  refine lv_iload_n hx hb dX3_parentOf_1 rfl (lv_at hl 1 rfl) ?_
  obtain ⟨r1, h1, h⟩ := bd1_e h
  refine ca_Vi (wc := [(h0, .inr (3, [.ref q_addresses, .ref q_distances, .ref q_parents, .int v_count]))]) (wr := [(q_parents, .inl (cI, 100, .inl a_parents))]) (w1 := [(h0, .inr (3, [.ref q_addresses, .ref q_distances, .ref q_parents, .int v_count]))]) [.int p1] [] [0] [1] hx hb hml hown hts (mX3_has l dC dI cI H.size h0 q_addresses q_distances q_parents v_count p1 h1) (cwV 1 hts gX3_parentOf_X3_has rfl rfl rfl (by decide +kernel) ⟨Nat.le_of_ble_eq_true rfl, Nat.le_of_ble_eq_true rfl⟩) hK hN hP hD hS hA rfl rfl (by decide) (by decide) (by decide) rfl rfl rfl hl.1 rfl (Nat.le_of_ble_eq_true rfl) dX3_parentOf_2 ⟨Nat.zero_le _, Nat.zero_le _⟩ (fun H locs hP hD hS hz1 => ?_)
  have hP : va_P (dC, dI) vwCl [(q_parents, .inl (cI, 100, .inl a_parents)), (h0, .inr (3, [.ref q_addresses, .ref q_distances, .ref q_parents, .int v_count]))] H := hP
  have hD : va_D A [(q_parents, .inl (cI, 100, .inl a_parents)), (h0, .inr (3, [.ref q_addresses, .ref q_distances, .ref q_parents, .int v_count]))] := hD
  refine lv_if_eq (tgt := 17) hx hb dX3_parentOf_5 (by decide) (fun c2 => ?_) (fun c2 => ?_)
  · have h := it_p c2 h
    refine lv_bipush (v := (-7 : Int32)) hx hb dX3_parentOf_17 (by decide) ?_
    have hk0 := Option.some.inj h
    cases hk0
    exact re_i [1, 0] hx hb hr hlocks rfl hP hD hS rfl (by decide) rfl dX3_parentOf_19
  · have h := it_n c2 h
    refine lv_aload_n hx hb dX3_parentOf_8 rfl (lv_at hl 0 rfl) ?_
    refine va_get (D := (dC, dI)) (ci := 3) (v := .ref q_parents) (C := RX3) (T := TX3) (N := 4) hx hb hts hiX3 hown hK hP 1 rfl rfl 2 (by decide) hf18 (fun _ h9 => h9) rfl dX3_parentOf_9 ?_
    refine lv_iload_n hx hb dX3_parentOf_12 rfl (lv_at hl 1 rfl) ?_
    obtain ⟨g3, h⟩ := gd_e h
    refine va_iald hx hb hK hP 0 0 rfl rfl g3 dX3_parentOf_13 ?_
    refine lv_goto (tgt := 19) hx hb dX3_parentOf_14 (by decide) ?_
    have hk0 := Option.some.inj h
    cases hk0
    exact re_i [1, 0] hx hb hr hlocks rfl hP hD hS rfl (by decide) rfl dX3_parentOf_19
def fX4_putMark (p1 : Int32) (p2 : Int32) (p3 : Int32) : Option (Int32 × Int32 × Int32) :=
  some (p1, p2, p3)
set_option maxHeartbeats 4000000 in
set_option maxRecDepth 100000 in
theorem mX4_putMark (l : Launch) (dC : Nat → ClassId) (dI : Nat → Nat → Nat) (cI : ClassId) (sz : Nat) (h0 : Nat) (v_marked : Int32) (v_markedByRouter : Int32) (v_distance : Int32) (v_offset : Int32) (v_fragment : Int32) (p1 : Int32) (p2 : Int32) (p3 : Int32) {o_distance : Int32} {o_offset : Int32} {o_fragment : Int32} (h : fX4_putMark p1 p2 p3 = some (o_distance, o_offset, o_fragment)) : Met l yX4_putMark wsX4_putMark ({ frames := 0, cells := 0, slots := 0, locals := 0 } : Room) (prX dC dI cI [.ref h0, .int p1, .int p2, .int p3] sz [(h0, .inr (4, [.int v_marked, .int v_markedByRouter, .int v_distance, .int v_offset, .int v_fragment]))]) (poV dC dI [(h0, .inr (4, [.int v_marked, .int v_markedByRouter, .int o_distance, .int o_offset, .int o_fragment]))] (va_A [(h0, .inr (4, [.int v_marked, .int v_markedByRouter, .int v_distance, .int v_offset, .int v_fragment]))] sz)) 0 0 (va_A [(h0, .inr (4, [.int v_marked, .int v_markedByRouter, .int v_distance, .int v_offset, .int v_fragment]))] sz) := by
  refine ofX (cc := cX4_putMark) (maxL := 4) (ret := none) (lv0 := [(0, .ref h0), (1, .int p1), (2, .int p2), (3, .int p3)]) (QA := fun A => poV dC dI [(h0, .inr (4, [.int v_marked, .int v_markedByRouter, .int o_distance, .int o_offset, .int o_fragment]))] A) (by decide) rfl (Nat.le_of_ble_eq_true rfl) rfl ?_
  intro p e s m below meth c A ls H locs hx hb hr hml hown hts hlocks hin hK hN hA hP hD hS hl
  have hown : s.vm.findClass RX4 = some m.cls := hown
  unfold fX4_putMark at h
  have hiX4 : ∀ w ∈ u_ws RX4 TX4 5, w ∈ wsX4_putMark := fun _ h => List.mem_cons_of_mem _ (List.mem_append_right _ h)
  have hf18 := (hts (.fieldLink RX4 18 "PacketTraceback$Packet" "distance" "I") (List.mem_of_getElem? (i := 1) (by decide +kernel)))
  have hf22 := (hts (.fieldLink RX4 22 "PacketTraceback$Packet" "offset" "I") (List.mem_of_getElem? (i := 2) (by decide +kernel)))
  have hf25 := (hts (.fieldLink RX4 25 "PacketTraceback$Packet" "fragment" "I") (List.mem_of_getElem? (i := 3) (by decide +kernel)))
  refine lv_aload_n hx hb dX4_putMark_0 rfl (lv_at hl 0 rfl) ?_
  refine lv_iload_n hx hb dX4_putMark_1 rfl (lv_at hl 1 rfl) ?_
  refine va_put (D := (dC, dI)) (ci := 4) (v := .int p1) (ty := .int) (C := RX4) (T := TX4) (N := 5) hx hb hts hiX4 tyX4 tyX4_ok nmX4 hown hK hP hD hS 0 rfl rfl 2 (by decide) hf18 (fun _ h9 => h9) rfl (by decide +kernel) rfl rfl (Nat.le_of_ble_eq_true rfl) dX4_putMark_2 (fun H locs hP hD hS => ?_)
  have hP : va_P (dC, dI) vwCl [(h0, .inr (4, [.int v_marked, .int v_markedByRouter, .int p1, .int v_offset, .int v_fragment]))] H := hP
  have hD : va_D A [(h0, .inr (4, [.int v_marked, .int v_markedByRouter, .int p1, .int v_offset, .int v_fragment]))] := hD
  refine lv_aload_n hx hb dX4_putMark_5 rfl (lv_at hl 0 rfl) ?_
  refine lv_iload_n hx hb dX4_putMark_6 rfl (lv_at hl 2 rfl) ?_
  refine va_put (D := (dC, dI)) (ci := 4) (v := .int p2) (ty := .int) (C := RX4) (T := TX4) (N := 5) hx hb hts hiX4 tyX4 tyX4_ok nmX4 hown hK hP hD hS 0 rfl rfl 3 (by decide) hf22 (fun _ h9 => h9) rfl (by decide +kernel) rfl rfl (Nat.le_of_ble_eq_true rfl) dX4_putMark_7 (fun H locs hP hD hS => ?_)
  have hP : va_P (dC, dI) vwCl [(h0, .inr (4, [.int v_marked, .int v_markedByRouter, .int p1, .int p2, .int v_fragment]))] H := hP
  have hD : va_D A [(h0, .inr (4, [.int v_marked, .int v_markedByRouter, .int p1, .int p2, .int v_fragment]))] := hD
  refine lv_aload_n hx hb dX4_putMark_10 rfl (lv_at hl 0 rfl) ?_
  refine lv_iload_n hx hb dX4_putMark_11 rfl (lv_at hl 3 rfl) ?_
  refine va_put (D := (dC, dI)) (ci := 4) (v := .int p3) (ty := .int) (C := RX4) (T := TX4) (N := 5) hx hb hts hiX4 tyX4 tyX4_ok nmX4 hown hK hP hD hS 0 rfl rfl 4 (by decide) hf25 (fun _ h9 => h9) rfl (by decide +kernel) rfl rfl (Nat.le_of_ble_eq_true rfl) dX4_putMark_12 (fun H locs hP hD hS => ?_)
  have hP : va_P (dC, dI) vwCl [(h0, .inr (4, [.int v_marked, .int v_markedByRouter, .int p1, .int p2, .int p3]))] H := hP
  have hD : va_D A [(h0, .inr (4, [.int v_marked, .int v_markedByRouter, .int p1, .int p2, .int p3]))] := hD
  have hk0 := Option.some.inj h
  cases hk0
  exact re_v [0] hx hb hr hlocks hP hD hS rfl (by decide) dX4_putMark_15
def fX4_startUnmarked  : Option (Int32 × Int32 × Int32 × Int32 × Int32) :=
  bd3 (fX4_putMark (0 : Int32) (0 : Int32) (0 : Int32)) fun s_distance_1 s_offset_1 s_fragment_1 =>
  some ((0 : Int32), (0 : Int32), s_distance_1, s_offset_1, s_fragment_1)
set_option maxHeartbeats 4000000 in
set_option maxRecDepth 100000 in
theorem mX4_startUnmarked (l : Launch) (dC : Nat → ClassId) (dI : Nat → Nat → Nat) (cI : ClassId) (sz : Nat) (h0 : Nat) (v_marked : Int32) (v_markedByRouter : Int32) (v_distance : Int32) (v_offset : Int32) (v_fragment : Int32) {o_marked : Int32} {o_markedByRouter : Int32} {o_distance : Int32} {o_offset : Int32} {o_fragment : Int32} (h : fX4_startUnmarked = some (o_marked, o_markedByRouter, o_distance, o_offset, o_fragment)) : Met l yX4_startUnmarked wsX4_startUnmarked ({ frames := 1, cells := 0, slots := 0, locals := 23 } : Room) (prX dC dI cI [.ref h0] sz [(h0, .inr (4, [.int v_marked, .int v_markedByRouter, .int v_distance, .int v_offset, .int v_fragment]))]) (poV dC dI [(h0, .inr (4, [.int o_marked, .int o_markedByRouter, .int o_distance, .int o_offset, .int o_fragment]))] (va_A [(h0, .inr (4, [.int v_marked, .int v_markedByRouter, .int v_distance, .int v_offset, .int v_fragment]))] sz)) 0 0 (va_A [(h0, .inr (4, [.int v_marked, .int v_markedByRouter, .int v_distance, .int v_offset, .int v_fragment]))] sz) := by
  refine ofX (cc := cX4_startUnmarked) (maxL := 1) (ret := none) (lv0 := [(0, .ref h0)]) (QA := fun A => poV dC dI [(h0, .inr (4, [.int o_marked, .int o_markedByRouter, .int o_distance, .int o_offset, .int o_fragment]))] A) (by decide) rfl (Nat.le_of_ble_eq_true rfl) rfl ?_
  intro p e s m below meth c A ls H locs hx hb hr hml hown hts hlocks hin hK hN hA hP hD hS hl
  have hown : s.vm.findClass RX4 = some m.cls := hown
  unfold fX4_startUnmarked at h
  have hiX4 : ∀ w ∈ u_ws RX4 TX4 5, w ∈ wsX4_startUnmarked := fun _ h => List.mem_cons_of_mem _ (List.mem_append_right _ h)
  have hf9 := (hts (.fieldLink RX4 9 "PacketTraceback$Packet" "marked" "Z") (List.mem_of_getElem? (i := 1) (by decide +kernel)))
  have hf15 := (hts (.fieldLink RX4 15 "PacketTraceback$Packet" "markedByRouter" "Z") (List.mem_of_getElem? (i := 2) (by decide +kernel)))
  refine lv_aload_n hx hb dX4_startUnmarked_0 rfl (lv_at hl 0 rfl) ?_
  refine lv_iconst (v := (0 : Int32)) hx hb dX4_startUnmarked_1 (by decide) ?_
  refine lv_iconst (v := (0 : Int32)) hx hb dX4_startUnmarked_2 (by decide) ?_
  refine lv_iconst (v := (0 : Int32)) hx hb dX4_startUnmarked_3 (by decide) ?_
  obtain ⟨s_distance_1, s_offset_1, s_fragment_1, h1, h⟩ := bd3_e h
  refine ca_Vv (wc := [(h0, .inr (4, [.int v_marked, .int v_markedByRouter, .int v_distance, .int v_offset, .int v_fragment]))]) (wr := []) (w1 := [(h0, .inr (4, [.int v_marked, .int v_markedByRouter, .int s_distance_1, .int s_offset_1, .int s_fragment_1]))]) [.int (0 : Int32), .int (0 : Int32), .int (0 : Int32)] [] [0] [] hx hb hml hown hts (mX4_putMark l dC dI cI H.size h0 v_marked v_markedByRouter v_distance v_offset v_fragment (0 : Int32) (0 : Int32) (0 : Int32) h1) (cwV 3 hts gX4_startUnmarked_X4_putMark rfl rfl rfl (by decide +kernel) ⟨Nat.le_of_ble_eq_true rfl, Nat.le_of_ble_eq_true rfl⟩) hK hN hP hD hS hA rfl rfl (by decide) (by decide) (by decide) rfl rfl rfl hl.1 rfl (Nat.le_of_ble_eq_true rfl) dX4_startUnmarked_4 ⟨Nat.zero_le _, Nat.zero_le _⟩ (fun H locs hP hD hS => ?_)
  have hP : va_P (dC, dI) vwCl [(h0, .inr (4, [.int v_marked, .int v_markedByRouter, .int s_distance_1, .int s_offset_1, .int s_fragment_1]))] H := hP
  have hD : va_D A [(h0, .inr (4, [.int v_marked, .int v_markedByRouter, .int s_distance_1, .int s_offset_1, .int s_fragment_1]))] := hD
  refine lv_aload_n hx hb dX4_startUnmarked_7 rfl (lv_at hl 0 rfl) ?_
  refine lv_iconst (v := (0 : Int32)) hx hb dX4_startUnmarked_8 (by decide) ?_
  refine va_put (D := (dC, dI)) (ci := 4) (v := .int (0 : Int32)) (ty := .boolean) (C := RX4) (T := TX4) (N := 5) hx hb hts hiX4 tyX4 tyX4_ok nmX4 hown hK hP hD hS 0 rfl rfl 0 (by decide) hf9 (fun _ h9 => h9) rfl (by decide +kernel) rfl rfl (Nat.le_of_ble_eq_true rfl) dX4_startUnmarked_9 (fun H locs hP hD hS => ?_)
  have hP : va_P (dC, dI) vwCl [(h0, .inr (4, [.int (0 : Int32), .int v_markedByRouter, .int s_distance_1, .int s_offset_1, .int s_fragment_1]))] H := hP
  have hD : va_D A [(h0, .inr (4, [.int (0 : Int32), .int v_markedByRouter, .int s_distance_1, .int s_offset_1, .int s_fragment_1]))] := hD
  refine lv_aload_n hx hb dX4_startUnmarked_12 rfl (lv_at hl 0 rfl) ?_
  refine lv_iconst (v := (0 : Int32)) hx hb dX4_startUnmarked_13 (by decide) ?_
  refine va_put (D := (dC, dI)) (ci := 4) (v := .int (0 : Int32)) (ty := .boolean) (C := RX4) (T := TX4) (N := 5) hx hb hts hiX4 tyX4 tyX4_ok nmX4 hown hK hP hD hS 0 rfl rfl 1 (by decide) hf15 (fun _ h9 => h9) rfl (by decide +kernel) rfl rfl (Nat.le_of_ble_eq_true rfl) dX4_startUnmarked_14 (fun H locs hP hD hS => ?_)
  have hP : va_P (dC, dI) vwCl [(h0, .inr (4, [.int (0 : Int32), .int (0 : Int32), .int s_distance_1, .int s_offset_1, .int s_fragment_1]))] H := hP
  have hD : va_D A [(h0, .inr (4, [.int (0 : Int32), .int (0 : Int32), .int s_distance_1, .int s_offset_1, .int s_fragment_1]))] := hD
  have hk0 := Option.some.inj h
  cases hk0
  exact re_v [0] hx hb hr hlocks hP hD hS rfl (by decide) dX4_startUnmarked_17
def fX4_startForged (p1 : Int32) (p2 : Int32) (p3 : Int32) : Option (Int32 × Int32 × Int32 × Int32 × Int32) :=
  bd3 (fX4_putMark p1 p2 p3) fun s_distance_1 s_offset_1 s_fragment_1 =>
  some ((1 : Int32), (0 : Int32), s_distance_1, s_offset_1, s_fragment_1)
set_option maxHeartbeats 4000000 in
set_option maxRecDepth 100000 in
theorem mX4_startForged (l : Launch) (dC : Nat → ClassId) (dI : Nat → Nat → Nat) (cI : ClassId) (sz : Nat) (h0 : Nat) (v_marked : Int32) (v_markedByRouter : Int32) (v_distance : Int32) (v_offset : Int32) (v_fragment : Int32) (p1 : Int32) (p2 : Int32) (p3 : Int32) {o_marked : Int32} {o_markedByRouter : Int32} {o_distance : Int32} {o_offset : Int32} {o_fragment : Int32} (h : fX4_startForged p1 p2 p3 = some (o_marked, o_markedByRouter, o_distance, o_offset, o_fragment)) : Met l yX4_startForged wsX4_startForged ({ frames := 1, cells := 0, slots := 0, locals := 23 } : Room) (prX dC dI cI [.ref h0, .int p1, .int p2, .int p3] sz [(h0, .inr (4, [.int v_marked, .int v_markedByRouter, .int v_distance, .int v_offset, .int v_fragment]))]) (poV dC dI [(h0, .inr (4, [.int o_marked, .int o_markedByRouter, .int o_distance, .int o_offset, .int o_fragment]))] (va_A [(h0, .inr (4, [.int v_marked, .int v_markedByRouter, .int v_distance, .int v_offset, .int v_fragment]))] sz)) 0 0 (va_A [(h0, .inr (4, [.int v_marked, .int v_markedByRouter, .int v_distance, .int v_offset, .int v_fragment]))] sz) := by
  refine ofX (cc := cX4_startForged) (maxL := 4) (ret := none) (lv0 := [(0, .ref h0), (1, .int p1), (2, .int p2), (3, .int p3)]) (QA := fun A => poV dC dI [(h0, .inr (4, [.int o_marked, .int o_markedByRouter, .int o_distance, .int o_offset, .int o_fragment]))] A) (by decide) rfl (Nat.le_of_ble_eq_true rfl) rfl ?_
  intro p e s m below meth c A ls H locs hx hb hr hml hown hts hlocks hin hK hN hA hP hD hS hl
  have hown : s.vm.findClass RX4 = some m.cls := hown
  unfold fX4_startForged at h
  have hiX4 : ∀ w ∈ u_ws RX4 TX4 5, w ∈ wsX4_startForged := fun _ h => List.mem_cons_of_mem _ (List.mem_append_right _ h)
  have hf9 := (hts (.fieldLink RX4 9 "PacketTraceback$Packet" "marked" "Z") (List.mem_of_getElem? (i := 1) (by decide +kernel)))
  have hf15 := (hts (.fieldLink RX4 15 "PacketTraceback$Packet" "markedByRouter" "Z") (List.mem_of_getElem? (i := 2) (by decide +kernel)))
  refine lv_aload_n hx hb dX4_startForged_0 rfl (lv_at hl 0 rfl) ?_
  refine lv_iload_n hx hb dX4_startForged_1 rfl (lv_at hl 1 rfl) ?_
  refine lv_iload_n hx hb dX4_startForged_2 rfl (lv_at hl 2 rfl) ?_
  refine lv_iload_n hx hb dX4_startForged_3 rfl (lv_at hl 3 rfl) ?_
  obtain ⟨s_distance_1, s_offset_1, s_fragment_1, h1, h⟩ := bd3_e h
  refine ca_Vv (wc := [(h0, .inr (4, [.int v_marked, .int v_markedByRouter, .int v_distance, .int v_offset, .int v_fragment]))]) (wr := []) (w1 := [(h0, .inr (4, [.int v_marked, .int v_markedByRouter, .int s_distance_1, .int s_offset_1, .int s_fragment_1]))]) [.int p1, .int p2, .int p3] [] [0] [] hx hb hml hown hts (mX4_putMark l dC dI cI H.size h0 v_marked v_markedByRouter v_distance v_offset v_fragment p1 p2 p3 h1) (cwV 3 hts gX4_startForged_X4_putMark rfl rfl rfl (by decide +kernel) ⟨Nat.le_of_ble_eq_true rfl, Nat.le_of_ble_eq_true rfl⟩) hK hN hP hD hS hA rfl rfl (by decide) (by decide) (by decide) rfl rfl rfl hl.1 rfl (Nat.le_of_ble_eq_true rfl) dX4_startForged_4 ⟨Nat.zero_le _, Nat.zero_le _⟩ (fun H locs hP hD hS => ?_)
  have hP : va_P (dC, dI) vwCl [(h0, .inr (4, [.int v_marked, .int v_markedByRouter, .int s_distance_1, .int s_offset_1, .int s_fragment_1]))] H := hP
  have hD : va_D A [(h0, .inr (4, [.int v_marked, .int v_markedByRouter, .int s_distance_1, .int s_offset_1, .int s_fragment_1]))] := hD
  refine lv_aload_n hx hb dX4_startForged_7 rfl (lv_at hl 0 rfl) ?_
  refine lv_iconst (v := (1 : Int32)) hx hb dX4_startForged_8 (by decide) ?_
  refine va_put (D := (dC, dI)) (ci := 4) (v := .int (1 : Int32)) (ty := .boolean) (C := RX4) (T := TX4) (N := 5) hx hb hts hiX4 tyX4 tyX4_ok nmX4 hown hK hP hD hS 0 rfl rfl 0 (by decide) hf9 (fun _ h9 => h9) rfl (by decide +kernel) rfl rfl (Nat.le_of_ble_eq_true rfl) dX4_startForged_9 (fun H locs hP hD hS => ?_)
  have hP : va_P (dC, dI) vwCl [(h0, .inr (4, [.int (1 : Int32), .int v_markedByRouter, .int s_distance_1, .int s_offset_1, .int s_fragment_1]))] H := hP
  have hD : va_D A [(h0, .inr (4, [.int (1 : Int32), .int v_markedByRouter, .int s_distance_1, .int s_offset_1, .int s_fragment_1]))] := hD
  refine lv_aload_n hx hb dX4_startForged_12 rfl (lv_at hl 0 rfl) ?_
  refine lv_iconst (v := (0 : Int32)) hx hb dX4_startForged_13 (by decide) ?_
  refine va_put (D := (dC, dI)) (ci := 4) (v := .int (0 : Int32)) (ty := .boolean) (C := RX4) (T := TX4) (N := 5) hx hb hts hiX4 tyX4 tyX4_ok nmX4 hown hK hP hD hS 0 rfl rfl 1 (by decide) hf15 (fun _ h9 => h9) rfl (by decide +kernel) rfl rfl (Nat.le_of_ble_eq_true rfl) dX4_startForged_14 (fun H locs hP hD hS => ?_)
  have hP : va_P (dC, dI) vwCl [(h0, .inr (4, [.int (1 : Int32), .int (0 : Int32), .int s_distance_1, .int s_offset_1, .int s_fragment_1]))] H := hP
  have hD : va_D A [(h0, .inr (4, [.int (1 : Int32), .int (0 : Int32), .int s_distance_1, .int s_offset_1, .int s_fragment_1]))] := hD
  have hk0 := Option.some.inj h
  cases hk0
  exact re_v [0] hx hb hr hlocks hP hD hS rfl (by decide) dX4_startForged_17
def fX4_takeMark (p1 : Int32) (p2 : Int32) : Option (Int32 × Int32 × Int32 × Int32 × Int32) :=
  bd3 (fX4_putMark (0 : Int32) p1 p2) fun s_distance_1 s_offset_1 s_fragment_1 =>
  some ((1 : Int32), (1 : Int32), s_distance_1, s_offset_1, s_fragment_1)
set_option maxHeartbeats 4000000 in
set_option maxRecDepth 100000 in
theorem mX4_takeMark (l : Launch) (dC : Nat → ClassId) (dI : Nat → Nat → Nat) (cI : ClassId) (sz : Nat) (h0 : Nat) (v_marked : Int32) (v_markedByRouter : Int32) (v_distance : Int32) (v_offset : Int32) (v_fragment : Int32) (p1 : Int32) (p2 : Int32) {o_marked : Int32} {o_markedByRouter : Int32} {o_distance : Int32} {o_offset : Int32} {o_fragment : Int32} (h : fX4_takeMark p1 p2 = some (o_marked, o_markedByRouter, o_distance, o_offset, o_fragment)) : Met l yX4_takeMark wsX4_takeMark ({ frames := 1, cells := 0, slots := 0, locals := 23 } : Room) (prX dC dI cI [.ref h0, .int p1, .int p2] sz [(h0, .inr (4, [.int v_marked, .int v_markedByRouter, .int v_distance, .int v_offset, .int v_fragment]))]) (poV dC dI [(h0, .inr (4, [.int o_marked, .int o_markedByRouter, .int o_distance, .int o_offset, .int o_fragment]))] (va_A [(h0, .inr (4, [.int v_marked, .int v_markedByRouter, .int v_distance, .int v_offset, .int v_fragment]))] sz)) 0 0 (va_A [(h0, .inr (4, [.int v_marked, .int v_markedByRouter, .int v_distance, .int v_offset, .int v_fragment]))] sz) := by
  refine ofX (cc := cX4_takeMark) (maxL := 3) (ret := none) (lv0 := [(0, .ref h0), (1, .int p1), (2, .int p2)]) (QA := fun A => poV dC dI [(h0, .inr (4, [.int o_marked, .int o_markedByRouter, .int o_distance, .int o_offset, .int o_fragment]))] A) (by decide) rfl (Nat.le_of_ble_eq_true rfl) rfl ?_
  intro p e s m below meth c A ls H locs hx hb hr hml hown hts hlocks hin hK hN hA hP hD hS hl
  have hown : s.vm.findClass RX4 = some m.cls := hown
  unfold fX4_takeMark at h
  have hiX4 : ∀ w ∈ u_ws RX4 TX4 5, w ∈ wsX4_takeMark := fun _ h => List.mem_cons_of_mem _ (List.mem_append_right _ h)
  have hf9 := (hts (.fieldLink RX4 9 "PacketTraceback$Packet" "marked" "Z") (List.mem_of_getElem? (i := 1) (by decide +kernel)))
  have hf15 := (hts (.fieldLink RX4 15 "PacketTraceback$Packet" "markedByRouter" "Z") (List.mem_of_getElem? (i := 2) (by decide +kernel)))
  refine lv_aload_n hx hb dX4_takeMark_0 rfl (lv_at hl 0 rfl) ?_
  refine lv_iconst (v := (0 : Int32)) hx hb dX4_takeMark_1 (by decide) ?_
  refine lv_iload_n hx hb dX4_takeMark_2 rfl (lv_at hl 1 rfl) ?_
  refine lv_iload_n hx hb dX4_takeMark_3 rfl (lv_at hl 2 rfl) ?_
  obtain ⟨s_distance_1, s_offset_1, s_fragment_1, h1, h⟩ := bd3_e h
  refine ca_Vv (wc := [(h0, .inr (4, [.int v_marked, .int v_markedByRouter, .int v_distance, .int v_offset, .int v_fragment]))]) (wr := []) (w1 := [(h0, .inr (4, [.int v_marked, .int v_markedByRouter, .int s_distance_1, .int s_offset_1, .int s_fragment_1]))]) [.int (0 : Int32), .int p1, .int p2] [] [0] [] hx hb hml hown hts (mX4_putMark l dC dI cI H.size h0 v_marked v_markedByRouter v_distance v_offset v_fragment (0 : Int32) p1 p2 h1) (cwV 3 hts gX4_takeMark_X4_putMark rfl rfl rfl (by decide +kernel) ⟨Nat.le_of_ble_eq_true rfl, Nat.le_of_ble_eq_true rfl⟩) hK hN hP hD hS hA rfl rfl (by decide) (by decide) (by decide) rfl rfl rfl hl.1 rfl (Nat.le_of_ble_eq_true rfl) dX4_takeMark_4 ⟨Nat.zero_le _, Nat.zero_le _⟩ (fun H locs hP hD hS => ?_)
  have hP : va_P (dC, dI) vwCl [(h0, .inr (4, [.int v_marked, .int v_markedByRouter, .int s_distance_1, .int s_offset_1, .int s_fragment_1]))] H := hP
  have hD : va_D A [(h0, .inr (4, [.int v_marked, .int v_markedByRouter, .int s_distance_1, .int s_offset_1, .int s_fragment_1]))] := hD
  refine lv_aload_n hx hb dX4_takeMark_7 rfl (lv_at hl 0 rfl) ?_
  refine lv_iconst (v := (1 : Int32)) hx hb dX4_takeMark_8 (by decide) ?_
  refine va_put (D := (dC, dI)) (ci := 4) (v := .int (1 : Int32)) (ty := .boolean) (C := RX4) (T := TX4) (N := 5) hx hb hts hiX4 tyX4 tyX4_ok nmX4 hown hK hP hD hS 0 rfl rfl 0 (by decide) hf9 (fun _ h9 => h9) rfl (by decide +kernel) rfl rfl (Nat.le_of_ble_eq_true rfl) dX4_takeMark_9 (fun H locs hP hD hS => ?_)
  have hP : va_P (dC, dI) vwCl [(h0, .inr (4, [.int (1 : Int32), .int v_markedByRouter, .int s_distance_1, .int s_offset_1, .int s_fragment_1]))] H := hP
  have hD : va_D A [(h0, .inr (4, [.int (1 : Int32), .int v_markedByRouter, .int s_distance_1, .int s_offset_1, .int s_fragment_1]))] := hD
  refine lv_aload_n hx hb dX4_takeMark_12 rfl (lv_at hl 0 rfl) ?_
  refine lv_iconst (v := (1 : Int32)) hx hb dX4_takeMark_13 (by decide) ?_
  refine va_put (D := (dC, dI)) (ci := 4) (v := .int (1 : Int32)) (ty := .boolean) (C := RX4) (T := TX4) (N := 5) hx hb hts hiX4 tyX4 tyX4_ok nmX4 hown hK hP hD hS 0 rfl rfl 1 (by decide) hf15 (fun _ h9 => h9) rfl (by decide +kernel) rfl rfl (Nat.le_of_ble_eq_true rfl) dX4_takeMark_14 (fun H locs hP hD hS => ?_)
  have hP : va_P (dC, dI) vwCl [(h0, .inr (4, [.int (1 : Int32), .int (1 : Int32), .int s_distance_1, .int s_offset_1, .int s_fragment_1]))] H := hP
  have hD : va_D A [(h0, .inr (4, [.int (1 : Int32), .int (1 : Int32), .int s_distance_1, .int s_offset_1, .int s_fragment_1]))] := hD
  have hk0 := Option.some.inj h
  cases hk0
  exact re_v [0] hx hb hr hlocks hP hD hS rfl (by decide) dX4_takeMark_17
def fX4_goOn (p1 : Int32) (v_marked : Int32) (v_distance : Int32) (v_offset : Int32) (v_fragment : Int32) : Option (Int32 × Int32) :=
  if v_marked = 0 then
    some (v_distance, v_fragment)
  else
    if v_distance = 0 then
      bd1 (fX5_fragmentOf p1 v_offset) fun r4 =>
      if (31 : Int32) ≤ v_distance then
        some (v_distance, (v_fragment ^^^ r4))
      else
        some ((v_distance + (1 : Int32)), (v_fragment ^^^ r4))
    else
      if (31 : Int32) ≤ v_distance then
        some (v_distance, v_fragment)
      else
        some ((v_distance + (1 : Int32)), v_fragment)
set_option maxHeartbeats 4000000 in
set_option maxRecDepth 100000 in
theorem mX4_goOn (l : Launch) (dC : Nat → ClassId) (dI : Nat → Nat → Nat) (cI : ClassId) (sz : Nat) (h0 : Nat) (v_marked : Int32) (v_markedByRouter : Int32) (v_distance : Int32) (v_offset : Int32) (v_fragment : Int32) (p1 : Int32) {o_distance : Int32} {o_fragment : Int32} (h : fX4_goOn p1 v_marked v_distance v_offset v_fragment = some (o_distance, o_fragment)) : Met l yX4_goOn wsX4_goOn ({ frames := 1, cells := 0, slots := 0, locals := 21 } : Room) (prX dC dI cI [.ref h0, .int p1] sz [(h0, .inr (4, [.int v_marked, .int v_markedByRouter, .int v_distance, .int v_offset, .int v_fragment]))]) (poV dC dI [(h0, .inr (4, [.int v_marked, .int v_markedByRouter, .int o_distance, .int v_offset, .int o_fragment]))] (va_A [(h0, .inr (4, [.int v_marked, .int v_markedByRouter, .int v_distance, .int v_offset, .int v_fragment]))] sz)) 0 0 (va_A [(h0, .inr (4, [.int v_marked, .int v_markedByRouter, .int v_distance, .int v_offset, .int v_fragment]))] sz) := by
  refine ofX (cc := cX4_goOn) (maxL := 2) (ret := none) (lv0 := [(0, .ref h0), (1, .int p1)]) (QA := fun A => poV dC dI [(h0, .inr (4, [.int v_marked, .int v_markedByRouter, .int o_distance, .int v_offset, .int o_fragment]))] A) (by decide) rfl (Nat.le_of_ble_eq_true rfl) rfl ?_
  intro p e s m below meth c A ls H locs hx hb hr hml hown hts hlocks hin hK hN hA hP hD hS hl
  have hown : s.vm.findClass RX4 = some m.cls := hown
  unfold fX4_goOn at h
  have hiX4 : ∀ w ∈ u_ws RX4 TX4 5, w ∈ wsX4_goOn := fun _ h => List.mem_cons_of_mem _ (List.mem_append_right _ h)
  have hf9 := (hts (.fieldLink RX4 9 "PacketTraceback$Packet" "marked" "Z") (List.mem_of_getElem? (i := 1) (by decide +kernel)))
  have hf18 := (hts (.fieldLink RX4 18 "PacketTraceback$Packet" "distance" "I") (List.mem_of_getElem? (i := 2) (by decide +kernel)))
  have hf25 := (hts (.fieldLink RX4 25 "PacketTraceback$Packet" "fragment" "I") (List.mem_of_getElem? (i := 3) (by decide +kernel)))
  have hf22 := (hts (.fieldLink RX4 22 "PacketTraceback$Packet" "offset" "I") (List.mem_of_getElem? (i := 4) (by decide +kernel)))
  refine lv_aload_n hx hb dX4_goOn_0 rfl (lv_at hl 0 rfl) ?_
  refine va_get (D := (dC, dI)) (ci := 4) (v := .int v_marked) (C := RX4) (T := TX4) (N := 5) hx hb hts hiX4 hown hK hP 0 rfl rfl 0 (by decide) hf9 (fun _ h9 => h9) rfl dX4_goOn_1 ?_
  refine lv_if_ne (tgt := 8) hx hb dX4_goOn_4 (by decide) (fun c1 => ?_) (fun c1 => ?_)
  · have h := it_n c1 h
    refine lv_aload_n hx hb dX4_goOn_8 rfl (lv_at hl 0 rfl) ?_
    refine va_get (D := (dC, dI)) (ci := 4) (v := .int v_distance) (C := RX4) (T := TX4) (N := 5) hx hb hts hiX4 hown hK hP 0 rfl rfl 2 (by decide) hf18 (fun _ h9 => h9) rfl dX4_goOn_9 ?_
    refine lv_if_ne (tgt := 32) hx hb dX4_goOn_12 (by decide) (fun c2 => ?_) (fun c2 => ?_)
    · have h := it_n c2 h
      refine lv_aload_n hx hb dX4_goOn_32 rfl (lv_at hl 0 rfl) ?_
      refine va_get (D := (dC, dI)) (ci := 4) (v := .int v_distance) (C := RX4) (T := TX4) (N := 5) hx hb hts hiX4 hown hK hP 0 rfl rfl 2 (by decide) hf18 (fun _ h9 => h9) rfl dX4_goOn_33 ?_
      refine lv_bipush (v := (31 : Int32)) hx hb dX4_goOn_36 (by decide) ?_
      refine lv_icmp_ge (tgt := 51) hx hb dX4_goOn_38 (by decide) (fun c3 => ?_) (fun c3 => ?_)
      · have h := it_p c3 h
        have hk0 := Option.some.inj h
        cases hk0
        exact re_v [0] hx hb hr hlocks hP hD hS rfl (by decide) dX4_goOn_51
      · have h := it_n c3 h
        refine lv_aload_n hx hb dX4_goOn_41 rfl (lv_at hl 0 rfl) ?_
        refine lv_dup hx hb dX4_goOn_42 rfl ?_
        refine va_get (D := (dC, dI)) (ci := 4) (v := .int v_distance) (C := RX4) (T := TX4) (N := 5) hx hb hts hiX4 hown hK hP 0 rfl rfl 2 (by decide) hf18 (fun _ h9 => h9) rfl dX4_goOn_43 ?_
        refine lv_iconst (v := (1 : Int32)) hx hb dX4_goOn_46 (by decide) ?_
        refine lv_iadd hx hb dX4_goOn_47 ?_
        refine va_put (D := (dC, dI)) (ci := 4) (v := .int (v_distance + (1 : Int32))) (ty := .int) (C := RX4) (T := TX4) (N := 5) hx hb hts hiX4 tyX4 tyX4_ok nmX4 hown hK hP hD hS 0 rfl rfl 2 (by decide) hf18 (fun _ h9 => h9) rfl (by decide +kernel) rfl rfl (Nat.le_of_ble_eq_true rfl) dX4_goOn_48 (fun H locs hP hD hS => ?_)
        have hP : va_P (dC, dI) vwCl [(h0, .inr (4, [.int v_marked, .int v_markedByRouter, .int (v_distance + (1 : Int32)), .int v_offset, .int v_fragment]))] H := hP
        have hD : va_D A [(h0, .inr (4, [.int v_marked, .int v_markedByRouter, .int (v_distance + (1 : Int32)), .int v_offset, .int v_fragment]))] := hD
        have hk0 := Option.some.inj h
        cases hk0
        exact re_v [0] hx hb hr hlocks hP hD hS rfl (by decide) dX4_goOn_51
    · have h := it_p c2 h
      refine lv_aload_n hx hb dX4_goOn_15 rfl (lv_at hl 0 rfl) ?_
      refine lv_dup hx hb dX4_goOn_16 rfl ?_
      refine va_get (D := (dC, dI)) (ci := 4) (v := .int v_fragment) (C := RX4) (T := TX4) (N := 5) hx hb hts hiX4 hown hK hP 0 rfl rfl 4 (by decide) hf25 (fun _ h9 => h9) rfl dX4_goOn_17 ?_
      refine lv_iload_n hx hb dX4_goOn_20 rfl (lv_at hl 1 rfl) ?_
      refine lv_aload_n hx hb dX4_goOn_21 rfl (lv_at hl 0 rfl) ?_
      refine va_get (D := (dC, dI)) (ci := 4) (v := .int v_offset) (C := RX4) (T := TX4) (N := 5) hx hb hts hiX4 hown hK hP 0 rfl rfl 3 (by decide) hf22 (fun _ h9 => h9) rfl dX4_goOn_22 ?_
      obtain ⟨r4, h4, h⟩ := bd1_e h
      refine ca_Ni (wc := []) (wr := [(h0, .inr (4, [.int v_marked, .int v_markedByRouter, .int v_distance, .int v_offset, .int v_fragment]))]) (w1 := []) [.int p1, .int v_offset] [.int v_fragment, .ref h0] [] [0] hx hb hml hown hts (mX5_fragmentOf l dC dI cI H.size p1 v_offset h4) ⟨va_cnB 2 hts gX4_goOn_X5_fragmentOf_n32 rfl rfl rfl hN.2.2.2.2 (hts (.initialized RX5) (List.mem_of_getElem? (i := 6) (by decide +kernel))) (by decide +kernel) ⟨Nat.le_of_ble_eq_true rfl, Nat.le_of_ble_eq_true rfl⟩, (hts (.static yX5_fragmentOf) (List.mem_of_getElem? (i := 5) (by decide +kernel))), trivial⟩ hK hN hP hD hS hA rfl rfl (by decide) (by decide) (by decide) rfl hl.1 rfl (Nat.le_of_ble_eq_true rfl) dX4_goOn_25 ⟨Nat.zero_le _, Nat.zero_le _⟩ (fun H locs hP hD hS hz4 => ?_)
      have hP : va_P (dC, dI) vwCl [(h0, .inr (4, [.int v_marked, .int v_markedByRouter, .int v_distance, .int v_offset, .int v_fragment]))] H := hP
      have hD : va_D A [(h0, .inr (4, [.int v_marked, .int v_markedByRouter, .int v_distance, .int v_offset, .int v_fragment]))] := hD
      refine lv_ixor hx hb dX4_goOn_28 ?_
      refine va_put (D := (dC, dI)) (ci := 4) (v := .int (v_fragment ^^^ r4)) (ty := .int) (C := RX4) (T := TX4) (N := 5) hx hb hts hiX4 tyX4 tyX4_ok nmX4 hown hK hP hD hS 0 rfl rfl 4 (by decide) hf25 (fun _ h9 => h9) rfl (by decide +kernel) rfl rfl (Nat.le_of_ble_eq_true rfl) dX4_goOn_29 (fun H locs hP hD hS => ?_)
      have hP : va_P (dC, dI) vwCl [(h0, .inr (4, [.int v_marked, .int v_markedByRouter, .int v_distance, .int v_offset, .int (v_fragment ^^^ r4)]))] H := hP
      have hD : va_D A [(h0, .inr (4, [.int v_marked, .int v_markedByRouter, .int v_distance, .int v_offset, .int (v_fragment ^^^ r4)]))] := hD
      refine lv_aload_n hx hb dX4_goOn_32 rfl (lv_at hl 0 rfl) ?_
      refine va_get (D := (dC, dI)) (ci := 4) (v := .int v_distance) (C := RX4) (T := TX4) (N := 5) hx hb hts hiX4 hown hK hP 0 rfl rfl 2 (by decide) hf18 (fun _ h9 => h9) rfl dX4_goOn_33 ?_
      refine lv_bipush (v := (31 : Int32)) hx hb dX4_goOn_36 (by decide) ?_
      refine lv_icmp_ge (tgt := 51) hx hb dX4_goOn_38 (by decide) (fun c5 => ?_) (fun c5 => ?_)
      · have h := it_p c5 h
        have hk0 := Option.some.inj h
        cases hk0
        exact re_v [0] hx hb hr hlocks hP hD hS rfl (by decide) dX4_goOn_51
      · have h := it_n c5 h
        refine lv_aload_n hx hb dX4_goOn_41 rfl (lv_at hl 0 rfl) ?_
        refine lv_dup hx hb dX4_goOn_42 rfl ?_
        refine va_get (D := (dC, dI)) (ci := 4) (v := .int v_distance) (C := RX4) (T := TX4) (N := 5) hx hb hts hiX4 hown hK hP 0 rfl rfl 2 (by decide) hf18 (fun _ h9 => h9) rfl dX4_goOn_43 ?_
        refine lv_iconst (v := (1 : Int32)) hx hb dX4_goOn_46 (by decide) ?_
        refine lv_iadd hx hb dX4_goOn_47 ?_
        refine va_put (D := (dC, dI)) (ci := 4) (v := .int (v_distance + (1 : Int32))) (ty := .int) (C := RX4) (T := TX4) (N := 5) hx hb hts hiX4 tyX4 tyX4_ok nmX4 hown hK hP hD hS 0 rfl rfl 2 (by decide) hf18 (fun _ h9 => h9) rfl (by decide +kernel) rfl rfl (Nat.le_of_ble_eq_true rfl) dX4_goOn_48 (fun H locs hP hD hS => ?_)
        have hP : va_P (dC, dI) vwCl [(h0, .inr (4, [.int v_marked, .int v_markedByRouter, .int (v_distance + (1 : Int32)), .int v_offset, .int (v_fragment ^^^ r4)]))] H := hP
        have hD : va_D A [(h0, .inr (4, [.int v_marked, .int v_markedByRouter, .int (v_distance + (1 : Int32)), .int v_offset, .int (v_fragment ^^^ r4)]))] := hD
        have hk0 := Option.some.inj h
        cases hk0
        exact re_v [0] hx hb hr hlocks hP hD hS rfl (by decide) dX4_goOn_51
  · have h := it_p c1 h
    have hk0 := Option.some.inj h
    cases hk0
    exact re_v [0] hx hb hr hlocks hP hD hS rfl (by decide) dX4_goOn_7
def fX4_isMarkedByRouter (v_markedByRouter : Int32) : Option (Int32) :=
  if v_markedByRouter = 0 ∨ v_markedByRouter = 1 then
    some v_markedByRouter
  else none
set_option maxHeartbeats 4000000 in
set_option maxRecDepth 100000 in
theorem mX4_isMarkedByRouter (l : Launch) (dC : Nat → ClassId) (dI : Nat → Nat → Nat) (cI : ClassId) (sz : Nat) (h0 : Nat) (v_marked : Int32) (v_markedByRouter : Int32) (v_distance : Int32) (v_offset : Int32) (v_fragment : Int32) {rr : Int32} (h : fX4_isMarkedByRouter v_markedByRouter = some rr) : Met l yX4_isMarkedByRouter wsX4_isMarkedByRouter ({ frames := 0, cells := 0, slots := 0, locals := 0 } : Room) (prX dC dI cI [.ref h0] sz [(h0, .inr (4, [.int v_marked, .int v_markedByRouter, .int v_distance, .int v_offset, .int v_fragment]))]) (poI dC dI .boolean rr [(h0, .inr (4, [.int v_marked, .int v_markedByRouter, .int v_distance, .int v_offset, .int v_fragment]))] (va_A [(h0, .inr (4, [.int v_marked, .int v_markedByRouter, .int v_distance, .int v_offset, .int v_fragment]))] sz)) 0 0 (va_A [(h0, .inr (4, [.int v_marked, .int v_markedByRouter, .int v_distance, .int v_offset, .int v_fragment]))] sz) := by
  refine ofX (cc := cX4_isMarkedByRouter) (maxL := 1) (ret := (some .boolean)) (lv0 := [(0, .ref h0)]) (QA := fun A => poI dC dI .boolean rr [(h0, .inr (4, [.int v_marked, .int v_markedByRouter, .int v_distance, .int v_offset, .int v_fragment]))] A) (by decide) rfl (Nat.le_of_ble_eq_true rfl) rfl ?_
  intro p e s m below meth c A ls H locs hx hb hr hml hown hts hlocks hin hK hN hA hP hD hS hl
  have hown : s.vm.findClass RX4 = some m.cls := hown
  unfold fX4_isMarkedByRouter at h
  have hiX4 : ∀ w ∈ u_ws RX4 TX4 5, w ∈ wsX4_isMarkedByRouter := fun _ h => List.mem_cons_of_mem _ (List.mem_append_right _ h)
  have hf15 := (hts (.fieldLink RX4 15 "PacketTraceback$Packet" "markedByRouter" "Z") (List.mem_of_getElem? (i := 1) (by decide +kernel)))
  refine lv_aload_n hx hb dX4_isMarkedByRouter_0 rfl (lv_at hl 0 rfl) ?_
  refine va_get (D := (dC, dI)) (ci := 4) (v := .int v_markedByRouter) (C := RX4) (T := TX4) (N := 5) hx hb hts hiX4 hown hK hP 0 rfl rfl 1 (by decide) hf15 (fun _ h9 => h9) rfl dX4_isMarkedByRouter_1 ?_
  obtain ⟨g1, h⟩ := gd_e h
  have hk0 := Option.some.inj h
  cases hk0
  exact re_i [0] hx hb hr hlocks (bl_01 g1) hP hD hS rfl (by decide) rfl dX4_isMarkedByRouter_4
