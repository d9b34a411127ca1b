/-! packets under way -/
theorem bd2_s {a b β : Type} {u1 : a} {u2 : b} {k : a → b → Option β} : bd2 (some (u1, u2)) k = k u1 u2 := rfl
theorem bd3_s {a b c β : Type} {u1 : a} {u2 : b} {u3 : c} {k : a → b → c → Option β} : bd3 (some (u1, u2, u3)) k = k u1 u2 u3 := rfl
theorem bd4_s {a b c d β : Type} {u1 : a} {u2 : b} {u3 : c} {u4 : d} {k : a → b → c → d → Option β} : bd4 (some (u1, u2, u3, u4)) k = k u1 u2 u3 u4 := rfl
theorem bd6_s {a b c d f g β : Type} {u1 : a} {u2 : b} {u3 : c} {u4 : d} {u5 : f} {u6 : g} {k : a → b → c → d → f → g → Option β} : bd6 (some (u1, u2, u3, u4, u5, u6)) k = k u1 u2 u3 u4 u5 u6 := rfl
/-- the packet in both worlds; fo: it began with a forged mark; B: a bound of the distance otherwise -/
def Pk (fo : Bool) (B : Nat) (mk mb ds of fr d6 o6 v6 im : Int32) : Prop :=
  (fo = false ∧ mk = 0 ∧ mb = 0 ∧ d6 = -7) ∨ ∃ d o f, d < 32 ∧ o < 4 ∧ f < 32 ∧ mk = 1 ∧ ds = nI d ∧ of = nI o ∧ fr = nI f ∧ d6 = nI d ∧ o6 = nI o ∧ v6 = nI f ∧ (mb = 0 ∨ mb = 1) ∧ (fo = false → mb = 1 ∧ d < B) ∧ (fo = true → im = mb)
theorem draw_n (g : Int32) : ∃ x, x < 32768 ∧ fX0_draw g = some (nI x, (g * (1103515245 : Int32)) + (12345 : Int32)) ∧ fX6_draws g = some (nI x, (g * (1103515245 : Int32)) + (12345 : Int32)) := by
  obtain ⟨x, hx, e⟩ := pk_andE (usI ((g * (1103515245 : Int32)) + (12345 : Int32)) (16 : Int32)) (m := (32767 : Int32)) 15 (by decide)
  exact ⟨x, hx, by unfold fX0_draw; rw [e], by unfold fX6_draws; rw [e]⟩
theorem xor_lt32 {a b : Nat} (ha : a < 32) (hb : b < 32) : a ^^^ b < 32 := Nat.xor_lt_two_pow (n := 5) ha hb
theorem goOn_n {w d o f : Nat} (hw : w < 2 ^ 31) (hd : d < 32) (ho : o < 4) : fX4_goOn (nI w) 1 (nI d) (nI o) (nI f) = some (nI (if d < 31 then d + 1 else d), nI (if d = 0 then f ^^^ frag w o else f)) := by
  unfold fX4_goOn
  rw [if_neg one_ne]
  rcases Nat.eq_zero_or_pos d with e | e
  · subst e
    rw [if_pos nI_0, fragmentOf_n hw ho, bd1_s, if_neg (show ¬ (31 : Int32) ≤ nI 0 from nI_ge (b := 31) (by omega) (by omega)), fb_xorI, nI_1]
    simp
  · rw [if_neg (nI_ne0 e (by omega)), if_neg (show ¬ d = 0 by omega)]
    by_cases q : d < 31
    · rw [if_neg (show ¬ (31 : Int32) ≤ nI d from nI_ge (b := 31) (by omega) (by omega)), if_pos q, nI_1]
    · rw [if_pos (show (31 : Int32) ≤ nI d from nI_le (a := 31) (by omega) (by omega)), if_neg q]
theorem pass_two {fo : Bool} {B i k : Nat} {ad : Nat → Nat} {ao : Nat → Int32} {pct g mk mb ds of fr d6 o6 v6 im : Int32} (hi : i < 20) (ha : ao i = nI (ad i)) (hw : ad i < 4096) (h : Pk fo B mk mb ds of fr d6 o6 v6 im) :
    ∃ g' mk' mb' ds' of' fr' d6' o6' v6' im', fX5_passRouter (nI (wd (ad i))) pct g mk mb ds of fr = some (g', mk', mb', ds', of', fr') ∧ fX6_process (nI i) pct g d6 o6 v6 im ao = some (g', d6', o6', v6', im') ∧ Pk fo (B + 1) mk' mb' ds' of' fr' d6' o6' v6' im' := by
  have hl := wd_lt hw
  obtain ⟨x, hx, e1, e2⟩ := draw_n g
  unfold fX5_passRouter fX6_process
  rw [gt_in hi (by omega), nI_clamp (by omega), ha, wordOf6_n hw, bd1_s, e1, e2, bd2_s, bd2_s]
  by_cases q : pct ≤ (nI x - nI x / (100 : Int32) * (100 : Int32))
  · rw [if_pos q, if_pos q]
    rcases h with ⟨h0, rfl, rfl, rfl⟩ | ⟨d, o, f, hd, ho, hf, rfl, rfl, rfl, rfl, rfl, rfl, rfl, hb, hfo, hfo2⟩
    · rw [if_pos rfl]
      refine ⟨_, 0, 0, ds, of, fr, -7, o6, v6, im, ?_, rfl, Or.inl ⟨h0, rfl, rfl, rfl⟩⟩
      unfold fX4_goOn
      rw [if_pos rfl, bd2_s]
    · rw [if_neg (nI_ne7 (by omega)), goOn_n (by omega) hd ho, bd2_s]
      refine ⟨_, 1, mb, nI (if d < 31 then d + 1 else d), nI o, nI (if d = 0 then f ^^^ frag (wd (ad i)) o else f), nI (if d < 31 then d + 1 else d), nI o, nI (if d = 0 then f ^^^ frag (wd (ad i)) o else f), im, rfl, ?_, Or.inr ⟨if d < 31 then d + 1 else d, o, if d = 0 then f ^^^ frag (wd (ad i)) o else f, by split <;> omega, ho, ?_, rfl, rfl, rfl, rfl, rfl, rfl, rfl, hb, fun z => ⟨(hfo z).1, by have := (hfo z).2; split <;> omega⟩, hfo2⟩⟩
      · rcases Nat.eq_zero_or_pos d with e | e
        · subst e
          rw [if_pos nI_0, fragmentOf6_n (by omega) ho, bd1_s, if_neg (show ¬ (31 : Int32) ≤ nI 0 from nI_ge (b := 31) (by omega) (by omega)), fb_xorI, nI_1]
          simp
        · rw [if_neg (nI_ne0 e (by omega)), if_neg (show ¬ d = 0 by omega)]
          by_cases q : d < 31
          · rw [if_neg (show ¬ (31 : Int32) ≤ nI d from nI_ge (b := 31) (by omega) (by omega)), if_pos q, nI_1]
          · rw [if_pos (show (31 : Int32) ≤ nI d from nI_le (a := 31) (by omega) (by omega)), if_neg q]
      · split
        · exact xor_lt32 hf (frag_lt _ _)
        · exact hf
  · rw [if_neg q, if_neg q]
    obtain ⟨y, hy, f1, f2⟩ := draw_n ((g * (1103515245 : Int32)) + (12345 : Int32))
    have em : nI y - nI y / (4 : Int32) * (4 : Int32) = nI (y % 4) := pk_rem (d := 4) (by omega) (by omega) (by omega)
    have hm : y % 4 < 4 := Nat.mod_lt _ (by omega)
    rw [f1, f2, bd2_s, bd2_s, em, nm_eq, fragmentOf_n (by omega) hm, fragmentOf6_n (by omega) hm, bd1_s, bd1_s]
    exact ⟨_, 1, 1, 0, nI (y % 4), nI (frag (wd (ad i)) (y % 4)), 0, nI (y % 4), nI (frag (wd (ad i)) (y % 4)), 1, rfl, rfl, Or.inr ⟨0, y % 4, frag (wd (ad i)) (y % 4), by omega, hm, frag_lt _ _, rfl, rfl, rfl, rfl, rfl, rfl, rfl, Or.inr rfl, fun _ => ⟨rfl, by omega⟩, fun _ => rfl⟩⟩
/-- the whole way -/
theorem trav_two {fo : Bool} {N k i0 : Nat} {pa ad de : Nat → Nat} {cnt : Int32} {P A D : Nat → Int32} {ro : Int32} {po ao dO : Nat → Int32} {pct g mk mb ds of fr d6 o6 v6 im : Int32} (hN : 5000 ≤ N) (h : NetOk k pa ad de cnt P A D ro po ao dO) (hi : i0 < k) (hp : Pk fo 0 mk mb ds of fr d6 o6 v6 im) :
    ∃ g' mk' mb' ds' of' fr' d6' o6' v6' im', fX5_carryToVictim N (nI i0) pct cnt P A g mk mb ds of fr = some (g', mk', mb', ds', of', fr') ∧ fX6_travels N (nI i0) pct g d6 o6 v6 im po ao = some (g', d6', o6', v6', im') ∧ Pk fo (de i0 + 1) mk' mb' ds' of' fr' d6' o6' v6' im' := by
  have h0 := h
  obtain ⟨h1, rfl, rfl, h4⟩ := h
  have hde := h0.de_le i0 hi
  unfold fX5_carryToVictim fX6_travels
  obtain ⟨⟨g1, m1, b1, s1, f1, r1⟩, ⟨g2, d2, o2, v2, i2⟩, e1, e2, rfl, hq⟩ := lp_two (step1 := fun s : Int32 × Int32 × Int32 × Int32 × Int32 × Int32 × Int32 × Int32 => bX5_carryToVictim_4 pct (nI k) P A s.1 s.2.1 s.2.2.1 s.2.2.2.1 s.2.2.2.2.1 s.2.2.2.2.2.1 s.2.2.2.2.2.2.1 s.2.2.2.2.2.2.2) (step2 := fun s : Int32 × Int32 × Int32 × Int32 × Int32 × Int32 => bX6_travels_2 pct po ao s.1 s.2.1 s.2.2.1 s.2.2.2.1 s.2.2.2.2.1 s.2.2.2.2.2)
    (fun x s1 s2 => ∃ hh g mk mb ds of fr d6 o6 v6 im, s1.2 = (nI hh, g, mk, mb, ds, of, fr) ∧ s2.2 = (g, d6, o6, v6, im) ∧ ((∃ i, i < k ∧ de i ≤ de i0 ∧ hh + de i = de i0 ∧ x = de i + 2 ∧ s1.1 = nI i ∧ s2.1 = nI i ∧ Pk fo (de i0 - de i) mk mb ds of fr d6 o6 v6 im) ∨ (hh ≤ 20 ∧ x = 1 ∧ s1.1 = -1 ∧ s2.1 = -7 ∧ Pk fo (de i0 + 1) mk mb ds of fr d6 o6 v6 im)))
    (fun r1 r2 => r1.1 = r2.1 ∧ Pk fo (de i0 + 1) r1.2.1 r1.2.2.1 r1.2.2.2.1 r1.2.2.2.2.1 r1.2.2.2.2.2 r2.2.1 r2.2.2.1 r2.2.2.2.1 r2.2.2.2.2) (by
    rintro x ⟨a, s1⟩ ⟨b, s2⟩ ⟨hh, g, mk, mb, ds, of, fr, d6, o6, v6, im, e1, e2, hr⟩
    dsimp only at e1 e2 hr ⊢
    subst e1 e2
    dsimp only
    rcases hr with ⟨i, hik, hd, hs, rfl, rfl, rfl, hpk⟩ | ⟨hh20, rfl, rfl, rfl, hpk⟩
    · obtain ⟨q1, q2, q3, q4, q5, q6, q7⟩ := h4 i hik
      obtain ⟨g', mk', mb', ds', of', fr', d6', o6', v6', im', w1, w2, w3⟩ := pass_two (k := k) (pct := pct) (g := g) (show i < 20 by omega) q2 q3 hpk
      unfold bX5_carryToVictim_4 bX6_travels_2
      rw [if_neg (show ¬ (20 : Int32) ≤ nI hh from nI_ge (b := 20) (by omega) (by omega)), has2_yes hik h1, bd1_s, if_neg one_ne, wordAt_n hik h1 q1 q3, bd1_s, w1, bd6_s, parentOf2_yes hik h1, bd1_s, if_neg (nI_ne7 (by omega)), w2, bd5_s, gt_in (by omega) (by omega), nI_clamp (by omega), nm_eq, nI_1]
      rcases Nat.eq_zero_or_pos i with z | z
      · obtain ⟨z1, z2, z3⟩ := q6 z
        refine Or.inr ⟨1, _, _, by omega, rfl, rfl, hh + 1, g', mk', mb', ds', of', fr', d6', o6', v6', im', rfl, rfl, Or.inr ⟨by omega, rfl, z1, z2, ?_⟩⟩
        rw [z3, Nat.sub_zero] at w3
        exact w3
      · obtain ⟨z1, z2, z3, z4⟩ := q7 z
        refine Or.inr ⟨de (pa i) + 2, _, _, by omega, rfl, rfl, hh + 1, g', mk', mb', ds', of', fr', d6', o6', v6', im', rfl, rfl, Or.inl ⟨pa i, by omega, by omega, by omega, rfl, z2, z3, ?_⟩⟩
        rw [show de i0 - de i + 1 = de i0 - de (pa i) by omega] at w3
        exact w3
    · refine Or.inl ⟨(g, mk, mb, ds, of, fr), (g, d6, o6, v6, im), ?_, rfl, rfl, hpk⟩
      unfold bX5_carryToVictim_4
      by_cases z : (20 : Int32) ≤ nI hh
      · rw [if_pos z]
      · rw [if_neg z, has2_m1, bd1_s, if_pos rfl]) (de i0 + 2) (nI i0, nI 0, g, mk, mb, ds, of, fr) (nI i0, g, d6, o6, v6, im) ⟨0, g, mk, mb, ds, of, fr, d6, o6, v6, im, rfl, rfl, Or.inl ⟨i0, hi, Nat.le_refl _, by omega, rfl, rfl, rfl, by rw [Nat.sub_self]; exact hp⟩⟩ N (by omega)
  exact ⟨g1, m1, b1, s1, f1, r1, d2, o2, v2, i2, e1, e2, hq⟩
theorem RelM.mono {T T' : Nat} {unm mrk : Int32} {C F mk : Nat → Int32} {rec unk : Int32} (hT : T ≤ T') (h : RelM T unm mrk C F mk rec unk) : RelM T' unm mrk C F mk rec unk := by
  obtain ⟨cn, fs, a, b, c, d⟩ := h
  exact ⟨cn, fs, a, b, fun i hi => ⟨(c i hi).1, (c i hi).2.1, Nat.le_trans (c i hi).2.2 hT⟩, d⟩
theorem mark_add {T x y z : Nat} {cn fs : Nat → Nat} {unm mrk : Int32} {C F mks : Nat → Int32} {rec unk : Int32} (hx : x < 32) (hy : y < 4) (hz : z < 32) (h : MarkOk T cn fs unm mrk C F mks rec unk) : RelM (T + 1) unm (mrk + 1) (upd C (32 * (4 * x + y) + z) (nI (cn (32 * (4 * x + y) + z) + 1))) (upd F (4 * x + y) (nI (fs (4 * x + y) ||| 2 ^ z))) (upd mks (32 * (4 * x + y) + z) (nI (cn (32 * (4 * x + y) + z) + 1))) (rec + 1) unk := by
  obtain ⟨h1, h2, c, d⟩ := h
  have c3 := (c (32 * (4 * x + y) + z) (by omega)).2.2
  obtain ⟨d1, d2, d3⟩ := d (4 * x + y) (by omega)
  refine ⟨fun i => if i = 32 * (4 * x + y) + z then cn i + 1 else cn i, fun q => if q = 4 * x + y then fs q ||| 2 ^ z else fs q, ?_, h2, fun i hi => ?_, fun q hq => ?_⟩
  · rw [h1, Int32.add_assoc]
  · by_cases e : i = 32 * (4 * x + y) + z
    · subst e
      simp only [pk_us, if_true]
      exact ⟨trivial, trivial, by omega⟩
    · simp only [pk_un e, if_neg e]
      exact ⟨(c i hi).1, (c i hi).2.1, by have := (c i hi).2.2; omega⟩
  · by_cases e : q = 4 * x + y
    · subst e
      simp only [pk_us, if_true]
      refine ⟨trivial, or_lt d2 hz, fun f hf => ?_⟩
      rw [fb_bit_set, d3 f hf]
      by_cases w : f = z
      · subst w; simp
      · have hne : ¬ (32 * (4 * x + y) + f = 32 * (4 * x + y) + z) := by omega
        simp [w, hne]
    · simp only [pk_un e, if_neg e]
      obtain ⟨e1, e2, e3⟩ := d q hq
      refine ⟨e1, e2, fun f hf => ?_⟩
      have hne : ¬ (32 * q + f = 32 * (4 * x + y) + z) := by omega
      rw [e3 f hf]
      simp [hne]
theorem isMarked_1 : fX4_isMarked 1 = some 1 := rfl
theorem isMarked_0 : fX4_isMarked 0 = some 0 := rfl
/-- the victim notes the packet -/
theorem note_two {fo : Bool} {B T : Nat} {mk mb ds of fr d6 o6 v6 im : Int32} {unm mrk : Int32} {C F mks : Nat → Int32} {rec unk : Int32} (hp : Pk fo B mk mb ds of fr d6 o6 v6 im) (h : RelM T unm mrk C F mks rec unk) :
    ∃ unm' mrk' C' F' rec' unk' mks', fX1_note unm mrk C F mk ds of fr = some (unm', mrk', C', F') ∧ fX6_records d6 o6 v6 rec unk mks = some (rec', unk', mks') ∧ RelM (T + 1) unm' mrk' C' F' mks' rec' unk' := by
  have hm := h.mono (T' := T + 1) (by omega)
  obtain ⟨cn, fs, rfl, e0, c, d⟩ := h
  subst e0
  unfold fX1_note fX6_records
  rcases hp with ⟨-, rfl, -, rfl⟩ | ⟨x, y, z, hx, hy, hz, rfl, rfl, rfl, rfl, rfl, rfl, rfl, -⟩
  · rw [isMarked_0, bd1_s, if_pos rfl, if_pos rfl]
    refine ⟨_, _, _, _, _, _, _, rfl, rfl, cn, fs, ?_, rfl, fun i hi => ⟨(c i hi).1, (c i hi).2.1, by have := (c i hi).2.2; omega⟩, d⟩
    rw [Int32.add_assoc, Int32.add_assoc, Int32.add_comm mrk 1]
  · obtain ⟨c1, c2, c3⟩ := c (32 * (4 * x + y) + z) (by omega)
    obtain ⟨d1, d2, d3⟩ := d (4 * x + y) (by omega)
    rw [isMarked_1, bd1_s, if_neg one_ne]
    have h7 : ¬ nI x = -7 := nI_ne7 (by omega)
    rw [if_neg h7]
    have v1 : fX4_fragmentValue (nI z) = some (nI z) := rfl
    have v2 : fX4_distance (nI x) = some (nI x) := rfl
    have v3 : fX4_offset (nI y) = some (nI y) := rfl
    rw [v1, bd1_s, v2, bd1_s, v3, bd1_s]
    have hp4 : 32 * (4 * x + y) + z < 4096 := by omega
    have hq1 : 4 * x + y < 128 := by omega
    have k1 : (nI (32 * (4 * x + y) + z)).toNatClampNeg = 32 * (4 * x + y) + z := nI_clamp (by omega)
    have k2 : (nI (4 * x + y)).toNatClampNeg = 4 * x + y := nI_clamp (by omega)
    have g1 : ¬ (nI (32 * (4 * x + y) + z) < 0 ∨ 4096 ≤ (nI (32 * (4 * x + y) + z)).toNatClampNeg) := nI_in hp4 (by omega)
    have g2 : ¬ (nI (4 * x + y) < 0 ∨ 128 ≤ (nI (4 * x + y)).toNatClampNeg) := nI_in hq1 (by omega)
    rw [countPlace_nI hx hy hz, bd1_s, if_pos g1, bd1_s, bd1_s, setPlace_nI hx hy, bd1_s, if_pos g2, placeOf_nI, bd1_s, if_pos g1, k1, k2, c1, c2, d1, bit_set_n hz, nI_1]
    exact ⟨unk, mrk + 1, upd C (32 * (4 * x + y) + z) (nI (cn (32 * (4 * x + y) + z) + 1)), upd F (4 * x + y) (nI (fs (4 * x + y) ||| 2 ^ z)), unk + mrk + 1, unk, upd mks (32 * (4 * x + y) + z) (nI (cn (32 * (4 * x + y) + z) + 1)), rfl, rfl, mark_add hx hy hz ⟨rfl, rfl, c, d⟩⟩
theorem byRouter_n {mb : Int32} (h : mb = 0 ∨ mb = 1) : fX4_isMarkedByRouter mb = some mb := by
  unfold fX4_isMarkedByRouter
  rw [if_pos h]
theorem Pk.mb01 {fo : Bool} {B : Nat} {mk mb ds of fr d6 o6 v6 im : Int32} (h : Pk fo B mk mb ds of fr d6 o6 v6 im) : mb = 0 ∨ mb = 1 := by
  rcases h with ⟨-, -, h, -⟩ | ⟨d, o, f, -, -, -, -, -, -, -, -, -, -, h, -⟩
  · exact Or.inl h
  · exact h
/-- one packet from its start to the record -/
theorem deliver_two {fo : Bool} {N k i0 T : Nat} {pa ad de : Nat → Nat} {cnt : Int32} {P A D : Nat → Int32} {ro : Int32} {po ao dO : Nat → Int32} {pct g mk mb ds of fr d6 o6 v6 im : Int32} {unm mrk : Int32} {C F mks : Nat → Int32} {rec unk : Int32} (hN : 5000 ≤ N) (h : NetOk k pa ad de cnt P A D ro po ao dO) (hi : i0 < k) (hp : Pk fo 0 mk mb ds of fr d6 o6 v6 im) (hm : RelM T unm mrk C F mks rec unk) :
    ∃ (r g' mk' mb' ds' of' fr' unm' mrk' : Int32) (C' F' : Nat → Int32) (d6' o6' v6' im' rec' unk' : Int32) (mks' : Nat → Int32), fX5_deliver N (nI i0) pct cnt P A g mk mb ds of fr unm mrk C F = some (r, g', mk', mb', ds', of', fr', unm', mrk', C', F') ∧ fX6_travels N (nI i0) pct g d6 o6 v6 im po ao = some (g', d6', o6', v6', im') ∧ fX6_records d6' o6' v6' rec unk mks = some (rec', unk', mks') ∧ Pk fo (de i0 + 1) mk' mb' ds' of' fr' d6' o6' v6' im' ∧ RelM (T + 1) unm' mrk' C' F' mks' rec' unk' ∧ r = if mb' = 0 then 0 else 1 := by
  obtain ⟨g', mk', mb', ds', of', fr', d6', o6', v6', im', e1, e2, e3⟩ := trav_two (pct := pct) (g := g) hN h hi hp
  obtain ⟨unm', mrk', C', F', rec', unk', mks', f1, f2, f3⟩ := note_two e3 hm
  refine ⟨if mb' = 0 then 0 else 1, g', mk', mb', ds', of', fr', unm', mrk', C', F', d6', o6', v6', im', rec', unk', mks', ?_, e2, f2, e3, f3, rfl⟩
  unfold fX5_deliver
  rw [e1, bd6_s, f1, bd4_s, byRouter_n e3.mb01, bd1_s]
  by_cases q : mb' = 0
  · rw [if_pos q, if_pos q]
  · rw [if_neg q, if_neg q]
