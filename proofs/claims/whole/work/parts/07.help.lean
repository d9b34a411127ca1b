/-! HELPERS: nest links, one form of contract, calls and ends in that form; pure words: names, reads, loops -/
/-- the nest mates' links (no words of a list: they go beside) -/
def kN (U : State) : Prop := va_Nw (.methodLinkNest RX1 67 yX5_fragmentOf RX5) U ∧ va_Nw (.methodLinkNest RX2 25 yX5_isBelow RX5) U ∧ va_Nw (.methodLinkNest RX2 40 yX5_wordOf RX5) U ∧ va_Nw (.methodLinkNest RX3 25 yX5_isBelow RX5) U ∧ va_Nw (.methodLinkNest RX4 32 yX5_fragmentOf RX5) U
theorem kN.warm {s U : State} (hW : s.WarmedH U.vm) (h : kN s) : kN U := ⟨va_Nw.warmM hW h.1, va_Nw.warmM hW h.2.1, va_Nw.warmM hW h.2.2.1, va_Nw.warmM hW h.2.2.2.1, va_Nw.warmM hW h.2.2.2.2⟩
theorem kN.same {u U : State} (e : u.vm = U.vm) (h : kN u) : kN U := ⟨va_Nw.same rfl e h.1, va_Nw.same rfl e h.2.1, va_Nw.same rfl e h.2.2.1, va_Nw.same rfl e h.2.2.2.1, va_Nw.same rfl e h.2.2.2.2⟩
/-- a contract's start: arguments, the heap's size, the cells w0 -/
abbrev prX (dC : Nat → ClassId) (dI : Nat → Nat → Nat) (cI : ClassId) (av : List Value) (sz : Nat) (w0 : va_W) : Array Value → State → Prop := va_Pc av (fun U => U.heap.size = sz ∧ va_P (dC, dI) vwCl w0 U.heap ∧ va_K (dC, dI) vwCl [(cI, FieldType.int)] U ∧ kN U ∧ va_D (fun _ => True) w0)
theorem prX_blind {dC : Nat → ClassId} {dI : Nat → Nat → Nat} {cI : ClassId} {av : List Value} {sz : Nat} {w0 : va_W} : FrameBlind (prX dC dI cI av sz w0) := fun a U g mk q => by
  obtain ⟨q0, q1, qP, qK, qN, qD⟩ := q
  exact ⟨q0, q1, qP, va_K.moved (u := U) (U := U.calling g mk a) (Vm.Alike.refl U.vm) qK, kN.same rfl qN, qD⟩
/-- a contract's end: the answer r, the cells w1 -/
abbrev poI (dC : Nat → ClassId) (dI : Nat → Nat → Nat) (ty : FieldType) (r : Int32) (w1 : va_W) (A : Nat → Prop) : Array Value → State → Outcome → State → Prop := va_Qi (fun (r' : Int32) (_ : Unit) => r' = r ∧ narrow ty (.int r) = .int r) (fun _ t => va_P (dC, dI) vwCl w1 t.heap ∧ va_D A w1) A
abbrev poV (dC : Nat → ClassId) (dI : Nat → Nat → Nat) (w1 : va_W) (A : Nat → Prop) : Array Value → State → Outcome → State → Prop := va_Qv (fun (_ : Unit) => True) (fun _ t => va_P (dC, dI) vwCl w1 t.heap ∧ va_D A w1) A
section HX
variable {p : Program} {l : Launch} {e : Env} {R : Room} {s : State} {m : MethodId} {args : Array Value} {below : List Frame} {meth : Method} {c : Code} {H : Heap} {locs : List Loc} {cells slots : Nat} {Q : State → Prop} {pc : Nat} {ls : Array Slot} {A0 : Nat → Prop} {H0 : Heap} {y : MethodName} {bytes cc : ByteArray} {maxL nL n index : Nat} {ret : Option FieldType} {wsc : List Cond} {rm : Room} {Ts : List Cond} {own host : String} {b : Addr} {As rest st0 : List Value} {dC : Nat → ClassId} {dI : Nat → Nat → Nat} {cI : ClassId} {ws wc wr w1 : va_W} {r : Int32} {ty : FieldType} {ci : Nat} {qc : vw_C} {fs : List Value}
theorem hx_sub (isC : List Nat) (hC : isC.map (fun i => ws[i]?) = wc.map some) : isC.filterMap (fun i => ws[i]?) = wc := by
  have h := congrArg (fun x => x.filterMap id) hC
  simpa [List.filterMap_map] using h
theorem hx_pre (hK : va_K (dC, dI) vwCl [(cI, FieldType.int)] s) (hN : kN s) (hP : va_P (dC, dI) vwCl ws H) (hD : va_D A0 ws) (isC : List Nat) (hC : isC.map (fun i => ws[i]?) = wc.map some) (hnC : va_nd isC = true) (av : List Value) : ∀ U : State, U.heap = H → s.WarmedH U.vm → prX dC dI cI av H.size wc av.toArray U := fun U hU hW => ⟨rfl, by rw [hU], by rw [hU]; exact hP.sub isC (hx_sub isC hC), va_K.moved hW.alike hK, kN.warm hW hN, (hD.sub isC hnC hC).weaken (fun _ _ _ _ => trivial)⟩
/-- behind a run in this form -/
theorem hx_goI {a : Array Value} (hr : va_Run p l e R s m args below meth c H locs cells slots 0 0 (F0 m pc ls st0) rest (poI dC dI ty r w1 (va_A wc H.size) a) (va_A wc H.size)) (hP : va_P (dC, dI) vwCl ws H) (hD : va_D A0 ws) (hS : va_S A0 H0 H locs) (hA : ∀ q, H0.size ≤ q → A0 q) (isC isR : List Nat) (hC : isC.map (fun i => ws[i]?) = wc.map some) (hR : isR.map (fun i => ws[i]?) = wr.map some) (hnR : va_nd isR = true) (hdis : ∀ i ∈ isR, i ∉ isC)
    (kk : ∀ (H1 : Heap) (locs1 : List Loc), va_P (dC, dI) vwCl (wr ++ w1) H1 → va_D A0 (wr ++ w1) → va_S A0 H0 H1 locs1 → narrow ty (.int r) = .int r → W p l e R s m args below meth c H1 locs1 cells slots Q (F0 m (pc + 3) ls (.int r :: rest))) : W p l e R s m args below meth c H locs cells slots Q (F0 m pc ls st0) := by
  have hFc := va_free (wc := wc) hD hS hA isC hC
  refine va_calli hr hS (fun q _ h => hFc q h) hFc (fun r' u t H1 locs ht hvm hw hB hz1 hk1 hS => ?_)
  obtain ⟨hP1, hD1⟩ := hB
  obtain ⟨rfl, hz⟩ := hw
  rw [ht] at hP1
  obtain ⟨hP', hD'⟩ := va_join (wr := wr) (w1 := w1) hP hD isC isR hC hR hnR hdis hk1 hFc hP1 hD1
  exact kk H1 locs hP' hD' hS hz
theorem hx_goV {a : Array Value} (hr : va_Run p l e R s m args below meth c H locs cells slots 0 0 (F0 m pc ls st0) rest (poV dC dI w1 (va_A wc H.size) a) (va_A wc H.size)) (hP : va_P (dC, dI) vwCl ws H) (hD : va_D A0 ws) (hS : va_S A0 H0 H locs) (hA : ∀ q, H0.size ≤ q → A0 q) (isC isR : List Nat) (hC : isC.map (fun i => ws[i]?) = wc.map some) (hR : isR.map (fun i => ws[i]?) = wr.map some) (hnR : va_nd isR = true) (hdis : ∀ i ∈ isR, i ∉ isC)
    (kk : ∀ (H1 : Heap) (locs1 : List Loc), va_P (dC, dI) vwCl (wr ++ w1) H1 → va_D A0 (wr ++ w1) → va_S A0 H0 H1 locs1 → W p l e R s m args below meth c H1 locs1 cells slots Q (F0 m (pc + 3) ls rest)) : W p l e R s m args below meth c H locs cells slots Q (F0 m pc ls st0) := by
  have hFc := va_free (wc := wc) hD hS hA isC hC
  refine va_callv hr hS (fun q _ h => hFc q h) hFc (fun u t H1 locs ht hvm hw hB hz1 hk1 hS => ?_)
  obtain ⟨hP1, hD1⟩ := hB
  rw [ht] at hP1
  obtain ⟨hP', hD'⟩ := va_join (wr := wr) (w1 := w1) hP hD isC isR hC hR hnR hdis hk1 hFc hP1 hD1
  exact kk H1 locs hP' hD' hS
/-- a virtual call that answers an int or a boolean -/
theorem ca_Vi (As rest : List Value) (isC isR : List Nat) (hx : p.tables.exec = Jvm.exec) (hb : c.code = cc) (hml : c.maxLocals = nL) (hown : s.vm.findClass own = some m.cls) (hts : ∀ w ∈ Ts, w.before args s = true) (hM : Met l y wsc rm (prX dC dI cI (.ref b :: As) H.size wc) (poI dC dI ty r w1 (va_A wc H.size)) 0 0 (va_A wc H.size))
    (cw : CallW R s args own qc.1 index y bytes maxL ret wsc rm 0 0 n) (hK : va_K (dC, dI) vwCl [(cI, FieldType.int)] s) (hN : kN s) (hP : va_P (dC, dI) vwCl ws H) (hD : va_D A0 ws) (hS : va_S A0 H0 H locs) (hA : ∀ q, H0.size ≤ q → A0 q) (hC : isC.map (fun i => ws[i]?) = wc.map some) (hR : isR.map (fun i => ws[i]?) = wr.map some) (hnC : va_nd isC = true) (hnR : va_nd isR = true) (hdis : ∀ i ∈ isR, i ∉ isC)
    (hci : vwCl[ci]? = some qc) (hrv : wc[0]? = some (b, .inr (ci, fs))) (hn : As.length = n) (hsz : ls.size = nL) (hst : st0 = As.reverse ++ .ref b :: rest) (hroom : (rest.map fun v => v.category).sum ≤ 8) (hdg : decode cc pc = .ok (.invokevirtual index, 3)) (hf : cells ≤ R.cells ∧ slots ≤ R.slots)
    (kk : ∀ (H1 : Heap) (locs1 : List Loc), va_P (dC, dI) vwCl (wr ++ w1) H1 → va_D A0 (wr ++ w1) → va_S A0 H0 H1 locs1 → narrow ty (.int r) = .int r → W p l e R s m args below meth c H1 locs1 cells slots Q (F0 m (pc + 3) ls (.int r :: rest))) : W p l e R s m args below meth c H locs cells slots Q (F0 m pc ls st0) :=
  hx_goI (va_runV (As := As) (rest := rest) ⟨hx, hb, hml, hown, hts⟩ hM cw ⟨prX_blind, va_recv hK (hP.sub isC (hx_sub isC hC)) hci hrv, hx_pre hK hN hP hD isC hC hnC (.ref b :: As)⟩ rfl hn hsz hst (lv_room hroom) hdg hf) hP hD hS hA isC isR hC hR hnR hdis kk
theorem ca_Vv (As rest : List Value) (isC isR : List Nat) (hx : p.tables.exec = Jvm.exec) (hb : c.code = cc) (hml : c.maxLocals = nL) (hown : s.vm.findClass own = some m.cls) (hts : ∀ w ∈ Ts, w.before args s = true) (hM : Met l y wsc rm (prX dC dI cI (.ref b :: As) H.size wc) (poV dC dI w1 (va_A wc H.size)) 0 0 (va_A wc H.size))
    (cw : CallW R s args own qc.1 index y bytes maxL ret wsc rm 0 0 n) (hK : va_K (dC, dI) vwCl [(cI, FieldType.int)] s) (hN : kN s) (hP : va_P (dC, dI) vwCl ws H) (hD : va_D A0 ws) (hS : va_S A0 H0 H locs) (hA : ∀ q, H0.size ≤ q → A0 q) (hC : isC.map (fun i => ws[i]?) = wc.map some) (hR : isR.map (fun i => ws[i]?) = wr.map some) (hnC : va_nd isC = true) (hnR : va_nd isR = true) (hdis : ∀ i ∈ isR, i ∉ isC)
    (hci : vwCl[ci]? = some qc) (hrv : wc[0]? = some (b, .inr (ci, fs))) (hn : As.length = n) (hsz : ls.size = nL) (hst : st0 = As.reverse ++ .ref b :: rest) (hroom : (rest.map fun v => v.category).sum ≤ 8) (hdg : decode cc pc = .ok (.invokevirtual index, 3)) (hf : cells ≤ R.cells ∧ slots ≤ R.slots)
    (kk : ∀ (H1 : Heap) (locs1 : List Loc), va_P (dC, dI) vwCl (wr ++ w1) H1 → va_D A0 (wr ++ w1) → va_S A0 H0 H1 locs1 → W p l e R s m args below meth c H1 locs1 cells slots Q (F0 m (pc + 3) ls rest)) : W p l e R s m args below meth c H locs cells slots Q (F0 m pc ls st0) :=
  hx_goV (va_runV (As := As) (rest := rest) ⟨hx, hb, hml, hown, hts⟩ hM cw ⟨prX_blind, va_recv hK (hP.sub isC (hx_sub isC hC)) hci hrv, hx_pre hK hN hP hD isC hC hnC (.ref b :: As)⟩ rfl hn hsz hst (lv_room hroom) hdg hf) hP hD hS hA isC isR hC hR hnR hdis kk
/-- a static call -/
theorem ca_Si (As rest : List Value) (isC isR : List Nat) (hx : p.tables.exec = Jvm.exec) (hb : c.code = cc) (hml : c.maxLocals = nL) (hown : s.vm.findClass own = some m.cls) (hts : ∀ w ∈ Ts, w.before args s = true) (hM : Met l y wsc rm (prX dC dI cI As H.size wc) (poI dC dI ty r w1 (va_A wc H.size)) 0 0 (va_A wc H.size))
    (cw : CallB R s args own index y bytes maxL ret wsc rm 0 0 n ∧ (Cond.static y).before args s = true) (hK : va_K (dC, dI) vwCl [(cI, FieldType.int)] s) (hN : kN s) (hP : va_P (dC, dI) vwCl ws H) (hD : va_D A0 ws) (hS : va_S A0 H0 H locs) (hA : ∀ q, H0.size ≤ q → A0 q) (hC : isC.map (fun i => ws[i]?) = wc.map some) (hR : isR.map (fun i => ws[i]?) = wr.map some) (hnC : va_nd isC = true) (hnR : va_nd isR = true) (hdis : ∀ i ∈ isR, i ∉ isC)
    (hn : As.length = n) (hsz : ls.size = nL) (hst : st0 = As.reverse ++ rest) (hroom : (rest.map fun v => v.category).sum ≤ 8) (hdg : decode cc pc = .ok (.invokestatic index, 3)) (hf : cells ≤ R.cells ∧ slots ≤ R.slots)
    (kk : ∀ (H1 : Heap) (locs1 : List Loc), va_P (dC, dI) vwCl (wr ++ w1) H1 → va_D A0 (wr ++ w1) → va_S A0 H0 H1 locs1 → narrow ty (.int r) = .int r → W p l e R s m args below meth c H1 locs1 cells slots Q (F0 m (pc + 3) ls (.int r :: rest))) : W p l e R s m args below meth c H locs cells slots Q (F0 m pc ls st0) :=
  hx_goI (va_runS (As := As) (rest := rest) ⟨hx, hb, hml, hown, hts⟩ hM cw ⟨prX_blind, hx_pre hK hN hP hD isC hC hnC As⟩ rfl hn hsz hst (lv_room hroom) hdg hf) hP hD hS hA isC isR hC hR hnR hdis kk
theorem ca_Sv (As rest : List Value) (isC isR : List Nat) (hx : p.tables.exec = Jvm.exec) (hb : c.code = cc) (hml : c.maxLocals = nL) (hown : s.vm.findClass own = some m.cls) (hts : ∀ w ∈ Ts, w.before args s = true) (hM : Met l y wsc rm (prX dC dI cI As H.size wc) (poV dC dI w1 (va_A wc H.size)) 0 0 (va_A wc H.size))
    (cw : CallB R s args own index y bytes maxL ret wsc rm 0 0 n ∧ (Cond.static y).before args s = true) (hK : va_K (dC, dI) vwCl [(cI, FieldType.int)] s) (hN : kN s) (hP : va_P (dC, dI) vwCl ws H) (hD : va_D A0 ws) (hS : va_S A0 H0 H locs) (hA : ∀ q, H0.size ≤ q → A0 q) (hC : isC.map (fun i => ws[i]?) = wc.map some) (hR : isR.map (fun i => ws[i]?) = wr.map some) (hnC : va_nd isC = true) (hnR : va_nd isR = true) (hdis : ∀ i ∈ isR, i ∉ isC)
    (hn : As.length = n) (hsz : ls.size = nL) (hst : st0 = As.reverse ++ rest) (hroom : (rest.map fun v => v.category).sum ≤ 8) (hdg : decode cc pc = .ok (.invokestatic index, 3)) (hf : cells ≤ R.cells ∧ slots ≤ R.slots)
    (kk : ∀ (H1 : Heap) (locs1 : List Loc), va_P (dC, dI) vwCl (wr ++ w1) H1 → va_D A0 (wr ++ w1) → va_S A0 H0 H1 locs1 → W p l e R s m args below meth c H1 locs1 cells slots Q (F0 m (pc + 3) ls rest)) : W p l e R s m args below meth c H locs cells slots Q (F0 m pc ls st0) :=
  hx_goV (va_runS (As := As) (rest := rest) ⟨hx, hb, hml, hown, hts⟩ hM cw ⟨prX_blind, hx_pre hK hN hP hD isC hC hnC As⟩ rfl hn hsz hst (lv_room hroom) hdg hf) hP hD hS hA isC isR hC hR hnR hdis kk
/-- a static call of a nest mate -/
theorem ca_Ni (As rest : List Value) (isC isR : List Nat) (hx : p.tables.exec = Jvm.exec) (hb : c.code = cc) (hml : c.maxLocals = nL) (hown : s.vm.findClass own = some m.cls) (hts : ∀ w ∈ Ts, w.before args s = true) (hM : Met l y wsc rm (prX dC dI cI As H.size wc) (poI dC dI ty r w1 (va_A wc H.size)) 0 0 (va_A wc H.size))
    (cw : va_CN R s args own index y host bytes maxL ret wsc rm 0 0 n ∧ (Cond.static y).before args s = true ∧ True) (hK : va_K (dC, dI) vwCl [(cI, FieldType.int)] s) (hN : kN s) (hP : va_P (dC, dI) vwCl ws H) (hD : va_D A0 ws) (hS : va_S A0 H0 H locs) (hA : ∀ q, H0.size ≤ q → A0 q) (hC : isC.map (fun i => ws[i]?) = wc.map some) (hR : isR.map (fun i => ws[i]?) = wr.map some) (hnC : va_nd isC = true) (hnR : va_nd isR = true) (hdis : ∀ i ∈ isR, i ∉ isC)
    (hn : As.length = n) (hsz : ls.size = nL) (hst : st0 = As.reverse ++ rest) (hroom : (rest.map fun v => v.category).sum ≤ 8) (hdg : decode cc pc = .ok (.invokestatic index, 3)) (hf : cells ≤ R.cells ∧ slots ≤ R.slots)
    (kk : ∀ (H1 : Heap) (locs1 : List Loc), va_P (dC, dI) vwCl (wr ++ w1) H1 → va_D A0 (wr ++ w1) → va_S A0 H0 H1 locs1 → narrow ty (.int r) = .int r → W p l e R s m args below meth c H1 locs1 cells slots Q (F0 m (pc + 3) ls (.int r :: rest))) : W p l e R s m args below meth c H locs cells slots Q (F0 m pc ls st0) :=
  hx_goI (va_runSN (As := As) (rest := rest) ⟨hx, hb, hml, hown, hts⟩ hM cw ⟨prX_blind, hx_pre hK hN hP hD isC hC hnC As⟩ rfl hn hsz hst (lv_room hroom) hdg hf) hP hD hS hA isC isR hC hR hnR hdis kk
/-- the ends -/
theorem re_i {v : Int32} (is : List Nat) (hx : p.tables.exec = Jvm.exec) (hb : c.code = cc) (hr : meth.sig.returnType = some ty) (hlocks : meth.locks = false) (hz : narrow ty (.int v) = .int v) (hP : va_P (dC, dI) vwCl ws H) (hD : va_D A0 ws) (hS : va_S A0 s.heap H locs) (hC : is.map (fun i => ws[i]?) = w1.map some) (hnC : va_nd is = true) (hv : v = r) (hdg : decode cc pc = .ok (.ireturn, 1)) :
    W p l e R s m args below meth c H locs cells slots (MQ below (poI dC dI ty r w1 A0) args s cells slots A0) (F0 m pc ls [.int v]) := by
  subst hv
  exact W.zret (v := v) hx hb hr hz (fun t ht hW => ⟨⟨v, (), rfl, ⟨rfl, hz⟩, by rw [ht]; exact hP.sub is (hx_sub is hC), hD.sub is hnC hC⟩, hS.F ht⟩) hS.2.2 hdg hlocks
theorem re_v (is : List Nat) (hx : p.tables.exec = Jvm.exec) (hb : c.code = cc) (hr : meth.sig.returnType = none) (hlocks : meth.locks = false) (hP : va_P (dC, dI) vwCl ws H) (hD : va_D A0 ws) (hS : va_S A0 s.heap H locs) (hC : is.map (fun i => ws[i]?) = w1.map some) (hnC : va_nd is = true) (hdg : decode cc pc = .ok (.return_, 1)) :
    W p l e R s m args below meth c H locs cells slots (MQ below (poV dC dI w1 A0) args s cells slots A0) (F0 m pc ls []) := 
  W.vret hx hb hr (fun t ht hW => ⟨⟨(), rfl, trivial, by rw [ht]; exact hP.sub is (hx_sub is hC), hD.sub is hnC hC⟩, hS.F ht⟩) hS.2.2 hdg hlocks
end HX
/-- a contract out of a walk from the entry -/
theorem ofX {l : Launch} {dC : Nat → ClassId} {dI : Nat → Nat → Nat} {cI : ClassId} {y : MethodName} {ws ws' : List Cond} {rm : Room} {mc ms : Nat} {cc : ByteArray} {maxL : Nat} {ret : Option FieldType} {av : List Value} {sz : Nat} {w0 : va_W} {lv0 : List (Nat × Value)} {QA : (Nat → Prop) → Array Value → State → Outcome → State → Prop}
    (hy : plainName y.cls = true) (hw : ws = Cond.code y cc maxL ret :: ws') (hav : (lg_sl av).length ≤ maxL) (hlv : lv_args 0 av = lv0)
    (body : ∀ (p : Program) (e : Env) (s : State) (m : MethodId) (below : List Frame) (meth : Method) (c : Code) (A : Nat → Prop) (ls : Array Slot) (H : Heap) (locs : List Loc), p.tables.exec = Jvm.exec → c.code = cc → meth.sig.returnType = ret → c.maxLocals = maxL → s.vm.findClass y.cls = some m.cls → (∀ w ∈ ws, w.before av.toArray s = true) → meth.locks = false → meth.name = y.name → va_K (dC, dI) vwCl [(cI, FieldType.int)] s → kN s → (∀ q : Nat, s.heap.size ≤ q → A q) → va_P (dC, dI) vwCl w0 H → va_D A w0 → va_S A s.heap H locs → lv_has ls maxL lv0 →
      W p l e rm s m av.toArray below meth c H locs 0 0 (MQ below (QA A) av.toArray s mc ms A) (F0 m 0 ls [])) : Met l y ws rm (prX dC dI cI av sz w0) (QA (va_A w0 sz)) mc ms (va_A w0 sz) := by
  refine Met.ofW (cc := cc) (maxL := maxL) (ret := ret) hy hw ?_
  intro p e s m args below meth c s₁ B hml hv
  obtain ⟨rfl, hsz, hP, hK, hN, hD0⟩ := hv
  have hin : meth.name = y.name := (name_of_methodNamed B.named B.method).1
  subst hsz
  have hD := hD0.self (sz := s.heap.size)
  have hl := lv_entry av (n := maxL) hav
  rw [lg_entry_eq]
  rw [hlv] at hl
  exact body p e s m below meth c (va_A w0 s.heap.size) _ s.heap [] B.exec B.bytes B.returns hml (findClass_of_methodNamed B.named) (atoms_spec (ws := ws) B.pre) B.notSynchronized hin hK hN (fun q h => Or.inr h) hP hD va_S.rf hl
/-! pure words -/
theorem it_p {α : Type} {q : Prop} [Decidable q] {a b x : α} (hc : q) (h : (if q then a else b) = x) : a = x := by rw [if_pos hc] at h; exact h
theorem it_n {α : Type} {q : Prop} [Decidable q] {a b x : α} (hc : ¬ q) (h : (if q then a else b) = x) : b = x := by rw [if_neg hc] at h; exact h
theorem gd_e {α : Type} {q : Prop} [Decidable q] {a : Option α} {x : α} (h : (if q then a else none) = some x) : q ∧ a = some x := by
  by_cases hc : q
  · rw [if_pos hc] at h; exact ⟨hc, h⟩
  · rw [if_neg hc] at h; exact absurd h (by simp)
/-- a named value -/
def nm {α β : Type} (v : α) (k : α → Option β) : Option β := k v
theorem nm_u {α β : Type} {u v : α} {k : α → Option β} {x : β} (e : u = v) (h : nm v k = some x) : k u = some x := by subst e; exact h
theorem bl_01 {v : Int32} (h : v = 0 ∨ v = 1) : narrow .boolean (.int v) = .int v := by rcases h with rfl | rfl <;> rfl
def bd1 {a β : Type} (o : Option a) (k : a → Option β) : Option β := match o with
  | none => none
  | some u => k u
theorem bd1_e {a β : Type} {o : Option a} {k : a → Option β} {x : β} (h : bd1 o k = some x) : ∃ u1 : a, o = some u1 ∧ k u1 = some x := by
  cases o with
  | none => exact absurd h (by simp [bd1])
  | some u => exact ⟨u, rfl, h⟩
def rmI (x y : Int32) : Int32 := x - x / y * y
def usI (x y : Int32) : Int32 := (x.toUInt32 >>> (y.toUInt32 &&& Int32.toUInt32 31)).toInt32
/-- a loop with fuel -/
def lp {S R : Type} (step : S → Option (S ⊕ R)) : Nat → S → Option R
  | 0, _ => none
  | n + 1, s => match step s with
    | none => none
    | some (.inl s') => lp step n s'
    | some (.inr r) => some r
def un {S R : Type} (step : S → Option (S ⊕ R)) (n : Nat) (o : S ⊕ R) (r : R) : Prop := match o with
  | .inl s' => lp step n s' = some r
  | .inr r' => r' = r
theorem un_r {S R : Type} {step : S → Option (S ⊕ R)} {n : Nat} {x r : R} (h : un step n (.inr x) r) : x = r := h
theorem un_l {S R : Type} {step : S → Option (S ⊕ R)} {n : Nat} {x : S} {r : R} (h : un step n (.inl x) r) : lp step n x = some r := h
theorem lp_0 {S R : Type} {step : S → Option (S ⊕ R)} {s : S} {r : R} (h : lp step 0 s = some r) : False := by simp [lp] at h
theorem lp_s {S R : Type} {step : S → Option (S ⊕ R)} {n : Nat} {s : S} {r : R} (h : lp step (n + 1) s = some r) : ∃ o : S ⊕ R, step s = some o ∧ un step n o r := by
  rw [lp] at h
  cases hs : step s with
  | none => rw [hs] at h; exact absurd h (by simp)
  | some o =>
    rw [hs] at h
    cases o with
    | inl s' => exact ⟨_, rfl, h⟩
    | inr r' => exact ⟨_, rfl, Option.some.inj h⟩
def bd2 {a1 a2 β : Type} (o : Option (a1 × a2)) (k : a1 → a2 → Option β) : Option β := match o with
  | none => none
  | some (u1, u2) => k u1 u2
theorem bd2_e {a1 a2 β : Type} {o : Option (a1 × a2)} {k : a1 → a2 → Option β} {x : β} (h : bd2 o k = some x) : ∃ (u1 : a1) (u2 : a2), o = some (u1, u2) ∧ k u1 u2 = some x := by
  cases o with
  | none => exact absurd h (by simp [bd2])
  | some u => exact ⟨u.1, u.2, rfl, h⟩
def bd3 {a1 a2 a3 β : Type} (o : Option (a1 × a2 × a3)) (k : a1 → a2 → a3 → Option β) : Option β := match o with
  | none => none
  | some (u1, u2, u3) => k u1 u2 u3
theorem bd3_e {a1 a2 a3 β : Type} {o : Option (a1 × a2 × a3)} {k : a1 → a2 → a3 → Option β} {x : β} (h : bd3 o k = some x) : ∃ (u1 : a1) (u2 : a2) (u3 : a3), o = some (u1, u2, u3) ∧ k u1 u2 u3 = some x := by
  cases o with
  | none => exact absurd h (by simp [bd3])
  | some u => exact ⟨u.1, u.2.1, u.2.2, rfl, h⟩
def bd4 {a1 a2 a3 a4 β : Type} (o : Option (a1 × a2 × a3 × a4)) (k : a1 → a2 → a3 → a4 → Option β) : Option β := match o with
  | none => none
  | some (u1, u2, u3, u4) => k u1 u2 u3 u4
theorem bd4_e {a1 a2 a3 a4 β : Type} {o : Option (a1 × a2 × a3 × a4)} {k : a1 → a2 → a3 → a4 → Option β} {x : β} (h : bd4 o k = some x) : ∃ (u1 : a1) (u2 : a2) (u3 : a3) (u4 : a4), o = some (u1, u2, u3, u4) ∧ k u1 u2 u3 u4 = some x := by
  cases o with
  | none => exact absurd h (by simp [bd4])
  | some u => exact ⟨u.1, u.2.1, u.2.2.1, u.2.2.2, rfl, h⟩
def bd5 {a1 a2 a3 a4 a5 β : Type} (o : Option (a1 × a2 × a3 × a4 × a5)) (k : a1 → a2 → a3 → a4 → a5 → Option β) : Option β := match o with
  | none => none
  | some (u1, u2, u3, u4, u5) => k u1 u2 u3 u4 u5
theorem bd5_e {a1 a2 a3 a4 a5 β : Type} {o : Option (a1 × a2 × a3 × a4 × a5)} {k : a1 → a2 → a3 → a4 → a5 → Option β} {x : β} (h : bd5 o k = some x) : ∃ (u1 : a1) (u2 : a2) (u3 : a3) (u4 : a4) (u5 : a5), o = some (u1, u2, u3, u4, u5) ∧ k u1 u2 u3 u4 u5 = some x := by
  cases o with
  | none => exact absurd h (by simp [bd5])
  | some u => exact ⟨u.1, u.2.1, u.2.2.1, u.2.2.2.1, u.2.2.2.2, rfl, h⟩
def bd6 {a1 a2 a3 a4 a5 a6 β : Type} (o : Option (a1 × a2 × a3 × a4 × a5 × a6)) (k : a1 → a2 → a3 → a4 → a5 → a6 → Option β) : Option β := match o with
  | none => none
  | some (u1, u2, u3, u4, u5, u6) => k u1 u2 u3 u4 u5 u6
theorem bd6_e {a1 a2 a3 a4 a5 a6 β : Type} {o : Option (a1 × a2 × a3 × a4 × a5 × a6)} {k : a1 → a2 → a3 → a4 → a5 → a6 → Option β} {x : β} (h : bd6 o k = some x) : ∃ (u1 : a1) (u2 : a2) (u3 : a3) (u4 : a4) (u5 : a5) (u6 : a6), o = some (u1, u2, u3, u4, u5, u6) ∧ k u1 u2 u3 u4 u5 u6 = some x := by
  cases o with
  | none => exact absurd h (by simp [bd6])
  | some u => exact ⟨u.1, u.2.1, u.2.2.1, u.2.2.2.1, u.2.2.2.2.1, u.2.2.2.2.2, rfl, h⟩
def bd7 {a1 a2 a3 a4 a5 a6 a7 β : Type} (o : Option (a1 × a2 × a3 × a4 × a5 × a6 × a7)) (k : a1 → a2 → a3 → a4 → a5 → a6 → a7 → Option β) : Option β := match o with
  | none => none
  | some (u1, u2, u3, u4, u5, u6, u7) => k u1 u2 u3 u4 u5 u6 u7
theorem bd7_e {a1 a2 a3 a4 a5 a6 a7 β : Type} {o : Option (a1 × a2 × a3 × a4 × a5 × a6 × a7)} {k : a1 → a2 → a3 → a4 → a5 → a6 → a7 → Option β} {x : β} (h : bd7 o k = some x) : ∃ (u1 : a1) (u2 : a2) (u3 : a3) (u4 : a4) (u5 : a5) (u6 : a6) (u7 : a7), o = some (u1, u2, u3, u4, u5, u6, u7) ∧ k u1 u2 u3 u4 u5 u6 u7 = some x := by
  cases o with
  | none => exact absurd h (by simp [bd7])
  | some u => exact ⟨u.1, u.2.1, u.2.2.1, u.2.2.2.1, u.2.2.2.2.1, u.2.2.2.2.2.1, u.2.2.2.2.2.2, rfl, h⟩
def bd8 {a1 a2 a3 a4 a5 a6 a7 a8 β : Type} (o : Option (a1 × a2 × a3 × a4 × a5 × a6 × a7 × a8)) (k : a1 → a2 → a3 → a4 → a5 → a6 → a7 → a8 → Option β) : Option β := match o with
  | none => none
  | some (u1, u2, u3, u4, u5, u6, u7, u8) => k u1 u2 u3 u4 u5 u6 u7 u8
theorem bd8_e {a1 a2 a3 a4 a5 a6 a7 a8 β : Type} {o : Option (a1 × a2 × a3 × a4 × a5 × a6 × a7 × a8)} {k : a1 → a2 → a3 → a4 → a5 → a6 → a7 → a8 → Option β} {x : β} (h : bd8 o k = some x) : ∃ (u1 : a1) (u2 : a2) (u3 : a3) (u4 : a4) (u5 : a5) (u6 : a6) (u7 : a7) (u8 : a8), o = some (u1, u2, u3, u4, u5, u6, u7, u8) ∧ k u1 u2 u3 u4 u5 u6 u7 u8 = some x := by
  cases o with
  | none => exact absurd h (by simp [bd8])
  | some u => exact ⟨u.1, u.2.1, u.2.2.1, u.2.2.2.1, u.2.2.2.2.1, u.2.2.2.2.2.1, u.2.2.2.2.2.2.1, u.2.2.2.2.2.2.2, rfl, h⟩
def bd9 {a1 a2 a3 a4 a5 a6 a7 a8 a9 β : Type} (o : Option (a1 × a2 × a3 × a4 × a5 × a6 × a7 × a8 × a9)) (k : a1 → a2 → a3 → a4 → a5 → a6 → a7 → a8 → a9 → Option β) : Option β := match o with
  | none => none
  | some (u1, u2, u3, u4, u5, u6, u7, u8, u9) => k u1 u2 u3 u4 u5 u6 u7 u8 u9
theorem bd9_e {a1 a2 a3 a4 a5 a6 a7 a8 a9 β : Type} {o : Option (a1 × a2 × a3 × a4 × a5 × a6 × a7 × a8 × a9)} {k : a1 → a2 → a3 → a4 → a5 → a6 → a7 → a8 → a9 → Option β} {x : β} (h : bd9 o k = some x) : ∃ (u1 : a1) (u2 : a2) (u3 : a3) (u4 : a4) (u5 : a5) (u6 : a6) (u7 : a7) (u8 : a8) (u9 : a9), o = some (u1, u2, u3, u4, u5, u6, u7, u8, u9) ∧ k u1 u2 u3 u4 u5 u6 u7 u8 u9 = some x := by
  cases o with
  | none => exact absurd h (by simp [bd9])
  | some u => exact ⟨u.1, u.2.1, u.2.2.1, u.2.2.2.1, u.2.2.2.2.1, u.2.2.2.2.2.1, u.2.2.2.2.2.2.1, u.2.2.2.2.2.2.2.1, u.2.2.2.2.2.2.2.2, rfl, h⟩
def bd10 {a1 a2 a3 a4 a5 a6 a7 a8 a9 a10 β : Type} (o : Option (a1 × a2 × a3 × a4 × a5 × a6 × a7 × a8 × a9 × a10)) (k : a1 → a2 → a3 → a4 → a5 → a6 → a7 → a8 → a9 → a10 → Option β) : Option β := match o with
  | none => none
  | some (u1, u2, u3, u4, u5, u6, u7, u8, u9, u10) => k u1 u2 u3 u4 u5 u6 u7 u8 u9 u10
theorem bd10_e {a1 a2 a3 a4 a5 a6 a7 a8 a9 a10 β : Type} {o : Option (a1 × a2 × a3 × a4 × a5 × a6 × a7 × a8 × a9 × a10)} {k : a1 → a2 → a3 → a4 → a5 → a6 → a7 → a8 → a9 → a10 → Option β} {x : β} (h : bd10 o k = some x) : ∃ (u1 : a1) (u2 : a2) (u3 : a3) (u4 : a4) (u5 : a5) (u6 : a6) (u7 : a7) (u8 : a8) (u9 : a9) (u10 : a10), o = some (u1, u2, u3, u4, u5, u6, u7, u8, u9, u10) ∧ k u1 u2 u3 u4 u5 u6 u7 u8 u9 u10 = some x := by
  cases o with
  | none => exact absurd h (by simp [bd10])
  | some u => exact ⟨u.1, u.2.1, u.2.2.1, u.2.2.2.1, u.2.2.2.2.1, u.2.2.2.2.2.1, u.2.2.2.2.2.2.1, u.2.2.2.2.2.2.2.1, u.2.2.2.2.2.2.2.2.1, u.2.2.2.2.2.2.2.2.2, rfl, h⟩
def bd11 {a1 a2 a3 a4 a5 a6 a7 a8 a9 a10 a11 β : Type} (o : Option (a1 × a2 × a3 × a4 × a5 × a6 × a7 × a8 × a9 × a10 × a11)) (k : a1 → a2 → a3 → a4 → a5 → a6 → a7 → a8 → a9 → a10 → a11 → Option β) : Option β := match o with
  | none => none
  | some (u1, u2, u3, u4, u5, u6, u7, u8, u9, u10, u11) => k u1 u2 u3 u4 u5 u6 u7 u8 u9 u10 u11
theorem bd11_e {a1 a2 a3 a4 a5 a6 a7 a8 a9 a10 a11 β : Type} {o : Option (a1 × a2 × a3 × a4 × a5 × a6 × a7 × a8 × a9 × a10 × a11)} {k : a1 → a2 → a3 → a4 → a5 → a6 → a7 → a8 → a9 → a10 → a11 → Option β} {x : β} (h : bd11 o k = some x) : ∃ (u1 : a1) (u2 : a2) (u3 : a3) (u4 : a4) (u5 : a5) (u6 : a6) (u7 : a7) (u8 : a8) (u9 : a9) (u10 : a10) (u11 : a11), o = some (u1, u2, u3, u4, u5, u6, u7, u8, u9, u10, u11) ∧ k u1 u2 u3 u4 u5 u6 u7 u8 u9 u10 u11 = some x := by
  cases o with
  | none => exact absurd h (by simp [bd11])
  | some u => exact ⟨u.1, u.2.1, u.2.2.1, u.2.2.2.1, u.2.2.2.2.1, u.2.2.2.2.2.1, u.2.2.2.2.2.2.1, u.2.2.2.2.2.2.2.1, u.2.2.2.2.2.2.2.2.1, u.2.2.2.2.2.2.2.2.2.1, u.2.2.2.2.2.2.2.2.2.2, rfl, h⟩
def bd12 {a1 a2 a3 a4 a5 a6 a7 a8 a9 a10 a11 a12 β : Type} (o : Option (a1 × a2 × a3 × a4 × a5 × a6 × a7 × a8 × a9 × a10 × a11 × a12)) (k : a1 → a2 → a3 → a4 → a5 → a6 → a7 → a8 → a9 → a10 → a11 → a12 → Option β) : Option β := match o with
  | none => none
  | some (u1, u2, u3, u4, u5, u6, u7, u8, u9, u10, u11, u12) => k u1 u2 u3 u4 u5 u6 u7 u8 u9 u10 u11 u12
theorem bd12_e {a1 a2 a3 a4 a5 a6 a7 a8 a9 a10 a11 a12 β : Type} {o : Option (a1 × a2 × a3 × a4 × a5 × a6 × a7 × a8 × a9 × a10 × a11 × a12)} {k : a1 → a2 → a3 → a4 → a5 → a6 → a7 → a8 → a9 → a10 → a11 → a12 → Option β} {x : β} (h : bd12 o k = some x) : ∃ (u1 : a1) (u2 : a2) (u3 : a3) (u4 : a4) (u5 : a5) (u6 : a6) (u7 : a7) (u8 : a8) (u9 : a9) (u10 : a10) (u11 : a11) (u12 : a12), o = some (u1, u2, u3, u4, u5, u6, u7, u8, u9, u10, u11, u12) ∧ k u1 u2 u3 u4 u5 u6 u7 u8 u9 u10 u11 u12 = some x := by
  cases o with
  | none => exact absurd h (by simp [bd12])
  | some u => exact ⟨u.1, u.2.1, u.2.2.1, u.2.2.2.1, u.2.2.2.2.1, u.2.2.2.2.2.1, u.2.2.2.2.2.2.1, u.2.2.2.2.2.2.2.1, u.2.2.2.2.2.2.2.2.1, u.2.2.2.2.2.2.2.2.2.1, u.2.2.2.2.2.2.2.2.2.2.1, u.2.2.2.2.2.2.2.2.2.2.2, rfl, h⟩
def bd13 {a1 a2 a3 a4 a5 a6 a7 a8 a9 a10 a11 a12 a13 β : Type} (o : Option (a1 × a2 × a3 × a4 × a5 × a6 × a7 × a8 × a9 × a10 × a11 × a12 × a13)) (k : a1 → a2 → a3 → a4 → a5 → a6 → a7 → a8 → a9 → a10 → a11 → a12 → a13 → Option β) : Option β := match o with
  | none => none
  | some (u1, u2, u3, u4, u5, u6, u7, u8, u9, u10, u11, u12, u13) => k u1 u2 u3 u4 u5 u6 u7 u8 u9 u10 u11 u12 u13
theorem bd13_e {a1 a2 a3 a4 a5 a6 a7 a8 a9 a10 a11 a12 a13 β : Type} {o : Option (a1 × a2 × a3 × a4 × a5 × a6 × a7 × a8 × a9 × a10 × a11 × a12 × a13)} {k : a1 → a2 → a3 → a4 → a5 → a6 → a7 → a8 → a9 → a10 → a11 → a12 → a13 → Option β} {x : β} (h : bd13 o k = some x) : ∃ (u1 : a1) (u2 : a2) (u3 : a3) (u4 : a4) (u5 : a5) (u6 : a6) (u7 : a7) (u8 : a8) (u9 : a9) (u10 : a10) (u11 : a11) (u12 : a12) (u13 : a13), o = some (u1, u2, u3, u4, u5, u6, u7, u8, u9, u10, u11, u12, u13) ∧ k u1 u2 u3 u4 u5 u6 u7 u8 u9 u10 u11 u12 u13 = some x := by
  cases o with
  | none => exact absurd h (by simp [bd13])
  | some u => exact ⟨u.1, u.2.1, u.2.2.1, u.2.2.2.1, u.2.2.2.2.1, u.2.2.2.2.2.1, u.2.2.2.2.2.2.1, u.2.2.2.2.2.2.2.1, u.2.2.2.2.2.2.2.2.1, u.2.2.2.2.2.2.2.2.2.1, u.2.2.2.2.2.2.2.2.2.2.1, u.2.2.2.2.2.2.2.2.2.2.2.1, u.2.2.2.2.2.2.2.2.2.2.2.2, rfl, h⟩
def bd14 {a1 a2 a3 a4 a5 a6 a7 a8 a9 a10 a11 a12 a13 a14 β : Type} (o : Option (a1 × a2 × a3 × a4 × a5 × a6 × a7 × a8 × a9 × a10 × a11 × a12 × a13 × a14)) (k : a1 → a2 → a3 → a4 → a5 → a6 → a7 → a8 → a9 → a10 → a11 → a12 → a13 → a14 → Option β) : Option β := match o with
  | none => none
  | some (u1, u2, u3, u4, u5, u6, u7, u8, u9, u10, u11, u12, u13, u14) => k u1 u2 u3 u4 u5 u6 u7 u8 u9 u10 u11 u12 u13 u14
theorem bd14_e {a1 a2 a3 a4 a5 a6 a7 a8 a9 a10 a11 a12 a13 a14 β : Type} {o : Option (a1 × a2 × a3 × a4 × a5 × a6 × a7 × a8 × a9 × a10 × a11 × a12 × a13 × a14)} {k : a1 → a2 → a3 → a4 → a5 → a6 → a7 → a8 → a9 → a10 → a11 → a12 → a13 → a14 → Option β} {x : β} (h : bd14 o k = some x) : ∃ (u1 : a1) (u2 : a2) (u3 : a3) (u4 : a4) (u5 : a5) (u6 : a6) (u7 : a7) (u8 : a8) (u9 : a9) (u10 : a10) (u11 : a11) (u12 : a12) (u13 : a13) (u14 : a14), o = some (u1, u2, u3, u4, u5, u6, u7, u8, u9, u10, u11, u12, u13, u14) ∧ k u1 u2 u3 u4 u5 u6 u7 u8 u9 u10 u11 u12 u13 u14 = some x := by
  cases o with
  | none => exact absurd h (by simp [bd14])
  | some u => exact ⟨u.1, u.2.1, u.2.2.1, u.2.2.2.1, u.2.2.2.2.1, u.2.2.2.2.2.1, u.2.2.2.2.2.2.1, u.2.2.2.2.2.2.2.1, u.2.2.2.2.2.2.2.2.1, u.2.2.2.2.2.2.2.2.2.1, u.2.2.2.2.2.2.2.2.2.2.1, u.2.2.2.2.2.2.2.2.2.2.2.1, u.2.2.2.2.2.2.2.2.2.2.2.2.1, u.2.2.2.2.2.2.2.2.2.2.2.2.2, rfl, h⟩
