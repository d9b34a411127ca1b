/-! counting the bits of a word; fragments; tests of one bit -/
theorem land_split (k : Nat) {a m : Nat} (b n : Nat) (ha : a < 2 ^ k) (hm : m < 2 ^ k) : (2 ^ k * b + a) &&& (2 ^ k * n + m) = 2 ^ k * (b &&& n) + (a &&& m) := by
  apply Nat.eq_of_testBit_eq
  intro i
  have h2 : a &&& m < 2 ^ k := Nat.lt_of_le_of_lt Nat.and_le_left ha
  rw [Nat.testBit_and, Nat.testBit_two_pow_mul_add _ ha, Nat.testBit_two_pow_mul_add _ hm, Nat.testBit_two_pow_mul_add _ h2]
  by_cases q : i < k
  · simp only [if_pos q, Nat.testBit_and]
  · simp only [if_neg q, Nat.testBit_and]
def pc1 (x M : Nat) : Nat := x - ((x / 2) &&& M)
def pc2 (x M : Nat) : Nat := (x &&& M) + ((x / 4) &&& M)
def pc3 (x M : Nat) : Nat := (x + x / 16) &&& M
theorem pc_b1 : ∀ r, r < 2 → ∀ a, a < 256 → (128 * r + a / 2) &&& 85 = (a / 2) &&& 85 := by decide +kernel
theorem pc_b2 : ∀ r, r < 4 → ∀ a, a < 256 → (64 * r + a / 4) &&& 51 = (a / 4) &&& 51 := by decide +kernel
theorem pc_b3 : ∀ a, a < 256 → pc1 a 85 < 256 ∧ pc2 (pc1 a 85) 51 < 256 ∧ pc2 (pc1 a 85) 51 % 16 ≤ 4 ∧ pc2 (pc1 a 85) 51 / 16 ≤ 4 ∧ pc3 (pc2 (pc1 a 85) 51) 15 ≤ 8 ∧ pc3 (pc2 (pc1 a 85) 51) 15 = fb_ct a.testBit 8 := by decide +kernel
theorem pc1_split {a : Nat} (b M : Nat) (ha : a < 256) : pc1 (256 * b + a) (256 * M + 85) = 256 * pc1 b M + pc1 a 85 := by
  unfold pc1
  have e : (256 * b + a) / 2 = 2 ^ 8 * (b / 2) + (128 * (b % 2) + a / 2) := by omega
  rw [e, show 256 * M + 85 = 2 ^ 8 * M + 85 by omega, land_split 8 _ _ (by omega) (by omega), pc_b1 _ (by omega) _ ha]
  have h1 : (b / 2) &&& M ≤ b / 2 := Nat.and_le_left
  have h2 : (a / 2) &&& 85 ≤ a / 2 := Nat.and_le_left
  omega
theorem pc2_split {a : Nat} (b M : Nat) (ha : a < 256) : pc2 (256 * b + a) (256 * M + 51) = 256 * pc2 b M + pc2 a 51 := by
  unfold pc2
  have e : (256 * b + a) / 4 = 2 ^ 8 * (b / 4) + (64 * (b % 4) + a / 4) := by omega
  rw [e, show 256 * M + 51 = 2 ^ 8 * M + 51 by omega, show 256 * b + a = 2 ^ 8 * b + a by omega, land_split 8 _ _ (by omega) (by omega), land_split 8 _ _ (by omega) (by omega), pc_b2 _ (by omega) _ ha]
  omega
theorem pc3_split {a : Nat} (b M : Nat) (ha : a < 256) (h1 : a % 16 ≤ 4) (h2 : a / 16 ≤ 4) (hb : b % 16 ≤ 4) : pc3 (256 * b + a) (256 * M + 15) = 256 * pc3 b M + pc3 a 15 := by
  unfold pc3
  have e : (256 * b + a) + (256 * b + a) / 16 = 2 ^ 8 * (b + b / 16) + (a + 16 * (b % 16) + a / 16) := by omega
  rw [e, show 256 * M + 15 = 2 ^ 8 * M + 15 by omega, land_split 8 _ _ (by omega) (by omega)]
  have f : ∀ n : Nat, n &&& 15 = n % 16 := fun n => Nat.and_two_pow_sub_one_eq_mod n 4
  rw [f, f]
  omega
theorem ct_byte {a : Nat} (b : Nat) (n : Nat) (ha : a < 256) : fb_ct (256 * b + a).testBit (8 + n) = fb_ct a.testBit 8 + fb_ct b.testBit n := by
  rw [fb_ct_split]
  congr 1
  · apply fb_ct_cong
    intro k hk
    rw [show 256 * b + a = 2 ^ 8 * b + a by omega, Nat.testBit_two_pow_mul_add _ (show a < 2 ^ 8 by omega), if_pos hk]
  · apply fb_ct_cong
    intro k hk
    rw [show 256 * b + a = 2 ^ 8 * b + a by omega, Nat.testBit_two_pow_mul_add _ (show a < 2 ^ 8 by omega), if_neg (by omega)]
    congr 1
    omega
theorem pc_sum {c0 c1 c2 c3 : Nat} (h0 : c0 ≤ 8) (h1 : c1 ≤ 8) (h2 : c2 ≤ 8) (h3 : c3 ≤ 8) : ((256 * (256 * (256 * c3 + c2) + c1) + c0) + (256 * (256 * (256 * c3 + c2) + c1) + c0) / 256 + ((256 * (256 * (256 * c3 + c2) + c1) + c0) + (256 * (256 * (256 * c3 + c2) + c1) + c0) / 256) / 65536) % 64 = c0 + (c1 + (c2 + c3)) := by
  have e1 : (256 * (256 * (256 * c3 + c2) + c1) + c0) / 256 = 256 * (256 * c3 + c2) + c1 := by omega
  rw [e1]
  have e2 : (256 * (256 * (256 * c3 + c2) + c1) + c0 + (256 * (256 * c3 + c2) + c1)) / 65536 = c2 + c3 + 256 * c3 := by omega
  rw [e2]
  omega
theorem pc_all {x : Nat} (hx : x < 2 ^ 32) : ∃ z, z = pc3 (pc2 (pc1 x 1431655765) 858993459) 252645135 ∧ ((z + z / 256) + (z + z / 256) / 65536) % 64 = fb_ct x.testBit 32 ∧ (x / 2 &&& 1431655765) ≤ x := by
  obtain ⟨b0, y0, h0, e0⟩ : ∃ b y, b < 256 ∧ x = 256 * y + b := ⟨x % 256, x / 256, by omega, by omega⟩
  obtain ⟨b1, y1, h1, e1⟩ : ∃ b y, b < 256 ∧ y0 = 256 * y + b := ⟨y0 % 256, y0 / 256, by omega, by omega⟩
  obtain ⟨b2, b3, h2, e2⟩ : ∃ b y, b < 256 ∧ y1 = 256 * y + b := ⟨y1 % 256, y1 / 256, by omega, by omega⟩
  have h3 : b3 < 256 := by omega
  refine ⟨_, rfl, ?_, Nat.le_trans Nat.and_le_left (by omega)⟩
  obtain ⟨p0, q0, r0, s0, t0, u0⟩ := pc_b3 b0 h0
  obtain ⟨p1, q1, r1, s1, t1, u1⟩ := pc_b3 b1 h1
  obtain ⟨p2, q2, r2, s2, t2, u2⟩ := pc_b3 b2 h2
  obtain ⟨p3, q3, r3, s3, t3, u3⟩ := pc_b3 b3 h3
  have c : fb_ct x.testBit 32 = fb_ct b0.testBit 8 + (fb_ct b1.testBit 8 + (fb_ct b2.testBit 8 + fb_ct b3.testBit 8)) := by
    rw [e0, show 32 = 8 + 24 by omega, ct_byte y0 24 h0, e1, show 24 = 8 + 16 by omega, ct_byte y1 16 h1, e2, show 16 = 8 + 8 by omega, ct_byte b3 8 h2]
  have d1 : pc1 x 1431655765 = 256 * (256 * (256 * pc1 b3 85 + pc1 b2 85) + pc1 b1 85) + pc1 b0 85 := by
    rw [e0, show 1431655765 = 256 * 5592405 + 85 by omega, pc1_split _ _ h0, e1, show 5592405 = 256 * 21845 + 85 by omega, pc1_split _ _ h1, e2, show 21845 = 256 * 85 + 85 by omega, pc1_split _ _ h2]
  have d2 : pc2 (pc1 x 1431655765) 858993459 = 256 * (256 * (256 * pc2 (pc1 b3 85) 51 + pc2 (pc1 b2 85) 51) + pc2 (pc1 b1 85) 51) + pc2 (pc1 b0 85) 51 := by
    rw [d1, show 858993459 = 256 * 3355443 + 51 by omega, pc2_split _ _ p0, show 3355443 = 256 * 13107 + 51 by omega, pc2_split _ _ p1, show 13107 = 256 * 51 + 51 by omega, pc2_split _ _ p2]
  have d3 : pc3 (pc2 (pc1 x 1431655765) 858993459) 252645135 = 256 * (256 * (256 * pc3 (pc2 (pc1 b3 85) 51) 15 + pc3 (pc2 (pc1 b2 85) 51) 15) + pc3 (pc2 (pc1 b1 85) 51) 15) + pc3 (pc2 (pc1 b0 85) 51) 15 := by
    rw [d2, show 252645135 = 256 * 986895 + 15 by omega, pc3_split _ _ q0 r0 s0 (by omega), show 986895 = 256 * 3855 + 15 by omega, pc3_split _ _ q1 r1 s1 (by omega), show 3855 = 256 * 15 + 15 by omega, pc3_split _ _ q2 r2 s2 (by omega)]
  rw [d3, c, ← u0, ← u1, ← u2, ← u3]
  exact pc_sum t0 t1 t2 t3
theorem nm_eq {α β : Type} (v : α) (k : α → Option β) : nm v k = k v := rfl
theorem usI_n {x : Nat} (hx : x < 2 ^ 32) (s : Int32) (k : Nat) (hs : ((s.toUInt32 &&& Int32.toUInt32 31).toBitVec % 32).toNat = k) : usI (nI x) s = nI (x / 2 ^ k) := pk_ushrN hx s k hs
theorem nI_mod (a : Nat) : nI a = nI (a % 2 ^ 32) := by
  apply Int32.toBitVec_inj.mp
  show BitVec.ofNat 32 a = BitVec.ofNat 32 (a % 2 ^ 32)
  apply BitVec.eq_of_toNat_eq
  simp
theorem bitCount_n {x : Nat} (hx : x < 2 ^ 32) : fJ6_bitCount_0f7a4 (nI x) = some (nI (fb_ct x.testBit 32)) := by
  obtain ⟨z, hz, hs, hle⟩ := pc_all hx
  unfold fJ6_bitCount_0f7a4
  rw [show (1431655765 : Int32) = nI 1431655765 from rfl, show (858993459 : Int32) = nI 858993459 from rfl, show (252645135 : Int32) = nI 252645135 from rfl, show (63 : Int32) = nI (2 ^ 6 - 1) from rfl]
  rw [usI_n hx 1 1 (by decide), fa_and, pk_sub hle]
  have l1 : pc1 x 1431655765 < 2 ^ 32 := by unfold pc1; omega
  have f1 : x - (x / 2 ^ 1 &&& 1431655765) = pc1 x 1431655765 := rfl
  rw [f1, nm_eq]
  generalize hy : pc1 x 1431655765 = y at *
  rw [usI_n l1 2 2 (by decide), fa_and, fa_and, nI_add]
  have f2 : (y &&& 858993459) + (y / 2 ^ 2 &&& 858993459) = pc2 y 858993459 := rfl
  rw [f2, nm_eq]
  have l2 : pc2 y 858993459 < 2 ^ 32 := by
    have a1 : y &&& 858993459 ≤ 858993459 := Nat.and_le_right
    have a2 : y / 4 &&& 858993459 ≤ 858993459 := Nat.and_le_right
    unfold pc2; omega
  generalize hw : pc2 y 858993459 = w at *
  rw [usI_n l2 4 4 (by decide), nI_add, fa_and]
  have f3 : (w + w / 2 ^ 4) &&& 252645135 = z := hz.symm
  rw [f3, nm_eq]
  have l3 : z ≤ 252645135 := by rw [hz]; exact Nat.and_le_right
  rw [usI_n (by omega) 8 8 (by decide), nI_add, nm_eq, usI_n (by omega) 16 16 (by decide), nI_add, nm_eq, fa_mask, ← hs]
/-- one bit of a set -/
theorem bit_n {x f : Nat} (hx : x < 2 ^ 32) (hf : f < 32) : ((usI (nI x) (nI f)) &&& (1 : Int32)) = if x.testBit f then 1 else 0 := by
  have hs : ∀ f, f < 32 → (((nI f).toUInt32 &&& Int32.toUInt32 31).toBitVec % 32).toNat = f := by decide +kernel
  rw [usI_n hx _ f (hs f hf), show (1 : Int32) = nI (2 ^ 1 - 1) from rfl, fa_mask]
  have e : x.testBit f = decide (x / 2 ^ f % 2 = 1) := Nat.testBit_eq_decide_div_mod_eq
  rw [e]
  rcases (show x / 2 ^ f % 2 = 0 ∨ x / 2 ^ f % 2 = 1 by omega) with q | q <;> simp [q] <;> rfl
/-- fragment o of a word -/
def frag (w o : Nat) : Nat := w / 2 ^ (5 * o) % 32
theorem frag_lt (w o : Nat) : frag w o < 32 := Nat.mod_lt _ (by omega)
theorem fragmentOf_n {w o : Nat} (hw : w < 2 ^ 31) (ho : o < 4) : fX5_fragmentOf (nI w) (nI o) = some (nI (frag w o)) := by
  have hs : ∀ o, o < 4 → (((nI o * (5 : Int32)) &&& 31).toBitVec.smod 32).toNat = 5 * o := by decide +kernel
  unfold fX5_fragmentOf frag
  rw [pk_shrN hw _ (5 * o) (hs o ho), show (31 : Int32) = nI (2 ^ 5 - 1) from rfl, fa_mask]
/-- one more in a set of bits -/
theorem bit_set_n {x f : Nat} (hf : f < 32) : nI x ||| ((1 : Int32) <<< ((nI f) &&& 31)) = nI (x ||| 2 ^ f) := by
  have hs : ∀ f, f < 32 → (1 : Int32) <<< ((nI f) &&& 31) = nI (2 ^ f) := by decide +kernel
  rw [hs f hf, fa_or]
theorem or_lt {x f : Nat} (hx : x < 2 ^ 32) (hf : f < 32) : x ||| 2 ^ f < 2 ^ 32 := Nat.or_lt_two_pow hx (Nat.pow_lt_pow_right (by omega) hf)
