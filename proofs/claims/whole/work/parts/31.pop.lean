/-! bits counted: Integer.bitCount -/
theorem and_split {a m : Nat} (b n : Nat) (ha : a < 256) (hm : m < 256) : (256 * b + a) &&& (256 * n + m) = 256 * (b &&& n) + (a &&& m) := by
  apply Nat.eq_of_testBit_eq
  intro i
  have e8 : (256 : Nat) = 2 ^ 8 := by decide
  have ham : a &&& m < 2 ^ 8 := Nat.lt_of_le_of_lt Nat.and_le_left (by omega)
  rw [Nat.testBit_and, e8, Nat.testBit_two_pow_mul_add b (by omega), Nat.testBit_two_pow_mul_add n (by omega), Nat.testBit_two_pow_mul_add (b &&& n) ham]
  by_cases h : i < 8
  · simp only [h, if_true, Nat.testBit_and]
  · simp only [h, if_false, Nat.testBit_and]
def mkR (m : Nat) : Nat → Nat
  | 0 => 0
  | k + 1 => 256 * mkR m k + m
theorem mkR_s (m k : Nat) : mkR m (k + 1) = 256 * mkR m k + m := rfl
def n1 (k x : Nat) : Nat := x - (x / 2 &&& mkR 85 k)
def n2 (k x : Nat) : Nat := (x &&& mkR 51 k) + (x / 4 &&& mkR 51 k)
def n3 (k x : Nat) : Nat := (x + x / 16) &&& mkR 15 k
def p1 (a : Nat) : Nat := a - (a / 2 &&& 85)
def p2 (a : Nat) : Nat := (a &&& 51) + (a / 4 &&& 51)
def p3 (a : Nat) : Nat := (a + a / 16) &&& 15
theorem pd1 : ∀ a, a < 256 → ∀ c, c < 2 → (128 * c + a / 2) &&& 85 = a / 2 &&& 85 := by decide +kernel
theorem pd2 : ∀ a, a < 256 → ∀ c, c < 4 → (64 * c + a / 4) &&& 51 = a / 4 &&& 51 := by decide +kernel
theorem pd3 : ∀ a, a < 256 → p1 a < 256 ∧ p2 (p1 a) % 16 ≤ 4 ∧ p2 (p1 a) / 16 ≤ 4 ∧ p2 (p1 a) < 256 ∧ p3 (p2 (p1 a)) = cnt (Nat.testBit a) 8 ∧ p3 (p2 (p1 a)) ≤ 8 := by decide +kernel
theorem n1_s (k b a : Nat) (ha : a < 256) : n1 (k + 1) (256 * b + a) = 256 * n1 k b + p1 a := by
  unfold n1 p1
  rw [mkR_s]
  have e : (256 * b + a) / 2 = 256 * (b / 2) + (128 * (b % 2) + a / 2) := by omega
  rw [e, and_split _ _ (by omega) (by decide), pd1 a ha _ (by omega)]
  have h1 : b / 2 &&& mkR 85 k ≤ b / 2 := Nat.and_le_left
  have h2 : a / 2 &&& 85 ≤ a / 2 := Nat.and_le_left
  omega
theorem n2_s (k b a : Nat) (ha : a < 256) : n2 (k + 1) (256 * b + a) = 256 * n2 k b + p2 a := by
  unfold n2 p2
  rw [mkR_s]
  have e : (256 * b + a) / 4 = 256 * (b / 4) + (64 * (b % 4) + a / 4) := by omega
  rw [e, and_split b _ ha (by decide), and_split (b / 4) _ (by omega) (by decide), pd2 a ha _ (by omega)]
  omega
theorem and15 (x : Nat) : x &&& 15 = x % 16 := Nat.and_two_pow_sub_one_eq_mod x 4
theorem n3_s (k b a : Nat) (h1 : a % 16 ≤ 4) (h2 : a / 16 ≤ 4) (h3 : b % 16 ≤ 4) : n3 (k + 1) (256 * b + a) = 256 * n3 k b + p3 a := by
  unfold n3 p3
  rw [mkR_s]
  have e : 256 * b + a + (256 * b + a) / 16 = 256 * (b + b / 16) + (a + a / 16 + 16 * (b % 16)) := by omega
  rw [e, and_split _ _ (by omega) (by decide), and15, and15]
  omega
theorem n0 : n1 0 0 = 0 ∧ n2 0 0 = 0 ∧ n3 0 0 = 0 := by decide
theorem nn_all {a b c e : Nat} (ha : a < 256) (hb : b < 256) (hc : c < 256) (he : e < 256) : n3 4 (n2 4 (n1 4 (256 * (256 * (256 * (256 * 0 + e) + c) + b) + a))) = 256 * (256 * (256 * (256 * 0 + cnt (Nat.testBit e) 8) + cnt (Nat.testBit c) 8) + cnt (Nat.testBit b) 8) + cnt (Nat.testBit a) 8 := by
  obtain ⟨a1, a2, a3, a4, a5, -⟩ := pd3 a ha
  obtain ⟨b1, b2, b3, b4, b5, -⟩ := pd3 b hb
  obtain ⟨c1, c2, c3, c4, c5, -⟩ := pd3 c hc
  obtain ⟨e1, e2, e3, e4, e5, -⟩ := pd3 e he
  rw [n1_s 3 _ _ ha, n1_s 2 _ _ hb, n1_s 1 _ _ hc, n1_s 0 _ _ he, n0.1]
  rw [n2_s 3 _ _ a1, n2_s 2 _ _ b1, n2_s 1 _ _ c1, n2_s 0 _ _ e1, n0.2.1]
  rw [n3_s 3 _ _ a2 a3 (by omega), n3_s 2 _ _ b2 b3 (by omega), n3_s 1 _ _ c2 c3 (by omega), n3_s 0 _ _ e2 e3 (by omega), n0.2.2, a5, b5, c5, e5]
theorem cnt_add (f : Nat → Bool) (m : Nat) : ∀ n, cnt f (m + n) = cnt f m + cnt (fun i => f (m + i)) n
  | 0 => rfl
  | n + 1 => by
    show cnt f (m + n) + (if f (m + n) = true then 1 else 0) = cnt f m + (cnt (fun i => f (m + i)) n + (if f (m + n) = true then 1 else 0))
    rw [cnt_add f m n, Nat.add_assoc]
theorem cnt_congr {f f' : Nat → Bool} : ∀ n, (∀ i, i < n → f i = f' i) → cnt f n = cnt f' n
  | 0, _ => rfl
  | n + 1, h => by
    unfold cnt
    rw [cnt_congr n (fun i hi => h i (by omega)), h n (by omega)]
theorem cnt_byte (b : Nat) {a : Nat} (ha : a < 256) (n : Nat) : cnt (Nat.testBit (256 * b + a)) (8 + n) = cnt (Nat.testBit a) 8 + cnt (Nat.testBit b) n := by
  have e8 : (256 : Nat) = 2 ^ 8 := by decide
  rw [cnt_add, e8]
  congr 1
  · apply cnt_congr
    intro i hi
    rw [Nat.testBit_two_pow_mul_add b (by omega), if_pos hi]
  · apply cnt_congr
    intro i hi
    rw [Nat.testBit_two_pow_mul_add b (by omega), if_neg (by omega), Nat.add_sub_cancel_left]
def tn (x : Int32) : Nat := x.toBitVec.toNat
theorem tn_lt (x : Int32) : tn x < 4294967296 := x.toBitVec.isLt
theorem tn_and (x y : Int32) : tn (x &&& y) = tn x &&& tn y := by unfold tn; rw [Int32.toBitVec_and, BitVec.toNat_and]
theorem tn_add {x y : Int32} (h : tn x + tn y < 4294967296) : tn (x + y) = tn x + tn y := by unfold tn at *; rw [Int32.toBitVec_add, BitVec.toNat_add]; omega
theorem tn_sub {x y : Int32} (h : tn y ≤ tn x) : tn (x - y) = tn x - tn y := by
  unfold tn at *
  have h1 := x.toBitVec.isLt
  rw [Int32.toBitVec_sub, BitVec.toNat_sub]
  omega
theorem tn_1 (x : Int32) : tn (x.toUInt32 >>> ((1 : Int32).toUInt32 &&& Int32.toUInt32 31)).toInt32 = tn x / 2 := pk_ushr x 1 1 (by decide)
theorem tn_2 (x : Int32) : tn (x.toUInt32 >>> ((2 : Int32).toUInt32 &&& Int32.toUInt32 31)).toInt32 = tn x / 4 := pk_ushr x 2 2 (by decide)
theorem tn_4 (x : Int32) : tn (x.toUInt32 >>> ((4 : Int32).toUInt32 &&& Int32.toUInt32 31)).toInt32 = tn x / 16 := pk_ushr x 4 4 (by decide)
theorem tn_8 (x : Int32) : tn (x.toUInt32 >>> ((8 : Int32).toUInt32 &&& Int32.toUInt32 31)).toInt32 = tn x / 256 := pk_ushr x 8 8 (by decide)
theorem tn_16 (x : Int32) : tn (x.toUInt32 >>> ((16 : Int32).toUInt32 &&& Int32.toUInt32 31)).toInt32 = tn x / 65536 := pk_ushr x 16 16 (by decide)
theorem tn_c : tn 1431655765 = mkR 85 4 ∧ tn 858993459 = mkR 51 4 ∧ tn 252645135 = mkR 15 4 ∧ tn 63 = 63 := by decide
theorem tn_bc1 (x : Int32) : tn (bc1 x) = n1 4 (tn x) := by
  unfold bc1 n1
  have h : tn x / 2 &&& mkR 85 4 ≤ tn x / 2 := Nat.and_le_left
  rw [tn_sub (by rw [tn_and, tn_1, tn_c.1]; omega), tn_and, tn_1, tn_c.1]
theorem tn_bc2 (x : Int32) : tn (bc2 x) = n2 4 (tn x) := by
  unfold bc2 n2
  have h1 : tn x &&& mkR 51 4 ≤ mkR 51 4 := Nat.and_le_right
  have h2 : tn x / 4 &&& mkR 51 4 ≤ mkR 51 4 := Nat.and_le_right
  have h3 : mkR 51 4 = 858993459 := by decide
  rw [tn_add (by rw [tn_and, tn_and, tn_2, tn_c.2.1]; omega), tn_and, tn_and, tn_2, tn_c.2.1]
theorem tn_bc3 (x : Int32) (h : tn x ≤ 2 ^ 31) : tn (bc3 x) = n3 4 (tn x) := by
  unfold bc3 n3
  rw [tn_and, tn_add (by rw [tn_4]; omega), tn_4, tn_c.2.2.1]
theorem and63 (x : Nat) : x &&& 63 = x % 64 := Nat.and_two_pow_sub_one_eq_mod x 6
theorem tn_inj {x y : Int32} (h : tn x = tn y) : x = y := Int32.toBitVec_inj.mp (BitVec.eq_of_toNat_eq h)
theorem bc_cnt (x : Int32) : bcI x = nI (cnt (bt x) 32) := by
  have hx := tn_lt x
  have hc : cnt (bt x) 32 ≤ 32 := cnt_le _ _
  apply tn_inj
  rw [show tn (nI (cnt (bt x) 32)) = cnt (bt x) 32 from pk_tn (by omega)]
  have eX : tn x = 256 * (256 * (256 * (256 * 0 + tn x / 16777216) + tn x / 65536 % 256) + tn x / 256 % 256) + tn x % 256 := by omega
  have ebt : cnt (bt x) 32 = cnt (Nat.testBit (tn x)) 32 := rfl
  have key := nn_all (a := tn x % 256) (b := tn x / 256 % 256) (c := tn x / 65536 % 256) (e := tn x / 16777216) (by omega) (by omega) (by omega) (by omega)
  rw [← eX] at key
  have e32 : cnt (Nat.testBit (tn x)) 32 = cnt (Nat.testBit (tn x % 256)) 8 + (cnt (Nat.testBit (tn x / 256 % 256)) 8 + (cnt (Nat.testBit (tn x / 65536 % 256)) 8 + (cnt (Nat.testBit (tn x / 16777216)) 8 + cnt (Nat.testBit 0) 0))) := by
    have h1 := cnt_byte (256 * (256 * (256 * 0 + tn x / 16777216) + tn x / 65536 % 256) + tn x / 256 % 256) (a := tn x % 256) (by omega) 24
    have h2 := cnt_byte (256 * (256 * 0 + tn x / 16777216) + tn x / 65536 % 256) (a := tn x / 256 % 256) (by omega) 16
    have h3 := cnt_byte (256 * 0 + tn x / 16777216) (a := tn x / 65536 % 256) (by omega) 8
    have h4 := cnt_byte 0 (a := tn x / 16777216) (by omega) 0
    rw [← eX] at h1
    rw [h1, h2, h3, h4]
  have z0 : cnt (Nat.testBit 0) 0 = 0 := rfl
  have l0 := cnt_le (Nat.testBit (tn x % 256)) 8
  have l1 := cnt_le (Nat.testBit (tn x / 256 % 256)) 8
  have l2 := cnt_le (Nat.testBit (tn x / 65536 % 256)) 8
  have l3 := cnt_le (Nat.testBit (tn x / 16777216)) 8
  have b2 : tn (bc2 (bc1 x)) ≤ 2 ^ 31 := by
    rw [tn_bc2]
    unfold n2
    have h1 : tn (bc1 x) &&& mkR 51 4 ≤ mkR 51 4 := Nat.and_le_right
    have h2 : tn (bc1 x) / 4 &&& mkR 51 4 ≤ mkR 51 4 := Nat.and_le_right
    have h3 : mkR 51 4 = 858993459 := by decide
    omega
  have k3 : tn (bc3 (bc2 (bc1 x))) = n3 4 (n2 4 (n1 4 (tn x))) := by rw [tn_bc3 _ b2, tn_bc2, tn_bc1]
  rw [key] at k3
  rw [ebt, e32, z0]
  generalize cnt (Nat.testBit (tn x % 256)) 8 = u0 at *
  generalize cnt (Nat.testBit (tn x / 256 % 256)) 8 = u1 at *
  generalize cnt (Nat.testBit (tn x / 65536 % 256)) 8 = u2 at *
  generalize cnt (Nat.testBit (tn x / 16777216)) 8 = u3 at *
  have k4 : tn (bc4 (bc3 (bc2 (bc1 x)))) = tn (bc3 (bc2 (bc1 x))) + tn (bc3 (bc2 (bc1 x))) / 256 := by unfold bc4; rw [tn_add (by rw [tn_8]; omega), tn_8]
  have k5 : tn (bc5 (bc4 (bc3 (bc2 (bc1 x))))) = tn (bc4 (bc3 (bc2 (bc1 x)))) + tn (bc4 (bc3 (bc2 (bc1 x)))) / 65536 := by unfold bc5; rw [tn_add (by rw [tn_16]; omega), tn_16]
  unfold bcI
  rw [tn_and, tn_c.2.2.2, and63, k5, k4, k3]
  have d1 : (256 * (256 * (256 * (256 * 0 + u3) + u2) + u1) + u0) / 256 = 256 * (256 * u3 + u2) + u1 := by omega
  rw [d1]
  have d2 : (256 * (256 * (256 * (256 * 0 + u3) + u2) + u1) + u0 + (256 * (256 * u3 + u2) + u1)) / 65536 = 256 * u3 + u2 + u3 := by omega
  rw [d2]
  omega
/-- the reference's own way of counting -/
theorem bsum_cnt (m : Int32) : ∀ n, n ≤ 32 → bsum m n = nI (cnt (bt m) n)
  | 0, _ => rfl
  | n + 1, h => by
    unfold bsum cnt
    rw [bsum_cnt m n (by omega), ← nI_add]
    congr 1
    have key := bt_at m (c := n) (by omega)
    by_cases hb : bt m n = true
    · rw [if_pos hb]
      have hne : ¬ (m >>> (nI n &&& 31) &&& 1 = 0) := fun z => by rw [key.mp z] at hb; cases hb
      have h01 : tn (m >>> (nI n &&& 31) &&& 1) = tn (m >>> (nI n &&& 31)) % 2 := by
        rw [tn_and]
        exact Nat.and_two_pow_sub_one_eq_mod _ 1
      apply tn_inj
      rw [h01, show tn (nI 1) = 1 from by decide]
      have : ¬ tn (m >>> (nI n &&& 31)) % 2 = 0 := fun z => hne (tn_inj (by rw [h01, z]; decide))
      omega
    · rw [if_neg hb]
      have hb' : bt m n = false := by simpa using hb
      exact (key.mpr hb').trans rfl
theorem cnt_zero {f : Nat → Bool} (m : Nat) (h : ∀ i, m ≤ i → f i = false) : ∀ n, cnt f (m + n) = cnt f m
  | 0 => rfl
  | n + 1 => by
    show cnt f (m + n) + (if f (m + n) = true then 1 else 0) = cnt f m
    rw [cnt_zero m h n, h (m + n) (by omega)]
    rfl
theorem bc_bsum {m : Int32} (h : ∀ i, 26 ≤ i → bt m i = false) : bcI m = bsum m 26 := by
  rw [bc_cnt, bsum_cnt m 26 (by decide), ← cnt_zero 26 h 6]
/-- the letters of a square, a bit for each -/
theorem isL_bit {x : Int32} (h : isL x) : ∃ k, k < 26 ∧ x - 97 = nI k := by
  have a1 : (97 : Int32).toInt ≤ x.toInt := Int32.le_iff_toInt_le.mp h.1
  have a2 : x.toInt ≤ (122 : Int32).toInt := Int32.le_iff_toInt_le.mp h.2
  have e1 : (97 : Int32).toInt = 97 := by decide
  have e2 : (122 : Int32).toInt = 122 := by decide
  have e3 : x = nI (97 + (x.toInt.toNat - 97)) := by
    apply Int32.toInt_inj.mp
    rw [nI_toInt (by omega)]
    omega
  refine ⟨x.toInt.toNat - 97, by omega, ?_⟩
  generalize x.toInt.toNat - 97 = j at e3
  rw [e3, show (97 : Int32) = nI 97 by decide, pk_sub (by omega), Nat.add_sub_cancel_left]
theorem mkF_26 {cs : List Int32} (hc : ∀ c, cs.getD c 0 = 0 ∨ isL (cs.getD c 0)) : ∀ (n c : Nat) (m : Int32), (∀ i, 26 ≤ i → bt m i = false) → ∀ i, 26 ≤ i → bt (mkF cs c n m) i = false
  | 0, _, _, h => h
  | n + 1, c, m, h => by
    unfold mkF
    refine mkF_26 hc n (c + 1) _ ?_
    intro i hi
    by_cases hz : cs.getD c 0 = 0
    · rw [if_pos hz]; exact h i hi
    · rw [if_neg hz]
      obtain ⟨k, hk, e⟩ := isL_bit ((hc c).resolve_left hz)
      rw [e, b_or, h i hi]
      by_cases h32 : i < 32
      · rw [bt_one (by omega) h32, decide_eq_false (by omega)]; rfl
      · rw [b_big (by omega)]; rfl
theorem mk_bsum {g : gG} (k : gOk g) : bcI (mkF g.2.1 0 (g.1 * g.1) 0) = bsum (mkF g.2.1 0 (g.1 * g.1) 0) 26 := bc_bsum (mkF_26 k.2.2.1 _ _ _ (fun i _ => b_0 i))
