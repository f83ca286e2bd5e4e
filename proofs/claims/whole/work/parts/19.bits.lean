/-! ===== Int32 by its bits: bt x i ===== -/
def bt (x : Int32) (i : Nat) : Bool := x.toBitVec.getLsbD i
theorem b_ext {x y : Int32} (h : ∀ i, i < 32 → bt x i = bt y i) : x = y := Int32.toBitVec_inj.mp (BitVec.eq_of_getLsbD_eq (fun i hi => h i hi))
theorem b_or (x y : Int32) (i : Nat) : bt (x ||| y) i = (bt x i || bt y i) := by unfold bt; rw [Int32.toBitVec_or, BitVec.getLsbD_or]
theorem b_and (x y : Int32) (i : Nat) : bt (x &&& y) i = (bt x i && bt y i) := by unfold bt; rw [Int32.toBitVec_and, BitVec.getLsbD_and]
theorem b_xor (x y : Int32) (i : Nat) : bt (x ^^^ y) i = (bt x i ^^ bt y i) := by unfold bt; rw [Int32.toBitVec_xor, BitVec.getLsbD_xor]
theorem b_big {x : Int32} {i : Nat} (h : 32 ≤ i) : bt x i = false := BitVec.getLsbD_of_ge _ _ h
theorem b_255 (i : Nat) : bt 255 i = decide (i < 8) := by
  rcases Nat.lt_or_ge i 32 with h | h
  · exact (by decide +kernel : ∀ i, i < 32 → bt 255 i = decide (i < 8)) i h
  · rw [b_big h, decide_eq_false (by omega)]
theorem b_65535 (i : Nat) : bt 65535 i = decide (i < 16) := by
  rcases Nat.lt_or_ge i 32 with h | h
  · exact (by decide +kernel : ∀ i, i < 32 → bt 65535 i = decide (i < 16)) i h
  · rw [b_big h, decide_eq_false (by omega)]
theorem b_m1 : ∀ i, i < 32 → bt (-1) i = true := by decide +kernel
theorem b_0 (i : Nat) : bt 0 i = false := BitVec.getLsbD_zero
theorem s_l : ∀ n, n < 32 → ((nI n &&& 31).toBitVec.smod 32).toNat = n := by decide +kernel
theorem s_u : ∀ n, n < 32 → (((nI n).toUInt32 &&& Int32.toUInt32 31).toBitVec % 32).toNat = n := by decide +kernel
theorem b_shl (n : Nat) (hn : n < 32) (x : Int32) {i : Nat} (hi : i < 32) : bt (x <<< (nI n &&& 31)) i = (decide (n ≤ i) && bt x (i - n)) := by
  unfold bt
  rw [Int32.toBitVec_shiftLeft]
  show (x.toBitVec <<< ((nI n &&& 31).toBitVec.smod 32).toNat).getLsbD i = _
  rw [s_l n hn, BitVec.getLsbD_shiftLeft]
  rcases Nat.lt_or_ge i n with h | h
  · simp [h, Nat.not_le.mpr h]
  · simp [hi, h, Nat.not_lt.mpr h]
theorem b_ushr (n : Nat) (hn : n < 32) (x : Int32) (i : Nat) : bt ((x.toUInt32 >>> ((nI n).toUInt32 &&& Int32.toUInt32 31)).toInt32) i = bt x (n + i) := by
  show (x.toUInt32 >>> ((nI n).toUInt32 &&& Int32.toUInt32 31)).toBitVec.getLsbD i = x.toUInt32.toBitVec.getLsbD (n + i)
  rw [UInt32.toBitVec_shiftRight]
  show (x.toUInt32.toBitVec >>> (((nI n).toUInt32 &&& Int32.toUInt32 31).toBitVec % 32).toNat).getLsbD i = _
  rw [s_u n hn, BitVec.getLsbD_ushiftRight]
theorem b_sshr (n : Nat) (hn : n < 32) (x : Int32) {i : Nat} (hi : i < 32) : bt (x >>> (nI n &&& 31)) i = if n + i < 32 then bt x (n + i) else bt x 31 := by
  unfold bt
  rw [Int32.toBitVec_shiftRight]
  show (x.toBitVec.sshiftRight ((nI n &&& 31).toBitVec.smod 32).toNat).getLsbD i = _
  rw [s_l n hn, BitVec.getLsbD_sshiftRight, BitVec.msb_eq_getLsbD_last]
  simp [hi]
theorem b_shl8 (x : Int32) {i : Nat} (hi : i < 32) : bt (x <<< ((8 : Int32) &&& 31)) i = (decide (8 ≤ i) && bt x (i - 8)) := b_shl 8 (by omega) x hi
theorem b_shl16 (x : Int32) {i : Nat} (hi : i < 32) : bt (x <<< ((16 : Int32) &&& 31)) i = (decide (16 ≤ i) && bt x (i - 16)) := b_shl 16 (by omega) x hi
theorem b_shl24 (x : Int32) {i : Nat} (hi : i < 32) : bt (x <<< ((24 : Int32) &&& 31)) i = (decide (24 ≤ i) && bt x (i - 24)) := b_shl 24 (by omega) x hi
theorem b_sshr8 (x : Int32) {i : Nat} (hi : i < 32) : bt (x >>> ((8 : Int32) &&& 31)) i = if 8 + i < 32 then bt x (8 + i) else bt x 31 := b_sshr 8 (by omega) x hi
/-! sets of cells as bits; laying and lifting -/
theorem b_1 : ∀ i, i < 32 → bt 1 i = decide (i = 0) := by decide +kernel
theorem bt_odd (x : Int32) : (x &&& 1 = 0) ↔ bt x 0 = false := by
  constructor
  · intro h
    have := b_and x 1 0
    rw [h, b_0, b_1 0 (by decide)] at this
    simpa using this.symm
  · intro h
    refine b_ext fun i hi => ?_
    rw [b_and, b_1 i hi, b_0]
    by_cases hz : i = 0
    · subst hz; rw [h]; rfl
    · simp [hz]
theorem bt_at (m : Int32) {c : Nat} (hc : c < 32) : (m >>> (nI c &&& 31) &&& 1 = 0) ↔ bt m c = false := by
  rw [bt_odd, b_sshr c hc m (by decide), if_pos (by omega)]
  rfl
theorem bt_one {k c : Nat} (hk : k < 32) (hc : c < 32) : bt ((1 : Int32) <<< (nI k &&& 31)) c = decide (c = k) := by
  rw [b_shl k hk 1 hc]
  by_cases h : k ≤ c
  · rw [b_1 _ (by omega), decide_eq_true h, Bool.true_and]
    by_cases hz : c = k
    · rw [decide_eq_true hz, decide_eq_true (by omega)]
    · rw [decide_eq_false hz, decide_eq_false (by omega)]
  · rw [decide_eq_false h, decide_eq_false (by omega), Bool.false_and]
theorem getD_set {xs : List Int32} {i j : Nat} {x : Int32} : (xs.set i x).getD j 0 = if i = j ∧ i < xs.length then x else xs.getD j 0 := by
  simp only [List.getD_eq_getElem?_getD, List.getElem?_set]
  by_cases h : i = j
  · subst h
    by_cases hl : i < xs.length
    · simp [hl]
    · simp [hl, List.getElem?_eq_none (Nat.le_of_not_lt hl)]
  · simp [h]
theorem ext16 {xs ys : List Int32} (h1 : xs.length = ys.length) (h : ∀ c, c < xs.length → xs.getD c 0 = ys.getD c 0) : xs = ys := by
  apply List.ext_getElem h1
  intro i a b
  have := h i a
  simpa [List.getD_eq_getElem?_getD, List.getElem?_eq_getElem a, List.getElem?_eq_getElem b] using this
theorem liftF_len (m : Int32) : ∀ (n i : Nat) (cs : List Int32), (liftF m i n cs).length = cs.length
  | 0, _, _ => rfl
  | n + 1, i, cs => by
    unfold liftF
    rw [liftF_len m n]
    split <;> simp
theorem liftF_at (m : Int32) : ∀ (n i : Nat) (cs : List Int32) (c : Nat), i + n ≤ 32 → c < cs.length → (liftF m i n cs).getD c 0 = if i ≤ c ∧ c < i + n ∧ bt m c = true then 0 else cs.getD c 0
  | 0, i, cs, c, hn, hc => by
    unfold liftF
    rw [if_neg (by omega)]
  | n + 1, i, cs, c, hn, hc => by
    unfold liftF
    by_cases hb : m >>> (nI i &&& 31) &&& 1 = 0
    · have hb' := (bt_at m (by omega)).mp hb
      rw [if_pos hb, liftF_at m n (i + 1) cs c (by omega) hc]
      by_cases hz : c = i
      · subst hz
        rw [if_neg (by omega), if_neg (by rw [hb']; simp)]
      · by_cases h2 : i + 1 ≤ c ∧ c < i + 1 + n ∧ bt m c = true
        · rw [if_pos h2, if_pos ⟨by omega, by omega, h2.2.2⟩]
        · rw [if_neg h2, if_neg (fun z => h2 ⟨by omega, by omega, z.2.2⟩)]
    · have hb' : bt m i = true := by
        cases hq : bt m i with
        | true => rfl
        | false => exact absurd ((bt_at m (by omega)).mpr hq) hb
      rw [if_neg hb, liftF_at m n (i + 1) (cs.set i 0) c (by omega) (by simpa using hc), getD_set]
      by_cases hz : c = i
      · subst hz
        rw [if_neg (by omega), if_pos ⟨rfl, hc⟩, if_pos ⟨by omega, by omega, hb'⟩]
      · rw [if_neg (c := i = c ∧ _) (by omega)]
        by_cases h2 : i + 1 ≤ c ∧ c < i + 1 + n ∧ bt m c = true
        · rw [if_pos h2, if_pos ⟨by omega, by omega, h2.2.2⟩]
        · rw [if_neg h2, if_neg (fun z => h2 ⟨by omega, by omega, z.2.2⟩)]
/-- which cells a laying has taken -/
def layI (cs cs' : List Int32) (m : Int32) : Prop := cs'.length = cs.length ∧ ∀ c, c < 16 → if bt m c = true then cs.getD c 0 = 0 else cs'.getD c 0 = cs.getD c 0
theorem layF_inv {s p : Nat} {w cs : List Int32} (hs : sideOk s) (hp : p < 8 * s * s) (hr : w.length ≤ rN s p) (hl : cs.length = 16) : ∀ (n i : Nat) (q : List Int32 × Int32), i + n = w.length → layI cs q.1 q.2 → layI cs (layF s w p i n q).1 (layF s w p i n q).2
  | 0, i, q, hi, h => h
  | n + 1, i, q, hi, h => by
    unfold layF
    refine layF_inv hs hp hr hl n (i + 1) _ (by omega) ?_
    unfold lay1
    by_cases hA : q.1.getD (cl s p i) 0 = 0
    · rw [if_pos hA]
      obtain ⟨g1, g2⟩ := (geo hs hp).2.2.2.2 i (by omega)
      have hsq := (sq_lt hs).1
      refine ⟨by rw [List.length_set]; exact h.1, fun c hc => ?_⟩
      have hc2 := h.2 c hc
      rw [b_or, g1, bt_one (by omega) (by omega)]
      by_cases hz : c = cl s p i
      · subst hz
        simp only [decide_true, Bool.or_true, if_true]
        by_cases hb : bt q.2 (cl s p i) = true
        · rw [if_pos hb] at hc2; exact hc2
        · rw [if_neg hb] at hc2; rw [← hc2]; exact hA
      · simp only [decide_eq_false hz, Bool.or_false]
        rw [getD_set, if_neg (c := cl s p i = c ∧ _) (by omega)]
        exact hc2
    · rw [if_neg hA]
      exact h
theorem layI_0 {cs : List Int32} : layI cs cs 0 := ⟨rfl, fun c hc => by rw [b_0]; simp⟩
theorem lift_lay {s p : Nat} {w cs : List Int32} (hs : sideOk s) (hp : p < 8 * s * s) (hr : w.length ≤ rN s p) (hl : cs.length = 16) : liftF (layF s w p 0 w.length (cs, 0)).2 0 16 (layF s w p 0 w.length (cs, 0)).1 = cs := by
  have I := layF_inv hs hp hr hl w.length 0 (cs, 0) (by omega) layI_0
  generalize layF s w p 0 w.length (cs, 0) = q at I ⊢
  refine ext16 (by rw [liftF_len]; exact I.1) fun c hc => ?_
  rw [liftF_len, I.1, hl] at hc
  rw [liftF_at _ _ _ _ _ (by omega) (by rw [I.1, hl]; exact hc)]
  have := I.2 c hc
  by_cases hb : bt q.2 c = true
  · rw [if_pos ⟨by omega, by omega, hb⟩]; rw [if_pos hb] at this; exact this.symm
  · rw [if_neg (fun z => hb z.2.2)]; rw [if_neg hb] at this; exact this
theorem layF_len {s p : Nat} {w : List Int32} : ∀ (n i : Nat) (q : List Int32 × Int32), (layF s w p i n q).1.length = q.1.length
  | 0, _, _ => rfl
  | n + 1, i, q => by
    unfold layF
    rw [layF_len n (i + 1)]
    unfold lay1
    split <;> simp
