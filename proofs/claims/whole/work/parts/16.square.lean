section SQ
variable {h : aH} {a t s d : Nat} {cs w : List Int32}
theorem rem8 (p : Nat) (hp : p < 2 ^ 31) : nI p - nI p / 8 * 8 = nI (p % 8) := pk_rem hp (by decide) (by decide)
theorem div8 (p : Nat) (hp : p < 2 ^ 31) : nI p / 8 = nI (p / 8) := pk_div hp (by decide) (by decide)
theorem m13 {p : Nat} (hs : sideOk s) (L : LatAt h) (hp : p < 2 ^ 31) : go d 13 0 [.ref (latA s), .int (nI p)] [] h = some (some (.int (bI (decide (p < 8 * s * s)))), h) := by
  obtain ⟨h1, -, -⟩ := L.at hs
  have h3 := nI_pos hp
  have h4 : 8 * s * s < 2 ^ 31 := by have := (sq_lt hs).2; omega
  simp only [ee_13_0, ee_13_1, ee_13_4, ee_13_5, ee_13_5N, ee_13_6, ee_13_9, ee_13_12, ee_13_13, ee_13_16, ee_13_17, ee_13_17T, gf, h1, h3, if_false, Option.bind_some, List.getElem?_cons_succ, List.getElem?_cons_zero, true_or, or_self, if_true, nI_leI h4 hp]
  by_cases hc : 8 * s * s ≤ p
  · simp [hc, bI, Nat.not_lt.mpr hc]
  · simp [hc, bI, Nat.lt_of_not_le hc]
end SQ
