section SQ
variable {h : aH} {a t s d c : Nat} {cs w : List Int32}
theorem rem8 (p : Nat) (hp : p < 2 ^ 31) : nI p - nI p / 8 * 8 = nI (p % 8) := pk_rem hp (by decide) (by decide)
theorem div8 (p : Nat) (hp : p < 2 ^ 31) : nI p / 8 = nI (p / 8) := pk_div hp (by decide) (by decide)
theorem rem8b (p : Nat) (hp : p < 2 ^ 31) : nI p - nI (p / 8) * 8 = nI (p % 8) := by rw [← div8 p hp]; exact rem8 p hp
theorem bI_t : bI true = 1 := rfl
theorem bI_f : bI false = 0 := rfl
theorem n80 : ¬ (8 : Int32) = 0 := by decide
theorem m13 {p : Nat} (hs : sideOk s) (L : LatAt h) (hp : p < 2 ^ 31) : go d 13 0 [.ref (latA s), .int (nI p)] [] h = some (some (.int (bI (decide (p < 8 * s * s)))), h) := by
  have h3 := nI_pos hp
  have h4 : 8 * s * s < 2 ^ 31 := by have := (sq_lt hs).2; omega
  simp only [ee_13_0, ee_13_1, ee_13_4, ee_13_5, ee_13_5N, ee_13_6, ee_13_9, ee_13_12, ee_13_13, ee_13_16, ee_13_17, ee_13_17T, L.f2 hs, h3, Option.bind_some, Option.toList, List.cons_append, List.nil_append, List.append_nil, if_true, if_false, Bool.false_eq_true, eq_self, not_true_eq_false, not_false_eq_true, nI_leI h4 hp]
  by_cases hc : 8 * s * s ≤ p
  · simp [hc, Nat.not_lt.mpr hc, bI]
  · simp [hc, Nat.lt_of_not_le hc, bI]
/-- holds -/
theorem m14 {p n : Nat} (hs : sideOk s) (L : LatAt h) (hp : p < 8 * s * s) (hn : n < 2 ^ 31) : go (d + 1) 14 0 [.ref (latA s), .int (nI p), .int (nI n)] [] h = some (some (.int (bI (decide (n ≤ rN s p)))), h) := by
  have h4 : 8 * s * s < 2 ^ 31 := by have := (sq_lt hs).2; omega
  have h5 := (geo hs hp).1
  have n10 : ¬ (1 : Int32) = 0 := by decide
  simp only [ee_14_0, ee_14_0N, ee_14_1, ee_14_2, ee_14_5, ee_14_8, ee_14_8N, ee_14_9, ee_14_12, ee_14_13, ee_14_14, ee_14_15, ee_14_18, ee_14_19, ee_14_22, ee_14_23, ee_14_23T, L.isc hs, m13 hs L (show p < 2 ^ 31 by omega), hp, decide_true, bI_t, L.f4 hs, L.rea hs hp, Option.bind_some, Option.toList, List.cons_append, List.nil_append, List.append_nil, if_true, if_false, Bool.false_eq_true, eq_self, not_true_eq_false, not_false_eq_true, n10, nI_ltI (show rN s p < 2 ^ 31 by omega) hn]
  by_cases hc : rN s p < n
  · simp [hc, Nat.not_le.mpr hc, bI]
  · simp [hc, Nat.le_of_not_lt hc, bI]
/-- accepts -/
theorem m24_loop {p : Nat} (hs : sideOk s) (Q : SquareAt h a s cs) (T : TextAt h t c w) (hc : c < 2 ^ 31) (hp : p < 8 * s * s) (hr : w.length ≤ rN s p) (P : Int32) :
    ∀ n i, i + n = w.length → go d 24 39 [.ref a, .ref t, .int P, .int ((stp s).getD (p % 8) 0), .int (ci s p i), .int (nI i)] [] h = some (some (.int (bI (accB s cs w p i n))), h)
  | 0, i, hi => by
    have h1 : nI w.length ≤ nI i := by rw [← hi]; exact Int32.le_refl _
    rw [ee_24_39]
    simp only [ee_24_0, ee_24_0N, ee_24_1, ee_24_4, ee_24_5, ee_24_5N, ee_24_6, ee_24_9, ee_24_12, ee_24_15, ee_24_16, ee_24_16T, ee_24_17, ee_24_17N, ee_24_18, ee_24_21, ee_24_24, ee_24_25, ee_24_27, ee_24_28, ee_24_29, ee_24_30, ee_24_31, ee_24_33, ee_24_34, ee_24_36, ee_24_37, ee_24_41, ee_24_41N, ee_24_42, ee_24_45, ee_24_48, ee_24_48N, ee_24_49, ee_24_52, ee_24_54, ee_24_55, ee_24_55N, ee_24_56, ee_24_59, ee_24_61, ee_24_62, ee_24_65, ee_24_65N, ee_24_66, ee_24_69, ee_24_71, ee_24_72, ee_24_75, ee_24_76, ee_24_76T, ee_24_77, ee_24_79, ee_24_80, ee_24_81, ee_24_83, ee_24_86, ee_24_89, ee_24_90, ee_24_90T, T.f1, h1, Option.bind_some, Option.toList, List.cons_append, List.nil_append, List.append_nil, if_true, if_false, Bool.false_eq_true, eq_self, not_true_eq_false, not_false_eq_true, accB, List.range'_zero, List.all_nil, bI_t]
  | n + 1, i, hi => by
    have hw := (geo hs hp).1
    have h1 : ¬ nI w.length ≤ nI i := by rw [nI_leI (by omega) (by omega)]; omega
    obtain ⟨g1, g2⟩ := (geo hs hp).2.2.2.2 i (by omega)
    have hsq := (sq_lt hs).1
    have i1 : ia h (a + 1) (ci s p i) = some (cs.getD (cl s p i) 0) := by rw [g1]; exact Q.ia (by omega)
    have i2 : ia h (t + 1) (nI i) = some (w.getD i 0) := T.ia (by omega) hc
    have e := m24_loop hs Q T hc hp hr P n (i + 1) (by omega)
    rw [ee_24_39]
    simp only [ee_24_0, ee_24_0N, ee_24_1, ee_24_4, ee_24_5, ee_24_5N, ee_24_6, ee_24_9, ee_24_12, ee_24_15, ee_24_16, ee_24_16T, ee_24_17, ee_24_17N, ee_24_18, ee_24_21, ee_24_24, ee_24_25, ee_24_27, ee_24_28, ee_24_29, ee_24_30, ee_24_31, ee_24_33, ee_24_34, ee_24_36, ee_24_37, ee_24_41, ee_24_41N, ee_24_42, ee_24_45, ee_24_48, ee_24_48N, ee_24_49, ee_24_52, ee_24_54, ee_24_55, ee_24_55N, ee_24_56, ee_24_59, ee_24_61, ee_24_62, ee_24_65, ee_24_65N, ee_24_66, ee_24_69, ee_24_71, ee_24_72, ee_24_75, ee_24_76, ee_24_76T, ee_24_77, ee_24_79, ee_24_80, ee_24_81, ee_24_83, ee_24_86, ee_24_89, ee_24_90, ee_24_90T, T.f1, T.f0, Q.f0, h1, i1, i2, Option.bind_some, Option.toList, List.cons_append, List.nil_append, List.append_nil, if_true, if_false, Bool.false_eq_true, eq_self, not_true_eq_false, not_false_eq_true, ci_succ, nI_1, e]
    have ea : accB s cs w p i (n + 1) = ((decide (cs.getD (cl s p i) 0 = w.getD i 0) || decide (cs.getD (cl s p i) 0 = 0)) && accB s cs w p (i + 1) n) := by
      simp only [accB, List.range'_succ, List.all_cons]
    rw [ea]
    by_cases hA : cs.getD (cl s p i) 0 = w.getD i 0
    · rw [if_pos hA, decide_eq_true hA, Bool.true_or, Bool.true_and]
    · rw [if_neg hA, decide_eq_false hA]
      by_cases hB : cs.getD (cl s p i) 0 = 0
      · rw [if_pos hB, decide_eq_true hB, Bool.false_or, Bool.true_and]
      · rw [if_neg hB, decide_eq_false hB]
        rfl
theorem m24 {p : Nat} (hs : sideOk s) (L : LatAt h) (Q : SquareAt h a s cs) (T : TextAt h t c w) (hc : c < 2 ^ 31) (hp : p < 8 * s * s) :
    go (d + 2) 24 0 [.ref a, .ref t, .int (nI p), aU, aU, aU] [] h = some (some (.int (bI (acc s cs w p))), h) := by
  have hp2 : p < 2 ^ 31 := by have := (sq_lt hs).2; omega
  have hw : w.length < 2 ^ 31 := by obtain ⟨-, xs, -, h3⟩ := T; omega
  have n10 : ¬ (1 : Int32) = 0 := by decide
  simp only [ee_24_0, ee_24_0N, ee_24_1, ee_24_4, ee_24_5, ee_24_5N, ee_24_6, ee_24_9, ee_24_12, ee_24_15, ee_24_16, ee_24_16T, ee_24_17, ee_24_17N, ee_24_18, ee_24_21, ee_24_24, ee_24_25, ee_24_27, ee_24_28, ee_24_29, ee_24_30, ee_24_31, ee_24_33, ee_24_34, ee_24_36, ee_24_37, ee_24_41, ee_24_41N, ee_24_42, ee_24_45, ee_24_48, ee_24_48N, ee_24_49, ee_24_52, ee_24_54, ee_24_55, ee_24_55N, ee_24_56, ee_24_59, ee_24_61, ee_24_62, ee_24_65, ee_24_65N, ee_24_66, ee_24_69, ee_24_71, ee_24_72, ee_24_75, ee_24_76, ee_24_76T, ee_24_77, ee_24_79, ee_24_80, ee_24_81, ee_24_83, ee_24_86, ee_24_89, ee_24_90, ee_24_90T, Q.f1, T.f1, L.isc hs, m14 hs L hp hw, L.f3 hs, rem8 p hp2, rem8b p hp2, div8 p hp2, L.step hs, n80, Option.bind_some, Option.toList, List.cons_append, List.nil_append, List.append_nil, if_true, if_false, Bool.false_eq_true, eq_self, not_true_eq_false, not_false_eq_true]
  by_cases hr : w.length ≤ rN s p
  · have e := m24_loop (d := d + 1 + 1) hs Q T hc hp hr (nI p) w.length 0 (by omega)
    have e0 : ci s p 0 = nI (p / 8) := by unfold ci; rw [nI_0, Int32.zero_mul, Int32.add_zero]
    rw [e0, nI_0] at e
    simp only [hr, decide_true, n10, not_false_eq_true, if_true, e, acc, Bool.true_and, bI_t]
  · simp [hr, acc, bI]
/-- cellSet -/
theorem m15_loop {p n : Nat} (hs : sideOk s) (L : LatAt h) (hp : p < 8 * s * s) (hn : n < 2 ^ 31) :
    ∀ j i m, i + j = n → go d 15 11 [.ref (latA s), .int (nI p), .int (nI n), .int m, .int (ci s p i), .int (nI i)] [] h = some (some (.int (csetF s p i j m)), h)
  | 0, i, m, hi => by
    have h1 : nI n ≤ nI i := by rw [← hi]; exact Int32.le_refl _
    rw [ee_15_11]
    simp only [ee_15_0, ee_15_1, ee_15_2, ee_15_3, ee_15_5, ee_15_6, ee_15_8, ee_15_9, ee_15_13, ee_15_14, ee_15_17, ee_15_18, ee_15_19, ee_15_21, ee_15_22, ee_15_23, ee_15_24, ee_15_26, ee_15_26N, ee_15_27, ee_15_30, ee_15_31, ee_15_33, ee_15_34, ee_15_35, ee_15_36, ee_15_38, ee_15_41, ee_15_44, ee_15_45, h1, Option.bind_some, Option.toList, List.cons_append, List.nil_append, List.append_nil, if_true, if_false, Bool.false_eq_true, eq_self, not_true_eq_false, not_false_eq_true, csetF]
  | j + 1, i, m, hi => by
    have hp2 : p < 2 ^ 31 := by have := (sq_lt hs).2; omega
    have h1 : ¬ nI n ≤ nI i := by rw [nI_leI (by omega) (by omega)]; omega
    have e := m15_loop hs L hp hn j (i + 1) (m ||| ((1 : Int32) <<< (ci s p i &&& 31))) (by omega)
    rw [ee_15_11]
    simp only [ee_15_0, ee_15_1, ee_15_2, ee_15_3, ee_15_5, ee_15_6, ee_15_8, ee_15_9, ee_15_13, ee_15_14, ee_15_17, ee_15_18, ee_15_19, ee_15_21, ee_15_22, ee_15_23, ee_15_24, ee_15_26, ee_15_26N, ee_15_27, ee_15_30, ee_15_31, ee_15_33, ee_15_34, ee_15_35, ee_15_36, ee_15_38, ee_15_41, ee_15_44, ee_15_45, h1, L.f3 hs, rem8 p hp2, L.step hs, n80, Option.bind_some, Option.toList, List.cons_append, List.nil_append, List.append_nil, if_true, if_false, Bool.false_eq_true, eq_self, not_true_eq_false, not_false_eq_true, ci_succ, nI_1, e, csetF]
theorem m15 {p n : Nat} (hs : sideOk s) (L : LatAt h) (hp : p < 8 * s * s) (hn : n < 2 ^ 31) : go d 15 0 [.ref (latA s), .int (nI p), .int (nI n), aU, aU, aU] [] h = some (some (.int (csetF s p 0 n 0)), h) := by
  have hp2 : p < 2 ^ 31 := by have := (sq_lt hs).2; omega
  have e := m15_loop (d := d) hs L hp hn n 0 0 (by omega)
  have e0 : ci s p 0 = nI (p / 8) := by unfold ci; rw [nI_0, Int32.zero_mul, Int32.add_zero]
  rw [e0, nI_0] at e
  simp only [ee_15_0, ee_15_1, ee_15_2, ee_15_3, ee_15_5, ee_15_6, ee_15_8, ee_15_9, ee_15_13, ee_15_14, ee_15_17, ee_15_18, ee_15_19, ee_15_21, ee_15_22, ee_15_23, ee_15_24, ee_15_26, ee_15_26N, ee_15_27, ee_15_30, ee_15_31, ee_15_33, ee_15_34, ee_15_35, ee_15_36, ee_15_38, ee_15_41, ee_15_44, ee_15_45, div8 p hp2, n80, Option.bind_some, Option.toList, List.cons_append, List.nil_append, List.append_nil, if_true, if_false, Bool.false_eq_true, eq_self, not_true_eq_false, not_false_eq_true, e]
/-- lay -/
theorem m25_loop {p : Nat} (hs : sideOk s) (hp : p < 8 * s * s) (hr : w.length ≤ rN s p) (hc : c < 2 ^ 31) (P : Int32) (ht1 : a + 1 ≠ t) (ht2 : a + 1 ≠ t + 1) :
    ∀ n i (h : aH) (cs : List Int32) (m : Int32), SquareAt h a s cs → TextAt h t c w → i + n = w.length → go d 25 25 [.ref a, .ref t, .int P, .int m, .int ((stp s).getD (p % 8) 0), .int (ci s p i), .int (nI i)] [] h = some (some (.int (layF s w p i n (cs, m)).2), h.set (a + 1) (ints (layF s w p i n (cs, m)).1))
  | 0, i, h, cs, m, Q, T, hi => by
    have h1 : nI w.length ≤ nI i := by rw [← hi]; exact Int32.le_refl _
    have e0 : h.set (a + 1) (ints cs) = h := by
      apply List.ext_getElem?
      intro j
      by_cases hj : a + 1 = j
      · subst hj; rw [set_at (at_lt Q.2.1), Q.2.1]
      · rw [set_ne hj]
    rw [ee_25_25]
    simp only [ee_25_0, ee_25_1, ee_25_2, ee_25_2N, ee_25_3, ee_25_6, ee_25_9, ee_25_10, ee_25_12, ee_25_13, ee_25_14, ee_25_16, ee_25_17, ee_25_19, ee_25_20, ee_25_22, ee_25_23, ee_25_27, ee_25_27N, ee_25_28, ee_25_31, ee_25_34, ee_25_34N, ee_25_35, ee_25_38, ee_25_40, ee_25_41, ee_25_44, ee_25_44N, ee_25_45, ee_25_48, ee_25_50, ee_25_50N, ee_25_51, ee_25_54, ee_25_56, ee_25_57, ee_25_58, ee_25_59, ee_25_60, ee_25_62, ee_25_63, ee_25_64, ee_25_65, ee_25_67, ee_25_69, ee_25_70, ee_25_72, ee_25_75, ee_25_78, ee_25_79, T.f1, h1, Option.bind_some, Option.toList, List.cons_append, List.nil_append, List.append_nil, if_true, if_false, Bool.false_eq_true, eq_self, not_true_eq_false, not_false_eq_true, layF, e0]
  | n + 1, i, h, cs, m, Q, T, hi => by
    have hw := (geo hs hp).1
    have h1 : ¬ nI w.length ≤ nI i := by rw [nI_leI (by omega) (by omega)]; omega
    obtain ⟨g1, g2⟩ := (geo hs hp).2.2.2.2 i (by omega)
    have hsq := (sq_lt hs).1
    have i1 : ia h (a + 1) (ci s p i) = some (cs.getD (cl s p i) 0) := by rw [g1]; exact Q.ia (by omega)
    have i2 : ia h (t + 1) (nI i) = some (w.getD i 0) := T.ia (by omega) hc
    have i3 : is_ h (a + 1) (ci s p i) (w.getD i 0) = some (h.set (a + 1) (ints (cs.set (cl s p i) (w.getD i 0)))) := by rw [g1]; exact Q.is_ (by omega)
    rw [ee_25_25]
    by_cases hA : cs.getD (cl s p i) 0 = 0
    · have e := m25_loop hs hp hr hc P ht1 ht2 n (i + 1) (h.set (a + 1) (ints (cs.set (cl s p i) (w.getD i 0)))) (cs.set (cl s p i) (w.getD i 0)) (m ||| ((1 : Int32) <<< (ci s p i &&& 31))) (Q.put (by rw [List.length_set]; exact Q.2.2)) (T.set ht1 ht2) (by omega)
      rw [List.set_set] at e
      simp only [ee_25_0, ee_25_1, ee_25_2, ee_25_2N, ee_25_3, ee_25_6, ee_25_9, ee_25_10, ee_25_12, ee_25_13, ee_25_14, ee_25_16, ee_25_17, ee_25_19, ee_25_20, ee_25_22, ee_25_23, ee_25_27, ee_25_27N, ee_25_28, ee_25_31, ee_25_34, ee_25_34N, ee_25_35, ee_25_38, ee_25_40, ee_25_41, ee_25_44, ee_25_44N, ee_25_45, ee_25_48, ee_25_50, ee_25_50N, ee_25_51, ee_25_54, ee_25_56, ee_25_57, ee_25_58, ee_25_59, ee_25_60, ee_25_62, ee_25_63, ee_25_64, ee_25_65, ee_25_67, ee_25_69, ee_25_70, ee_25_72, ee_25_75, ee_25_78, ee_25_79, T.f1, T.f0, Q.f0, h1, i1, i2, i3, hA, Option.bind_some, Option.toList, List.cons_append, List.nil_append, List.append_nil, if_true, if_false, Bool.false_eq_true, eq_self, not_true_eq_false, not_false_eq_true, ci_succ, nI_1, e, layF, lay1]
    · have e := m25_loop hs hp hr hc P ht1 ht2 n (i + 1) h cs m Q T (by omega)
      simp only [ee_25_0, ee_25_1, ee_25_2, ee_25_2N, ee_25_3, ee_25_6, ee_25_9, ee_25_10, ee_25_12, ee_25_13, ee_25_14, ee_25_16, ee_25_17, ee_25_19, ee_25_20, ee_25_22, ee_25_23, ee_25_27, ee_25_27N, ee_25_28, ee_25_31, ee_25_34, ee_25_34N, ee_25_35, ee_25_38, ee_25_40, ee_25_41, ee_25_44, ee_25_44N, ee_25_45, ee_25_48, ee_25_50, ee_25_50N, ee_25_51, ee_25_54, ee_25_56, ee_25_57, ee_25_58, ee_25_59, ee_25_60, ee_25_62, ee_25_63, ee_25_64, ee_25_65, ee_25_67, ee_25_69, ee_25_70, ee_25_72, ee_25_75, ee_25_78, ee_25_79, T.f1, T.f0, Q.f0, h1, i1, i2, i3, hA, Option.bind_some, Option.toList, List.cons_append, List.nil_append, List.append_nil, if_true, if_false, Bool.false_eq_true, eq_self, not_true_eq_false, not_false_eq_true, ci_succ, nI_1, e, layF, lay1]
theorem m25 {p : Nat} (hs : sideOk s) (L : LatAt h) (Q : SquareAt h a s cs) (T : TextAt h t c w) (hc : c < 2 ^ 31) (hp : p < 8 * s * s) (hr : w.length ≤ rN s p) (ht1 : a + 1 ≠ t) (ht2 : a + 1 ≠ t + 1) :
    go d 25 0 [.ref a, .ref t, .int (nI p), aU, aU, aU, aU] [] h = some (some (.int (layF s w p 0 w.length (cs, 0)).2), h.set (a + 1) (ints (layF s w p 0 w.length (cs, 0)).1)) := by
  have hp2 : p < 2 ^ 31 := by have := (sq_lt hs).2; omega
  have e := m25_loop (d := d) hs hp hr hc (nI p) ht1 ht2 w.length 0 h cs 0 Q T (by omega)
  have e0 : ci s p 0 = nI (p / 8) := by unfold ci; rw [nI_0, Int32.zero_mul, Int32.add_zero]
  rw [e0, nI_0] at e
  simp only [ee_25_0, ee_25_1, ee_25_2, ee_25_2N, ee_25_3, ee_25_6, ee_25_9, ee_25_10, ee_25_12, ee_25_13, ee_25_14, ee_25_16, ee_25_17, ee_25_19, ee_25_20, ee_25_22, ee_25_23, ee_25_27, ee_25_27N, ee_25_28, ee_25_31, ee_25_34, ee_25_34N, ee_25_35, ee_25_38, ee_25_40, ee_25_41, ee_25_44, ee_25_44N, ee_25_45, ee_25_48, ee_25_50, ee_25_50N, ee_25_51, ee_25_54, ee_25_56, ee_25_57, ee_25_58, ee_25_59, ee_25_60, ee_25_62, ee_25_63, ee_25_64, ee_25_65, ee_25_67, ee_25_69, ee_25_70, ee_25_72, ee_25_75, ee_25_78, ee_25_79, Q.f1, L.f3 hs, rem8 p hp2, rem8b p hp2, div8 p hp2, L.step hs, n80, Option.bind_some, Option.toList, List.cons_append, List.nil_append, List.append_nil, if_true, if_false, Bool.false_eq_true, eq_self, not_true_eq_false, not_false_eq_true, e]
/-- lift -/
theorem m26_loop (m : Int32) : ∀ n i (h : aH) (cs : List Int32), SquareAt h a s cs → i + n = 16 → go d 26 2 [.ref a, .int m, .int (nI i)] [] h = some (none, h.set (a + 1) (ints (liftF m i n cs)))
  | 0, i, h, cs, Q, hi => by
    have h1 : (16 : Int32) ≤ nI i := by rw [show i = 16 by omega]; decide
    have e0 : h.set (a + 1) (ints cs) = h := by
      apply List.ext_getElem?
      intro j
      by_cases hj : a + 1 = j
      · subst hj; rw [set_at (at_lt Q.2.1), Q.2.1]
      · rw [set_ne hj]
    rw [ee_26_2]
    simp only [ee_26_0, ee_26_1, ee_26_3, ee_26_5, ee_26_8, ee_26_9, ee_26_10, ee_26_11, ee_26_12, ee_26_13, ee_26_16, ee_26_16N, ee_26_17, ee_26_20, ee_26_21, ee_26_22, ee_26_23, ee_26_26, ee_26_29, h1, Option.bind_some, Option.toList, List.cons_append, List.nil_append, List.append_nil, if_true, if_false, Bool.false_eq_true, eq_self, not_true_eq_false, not_false_eq_true, liftF, e0]
  | n + 1, i, h, cs, Q, hi => by
    have h1 : ¬ (16 : Int32) ≤ nI i := by rw [show (16 : Int32) = nI 16 by decide, nI_leI (by decide) (by omega)]; omega
    have i3 : is_ h (a + 1) (nI i) 0 = some (h.set (a + 1) (ints (cs.set i 0))) := Q.is_ (by omega)
    rw [ee_26_2]
    by_cases hA : m >>> (nI i &&& 31) &&& 1 = 0
    · have e := m26_loop m n (i + 1) h cs Q (by omega)
      simp only [ee_26_0, ee_26_1, ee_26_3, ee_26_5, ee_26_8, ee_26_9, ee_26_10, ee_26_11, ee_26_12, ee_26_13, ee_26_16, ee_26_16N, ee_26_17, ee_26_20, ee_26_21, ee_26_22, ee_26_23, ee_26_26, ee_26_29, h1, hA, Option.bind_some, Option.toList, List.cons_append, List.nil_append, List.append_nil, if_true, if_false, Bool.false_eq_true, eq_self, not_true_eq_false, not_false_eq_true, nI_1, e, liftF]
    · have e := m26_loop m n (i + 1) (h.set (a + 1) (ints (cs.set i 0))) (cs.set i 0) (Q.put (by rw [List.length_set]; exact Q.2.2)) (by omega)
      rw [List.set_set] at e
      simp only [ee_26_0, ee_26_1, ee_26_3, ee_26_5, ee_26_8, ee_26_9, ee_26_10, ee_26_11, ee_26_12, ee_26_13, ee_26_16, ee_26_16N, ee_26_17, ee_26_20, ee_26_21, ee_26_22, ee_26_23, ee_26_26, ee_26_29, h1, hA, Q.f0, i3, Option.bind_some, Option.toList, List.cons_append, List.nil_append, List.append_nil, if_true, if_false, Bool.false_eq_true, eq_self, not_true_eq_false, not_false_eq_true, nI_1, e, liftF]
theorem m26 (m : Int32) (Q : SquareAt h a s cs) : go d 26 0 [.ref a, .int m, aU] [] h = some (none, h.set (a + 1) (ints (liftF m 0 16 cs))) := by
  have e := m26_loop (d := d) m 16 0 h cs Q rfl
  rw [nI_0] at e
  simp only [ee_26_0, ee_26_1, ee_26_3, ee_26_5, ee_26_8, ee_26_9, ee_26_10, ee_26_11, ee_26_12, ee_26_13, ee_26_16, ee_26_16N, ee_26_17, ee_26_20, ee_26_21, ee_26_22, ee_26_23, ee_26_26, ee_26_29, e]
end SQ
