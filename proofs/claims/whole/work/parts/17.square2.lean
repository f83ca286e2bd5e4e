/-! the other methods of Square -/
def pour1 (rs : List Int32) (c : Nat) (q : List Int32 × Nat × Nat) : List Int32 × Nat × Nat := if q.1.getD c 0 = 0 then (q.1.set c (rs.getD q.2.1 0), (if rs.length ≤ q.2.1 + 1 then 0 else q.2.1 + 1), q.2.2 + 1) else q
def pourF (rs : List Int32) : Nat → Nat → List Int32 × Nat × Nat → List Int32 × Nat × Nat
  | _, 0, q => q
  | c, n + 1, q => pourF rs (c + 1) n (pour1 rs c q)
def shB (s : Nat) (cs w : List Int32) (p i n : Nat) : Bool := (List.range' i n).all fun i => decide (cs.getD (cl s p i) 0 = w.getD i 0)
def sh (s : Nat) (cs w : List Int32) (p : Nat) : Bool := decide (w.length ≤ rN s p) && shB s cs w p 0 w.length
/-- the i-th place at which a word stands, or how many there were -/
def scan (s : Nat) (cs w : List Int32) (i : Int32) : List Nat → Nat → Nat ⊕ Nat
  | [], seen => .inr seen
  | p :: ps, seen => if sh s cs w p = true then (if nI seen = i then .inl p else scan s cs w i ps (seen + 1)) else scan s cs w i ps seen
def scanV (i : Int32) (r : Nat ⊕ Nat) : Int32 := match r with
  | .inl p => nI p
  | .inr n => if i = -1 then nI n else -6
def emF (cs : List Int32) : Nat → Nat → Nat → Nat
  | _, 0, k => k
  | c, n + 1, k => emF cs (c + 1) n (if cs.getD c 0 = 0 then k + 1 else k)
def mkF (cs : List Int32) : Nat → Nat → Int32 → Int32
  | _, 0, m => m
  | c, n + 1, m => mkF cs (c + 1) n (if cs.getD c 0 = 0 then m else m ||| ((1 : Int32) <<< ((cs.getD c 0 - 97) &&& 31)))
theorem set_same {h : aH} {a : Nat} {x : aC} (ha : h[a]? = some x) : h.set a x = h := by
  apply List.ext_getElem?
  intro j
  by_cases hj : a = j
  · subst hj; rw [set_at (at_lt ha), ha]
  · rw [set_ne hj]
theorem nI_nle2 {a b : Nat} (ha : a < 2 ^ 31) (hb : b < 2 ^ 31) (h : a < b) : ¬ nI b ≤ nI a := by rw [nI_leI hb ha]; omega
section SR
variable {h : aH} {a t s d c : Nat} {cs w : List Int32}
/-- pour -/
theorem m27_loop {rs : List Int32} (hs : sideOk s) (hc : c < 2 ^ 31) (hr : 0 < rs.length) (ht1 : a + 1 ≠ t) (ht2 : a + 1 ≠ t + 1) (ha : 11 < a + 1) :
    ∀ n i (h : aH) (cs : List Int32) (nx gv : Nat), LatAt h → SquareAt h a s cs → TextAt h t c rs → nx < rs.length → gv + n < 2 ^ 31 → i + n = s * s → go d 27 7 [.ref a, .ref t, .int (nI gv), .int (nI nx), .int (nI i)] [] h = some (some (.int (nI (pourF rs i n (cs, nx, gv)).2.2)), h.set (a + 1) (ints (pourF rs i n (cs, nx, gv)).1))
  | 0, i, h, cs, nx, gv, L, Q, T, hx, hg, hi => by
    have h1 : nI (s * s) ≤ nI i := by rw [← hi]; exact Int32.le_refl _
    rw [ee_27_7]
    simp only [ee_27_0, ee_27_1, ee_27_2, ee_27_3, ee_27_4, ee_27_5, ee_27_9, ee_27_9N, ee_27_10, ee_27_13, ee_27_16, ee_27_19, ee_27_19N, ee_27_20, ee_27_23, ee_27_25, ee_27_26, ee_27_29, ee_27_29N, ee_27_30, ee_27_33, ee_27_35, ee_27_35N, ee_27_36, ee_27_39, ee_27_40, ee_27_41, ee_27_42, ee_27_43, ee_27_44, ee_27_45, ee_27_45N, ee_27_46, ee_27_49, ee_27_52, ee_27_53, ee_27_54, ee_27_55, ee_27_58, ee_27_59, ee_27_60, ee_27_63, ee_27_66, ee_27_69, ee_27_70, Q.f1, L.f1 hs, h1, Option.bind_some, Option.toList, List.cons_append, List.nil_append, List.append_nil, if_true, if_false, Bool.false_eq_true, eq_self, not_true_eq_false, not_false_eq_true, pourF, set_same Q.2.1]
  | n + 1, i, h, cs, nx, gv, L, Q, T, hx, hg, hi => by
    have hsq := (sq_lt hs).1
    have hrl : rs.length ≤ c := by obtain ⟨-, xs, -, h3⟩ := T; omega
    have h1 : ¬ nI (s * s) ≤ nI i := nI_nle2 (by omega) (by omega) (by omega)
    have i1 : ia h (a + 1) (nI i) = some (cs.getD i 0) := Q.ia (by omega)
    have i2 : ia h (t + 1) (nI nx) = some (rs.getD nx 0) := T.ia hx hc
    have i3 : is_ h (a + 1) (nI i) (rs.getD nx 0) = some (h.set (a + 1) (ints (cs.set i (rs.getD nx 0)))) := Q.is_ (by omega)
    rw [ee_27_7]
    by_cases hA : cs.getD i 0 = 0
    · have T' := T.set (x := ints (cs.set i (rs.getD nx 0))) ht1 ht2
      have hle := nI_leI (a := rs.length) (b := nx + 1) (by omega) (by omega)
      by_cases hB : rs.length ≤ nx + 1
      · have e := m27_loop hs hc hr ht1 ht2 ha n (i + 1) _ (cs.set i (rs.getD nx 0)) 0 (gv + 1) (L.set (x := ints (cs.set i (rs.getD nx 0))) ha) (Q.put (by rw [List.length_set]; exact Q.2.2)) T' hr (by omega) (by omega)
        rw [List.set_set, nI_0] at e
        simp only [ee_27_0, ee_27_1, ee_27_2, ee_27_3, ee_27_4, ee_27_5, ee_27_9, ee_27_9N, ee_27_10, ee_27_13, ee_27_16, ee_27_19, ee_27_19N, ee_27_20, ee_27_23, ee_27_25, ee_27_26, ee_27_29, ee_27_29N, ee_27_30, ee_27_33, ee_27_35, ee_27_35N, ee_27_36, ee_27_39, ee_27_40, ee_27_41, ee_27_42, ee_27_43, ee_27_44, ee_27_45, ee_27_45N, ee_27_46, ee_27_49, ee_27_52, ee_27_53, ee_27_54, ee_27_55, ee_27_58, ee_27_59, ee_27_60, ee_27_63, ee_27_66, ee_27_69, ee_27_70, Q.f1, L.f1 hs, T.f0, T'.f1, Q.f0, h1, i1, i2, i3, hA, hB, hle, Option.bind_some, Option.toList, List.cons_append, List.nil_append, List.append_nil, if_true, if_false, Bool.false_eq_true, eq_self, not_true_eq_false, not_false_eq_true, nI_1, e, pourF, pour1]
      · have e := m27_loop hs hc hr ht1 ht2 ha n (i + 1) _ (cs.set i (rs.getD nx 0)) (nx + 1) (gv + 1) (L.set (x := ints (cs.set i (rs.getD nx 0))) ha) (Q.put (by rw [List.length_set]; exact Q.2.2)) T' (by omega) (by omega) (by omega)
        rw [List.set_set] at e
        simp only [ee_27_0, ee_27_1, ee_27_2, ee_27_3, ee_27_4, ee_27_5, ee_27_9, ee_27_9N, ee_27_10, ee_27_13, ee_27_16, ee_27_19, ee_27_19N, ee_27_20, ee_27_23, ee_27_25, ee_27_26, ee_27_29, ee_27_29N, ee_27_30, ee_27_33, ee_27_35, ee_27_35N, ee_27_36, ee_27_39, ee_27_40, ee_27_41, ee_27_42, ee_27_43, ee_27_44, ee_27_45, ee_27_45N, ee_27_46, ee_27_49, ee_27_52, ee_27_53, ee_27_54, ee_27_55, ee_27_58, ee_27_59, ee_27_60, ee_27_63, ee_27_66, ee_27_69, ee_27_70, Q.f1, L.f1 hs, T.f0, T'.f1, Q.f0, h1, i1, i2, i3, hA, hB, hle, Option.bind_some, Option.toList, List.cons_append, List.nil_append, List.append_nil, if_true, if_false, Bool.false_eq_true, eq_self, not_true_eq_false, not_false_eq_true, nI_1, e, pourF, pour1]
    · have e := m27_loop hs hc hr ht1 ht2 ha n (i + 1) h cs nx gv L Q T hx (by omega) (by omega)
      simp only [ee_27_0, ee_27_1, ee_27_2, ee_27_3, ee_27_4, ee_27_5, ee_27_9, ee_27_9N, ee_27_10, ee_27_13, ee_27_16, ee_27_19, ee_27_19N, ee_27_20, ee_27_23, ee_27_25, ee_27_26, ee_27_29, ee_27_29N, ee_27_30, ee_27_33, ee_27_35, ee_27_35N, ee_27_36, ee_27_39, ee_27_40, ee_27_41, ee_27_42, ee_27_43, ee_27_44, ee_27_45, ee_27_45N, ee_27_46, ee_27_49, ee_27_52, ee_27_53, ee_27_54, ee_27_55, ee_27_58, ee_27_59, ee_27_60, ee_27_63, ee_27_66, ee_27_69, ee_27_70, Q.f1, L.f1 hs, T.f0, Q.f0, h1, i1, hA, Option.bind_some, Option.toList, List.cons_append, List.nil_append, List.append_nil, if_true, if_false, Bool.false_eq_true, eq_self, not_true_eq_false, not_false_eq_true, nI_1, e, pourF, pour1]
theorem m27 {rs : List Int32} (hs : sideOk s) (L : LatAt h) (Q : SquareAt h a s cs) (T : TextAt h t c rs) (hc : c < 2 ^ 31) (hr : 0 < rs.length) (ht1 : a + 1 ≠ t) (ht2 : a + 1 ≠ t + 1) (ha : 11 < a + 1) :
    go d 27 0 [.ref a, .ref t, aU, aU, aU] [] h = some (some (.int (nI (pourF rs 0 (s * s) (cs, 0, 0)).2.2)), h.set (a + 1) (ints (pourF rs 0 (s * s) (cs, 0, 0)).1)) := by
  have e := m27_loop (d := d) hs hc hr ht1 ht2 ha (s * s) 0 h cs 0 0 L Q T hr (by have := (sq_lt hs).1; omega) (by omega)
  rw [nI_0] at e
  simp only [ee_27_0, ee_27_1, ee_27_2, ee_27_3, ee_27_4, ee_27_5, ee_27_9, ee_27_9N, ee_27_10, ee_27_13, ee_27_16, ee_27_19, ee_27_19N, ee_27_20, ee_27_23, ee_27_25, ee_27_26, ee_27_29, ee_27_29N, ee_27_30, ee_27_33, ee_27_35, ee_27_35N, ee_27_36, ee_27_39, ee_27_40, ee_27_41, ee_27_42, ee_27_43, ee_27_44, ee_27_45, ee_27_45N, ee_27_46, ee_27_49, ee_27_52, ee_27_53, ee_27_54, ee_27_55, ee_27_58, ee_27_59, ee_27_60, ee_27_63, ee_27_66, ee_27_69, ee_27_70, e]
/-- showsAt -/
theorem m29_loop {p : Nat} (hs : sideOk s) (Q : SquareAt h a s cs) (T : TextAt h t c w) (hc : c < 2 ^ 31) (hp : p < 8 * s * s) (hr : w.length ≤ rN s p) (P : Int32) :
    ∀ n i, i + n = w.length → go d 29 40 [.ref a, .ref t, .int P, .int ((stp s).getD (p % 8) 0), .int (ci s p i), .int (nI i)] [] h = some (some (.int (bI (shB s cs w p i n))), h)
  | 0, i, hi => by
    have h1 : nI w.length ≤ nI i := by rw [← hi]; exact Int32.le_refl _
    rw [ee_29_40]
    simp only [ee_29_0, ee_29_0N, ee_29_1, ee_29_4, ee_29_7, ee_29_8, ee_29_9, ee_29_9N, ee_29_10, ee_29_13, ee_29_16, ee_29_17, ee_29_17T, ee_29_18, ee_29_18N, ee_29_19, ee_29_22, ee_29_25, ee_29_26, ee_29_28, ee_29_29, ee_29_30, ee_29_31, ee_29_32, ee_29_34, ee_29_35, ee_29_37, ee_29_38, ee_29_42, ee_29_42N, ee_29_43, ee_29_46, ee_29_49, ee_29_49N, ee_29_50, ee_29_53, ee_29_55, ee_29_56, ee_29_56N, ee_29_57, ee_29_60, ee_29_62, ee_29_63, ee_29_66, ee_29_67, ee_29_67T, ee_29_68, ee_29_70, ee_29_71, ee_29_72, ee_29_74, ee_29_77, ee_29_80, ee_29_81, ee_29_81T, T.f1, h1, Option.bind_some, Option.toList, List.cons_append, List.nil_append, List.append_nil, if_true, if_false, Bool.false_eq_true, eq_self, not_true_eq_false, not_false_eq_true, shB, List.range'_zero, List.all_nil, bI_t]
  | n + 1, i, hi => by
    have hw := (geo hs hp).1
    have h1 : ¬ nI w.length ≤ nI i := by rw [nI_leI (by omega) (by omega)]; omega
    obtain ⟨g1, g2⟩ := (geo hs hp).2.2.2.2 i (by omega)
    have hsq := (sq_lt hs).1
    have i1 : ia h (a + 1) (ci s p i) = some (cs.getD (cl s p i) 0) := by rw [g1]; exact Q.ia (by omega)
    have i2 : ia h (t + 1) (nI i) = some (w.getD i 0) := T.ia (by omega) hc
    have e := m29_loop hs Q T hc hp hr P n (i + 1) (by omega)
    rw [ee_29_40]
    simp only [ee_29_0, ee_29_0N, ee_29_1, ee_29_4, ee_29_7, ee_29_8, ee_29_9, ee_29_9N, ee_29_10, ee_29_13, ee_29_16, ee_29_17, ee_29_17T, ee_29_18, ee_29_18N, ee_29_19, ee_29_22, ee_29_25, ee_29_26, ee_29_28, ee_29_29, ee_29_30, ee_29_31, ee_29_32, ee_29_34, ee_29_35, ee_29_37, ee_29_38, ee_29_42, ee_29_42N, ee_29_43, ee_29_46, ee_29_49, ee_29_49N, ee_29_50, ee_29_53, ee_29_55, ee_29_56, ee_29_56N, ee_29_57, ee_29_60, ee_29_62, ee_29_63, ee_29_66, ee_29_67, ee_29_67T, ee_29_68, ee_29_70, ee_29_71, ee_29_72, ee_29_74, ee_29_77, ee_29_80, ee_29_81, ee_29_81T, T.f1, T.f0, Q.f0, h1, i1, i2, Option.bind_some, Option.toList, List.cons_append, List.nil_append, List.append_nil, if_true, if_false, Bool.false_eq_true, eq_self, not_true_eq_false, not_false_eq_true, ci_succ, nI_1, e]
    have ea : shB s cs w p i (n + 1) = (decide (cs.getD (cl s p i) 0 = w.getD i 0) && shB s cs w p (i + 1) n) := by
      simp only [shB, List.range'_succ, List.all_cons]
    rw [ea]
    by_cases hA : cs.getD (cl s p i) 0 = w.getD i 0
    · rw [if_pos hA, decide_eq_true hA, Bool.true_and]
    · rw [if_neg hA, decide_eq_false hA]
      rfl
theorem m29 {p : Nat} (hs : sideOk s) (L : LatAt h) (Q : SquareAt h a s cs) (T : TextAt h t c w) (hc : c < 2 ^ 31) (hp : p < 8 * s * s) :
    go d 29 0 [.ref a, .ref t, .int (nI p), aU, aU, aU] [] h = some (some (.int (bI (sh s cs w p))), h) := by
  have hp2 : p < 2 ^ 31 := by have := (sq_lt hs).2; omega
  have hw : w.length < 2 ^ 31 := by obtain ⟨-, xs, -, h3⟩ := T; omega
  have hr5 := (geo hs hp).1
  have hle := nI_leI (a := w.length) (b := rN s p) hw (by omega)
  by_cases hr : w.length ≤ rN s p
  · have e := m29_loop (d := d) hs Q T hc hp hr (nI p) w.length 0 (by omega)
    have e0 : ci s p 0 = nI (p / 8) := by unfold ci; rw [nI_0, Int32.zero_mul, Int32.add_zero]
    rw [e0, nI_0] at e
    simp only [ee_29_0, ee_29_0N, ee_29_1, ee_29_4, ee_29_7, ee_29_8, ee_29_9, ee_29_9N, ee_29_10, ee_29_13, ee_29_16, ee_29_17, ee_29_17T, ee_29_18, ee_29_18N, ee_29_19, ee_29_22, ee_29_25, ee_29_26, ee_29_28, ee_29_29, ee_29_30, ee_29_31, ee_29_32, ee_29_34, ee_29_35, ee_29_37, ee_29_38, ee_29_42, ee_29_42N, ee_29_43, ee_29_46, ee_29_49, ee_29_49N, ee_29_50, ee_29_53, ee_29_55, ee_29_56, ee_29_56N, ee_29_57, ee_29_60, ee_29_62, ee_29_63, ee_29_66, ee_29_67, ee_29_67T, ee_29_68, ee_29_70, ee_29_71, ee_29_72, ee_29_74, ee_29_77, ee_29_80, ee_29_81, ee_29_81T, Q.f1, T.f1, L.f4 hs, L.rea hs hp, hle, hr, L.f3 hs, rem8 p hp2, rem8b p hp2, div8 p hp2, L.step hs, n80, Option.bind_some, Option.toList, List.cons_append, List.nil_append, List.append_nil, if_true, if_false, Bool.false_eq_true, eq_self, not_true_eq_false, not_false_eq_true, e, sh, decide_true, Bool.true_and]
  · simp only [ee_29_0, ee_29_0N, ee_29_1, ee_29_4, ee_29_7, ee_29_8, ee_29_9, ee_29_9N, ee_29_10, ee_29_13, ee_29_16, ee_29_17, ee_29_17T, ee_29_18, ee_29_18N, ee_29_19, ee_29_22, ee_29_25, ee_29_26, ee_29_28, ee_29_29, ee_29_30, ee_29_31, ee_29_32, ee_29_34, ee_29_35, ee_29_37, ee_29_38, ee_29_42, ee_29_42N, ee_29_43, ee_29_46, ee_29_49, ee_29_49N, ee_29_50, ee_29_53, ee_29_55, ee_29_56, ee_29_56N, ee_29_57, ee_29_60, ee_29_62, ee_29_63, ee_29_66, ee_29_67, ee_29_67T, ee_29_68, ee_29_70, ee_29_71, ee_29_72, ee_29_74, ee_29_77, ee_29_80, ee_29_81, ee_29_81T, Q.f1, T.f1, L.f4 hs, L.rea hs hp, hle, hr, Option.bind_some, Option.toList, List.cons_append, List.nil_append, List.append_nil, if_true, if_false, Bool.false_eq_true, eq_self, not_true_eq_false, not_false_eq_true, sh, decide_false, Bool.false_and, bI_f]
/-- standing -/
theorem m28_in (hs : sideOk s) (L : LatAt h) (Q : SquareAt h a s cs) (T : TextAt h t c w) (hc : c < 2 ^ 31) (i : Int32) (X : Nat) (hX : X < s * s) {rest : List Nat} :
    ∀ n p seen, p + n = 8 * X + 8 → seen + n < 2 ^ 31 → (∀ seen', seen' ≤ seen + n → go (d + 1) 28 83 [.ref a, .ref t, .int i, .int (nI seen'), .int (nI X), .int (nI (8 * X + 8))] [] h = some (some (.int (scanV i (scan s cs w i rest seen'))), h)) →
      go (d + 1) 28 43 [.ref a, .ref t, .int i, .int (nI seen), .int (nI X), .int (nI p)] [] h = some (some (.int (scanV i (scan s cs w i (List.range' p n ++ rest) seen))), h)
  | 0, p, seen, hp, hb, k => by
    have h1 : nI X * 8 + 8 ≤ nI p := by
      rw [show (8 : Int32) = nI 8 by decide, pk_mul, nI_add, show X * 8 + 8 = p by omega]; exact Int32.le_refl _
    have e := k seen (by omega)
    rw [show 8 * X + 8 = p by omega] at e
    rw [ee_28_43]
    simp only [ee_28_0, ee_28_1, ee_28_2, ee_28_3, ee_28_7, ee_28_7N, ee_28_8, ee_28_11, ee_28_14, ee_28_17, ee_28_17N, ee_28_18, ee_28_21, ee_28_23, ee_28_24, ee_28_24N, ee_28_25, ee_28_28, ee_28_29, ee_28_30, ee_28_33, ee_28_36, ee_28_38, ee_28_40, ee_28_41, ee_28_45, ee_28_47, ee_28_49, ee_28_50, ee_28_52, ee_28_53, ee_28_56, ee_28_56N, ee_28_57, ee_28_57N, ee_28_58, ee_28_60, ee_28_63, ee_28_66, ee_28_67, ee_28_68, ee_28_71, ee_28_73, ee_28_74, ee_28_77, ee_28_80, ee_28_86, ee_28_89, ee_28_90, ee_28_91, ee_28_94, ee_28_95, ee_28_98, ee_28_100, h1, Option.bind_some, Option.toList, List.cons_append, List.nil_append, List.append_nil, if_true, if_false, Bool.false_eq_true, eq_self, not_true_eq_false, not_false_eq_true, e, List.range'_zero]
  | n + 1, p, seen, hp, hb, k => by
    have hsq := (sq_lt hs).1
    have h1 : ¬ nI X * 8 + 8 ≤ nI p := by
      rw [show (8 : Int32) = nI 8 by decide, pk_mul, nI_add]
      exact nI_nle2 (by omega) (by omega) (by omega)
    have hp8 : p < 8 * s * s := by rw [Nat.mul_assoc]; omega
    have n10 : ¬ (1 : Int32) = 0 := by decide
    rw [ee_28_43, List.range'_succ]
    by_cases hA : sh s cs w p = true
    · by_cases hB : nI seen = i
      · simp only [ee_28_0, ee_28_1, ee_28_2, ee_28_3, ee_28_7, ee_28_7N, ee_28_8, ee_28_11, ee_28_14, ee_28_17, ee_28_17N, ee_28_18, ee_28_21, ee_28_23, ee_28_24, ee_28_24N, ee_28_25, ee_28_28, ee_28_29, ee_28_30, ee_28_33, ee_28_36, ee_28_38, ee_28_40, ee_28_41, ee_28_45, ee_28_47, ee_28_49, ee_28_50, ee_28_52, ee_28_53, ee_28_56, ee_28_56N, ee_28_57, ee_28_57N, ee_28_58, ee_28_60, ee_28_63, ee_28_66, ee_28_67, ee_28_68, ee_28_71, ee_28_73, ee_28_74, ee_28_77, ee_28_80, ee_28_86, ee_28_89, ee_28_90, ee_28_91, ee_28_94, ee_28_95, ee_28_98, ee_28_100, h1, Q.isc, m29 hs L Q T hc hp8, hA, bI_t, n10, hB, Option.bind_some, Option.toList, List.cons_append, List.nil_append, List.append_nil, if_true, if_false, Bool.false_eq_true, eq_self, not_true_eq_false, not_false_eq_true, List.cons_append, scan, scanV]
      · have e := m28_in hs L Q T hc i X hX n (p + 1) (seen + 1) (by omega) (by omega) (fun z hz => k z (by omega))
        simp only [ee_28_0, ee_28_1, ee_28_2, ee_28_3, ee_28_7, ee_28_7N, ee_28_8, ee_28_11, ee_28_14, ee_28_17, ee_28_17N, ee_28_18, ee_28_21, ee_28_23, ee_28_24, ee_28_24N, ee_28_25, ee_28_28, ee_28_29, ee_28_30, ee_28_33, ee_28_36, ee_28_38, ee_28_40, ee_28_41, ee_28_45, ee_28_47, ee_28_49, ee_28_50, ee_28_52, ee_28_53, ee_28_56, ee_28_56N, ee_28_57, ee_28_57N, ee_28_58, ee_28_60, ee_28_63, ee_28_66, ee_28_67, ee_28_68, ee_28_71, ee_28_73, ee_28_74, ee_28_77, ee_28_80, ee_28_86, ee_28_89, ee_28_90, ee_28_91, ee_28_94, ee_28_95, ee_28_98, ee_28_100, h1, Q.isc, m29 hs L Q T hc hp8, hA, bI_t, n10, hB, Option.bind_some, Option.toList, List.cons_append, List.nil_append, List.append_nil, if_true, if_false, Bool.false_eq_true, eq_self, not_true_eq_false, not_false_eq_true, nI_1, e, List.cons_append, scan]
    · have hA' : sh s cs w p = false := by simpa using hA
      have e := m28_in hs L Q T hc i X hX n (p + 1) seen (by omega) (by omega) (fun z hz => k z (by omega))
      simp only [ee_28_0, ee_28_1, ee_28_2, ee_28_3, ee_28_7, ee_28_7N, ee_28_8, ee_28_11, ee_28_14, ee_28_17, ee_28_17N, ee_28_18, ee_28_21, ee_28_23, ee_28_24, ee_28_24N, ee_28_25, ee_28_28, ee_28_29, ee_28_30, ee_28_33, ee_28_36, ee_28_38, ee_28_40, ee_28_41, ee_28_45, ee_28_47, ee_28_49, ee_28_50, ee_28_52, ee_28_53, ee_28_56, ee_28_56N, ee_28_57, ee_28_57N, ee_28_58, ee_28_60, ee_28_63, ee_28_66, ee_28_67, ee_28_68, ee_28_71, ee_28_73, ee_28_74, ee_28_77, ee_28_80, ee_28_86, ee_28_89, ee_28_90, ee_28_91, ee_28_94, ee_28_95, ee_28_98, ee_28_100, h1, Q.isc, m29 hs L Q T hc hp8, hA', bI_f, Option.bind_some, Option.toList, List.cons_append, List.nil_append, List.append_nil, if_true, if_false, Bool.false_eq_true, eq_self, not_true_eq_false, not_false_eq_true, nI_1, e, List.cons_append, scan]
theorem scan_skip {i : Int32} {rest : List Nat} : ∀ (n p seen : Nat), (∀ q, p ≤ q → q < p + n → sh s cs w q = false) → scan s cs w i (List.range' p n ++ rest) seen = scan s cs w i rest seen
  | 0, p, seen, hq => by rw [List.range'_zero]; rfl
  | n + 1, p, seen, hq => by
    rw [List.range'_succ, List.cons_append]
    simp only [scan, hq p (Nat.le_refl _) (by omega), Bool.false_eq_true, if_false]
    exact scan_skip n (p + 1) seen (fun q h1 h2 => hq q (by omega) (by omega))
theorem cl0_dec : ∀ s ∈ [3, 4], ∀ p, p < 8 * s * s → cl s p 0 = p / 8 := by decide +kernel
theorem sh_first {p : Nat} (hs : sideOk s) (hp : p < 8 * s * s) (hw : 0 < w.length) (hne : ¬ cs.getD (p / 8) 0 = w.getD 0 0) : sh s cs w p = false := by
  have e : cl s p 0 = p / 8 := cl0_dec s (by rcases hs with rfl | rfl <;> simp) p hp
  obtain ⟨n, hn⟩ : ∃ n, w.length = n + 1 := ⟨w.length - 1, by omega⟩
  unfold sh shB
  rw [hn, List.range'_succ, List.all_cons, e, decide_eq_false hne, Bool.false_and, Bool.and_false]
theorem m28_out (hs : sideOk s) (L : LatAt h) (Q : SquareAt h a s cs) (T : TextAt h t c w) (hc : c < 2 ^ 31) (hw : 0 < w.length) (i : Int32) :
    ∀ n X seen (l5 : Value), X + n = s * s → seen + 8 * n < 2 ^ 31 → go (d + 1) 28 5 [.ref a, .ref t, .int i, .int (nI seen), .int (nI X), l5] [] h = some (some (.int (scanV i (scan s cs w i (List.range' (8 * X) (8 * n)) seen))), h)
  | 0, X, seen, l5, hX, hb => by
    have h1 : nI (s * s) ≤ nI X := by rw [← hX]; exact Int32.le_refl _
    rw [ee_28_5]
    by_cases hi : i = -1
    · simp only [ee_28_0, ee_28_1, ee_28_2, ee_28_3, ee_28_7, ee_28_7N, ee_28_8, ee_28_11, ee_28_14, ee_28_17, ee_28_17N, ee_28_18, ee_28_21, ee_28_23, ee_28_24, ee_28_24N, ee_28_25, ee_28_28, ee_28_29, ee_28_30, ee_28_33, ee_28_36, ee_28_38, ee_28_40, ee_28_41, ee_28_45, ee_28_47, ee_28_49, ee_28_50, ee_28_52, ee_28_53, ee_28_56, ee_28_56N, ee_28_57, ee_28_57N, ee_28_58, ee_28_60, ee_28_63, ee_28_66, ee_28_67, ee_28_68, ee_28_71, ee_28_73, ee_28_74, ee_28_77, ee_28_80, ee_28_86, ee_28_89, ee_28_90, ee_28_91, ee_28_94, ee_28_95, ee_28_98, ee_28_100, Q.f1, L.f1 hs, h1, hi, Option.bind_some, Option.toList, List.cons_append, List.nil_append, List.append_nil, if_true, if_false, Bool.false_eq_true, eq_self, not_true_eq_false, not_false_eq_true, Nat.mul_zero, List.range'_zero, scan, scanV]
    · simp only [ee_28_0, ee_28_1, ee_28_2, ee_28_3, ee_28_7, ee_28_7N, ee_28_8, ee_28_11, ee_28_14, ee_28_17, ee_28_17N, ee_28_18, ee_28_21, ee_28_23, ee_28_24, ee_28_24N, ee_28_25, ee_28_28, ee_28_29, ee_28_30, ee_28_33, ee_28_36, ee_28_38, ee_28_40, ee_28_41, ee_28_45, ee_28_47, ee_28_49, ee_28_50, ee_28_52, ee_28_53, ee_28_56, ee_28_56N, ee_28_57, ee_28_57N, ee_28_58, ee_28_60, ee_28_63, ee_28_66, ee_28_67, ee_28_68, ee_28_71, ee_28_73, ee_28_74, ee_28_77, ee_28_80, ee_28_86, ee_28_89, ee_28_90, ee_28_91, ee_28_94, ee_28_95, ee_28_98, ee_28_100, Q.f1, L.f1 hs, h1, hi, Option.bind_some, Option.toList, List.cons_append, List.nil_append, List.append_nil, if_true, if_false, Bool.false_eq_true, eq_self, not_true_eq_false, not_false_eq_true, Nat.mul_zero, List.range'_zero, scan, scanV]
  | n + 1, X, seen, l5, hX, hb => by
    have hsq := (sq_lt hs).1
    have h1 : ¬ nI (s * s) ≤ nI X := nI_nle2 (by omega) (by omega) (by omega)
    have i1 : ia h (a + 1) (nI X) = some (cs.getD X 0) := Q.ia (by omega)
    have i2 : ia h (t + 1) 0 = some (w.getD 0 0) := by rw [← nI_0]; exact T.ia hw hc
    have er : List.range' (8 * X) (8 * (n + 1)) = List.range' (8 * X) 8 ++ List.range' (8 * (X + 1)) (8 * n) := by
      rw [show 8 * (n + 1) = 8 + 8 * n by omega, show 8 * (X + 1) = 8 * X + 8 by omega]
      exact (List.range'_append_1 ..).symm
    have k : ∀ seen' l5, seen' ≤ seen + 8 → go (d + 1) 28 83 [.ref a, .ref t, .int i, .int (nI seen'), .int (nI X), l5] [] h = some (some (.int (scanV i (scan s cs w i (List.range' (8 * (X + 1)) (8 * n)) seen'))), h) := by
      intro seen' l5 hse
      have e := m28_out hs L Q T hc hw i n (X + 1) seen' l5 (by omega) (by omega)
      simp only [ee_28_83, ee_28_86, nI_1, e]
    rw [ee_28_5, er]
    by_cases hA : cs.getD X 0 = w.getD 0 0
    · have e := m28_in (d := d) hs L Q T hc i X (by omega) (rest := List.range' (8 * (X + 1)) (8 * n)) 8 (8 * X) seen (by omega) (by omega) (fun z hz => k z _ hz)
      have e8 : nI X * 8 = nI (8 * X) := by rw [show (8 : Int32) = nI 8 by decide, pk_mul, Nat.mul_comm]
      simp only [ee_28_0, ee_28_1, ee_28_2, ee_28_3, ee_28_7, ee_28_7N, ee_28_8, ee_28_11, ee_28_14, ee_28_17, ee_28_17N, ee_28_18, ee_28_21, ee_28_23, ee_28_24, ee_28_24N, ee_28_25, ee_28_28, ee_28_29, ee_28_30, ee_28_33, ee_28_36, ee_28_38, ee_28_40, ee_28_41, ee_28_45, ee_28_47, ee_28_49, ee_28_50, ee_28_52, ee_28_53, ee_28_56, ee_28_56N, ee_28_57, ee_28_57N, ee_28_58, ee_28_60, ee_28_63, ee_28_66, ee_28_67, ee_28_68, ee_28_71, ee_28_73, ee_28_74, ee_28_77, ee_28_80, ee_28_86, ee_28_89, ee_28_90, ee_28_91, ee_28_94, ee_28_95, ee_28_98, ee_28_100, Q.f1, L.f1 hs, h1, Q.f0, T.f0, i1, i2, hA, Option.bind_some, Option.toList, List.cons_append, List.nil_append, List.append_nil, if_true, if_false, Bool.false_eq_true, eq_self, not_true_eq_false, not_false_eq_true, e8, e]
    · have e := k seen l5 (by omega)
      rw [scan_skip 8 (8 * X) seen (fun q h1 h2 => sh_first hs (by rw [Nat.mul_assoc]; omega) hw (by rw [show q / 8 = X by omega]; exact hA))]
      simp only [ee_28_0, ee_28_1, ee_28_2, ee_28_3, ee_28_7, ee_28_7N, ee_28_8, ee_28_11, ee_28_14, ee_28_17, ee_28_17N, ee_28_18, ee_28_21, ee_28_23, ee_28_24, ee_28_24N, ee_28_25, ee_28_28, ee_28_29, ee_28_30, ee_28_33, ee_28_36, ee_28_38, ee_28_40, ee_28_41, ee_28_45, ee_28_47, ee_28_49, ee_28_50, ee_28_52, ee_28_53, ee_28_56, ee_28_56N, ee_28_57, ee_28_57N, ee_28_58, ee_28_60, ee_28_63, ee_28_66, ee_28_67, ee_28_68, ee_28_71, ee_28_73, ee_28_74, ee_28_77, ee_28_80, ee_28_86, ee_28_89, ee_28_90, ee_28_91, ee_28_94, ee_28_95, ee_28_98, ee_28_100, Q.f1, L.f1 hs, h1, Q.f0, T.f0, i1, i2, hA, Option.bind_some, Option.toList, List.cons_append, List.nil_append, List.append_nil, if_true, if_false, Bool.false_eq_true, eq_self, not_true_eq_false, not_false_eq_true, e]
theorem m28 (hs : sideOk s) (L : LatAt h) (Q : SquareAt h a s cs) (T : TextAt h t c w) (hc : c < 2 ^ 31) (hw : 0 < w.length) (i : Int32) :
    go (d + 1) 28 0 [.ref a, .ref t, .int i, aU, aU, aU] [] h = some (some (.int (scanV i (scan s cs w i (List.range' 0 (8 * (s * s))) 0))), h) := by
  have e := m28_out (d := d) hs L Q T hc hw i (s * s) 0 0 aU (by omega) (by have := (sq_lt hs).1; omega)
  rw [nI_0] at e
  simp only [ee_28_0, ee_28_1, ee_28_2, ee_28_3, ee_28_7, ee_28_7N, ee_28_8, ee_28_11, ee_28_14, ee_28_17, ee_28_17N, ee_28_18, ee_28_21, ee_28_23, ee_28_24, ee_28_24N, ee_28_25, ee_28_28, ee_28_29, ee_28_30, ee_28_33, ee_28_36, ee_28_38, ee_28_40, ee_28_41, ee_28_45, ee_28_47, ee_28_49, ee_28_50, ee_28_52, ee_28_53, ee_28_56, ee_28_56N, ee_28_57, ee_28_57N, ee_28_58, ee_28_60, ee_28_63, ee_28_66, ee_28_67, ee_28_68, ee_28_71, ee_28_73, ee_28_74, ee_28_77, ee_28_80, ee_28_86, ee_28_89, ee_28_90, ee_28_91, ee_28_94, ee_28_95, ee_28_98, ee_28_100, e]
/-- emptyCells, unlikeLetters -/
theorem m30_loop (hs : sideOk s) (L : LatAt h) (Q : SquareAt h a s cs) : ∀ n X k, X + n = s * s → k + n < 2 ^ 31 → go d 30 4 [.ref a, .int (nI k), .int (nI X)] [] h = some (some (.int (nI (emF cs X n k))), h)
  | 0, X, k, hX, hb => by
    have h1 : nI (s * s) ≤ nI X := by rw [← hX]; exact Int32.le_refl _
    rw [ee_30_4]
    simp only [ee_30_0, ee_30_1, ee_30_2, ee_30_3, ee_30_5, ee_30_5N, ee_30_6, ee_30_9, ee_30_12, ee_30_15, ee_30_15N, ee_30_16, ee_30_19, ee_30_20, ee_30_21, ee_30_24, ee_30_27, ee_30_30, ee_30_33, ee_30_34, Q.f1, L.f1 hs, h1, Option.bind_some, Option.toList, List.cons_append, List.nil_append, List.append_nil, if_true, if_false, Bool.false_eq_true, eq_self, not_true_eq_false, not_false_eq_true, emF]
  | n + 1, X, k, hX, hb => by
    have hsq := (sq_lt hs).1
    have h1 : ¬ nI (s * s) ≤ nI X := nI_nle2 (by omega) (by omega) (by omega)
    have i1 : ia h (a + 1) (nI X) = some (cs.getD X 0) := Q.ia (by omega)
    rw [ee_30_4]
    by_cases hA : cs.getD X 0 = 0
    · have e := m30_loop hs L Q n (X + 1) (k + 1) (by omega) (by omega)
      simp only [ee_30_0, ee_30_1, ee_30_2, ee_30_3, ee_30_5, ee_30_5N, ee_30_6, ee_30_9, ee_30_12, ee_30_15, ee_30_15N, ee_30_16, ee_30_19, ee_30_20, ee_30_21, ee_30_24, ee_30_27, ee_30_30, ee_30_33, ee_30_34, Q.f1, L.f1 hs, h1, Q.f0, i1, hA, Option.bind_some, Option.toList, List.cons_append, List.nil_append, List.append_nil, if_true, if_false, Bool.false_eq_true, eq_self, not_true_eq_false, not_false_eq_true, nI_1, e, emF]
    · have e := m30_loop hs L Q n (X + 1) k (by omega) (by omega)
      simp only [ee_30_0, ee_30_1, ee_30_2, ee_30_3, ee_30_5, ee_30_5N, ee_30_6, ee_30_9, ee_30_12, ee_30_15, ee_30_15N, ee_30_16, ee_30_19, ee_30_20, ee_30_21, ee_30_24, ee_30_27, ee_30_30, ee_30_33, ee_30_34, Q.f1, L.f1 hs, h1, Q.f0, i1, hA, Option.bind_some, Option.toList, List.cons_append, List.nil_append, List.append_nil, if_true, if_false, Bool.false_eq_true, eq_self, not_true_eq_false, not_false_eq_true, nI_1, e, emF]
theorem m30 (hs : sideOk s) (L : LatAt h) (Q : SquareAt h a s cs) : go d 30 0 [.ref a, aU, aU] [] h = some (some (.int (nI (emF cs 0 (s * s) 0))), h) := by
  have e := m30_loop (d := d) hs L Q (s * s) 0 0 (by omega) (by have := (sq_lt hs).1; omega)
  rw [nI_0] at e
  simp only [ee_30_0, ee_30_1, ee_30_2, ee_30_3, ee_30_5, ee_30_5N, ee_30_6, ee_30_9, ee_30_12, ee_30_15, ee_30_15N, ee_30_16, ee_30_19, ee_30_20, ee_30_21, ee_30_24, ee_30_27, ee_30_30, ee_30_33, ee_30_34, e]
theorem m31_loop (hs : sideOk s) (L : LatAt h) (Q : SquareAt h a s cs) : ∀ n X m, X + n = s * s → go d 31 4 [.ref a, .int m, .int (nI X)] [] h = go d 31 44 [.ref a, .int (mkF cs X n m), .int (nI (s * s))] [] h
  | 0, X, m, hX => by
    have h1 : nI (s * s) ≤ nI X := by rw [← hX]; exact Int32.le_refl _
    rw [ee_31_4]
    simp only [ee_31_0, ee_31_1, ee_31_2, ee_31_3, ee_31_5, ee_31_5N, ee_31_6, ee_31_9, ee_31_12, ee_31_15, ee_31_15N, ee_31_16, ee_31_19, ee_31_20, ee_31_21, ee_31_24, ee_31_25, ee_31_26, ee_31_26N, ee_31_27, ee_31_30, ee_31_31, ee_31_32, ee_31_34, ee_31_35, ee_31_36, ee_31_37, ee_31_38, ee_31_41, Q.f1, L.f1 hs, h1, Option.bind_some, Option.toList, List.cons_append, List.nil_append, List.append_nil, if_true, if_false, Bool.false_eq_true, eq_self, not_true_eq_false, not_false_eq_true, mkF]
    rw [show X = s * s by omega]
  | n + 1, X, m, hX => by
    have hsq := (sq_lt hs).1
    have h1 : ¬ nI (s * s) ≤ nI X := nI_nle2 (by omega) (by omega) (by omega)
    have i1 : ia h (a + 1) (nI X) = some (cs.getD X 0) := Q.ia (by omega)
    rw [ee_31_4]
    by_cases hA : cs.getD X 0 = 0
    · have e := m31_loop hs L Q n (X + 1) m (by omega)
      simp only [ee_31_0, ee_31_1, ee_31_2, ee_31_3, ee_31_5, ee_31_5N, ee_31_6, ee_31_9, ee_31_12, ee_31_15, ee_31_15N, ee_31_16, ee_31_19, ee_31_20, ee_31_21, ee_31_24, ee_31_25, ee_31_26, ee_31_26N, ee_31_27, ee_31_30, ee_31_31, ee_31_32, ee_31_34, ee_31_35, ee_31_36, ee_31_37, ee_31_38, ee_31_41, Q.f1, L.f1 hs, h1, Q.f0, i1, hA, Option.bind_some, Option.toList, List.cons_append, List.nil_append, List.append_nil, if_true, if_false, Bool.false_eq_true, eq_self, not_true_eq_false, not_false_eq_true, nI_1, e, mkF]
    · have e := m31_loop hs L Q n (X + 1) (m ||| ((1 : Int32) <<< ((cs.getD X 0 - 97) &&& 31))) (by omega)
      simp only [ee_31_0, ee_31_1, ee_31_2, ee_31_3, ee_31_5, ee_31_5N, ee_31_6, ee_31_9, ee_31_12, ee_31_15, ee_31_15N, ee_31_16, ee_31_19, ee_31_20, ee_31_21, ee_31_24, ee_31_25, ee_31_26, ee_31_26N, ee_31_27, ee_31_30, ee_31_31, ee_31_32, ee_31_34, ee_31_35, ee_31_36, ee_31_37, ee_31_38, ee_31_41, Q.f1, L.f1 hs, h1, Q.f0, i1, hA, Option.bind_some, Option.toList, List.cons_append, List.nil_append, List.append_nil, if_true, if_false, Bool.false_eq_true, eq_self, not_true_eq_false, not_false_eq_true, nI_1, e, mkF]
/-- Arrays.fill, clear, copyFrom -/
theorem m122_loop {r : Nat} {v : Int32} : ∀ n i (h : aH) (xs : List Int32), h[r]? = some (ints xs) → xs.length < 2 ^ 31 → i + n = xs.length → go d 122 5 [.ref r, .int v, .int (nI i), .int (nI xs.length)] [] h = some (none, h.set r (ints (xs.take i ++ List.replicate n v)))
  | 0, i, h, xs, hr, hx, hi => by
    have h1 : nI xs.length ≤ nI i := by rw [← hi]; exact Int32.le_refl _
    rw [ee_122_5]
    simp only [ee_122_0, ee_122_1, ee_122_2, ee_122_2N, ee_122_3, ee_122_4, ee_122_6, ee_122_7, ee_122_10, ee_122_10N, ee_122_11, ee_122_12, ee_122_13, ee_122_14, ee_122_17, ee_122_20, h1, Option.bind_some, Option.toList, List.cons_append, List.nil_append, List.append_nil, if_true, if_false, Bool.false_eq_true, eq_self, not_true_eq_false, not_false_eq_true, List.replicate_zero]
    rw [List.take_of_length_le (by omega), set_same hr]
  | n + 1, i, h, xs, hr, hx, hi => by
    have h1 : ¬ nI xs.length ≤ nI i := nI_nle2 (by omega) (by omega) (by omega)
    have i3 : is_ h r (nI i) v = some (h.set r (ints (xs.set i v))) := is_at hr (by omega) hx
    have e := m122_loop (v := v) n (i + 1) (h.set r (ints (xs.set i v))) (xs.set i v) (set_at (at_lt hr)) (by rw [List.length_set]; exact hx) (by rw [List.length_set]; omega)
    rw [List.set_set, List.length_set] at e
    have et : (xs.set i v).take (i + 1) ++ List.replicate n v = xs.take i ++ List.replicate (n + 1) v := by
      rw [List.take_succ, List.take_set_of_le (Nat.le_refl _), List.getElem?_set_self (by omega)]
      simp [List.replicate_succ]
    rw [et] at e
    rw [ee_122_5]
    simp only [ee_122_0, ee_122_1, ee_122_2, ee_122_2N, ee_122_3, ee_122_4, ee_122_6, ee_122_7, ee_122_10, ee_122_10N, ee_122_11, ee_122_12, ee_122_13, ee_122_14, ee_122_17, ee_122_20, h1, i3, Option.bind_some, Option.toList, List.cons_append, List.nil_append, List.append_nil, if_true, if_false, Bool.false_eq_true, eq_self, not_true_eq_false, not_false_eq_true, nI_1, e]
theorem m122 {r : Nat} {v : Int32} {xs : List Int32} (hr : h[r]? = some (ints xs)) (hx : xs.length < 2 ^ 31) : go d 122 0 [.ref r, .int v, aU, aU] [] h = some (none, h.set r (ints (List.replicate xs.length v))) := by
  have e := m122_loop (d := d) (v := v) xs.length 0 h xs hr hx (by omega)
  rw [nI_0, List.take_zero, List.nil_append] at e
  have ea : al h r = some (nI xs.length) := by unfold al; rw [hr]; rfl
  simp only [ee_122_0, ee_122_1, ee_122_2, ee_122_2N, ee_122_3, ee_122_4, ee_122_6, ee_122_7, ee_122_10, ee_122_10N, ee_122_11, ee_122_12, ee_122_13, ee_122_14, ee_122_17, ee_122_20, ea, Option.bind_some, Option.toList, List.cons_append, List.nil_append, List.append_nil, if_true, if_false, Bool.false_eq_true, eq_self, not_true_eq_false, not_false_eq_true, e]
theorem pf_at {kd j ci : Nat} {fs : List Value} {v : Value} (ha : h[a]? = some (.inl (ci, fs))) (hj : j < fs.length) (hf : fitK kd v = true) : pf h a j ci ci kd v = some (h.set a (.inl (ci, fs.set j v))) := by
  unfold pf
  rw [ha]
  simp only [or_self, hj, hf, and_self, if_true]
def sqSet (h : aH) (a s : Nat) (cs : List Int32) : aH := (h.set a (.inl (4, [.ref (a + 1), .ref (latA s)]))).set (a + 1) (ints cs)
theorem m22 {s2 : Nat} (Q : SquareAt h a s cs) : go (d + 1) 22 0 [.ref a, .ref (latA s2)] [] h = some (none, sqSet h a s2 (List.replicate 16 0)) := by
  have p1 : pf h a 1 4 4 2 (.ref (latA s2)) = some (h.set a (.inl (4, [.ref (a + 1), .ref (latA s2)]))) := pf_at Q.1 (show 1 < 2 by decide) rfl
  have g1 : gf (h.set a (.inl (4, [.ref (a + 1), .ref (latA s2)]))) a 0 4 4 = some (.ref (a + 1)) := by unfold gf; rw [set_at (at_lt Q.1)]; rfl
  have e := m122 (d := d) (h := h.set a (.inl (4, [.ref (a + 1), .ref (latA s2)]))) (r := a + 1) (v := 0) (xs := cs) (by rw [set_ne (by omega)]; exact Q.2.1) (by rw [Q.2.2]; decide)
  rw [Q.2.2] at e
  simp only [ee_22_0, ee_22_0N, ee_22_1, ee_22_1N, ee_22_2, ee_22_5, ee_22_5N, ee_22_6, ee_22_9, ee_22_10, ee_22_13, p1, g1, e, Option.bind_some, Option.toList, List.cons_append, List.nil_append, List.append_nil, if_true, if_false, Bool.false_eq_true, eq_self, not_true_eq_false, not_false_eq_true, sqSet]
theorem m23 {b s2 : Nat} {cs2 : List Int32} (Q : SquareAt h a s cs) (Q2 : SquareAt h b s2 cs2) (hab : a ≠ b) (hab1 : a ≠ b + 1) (hab2 : a + 1 ≠ b + 1) : go d 23 0 [.ref a, .ref b] [] h = some (none, sqSet h a s2 cs2) := by
  have p1 : pf h a 1 4 4 2 (.ref (latA s2)) = some (h.set a (.inl (4, [.ref (a + 1), .ref (latA s2)]))) := pf_at Q.1 (show 1 < 2 by decide) rfl
  have g1 : gf (h.set a (.inl (4, [.ref (a + 1), .ref (latA s2)]))) a 0 4 4 = some (.ref (a + 1)) := by unfold gf; rw [set_at (at_lt Q.1)]; rfl
  have g2 : gf (h.set a (.inl (4, [.ref (a + 1), .ref (latA s2)]))) b 0 4 4 = some (.ref (b + 1)) := by unfold gf; rw [set_ne hab, Q2.1]; rfl
  have c1 : cpy (h.set a (.inl (4, [.ref (a + 1), .ref (latA s2)]))) (b + 1) (a + 1) 16 = some (sqSet h a s2 cs2) := by
    unfold cpy
    rw [set_ne hab1, Q2.2.1]
    simp only
    rw [set_ne (by omega), Q.2.1]
    have e16 : (16 : Int32).toNatClampNeg = 16 := by decide
    have n16 : ¬ (16 : Int32) < 0 := by decide
    simp only [e16, n16, Q.2.2, Q2.2.2, and_self, not_false_eq_true, Nat.le_refl, if_true]
    rw [List.take_of_length_le (by rw [Q2.2.2]; exact Nat.le_refl _), List.drop_of_length_le (by rw [Q.2.2]; exact Nat.le_refl _), List.append_nil]
    rfl
  simp only [ee_23_0, ee_23_0N, ee_23_1, ee_23_1N, ee_23_2, ee_23_5, ee_23_8, ee_23_8N, ee_23_9, ee_23_12, ee_23_13, ee_23_13N, ee_23_14, ee_23_17, ee_23_18, ee_23_20, ee_23_23, Q2.f1, p1, g1, g2, c1, Option.bind_some, Option.toList, List.cons_append, List.nil_append, List.append_nil, if_true, if_false, Bool.false_eq_true, eq_self, not_true_eq_false, not_false_eq_true]
end SR
