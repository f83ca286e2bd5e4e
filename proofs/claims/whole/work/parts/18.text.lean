/-! Text, TextList, Board -/
def Off (h h' : aH) (lo hi : Nat) : Prop := h'.length = h.length ∧ ∀ k, (k < lo ∨ hi ≤ k) → h'[k]? = h[k]?
section OF
variable {h h' h1 h2 : aH} {lo hi lo' hi' k a t c s : Nat} {x : aC} {cs w : List Int32}
theorem Off.rf : Off h h lo hi := ⟨rfl, fun _ _ => rfl⟩
theorem Off.trans (a1 : Off h h1 lo hi) (a2 : Off h1 h2 lo hi) : Off h h2 lo hi := ⟨a2.1.trans a1.1, fun k hk => (a2.2 k hk).trans (a1.2 k hk)⟩
theorem Off.mono (a1 : Off h h1 lo hi) (e1 : lo' ≤ lo) (e2 : hi ≤ hi') : Off h h1 lo' hi' := ⟨a1.1, fun k hk => a1.2 k (by omega)⟩
theorem Off.set (h1 : lo ≤ k) (h2 : k < hi) : Off h (h.set k x) lo hi := ⟨by simp, fun j hj => set_ne (by omega)⟩
theorem TextAt.off (O : Off h h' lo hi) (T : TextAt h t c w) (hd : t + 2 ≤ lo ∨ hi ≤ t) : TextAt h' t c w := by
  obtain ⟨T1, xs, T2, T3⟩ := T
  exact ⟨by rw [O.2 t (by omega)]; exact T1, xs, by rw [O.2 (t + 1) (by omega)]; exact T2, T3⟩
theorem SquareAt.off (O : Off h h' lo hi) (Q : SquareAt h a s cs) (hd : a + 2 ≤ lo ∨ hi ≤ a) : SquareAt h' a s cs := by
  obtain ⟨a1, a2, a3⟩ := Q
  exact ⟨by rw [O.2 a (by omega)]; exact a1, by rw [O.2 (a + 1) (by omega)]; exact a2, a3⟩
theorem LatAt.off (O : Off h h' lo hi) (L : LatAt h) (hd : 12 ≤ lo) : LatAt h' := by
  obtain ⟨a1, a2, a3, a4, a5, a6⟩ := L
  refine ⟨?_, ?_, ?_, ?_, ?_, ?_⟩ <;> rw [O.2 _ (by omega)] <;> assumption
theorem sqSet_off : Off h (sqSet h a s cs) a (a + 2) := (Off.set (k := a) (by omega) (by omega)).trans (Off.set (by omega) (by omega))
theorem sqSet_at {s0 : Nat} {cs0 : List Int32} (Q : SquareAt h a s0 cs0) (hl : cs.length = 16) : SquareAt (sqSet h a s cs) a s cs := by
  have e1 := at_lt Q.1
  have e2 := at_lt Q.2.1
  exact ⟨by unfold sqSet; rw [set_ne (by omega), set_at e1], by unfold sqSet; rw [set_at (by simpa using e2)], hl⟩
end OF
def ListAt (h : aH) (a : Nat) (ws : List (List Int32)) : Prop := ws.length ≤ 3 ∧ h[a]? = some (.inl (6, [.ref (a + 1), .int (nI ws.length)])) ∧ h[a + 1]? = some (.inr (.inr (5, [some (a + 2), some (a + 4), some (a + 6)]))) ∧ ∃ w0 w1 w2 : List Int32, TextAt h (a + 2) 4 w0 ∧ TextAt h (a + 4) 4 w1 ∧ TextAt h (a + 6) 4 w2 ∧ ws = [w0, w1, w2].take ws.length
def BoardAt (h : aH) (b s : Nat) (cs : List Int32) (ws bs : List (List Int32)) (rs : List Int32) : Prop := h[b]? = some (.inl (0, [.ref (b + 19), .ref (b + 1), .ref (b + 9), .ref (b + 17)])) ∧ SquareAt h (b + 19) s cs ∧ ListAt h (b + 1) ws ∧ ListAt h (b + 9) bs ∧ TextAt h (b + 17) 9 rs
def palB (w : List Int32) (i n : Nat) : Bool := (List.range' i n).all fun i => decide (w.getD i 0 = w.getD (w.length - 1 - i) 0)
section TX
variable {h : aH} {a b t u c d s : Nat} {w v rs : List Int32} {ws vs bs : List (List Int32)}
theorem TextAt.len (T : TextAt h t c w) : w.length ≤ c := by obtain ⟨-, xs, -, h3⟩ := T; omega
theorem ListAt.off {h' : aH} {lo hi : Nat} (O : Off h h' lo hi) (A : ListAt h a ws) (hd : a + 8 ≤ lo ∨ hi ≤ a) : ListAt h' a ws := by
  obtain ⟨a1, a2, a3, w0, w1, w2, t0, t1, t2, e⟩ := A
  exact ⟨a1, by rw [O.2 a (by omega)]; exact a2, by rw [O.2 (a + 1) (by omega)]; exact a3, w0, w1, w2, t0.off O (by omega), t1.off O (by omega), t2.off O (by omega), e⟩
theorem BoardAt.off {h' : aH} {lo hi : Nat} {cs : List Int32} (O : Off h h' lo hi) (A : BoardAt h b s cs ws bs rs) (hd : b + 21 ≤ lo ∨ hi ≤ b) : BoardAt h' b s cs ws bs rs := by
  obtain ⟨a1, a2, a3, a4, a5⟩ := A
  exact ⟨by rw [O.2 b (by omega)]; exact a1, a2.off O (by omega), a3.off O (by omega), a4.off O (by omega), a5.off O (by omega)⟩
theorem ListAt.f0 (A : ListAt h a ws) : gf h a 0 6 6 = some (.ref (a + 1)) := by unfold gf; rw [A.2.1]; rfl
theorem ListAt.f1 (A : ListAt h a ws) : gf h a 1 6 6 = some (.int (nI ws.length)) := by unfold gf; rw [A.2.1]; rfl
theorem ListAt.isc (A : ListAt h a ws) : isC h a 6 = true := by unfold isC; rw [A.2.1]; rfl
theorem aa3 (h3 : h[a + 1]? = some (.inr (.inr (5, [some (a + 2), some (a + 4), some (a + 6)])))) (j : Nat) (hj : j < 3) : aa h (a + 1) (nI j) = some (.ref (a + 2 + 2 * j)) := by
  unfold aa
  rw [h3]
  have h1 : ¬ nI j < 0 := nI_pos (by omega)
  simp only [h1, not_false_eq_true, if_true, nI_clamp (show j < 2 ^ 31 by omega)]
  rcases (show j = 0 ∨ j = 1 ∨ j = 2 by omega) with rfl | rfl | rfl <;> rfl
theorem ListAt.aa (A : ListAt h a ws) (j : Nat) (hj : j < 3) : aa h (a + 1) (nI j) = some (.ref (a + 2 + 2 * j)) := aa3 A.2.2.1 j hj
theorem ListAt.text (A : ListAt h a ws) : ∀ j, j < ws.length → TextAt h (a + 2 + 2 * j) 4 (ws.getD j []) := by
  intro j hj
  obtain ⟨a1, a2, a3, w0, w1, w2, t0, t1, t2, e⟩ := A
  rcases (show j = 0 ∨ j = 1 ∨ j = 2 by omega) with rfl | rfl | rfl
  all_goals (rw [e, List.getD_eq_getElem?_getD, List.getElem?_take_of_lt hj])
  · exact t0
  · exact t1
  · exact t2
theorem BoardAt.f0 {cs : List Int32} (A : BoardAt h b s cs ws bs rs) : gf h b 0 0 0 = some (.ref (b + 19)) := by unfold gf; rw [A.1]; rfl
theorem BoardAt.f1 {cs : List Int32} (A : BoardAt h b s cs ws bs rs) : gf h b 1 0 0 = some (.ref (b + 1)) := by unfold gf; rw [A.1]; rfl
theorem BoardAt.f2 {cs : List Int32} (A : BoardAt h b s cs ws bs rs) : gf h b 2 0 0 = some (.ref (b + 9)) := by unfold gf; rw [A.1]; rfl
theorem BoardAt.f3 {cs : List Int32} (A : BoardAt h b s cs ws bs rs) : gf h b 3 0 0 = some (.ref (b + 17)) := by unfold gf; rw [A.1]; rfl
theorem BoardAt.isc {cs : List Int32} (A : BoardAt h b s cs ws bs rs) : isC h b 0 = true := by unfold isC; rw [A.1]; rfl
/-- Text.append -/
theorem m33 {x : Int32} (T : TextAt h t c w) (hc : c < 2 ^ 31) (hw : w.length < c) : ∃ h', go d 33 0 [.ref t, .int x] [] h = some (none, h') ∧ TextAt h' t c (w ++ [x]) ∧ Off h h' t (t + 2) := by
  obtain ⟨T1, xs, T2, T3⟩ := id T
  have ea : al h (t + 1) = some (nI c) := by unfold al; rw [T2]; simp only [List.length_append, T3]; rfl
  have h1 : ¬ nI c ≤ nI w.length := nI_nle2 (by omega) (by omega) hw
  have i3 : is_ h (t + 1) (nI w.length) x = some (h.set (t + 1) (ints ((w ++ xs).set w.length x))) := is_at T2 (by simp; omega) (by simp; omega)
  have g1 : gf (h.set (t + 1) (ints ((w ++ xs).set w.length x))) t 1 5 5 = some (.int (nI w.length)) := by unfold gf; rw [set_ne (by omega), T1]; rfl
  have p1 : pf (h.set (t + 1) (ints ((w ++ xs).set w.length x))) t 1 5 5 0 (.int (nI (w.length + 1))) = some ((h.set (t + 1) (ints ((w ++ xs).set w.length x))).set t (.inl (5, [.ref (t + 1), .int (nI (w.length + 1))]))) := pf_at (fs := [.ref (t + 1), .int (nI w.length)]) (by rw [set_ne (by omega)]; exact T1) (show 1 < 2 by decide) rfl
  refine ⟨(h.set (t + 1) (ints ((w ++ xs).set w.length x))).set t (.inl (5, [.ref (t + 1), .int (nI (w.length + 1))])), by simp only [ee_33_0, ee_33_0N, ee_33_1, ee_33_4, ee_33_4N, ee_33_5, ee_33_8, ee_33_9, ee_33_12, ee_33_12N, ee_33_13, ee_33_16, ee_33_16N, ee_33_17, ee_33_20, ee_33_21, ee_33_22, ee_33_22N, ee_33_23, ee_33_24, ee_33_27, ee_33_28, ee_33_29, ee_33_32, T.f1, T.f0, ea, h1, i3, g1, nI_1, p1, Option.bind_some, Option.toList, List.cons_append, List.nil_append, List.append_nil, if_true, if_false, Bool.false_eq_true, eq_self, not_true_eq_false, not_false_eq_true], ⟨?_, xs.tail, ?_, ?_⟩, (Off.set (k := t + 1) (by omega) (by omega)).trans (Off.set (by omega) (by omega))⟩
  · rw [set_at (by simpa using at_lt T1), List.length_append]
    rfl
  · rw [set_ne (by omega), set_at (at_lt T2)]
    congr 4
    cases xs with
    | nil => simp at T3; omega
    | cons y ys => simp
  · simp only [List.length_append, List.length_cons, List.length_nil, List.length_tail]
    omega
/-- Text.copyFrom -/
theorem m34 {c2 : Nat} (T : TextAt h t c w) (V : TextAt h u c2 v) (hc : c < 2 ^ 31) (hc2 : c2 < 2 ^ 31) (hv : v.length ≤ c) (hd : u + 2 ≤ t ∨ t + 2 ≤ u) : ∃ h', go d 34 0 [.ref t, .ref u] [] h = some (none, h') ∧ TextAt h' t c v ∧ Off h h' t (t + 2) := by
  obtain ⟨T1, xs, T2, T3⟩ := id T
  obtain ⟨V1, ys, V2, V3⟩ := id V
  have ea : al h (t + 1) = some (nI c) := by unfold al; rw [T2]; simp only [List.length_append, T3]; rfl
  have mn : (if nI c < nI v.length then nI c else nI v.length) = nI v.length := by rw [if_neg]; rw [nI_ltI hc (by omega)]; omega
  have p1 : pf h t 1 5 5 0 (.int (nI v.length)) = some (h.set t (.inl (5, [.ref (t + 1), .int (nI v.length)]))) := pf_at (fs := [.ref (t + 1), .int (nI w.length)]) T1 (show 1 < 2 by decide) rfl
  have g1 : gf (h.set t (.inl (5, [.ref (t + 1), .int (nI v.length)]))) u 0 5 5 = some (.ref (u + 1)) := by unfold gf; rw [set_ne (by omega), V1]; rfl
  have g2 : gf (h.set t (.inl (5, [.ref (t + 1), .int (nI v.length)]))) t 0 5 5 = some (.ref (t + 1)) := by unfold gf; rw [set_at (at_lt T1)]; rfl
  have g3 : gf (h.set t (.inl (5, [.ref (t + 1), .int (nI v.length)]))) t 1 5 5 = some (.int (nI v.length)) := by unfold gf; rw [set_at (at_lt T1)]; rfl
  have c1 : cpy (h.set t (.inl (5, [.ref (t + 1), .int (nI v.length)]))) (u + 1) (t + 1) (nI v.length) = some ((h.set t (.inl (5, [.ref (t + 1), .int (nI v.length)]))).set (t + 1) (ints (v ++ (w ++ xs).drop v.length))) := by
    unfold cpy
    rw [set_ne (by omega), V2]
    simp only
    rw [set_ne (by omega), T2]
    have n0 : ¬ nI v.length < 0 := nI_pos (by omega)
    have l1 : v.length ≤ (v ++ ys).length := by rw [List.length_append]; omega
    have l2 : v.length ≤ (w ++ xs).length := by rw [List.length_append]; omega
    simp only [nI_clamp (show v.length < 2 ^ 31 by omega), n0, l1, l2, and_self, not_false_eq_true, if_true]
    rw [List.take_left]
  refine ⟨(h.set t (.inl (5, [.ref (t + 1), .int (nI v.length)]))).set (t + 1) (ints (v ++ (w ++ xs).drop v.length)), by simp only [ee_34_0, ee_34_0N, ee_34_1, ee_34_1N, ee_34_2, ee_34_5, ee_34_5N, ee_34_6, ee_34_9, ee_34_10, ee_34_13, ee_34_16, ee_34_16N, ee_34_17, ee_34_20, ee_34_21, ee_34_21N, ee_34_22, ee_34_25, ee_34_26, ee_34_26N, ee_34_27, ee_34_30, ee_34_33, V.f1, T.f0, ea, mn, p1, g1, g2, g3, c1, Option.bind_some, Option.toList, List.cons_append, List.nil_append, List.append_nil, if_true, if_false, Bool.false_eq_true, eq_self, not_true_eq_false, not_false_eq_true], ⟨?_, (w ++ xs).drop v.length, ?_, ?_⟩, (Off.set (k := t) (by omega) (by omega)).trans (Off.set (by omega) (by omega))⟩
  · rw [set_ne (by omega), set_at (at_lt T1)]
  · rw [set_at (by simpa using at_lt T2)]
  · simp only [List.length_drop, List.length_append]
    omega
/-- isSameFromEnd -/
theorem m35_loop (T : TextAt h t c w) (hc : c < 2 ^ 31) : ∀ n i, i + n = w.length → go d 35 2 [.ref t, .int (nI i)] [] h = some (some (.int (bI (palB w i n))), h)
  | 0, i, hi => by
    have h1 : nI w.length ≤ nI i := by rw [← hi]; exact Int32.le_refl _
    rw [ee_35_2]
    simp only [ee_35_0, ee_35_1, ee_35_3, ee_35_3N, ee_35_4, ee_35_7, ee_35_10, ee_35_10N, ee_35_11, ee_35_14, ee_35_15, ee_35_16, ee_35_16N, ee_35_17, ee_35_20, ee_35_20N, ee_35_21, ee_35_24, ee_35_25, ee_35_26, ee_35_27, ee_35_28, ee_35_29, ee_35_32, ee_35_33, ee_35_33T, ee_35_34, ee_35_37, ee_35_40, ee_35_41, ee_35_41T, T.f1, h1, Option.bind_some, Option.toList, List.cons_append, List.nil_append, List.append_nil, if_true, if_false, Bool.false_eq_true, eq_self, not_true_eq_false, not_false_eq_true, palB, List.range'_zero, List.all_nil, bI_t]
  | n + 1, i, hi => by
    have hl := T.len
    have h1 : ¬ nI w.length ≤ nI i := nI_nle2 (by omega) (by omega) (by omega)
    have i1 : ia h (t + 1) (nI i) = some (w.getD i 0) := T.ia (by omega) hc
    have e1 : nI w.length - 1 - nI i = nI (w.length - 1 - i) := by
      rw [show (1 : Int32) = nI 1 by decide, pk_sub (by omega), pk_sub (by omega)]
    have i2 : ia h (t + 1) (nI (w.length - 1 - i)) = some (w.getD (w.length - 1 - i) 0) := T.ia (by omega) hc
    have e := m35_loop T hc n (i + 1) (by omega)
    rw [ee_35_2]
    simp only [ee_35_0, ee_35_1, ee_35_3, ee_35_3N, ee_35_4, ee_35_7, ee_35_10, ee_35_10N, ee_35_11, ee_35_14, ee_35_15, ee_35_16, ee_35_16N, ee_35_17, ee_35_20, ee_35_20N, ee_35_21, ee_35_24, ee_35_25, ee_35_26, ee_35_27, ee_35_28, ee_35_29, ee_35_32, ee_35_33, ee_35_33T, ee_35_34, ee_35_37, ee_35_40, ee_35_41, ee_35_41T, T.f1, T.f0, h1, i1, e1, i2, Option.bind_some, Option.toList, List.cons_append, List.nil_append, List.append_nil, if_true, if_false, Bool.false_eq_true, eq_self, not_true_eq_false, not_false_eq_true, nI_1, e]
    have ea : palB w i (n + 1) = (decide (w.getD i 0 = w.getD (w.length - 1 - i) 0) && palB w (i + 1) n) := by
      simp only [palB, List.range'_succ, List.all_cons]
    rw [ea]
    by_cases hA : w.getD i 0 = w.getD (w.length - 1 - i) 0
    · rw [if_pos hA, decide_eq_true hA, Bool.true_and]
    · rw [if_neg hA, decide_eq_false hA]
      rfl
theorem m35 (T : TextAt h t c w) (hc : c < 2 ^ 31) : go d 35 0 [.ref t, aU] [] h = some (some (.int (bI (palB w 0 w.length))), h) := by
  have e := m35_loop (d := d) T hc w.length 0 (by omega)
  rw [nI_0] at e
  simp only [ee_35_0, ee_35_1, ee_35_3, ee_35_3N, ee_35_4, ee_35_7, ee_35_10, ee_35_10N, ee_35_11, ee_35_14, ee_35_15, ee_35_16, ee_35_16N, ee_35_17, ee_35_20, ee_35_20N, ee_35_21, ee_35_24, ee_35_25, ee_35_26, ee_35_27, ee_35_28, ee_35_29, ee_35_32, ee_35_33, ee_35_33T, ee_35_34, ee_35_37, ee_35_40, ee_35_41, ee_35_41T, e]
/-- find -/
theorem m37 {j : Nat} (A : ListAt h a ws) (hj : j < ws.length) : go d 37 0 [.ref a, .int (nI j)] [] h = some (some (.ref (a + 2 + 2 * j)), h) := by
  have h3 := A.1
  have h1 : ¬ nI j < 0 := nI_pos (by omega)
  have h2 : ¬ nI ws.length ≤ nI j := nI_nle2 (by omega) (by omega) hj
  have h4 : ¬ (3 : Int32) ≤ nI j := by rw [show (3 : Int32) = nI 3 by decide]; exact nI_nle2 (by omega) (by omega) (by omega)
  simp only [ee_37_0, ee_37_1, ee_37_4, ee_37_5, ee_37_5N, ee_37_6, ee_37_9, ee_37_12, ee_37_13, ee_37_14, ee_37_17, ee_37_17N, ee_37_18, ee_37_21, ee_37_22, ee_37_23, ee_37_26, ee_37_27, ee_37_27N, A.f1, A.f0, A.aa j (by omega), h1, h2, h4, Option.bind_some, Option.toList, List.cons_append, List.nil_append, List.append_nil, if_true, if_false, Bool.false_eq_true, eq_self, not_true_eq_false, not_false_eq_true]
theorem m37N {x : Int32} (A : ListAt h a ws) (hx : x < 0 ∨ nI ws.length ≤ x) : go d 37 0 [.ref a, .int x] [] h = some (some .null, h) := by
  by_cases h1 : x < 0
  · simp only [ee_37_0, ee_37_1, ee_37_4, ee_37_5, ee_37_5N, ee_37_6, ee_37_9, ee_37_12, ee_37_13, ee_37_14, ee_37_17, ee_37_17N, ee_37_18, ee_37_21, ee_37_22, ee_37_23, ee_37_26, ee_37_27, ee_37_27N, h1, Option.bind_some, Option.toList, List.cons_append, List.nil_append, List.append_nil, if_true, if_false, Bool.false_eq_true, eq_self, not_true_eq_false, not_false_eq_true]
  · have h2 : nI ws.length ≤ x := hx.resolve_left h1
    simp only [ee_37_0, ee_37_1, ee_37_4, ee_37_5, ee_37_5N, ee_37_6, ee_37_9, ee_37_12, ee_37_13, ee_37_14, ee_37_17, ee_37_17N, ee_37_18, ee_37_21, ee_37_22, ee_37_23, ee_37_26, ee_37_27, ee_37_27N, A.f1, h1, h2, Option.bind_some, Option.toList, List.cons_append, List.nil_append, List.append_nil, if_true, if_false, Bool.false_eq_true, eq_self, not_true_eq_false, not_false_eq_true]
/-- TextList.append -/
theorem m38 {c2 : Nat} (A : ListAt h a ws) (V : TextAt h u c2 v) (hc2 : c2 < 2 ^ 31) (hv : v.length ≤ 4) (hn : ws.length < 3) (hd : u + 2 ≤ a ∨ a + 8 ≤ u) : ∃ h', go (d + 1) 38 0 [.ref a, .ref u] [] h = some (some (.int (nI ws.length)), h') ∧ ListAt h' a (ws ++ [v]) ∧ Off h h' a (a + 8) := by
  obtain ⟨a1, a2, a3, w0, w1, w2, t0, t1, t2, e⟩ := id A
  have h1 : nI ws.length < (3 : Int32) := by rw [show (3 : Int32) = nI 3 by decide]; exact nI_lt hn (by decide)
  obtain ⟨wj, tj⟩ : ∃ wj, TextAt h (a + 2 + 2 * ws.length) 4 wj := by
    rcases (show ws.length = 0 ∨ ws.length = 1 ∨ ws.length = 2 by omega) with hz | hz | hz <;> rw [hz]
    · exact ⟨_, t0⟩
    · exact ⟨_, t1⟩
    · exact ⟨_, t2⟩
  obtain ⟨h', e1, e2, e3⟩ := m34 (d := d) tj V (by decide) hc2 hv (by omega)
  have O1 : Off h h' (a + 2) (a + 8) := e3.mono (by omega) (by omega)
  have b2 : h'[a]? = some (.inl (6, [.ref (a + 1), .int (nI ws.length)])) := by rw [O1.2 a (by omega)]; exact a2
  have b3 : h'[a + 1]? = some (.inr (.inr (5, [some (a + 2), some (a + 4), some (a + 6)]))) := by rw [O1.2 (a + 1) (by omega)]; exact a3
  have g1 : gf h' a 1 6 6 = some (.int (nI ws.length)) := by unfold gf; rw [b2]; rfl
  have p1 : pf h' a 1 6 6 0 (.int (nI (ws.length + 1))) = some (h'.set a (.inl (6, [.ref (a + 1), .int (nI (ws.length + 1))]))) := pf_at (fs := [.ref (a + 1), .int (nI ws.length)]) b2 (show 1 < 2 by decide) rfl
  have g2 : gf (h'.set a (.inl (6, [.ref (a + 1), .int (nI (ws.length + 1))]))) a 1 6 6 = some (.int (nI (ws.length + 1))) := by unfold gf; rw [set_at (at_lt b2)]; rfl
  refine ⟨h'.set a (.inl (6, [.ref (a + 1), .int (nI (ws.length + 1))])), by simp only [ee_38_0, ee_38_0N, ee_38_1, ee_38_4, ee_38_5, ee_38_8, ee_38_10, ee_38_11, ee_38_11N, ee_38_12, ee_38_15, ee_38_15N, ee_38_16, ee_38_19, ee_38_20, ee_38_20N, ee_38_21, ee_38_24, ee_38_24N, ee_38_25, ee_38_26, ee_38_29, ee_38_30, ee_38_31, ee_38_34, ee_38_34N, ee_38_35, ee_38_38, ee_38_39, ee_38_40, A.f1, A.f0, h1, A.aa ws.length hn, tj.isc, e1, g1, nI_1, p1, g2, nI_pred, Option.bind_some, Option.toList, List.cons_append, List.nil_append, List.append_nil, if_true, if_false, Bool.false_eq_true, eq_self, not_true_eq_false, not_false_eq_true], ?_, (O1.mono (by omega) (by omega)).trans (Off.set (by omega) (by omega))⟩
  have k0 : ∀ {x : Nat} {y : List Int32}, a + 2 ≤ x → TextAt h' x 4 y → TextAt (h'.set a (.inl (6, [.ref (a + 1), .int (nI (ws.length + 1))]))) x 4 y := fun hx T => T.set (by omega) (by omega)
  refine ⟨by simp; omega, by rw [set_at (at_lt b2)]; simp, by rw [set_ne (by omega)]; exact b3, ?_⟩
  rcases (show ws.length = 0 ∨ ws.length = 1 ∨ ws.length = 2 by omega) with hz | hz | hz
  · rw [hz] at e2 e3
    refine ⟨v, w1, w2, k0 (by omega) e2, k0 (by omega) (t1.off e3 (by omega)), k0 (by omega) (t2.off e3 (by omega)), ?_⟩
    rw [List.length_append, hz, List.length_eq_zero_iff.mp hz]
    rfl
  · rw [hz] at e2 e3 e
    refine ⟨w0, v, w2, k0 (by omega) (t0.off e3 (by omega)), k0 (by omega) e2, k0 (by omega) (t2.off e3 (by omega)), ?_⟩
    rw [e]
    rfl
  · rw [hz] at e2 e3 e
    refine ⟨w0, w1, v, k0 (by omega) (t0.off e3 (by omega)), k0 (by omega) (t1.off e3 (by omega)), k0 (by omega) e2, ?_⟩
    rw [e]
    rfl
/-- TextList.copyFrom -/
theorem m39_it {j : Nat} {n : Int32} (hj : j < 3) (a2 : h[a]? = some (.inl (6, [.ref (a + 1), .int n]))) (a3 : h[a + 1]? = some (.inr (.inr (5, [some (a + 2), some (a + 4), some (a + 6)])))) (V : ListAt h b vs) (T : TextAt h (a + 2 + 2 * j) 4 w) (U : TextAt h (b + 2 + 2 * j) 4 v) (hd : b + 8 ≤ a ∨ a + 8 ≤ b) :
    ∃ h', go (d + 1) 39 2 [.ref a, .ref b, .int (nI j)] [] h = go (d + 1) 39 2 [.ref a, .ref b, .int (nI (j + 1))] [] h' ∧ TextAt h' (a + 2 + 2 * j) 4 v ∧ Off h h' (a + 2 + 2 * j) (a + 2 + 2 * j + 2) := by
  obtain ⟨h', g1, r1, o1⟩ := m34 (d := d) T U (by decide) (by decide) U.len (by omega)
  have h4 : ¬ (3 : Int32) ≤ nI j := by rw [show (3 : Int32) = nI 3 by decide]; exact nI_nle2 (by omega) (by omega) (by omega)
  have f0 : gf h a 0 6 6 = some (.ref (a + 1)) := by unfold gf; rw [a2]; rfl
  refine ⟨h', ?_, r1, o1⟩
  rw [ee_39_2]
  simp only [ee_39_0, ee_39_1, ee_39_3, ee_39_4, ee_39_7, ee_39_7N, ee_39_8, ee_39_11, ee_39_12, ee_39_13, ee_39_13N, ee_39_14, ee_39_17, ee_39_18, ee_39_19, ee_39_22, ee_39_25, ee_39_28, ee_39_28N, ee_39_29, ee_39_29N, ee_39_30, ee_39_33, ee_39_36, h4, f0, V.f0, aa3 a3 j hj, V.aa j hj, T.isc, g1, nI_1, Option.bind_some, Option.toList, List.cons_append, List.nil_append, List.append_nil, if_true, if_false, Bool.false_eq_true, eq_self, not_true_eq_false, not_false_eq_true]
theorem m39 (A : ListAt h a ws) (V : ListAt h b vs) (hd : b + 8 ≤ a ∨ a + 8 ≤ b) : ∃ h', go (d + 1) 39 0 [.ref a, .ref b, aU] [] h = some (none, h') ∧ ListAt h' a vs ∧ Off h h' a (a + 8) := by
  obtain ⟨a1, a2, a3, w0, w1, w2, t0, t1, t2, e⟩ := id A
  obtain ⟨c1, c2, c3, v0, v1, v2, u0, u1, u2, f⟩ := id V
  obtain ⟨h1, g1, r1, o1⟩ := m39_it (d := d) (j := 0) (by omega) a2 a3 V t0 u0 hd
  have O1 : Off h h1 (a + 2) (a + 8) := o1.mono (by omega) (by omega)
  obtain ⟨h2, g2, r2, o2⟩ := m39_it (d := d) (j := 1) (n := nI ws.length) (by omega) (by rw [O1.2 a (by omega)]; exact a2) (by rw [O1.2 (a + 1) (by omega)]; exact a3) (V.off O1 (by omega)) (t1.off o1 (by omega)) (u1.off O1 (by omega)) hd
  have O2 : Off h h2 (a + 2) (a + 8) := O1.trans (o2.mono (by omega) (by omega))
  obtain ⟨h3, g3, r3, o3⟩ := m39_it (d := d) (j := 2) (n := nI ws.length) (by omega) (by rw [O2.2 a (by omega)]; exact a2) (by rw [O2.2 (a + 1) (by omega)]; exact a3) (V.off O2 (by omega)) ((t2.off o1 (by omega)).off o2 (by omega)) (u2.off O2 (by omega)) hd
  have O3 : Off h h3 (a + 2) (a + 8) := O2.trans (o3.mono (by omega) (by omega))
  have b2 : h3[a]? = some (.inl (6, [.ref (a + 1), .int (nI ws.length)])) := by rw [O3.2 a (by omega)]; exact a2
  have b3 : h3[a + 1]? = some (.inr (.inr (5, [some (a + 2), some (a + 4), some (a + 6)]))) := by rw [O3.2 (a + 1) (by omega)]; exact a3
  have p1 : pf h3 a 1 6 6 0 (.int (nI vs.length)) = some (h3.set a (.inl (6, [.ref (a + 1), .int (nI vs.length)]))) := pf_at (fs := [.ref (a + 1), .int (nI ws.length)]) b2 (show 1 < 2 by decide) rfl
  have l3 : (3 : Int32) ≤ nI 3 := by decide
  refine ⟨h3.set a (.inl (6, [.ref (a + 1), .int (nI vs.length)])), ?_, ?_, (O3.mono (by omega) (by omega)).trans (Off.set (by omega) (by omega))⟩
  · simp only [ee_39_0, ee_39_1]
    rw [← nI_0, g1, g2, g3, ee_39_2]
    simp only [ee_39_0, ee_39_1, ee_39_3, ee_39_4, ee_39_7, ee_39_7N, ee_39_8, ee_39_11, ee_39_12, ee_39_13, ee_39_13N, ee_39_14, ee_39_17, ee_39_18, ee_39_19, ee_39_22, ee_39_25, ee_39_28, ee_39_28N, ee_39_29, ee_39_29N, ee_39_30, ee_39_33, ee_39_36, l3, (V.off O3 (by omega)).f1, p1, Option.bind_some, Option.toList, List.cons_append, List.nil_append, List.append_nil, if_true, if_false, Bool.false_eq_true, eq_self, not_true_eq_false, not_false_eq_true]
  · have k0 : ∀ {x : Nat} {y : List Int32}, a + 2 ≤ x → TextAt h3 x 4 y → TextAt (h3.set a (.inl (6, [.ref (a + 1), .int (nI vs.length)]))) x 4 y := fun hx T => T.set (by omega) (by omega)
    exact ⟨c1, by rw [set_at (at_lt b2)], by rw [set_ne (by omega)]; exact b3, v0, v1, v2, k0 (by omega) ((r1.off o2 (by omega)).off o3 (by omega)), k0 (by omega) (r2.off o3 (by omega)), k0 (by omega) r3, f⟩
/-- Board.copyFrom -/
theorem m1 {s2 : Nat} {cs cs2 : List Int32} {vs bs2 : List (List Int32)} {rs2 : List Int32} (A : BoardAt h a s cs ws bs rs) (V : BoardAt h b s2 cs2 vs bs2 rs2) (hd : b + 21 ≤ a ∨ a + 21 ≤ b) : ∃ h', go (d + 2) 1 0 [.ref a, .ref b] [] h = some (none, h') ∧ BoardAt h' a s2 cs2 vs bs2 rs2 ∧ Off h h' a (a + 21) := by
  obtain ⟨a1, a2, a3, a4, a5⟩ := id A
  obtain ⟨b1, b2, b3, b4, b5⟩ := id V
  have g1 := m23 (d := d + 1) a2 b2 (by omega) (by omega) (by omega)
  have o1 : Off h (sqSet h (a + 19) s2 cs2) (a + 19) (a + 21) := sqSet_off
  have r1 : SquareAt (sqSet h (a + 19) s2 cs2) (a + 19) s2 cs2 := sqSet_at a2 b2.2.2
  generalize sqSet h (a + 19) s2 cs2 = h1 at g1 o1 r1
  have O1 : Off h h1 (a + 1) (a + 21) := o1.mono (by omega) (by omega)
  obtain ⟨h2, g2, r2, o2⟩ := m39 (d := d) (a3.off o1 (by omega)) (b3.off O1 (by omega)) (by omega)
  have O2 : Off h h2 (a + 1) (a + 21) := O1.trans (o2.mono (by omega) (by omega))
  obtain ⟨h3, g3, r3, o3⟩ := m39 (d := d) ((a4.off o1 (by omega)).off o2 (by omega)) (b4.off O2 (by omega)) (by omega)
  have O3 : Off h h3 (a + 1) (a + 21) := O2.trans (o3.mono (by omega) (by omega))
  obtain ⟨h4, g4, r4, o4⟩ := m34 (d := d + 1) (((a5.off o1 (by omega)).off o2 (by omega)).off o3 (by omega)) (b5.off O3 (by omega)) (by decide) (by decide) b5.len (by omega)
  have O4 : Off h h4 (a + 1) (a + 21) := O3.trans (o4.mono (by omega) (by omega))
  have q1 : ∀ {h' : aH}, Off h h' (a + 1) (a + 21) → h'[a]? = some (.inl (0, [.ref (a + 19), .ref (a + 1), .ref (a + 9), .ref (a + 17)])) := fun O => by rw [O.2 a (by omega)]; exact a1
  have f1 : gf h1 a 1 0 0 = some (.ref (a + 1)) := by unfold gf; rw [q1 O1]; rfl
  have f2 : gf h2 a 2 0 0 = some (.ref (a + 9)) := by unfold gf; rw [q1 O2]; rfl
  have f3 : gf h3 a 3 0 0 = some (.ref (a + 17)) := by unfold gf; rw [q1 O3]; rfl
  have i1 : isC h1 (a + 1) 6 = true := (a3.off o1 (by omega)).isc
  have i2 : isC h2 (a + 9) 6 = true := ((a4.off o1 (by omega)).off o2 (by omega)).isc
  have i3 : isC h3 (a + 17) 5 = true := (((a5.off o1 (by omega)).off o2 (by omega)).off o3 (by omega)).isc
  refine ⟨h4, ?_, ⟨q1 O4, ((r1.off o2 (by omega)).off o3 (by omega)).off o4 (by omega), (r2.off o3 (by omega)).off o4 (by omega), r3.off o4 (by omega), r4⟩, O4.mono (by omega) (by omega)⟩
  simp only [ee_1_0, ee_1_0N, ee_1_1, ee_1_4, ee_1_4N, ee_1_5, ee_1_8, ee_1_11, ee_1_11N, ee_1_12, ee_1_15, ee_1_15N, ee_1_16, ee_1_19, ee_1_22, ee_1_22N, ee_1_23, ee_1_26, ee_1_26N, ee_1_27, ee_1_30, ee_1_33, ee_1_33N, ee_1_34, ee_1_37, ee_1_37N, ee_1_38, ee_1_41, ee_1_44, A.f0, V.f0, a2.isc, g1, f1, (V.off O1 (by omega)).f1, i1, g2, f2, (V.off O2 (by omega)).f2, i2, g3, f3, (V.off O3 (by omega)).f3, i3, g4, Option.bind_some, Option.toList, List.cons_append, List.nil_append, List.append_nil, if_true, if_false, Bool.false_eq_true, eq_self, not_true_eq_false, not_false_eq_true]
end TX
