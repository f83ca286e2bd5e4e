/-! the class's own methods, one by one: set, at, say, wipe, take, drop -/
theorem go_loop {d M pc : Nat} (L : Nat → List Value) (H : Nat → aH) : ∀ n, (∀ i, i < n → go d M pc (L i) [] (H i) = go d M pc (L (i + 1)) [] (H (i + 1))) → go d M pc (L 0) [] (H 0) = go d M pc (L n) [] (H n)
  | 0, _ => rfl
  | n + 1, k => (go_loop L H n (fun i hi => k i (by omega))).trans (k n (by omega))
/-- cells from a on, n of them, given anew -/
def updR (S : List Int32) (a : Nat) (f : Nat → Int32) : Nat → List Int32
  | 0 => S
  | n + 1 => (updR S a f n).set (a + n) (f n)
theorem updR_len (S : List Int32) (a : Nat) (f : Nat → Int32) : ∀ n, (updR S a f n).length = S.length
  | 0 => rfl
  | n + 1 => by rw [updR, List.length_set, updR_len S a f n]
theorem updR_at (S : List Int32) (a : Nat) (f : Nat → Int32) (c : Nat) : ∀ n, a + n ≤ S.length → (updR S a f n).getD c 0 = if a ≤ c ∧ c < a + n then f (c - a) else S.getD c 0
  | 0, _ => by
    have : ¬ (a ≤ c ∧ c < a + 0) := by omega
    rw [if_neg this]; rfl
  | n + 1, h => by
    rw [updR, getD_set, updR_len, updR_at S a f c n (by omega)]
    by_cases h1 : a + n = c
    · rw [if_pos ⟨h1, by omega⟩, if_pos (by omega), show c - a = n by omega]
    · rw [if_neg (by omega)]
      by_cases h2 : a ≤ c ∧ c < a + n
      · rw [if_pos h2, if_pos (by omega)]
      · rw [if_neg h2, if_neg (by omega)]
def cnt (f : Nat → Bool) : Nat → Nat
  | 0 => 0
  | n + 1 => cnt f n + (if f n = true then 1 else 0)
theorem cnt_le (f : Nat → Bool) : ∀ n, cnt f n ≤ n
  | 0 => Nat.le_refl 0
  | n + 1 => by have := cnt_le f n; unfold cnt; split <;> omega
theorem kk3 (k : Int32) : k = 0 ∨ k = 1 ∨ k = 2 ∨ (k < 0 ∧ ¬ k = 0 ∧ ¬ k = 1 ∧ ¬ k = 2) ∨ (¬ k < 0 ∧ ¬ k ≤ 2 ∧ 2 < k ∧ ¬ k = 0 ∧ ¬ k = 1 ∧ ¬ k = 2) := by
  rcases pk_ix k (n := 3) (by decide) with h | h | ⟨j, hj, rfl⟩
  · refine Or.inr (Or.inr (Or.inr (Or.inl ⟨h, ?_, ?_, ?_⟩))) <;> intro e <;> subst e <;> exact absurd h (by decide)
  · have h' : 3 ≤ k := h
    have a1 : (3 : Int32).toInt ≤ k.toInt := Int32.le_iff_toInt_le.mp h'
    have e3 : (3 : Int32).toInt = 3 := by decide
    have e2 : (2 : Int32).toInt = 2 := by decide
    have e0 : (0 : Int32).toInt = 0 := by decide
    refine Or.inr (Or.inr (Or.inr (Or.inr ⟨?_, ?_, ?_, ?_, ?_, ?_⟩)))
    · rw [Int32.lt_iff_toInt_lt]; omega
    · rw [Int32.le_iff_toInt_le]; omega
    · rw [Int32.lt_iff_toInt_lt]; omega
    all_goals intro e; subst e; exact absurd h' (by decide)
  · have : j = 0 ∨ j = 1 ∨ j = 2 := by omega
    rcases this with rfl | rfl | rfl
    · exact Or.inl rfl
    · exact Or.inr (Or.inl rfl)
    · exact Or.inr (Or.inr (Or.inl rfl))
section CM1
variable {h h' : aH} {g g' i0 i1 : gG} {P P' : List Int32} {K kn kg : Int32} {lo hi b d : Nat} {q : cS} {r : gS}
theorem gOk.cells {s : Nat} {cs cs' : List Int32} {x : List (List Int32) × List (List Int32) × List Int32} (k : gOk (s, cs, x)) (k2 : ∀ c, s * s ≤ c → cs'.getD c 0 = 0) (k3 : ∀ c, cs'.getD c 0 = 0 ∨ isL (cs'.getD c 0)) : gOk (s, cs', x) := ⟨k.1, k2, k3, k.2.2.2⟩
theorem BoardG.cells {cs' : List Int32} (B : BoardG h 12 g) (hl : cs'.length = 16) (k2 : ∀ c, g.1 * g.1 ≤ c → cs'.getD c 0 = 0) (k3 : ∀ c, cs'.getD c 0 = 0 ∨ isL (cs'.getD c 0)) : BoardG (h.set 32 (ints cs')) 12 (g.1, cs', g.2.2) := by
  obtain ⟨⟨a1, a2, a3, a4, a5⟩, k⟩ := B
  have O : Off h (h.set 32 (ints cs')) 31 33 := Off.set (by decide) (by decide)
  exact ⟨⟨by rw [O.2 12 (by decide)]; exact a1, a2.put hl, a3.off O (by decide), a4.off O (by decide), a5.off O (by decide)⟩, k.1, k2, k3, k.2.2.2⟩
/-- set -/
def q_set (g : gG) (c x : Int32) : Int32 × gG := if c < 0 ∨ nI (g.1 * g.1) ≤ c then (-1, g) else if x = 0 ∨ (97 ≤ x ∧ x ≤ 122) then (g.2.1.getD c.toNatClampNeg 0, (g.1, g.2.1.set c.toNatClampNeg x, g.2.2)) else (-2, g)
theorem c_set {c x : Int32} (C : CI h g P i0 i1 K) : ∃ h', go (d + 12) 42 0 [.ref 5, .int c, .int x, aU] [] h = some (some (.int (q_set g c x).1), h') ∧ CI h' (q_set g c x).2 P i0 i1 K ∧ Off h h' 5 96 := by
  have W := C.w
  obtain ⟨L, S, b5, b33, B, T, -⟩ := id W.1
  have hs := B.2.1
  have hq := (sq_lt hs).1
  have e12 := m12 (d := d + 11) (x := c) hs L
  have e60 := m60 (d := d + 11) (h := h) (x := x)
  unfold q_set
  rcases pk_ix c (n := g.1 * g.1) (by omega) with hc | hc | ⟨j, hj, rfl⟩
  · refine ⟨h, ?_, by simp only [hc, true_or, if_true]; exact C, Off.rf⟩
    simp only [hc, true_or, if_true] at e12
    simp only [ee_42_0, ee_42_0N, ee_42_1, ee_42_4, ee_42_7, ee_42_10, ee_42_11, ee_42_14, ee_42_17, ee_42_18, ee_42_19, ee_42_20, ee_42_23, ee_42_24, ee_42_27, ee_42_30, ee_42_32, ee_42_33, ee_42_33N, ee_42_34, ee_42_37, ee_42_40, ee_42_43, ee_42_44, ee_42_45, ee_42_46, ee_42_46N, ee_42_47, ee_42_50, ee_42_53, ee_42_56, ee_42_57, ee_42_58, ee_42_59, ee_42_59N, ee_42_60, ee_42_63, ee_42_64, W.F, KK, e12, hc, true_or, Option.bind_some, Option.toList, List.cons_append, List.nil_append, List.append_nil, if_true, if_false, Bool.false_eq_true, eq_self, not_true_eq_false, not_false_eq_true]
  · refine ⟨h, ?_, by simp only [hc, or_true, if_true]; exact C, Off.rf⟩
    simp only [hc, or_true, if_true] at e12
    simp only [ee_42_0, ee_42_0N, ee_42_1, ee_42_4, ee_42_7, ee_42_10, ee_42_11, ee_42_14, ee_42_17, ee_42_18, ee_42_19, ee_42_20, ee_42_23, ee_42_24, ee_42_27, ee_42_30, ee_42_32, ee_42_33, ee_42_33N, ee_42_34, ee_42_37, ee_42_40, ee_42_43, ee_42_44, ee_42_45, ee_42_46, ee_42_46N, ee_42_47, ee_42_50, ee_42_53, ee_42_56, ee_42_57, ee_42_58, ee_42_59, ee_42_59N, ee_42_60, ee_42_63, ee_42_64, W.F, KK, e12, hc, or_true, Option.bind_some, Option.toList, List.cons_append, List.nil_append, List.append_nil, if_true, if_false, Bool.false_eq_true, eq_self, not_true_eq_false, not_false_eq_true]
  · have n1 : ¬ nI j < 0 := nI_pos (by omega)
    have n2 : ¬ nI (g.1 * g.1) ≤ nI j := nI_nle2 (by omega) (by omega) hj
    simp only [n1, n2, or_self, if_false] at e12
    have i1' : ia h 32 (nI j) = some (g.2.1.getD j 0) := B.1.2.1.ia (by omega)
    have i2' : is_ h 32 (nI j) x = some (h.set 32 (ints (g.2.1.set j x))) := B.1.2.1.is_ (by omega)
    have hl : (g.2.1.set j x).length = 16 := by rw [List.length_set]; exact B.1.2.1.2.2
    have fin : (x = 0 ∨ isL x) → ∃ h', isC (h.set 32 (ints (g.2.1.set j x))) 5 7 = true ∧ go (d + 11) 63 0 [.ref 5] [] (h.set 32 (ints (g.2.1.set j x))) = some (none, h') ∧ CI h' (g.1, g.2.1.set j x, g.2.2) P i0 i1 K ∧ Off h h' 5 96 := by
      intro hx
      have B1 := B.cells (cs' := g.2.1.set j x) hl (fun c hc => by rw [getD_set, if_neg (by omega)]; exact B.2.2.1 c hc) (fun c => by
        rw [getD_set]
        by_cases hz : j = c ∧ j < g.2.1.length
        · rw [if_pos hz]; exact hx
        · rw [if_neg hz]; exact B.2.2.2.1 c)
      have O1 : Off h (h.set 32 (ints (g.2.1.set j x))) 12 33 := Off.set (by decide) (by decide)
      have C1 := W.brd O1 B1
      obtain ⟨h2, e63, CI2, O2⟩ := m63w (d := d + 11) C1
      exact ⟨h2, C1.F.2.2.2.2.2.2.2.2.2.1, e63, CI2, (O1.mono (by decide) (by decide)).trans (O2.mono (by decide) (by decide))⟩
    by_cases x0 : x = 0
    · obtain ⟨h2, e1, e2, r1, r2⟩ := fin (Or.inl x0)
      refine ⟨h2, ?_, by simp only [n1, n2, or_self, if_false, x0, true_or, if_true, nI_clamp (show j < 2 ^ 31 by omega)]; rw [x0] at r1; exact r1, r2⟩
      subst x0
      simp only [ee_42_0, ee_42_0N, ee_42_1, ee_42_4, ee_42_7, ee_42_10, ee_42_11, ee_42_14, ee_42_17, ee_42_18, ee_42_19, ee_42_20, ee_42_23, ee_42_24, ee_42_27, ee_42_30, ee_42_32, ee_42_33, ee_42_33N, ee_42_34, ee_42_37, ee_42_40, ee_42_43, ee_42_44, ee_42_45, ee_42_46, ee_42_46N, ee_42_47, ee_42_50, ee_42_53, ee_42_56, ee_42_57, ee_42_58, ee_42_59, ee_42_59N, ee_42_60, ee_42_63, ee_42_64, W.F, KK, e12, n1, n2, or_self, true_or, nI_clamp (show j < 2 ^ 31 by omega), i1', i2', e1, e2, Option.bind_some, Option.toList, List.cons_append, List.nil_append, List.append_nil, if_true, if_false, Bool.false_eq_true, eq_self, not_true_eq_false, not_false_eq_true]
    · by_cases hx : 97 ≤ x ∧ x ≤ 122
      · obtain ⟨h2, e1, e2, r1, r2⟩ := fin (Or.inr hx)
        refine ⟨h2, ?_, by simp only [n1, n2, or_self, if_false, hx, and_self, or_true, if_true, nI_clamp (show j < 2 ^ 31 by omega)]; exact r1, r2⟩
        rw [if_pos hx] at e60
        simp only [ee_42_0, ee_42_0N, ee_42_1, ee_42_4, ee_42_7, ee_42_10, ee_42_11, ee_42_14, ee_42_17, ee_42_18, ee_42_19, ee_42_20, ee_42_23, ee_42_24, ee_42_27, ee_42_30, ee_42_32, ee_42_33, ee_42_33N, ee_42_34, ee_42_37, ee_42_40, ee_42_43, ee_42_44, ee_42_45, ee_42_46, ee_42_46N, ee_42_47, ee_42_50, ee_42_53, ee_42_56, ee_42_57, ee_42_58, ee_42_59, ee_42_59N, ee_42_60, ee_42_63, ee_42_64, W.F, KK, e12, e60, n1, n2, or_self, x0, hx, and_self, or_true, nI_clamp (show j < 2 ^ 31 by omega), i1', i2', e1, e2, Option.bind_some, Option.toList, List.cons_append, List.nil_append, List.append_nil, if_true, if_false, Bool.false_eq_true, eq_self, not_true_eq_false, not_false_eq_true]
      · refine ⟨h, ?_, by simp only [n1, n2, or_self, if_false, x0, hx]; exact C, Off.rf⟩
        rw [if_neg hx] at e60
        simp only [ee_42_0, ee_42_0N, ee_42_1, ee_42_4, ee_42_7, ee_42_10, ee_42_11, ee_42_14, ee_42_17, ee_42_18, ee_42_19, ee_42_20, ee_42_23, ee_42_24, ee_42_27, ee_42_30, ee_42_32, ee_42_33, ee_42_33N, ee_42_34, ee_42_37, ee_42_40, ee_42_43, ee_42_44, ee_42_45, ee_42_46, ee_42_46N, ee_42_47, ee_42_50, ee_42_53, ee_42_56, ee_42_57, ee_42_58, ee_42_59, ee_42_59N, ee_42_60, ee_42_63, ee_42_64, W.F, KK, e12, e60, n1, n2, or_self, x0, hx, Option.bind_some, Option.toList, List.cons_append, List.nil_append, List.append_nil, if_true, if_false, Bool.false_eq_true, eq_self, not_true_eq_false, not_false_eq_true]
/-- at -/
def q_at (g : gG) (c : Int32) : Int32 := if c < 0 ∨ nI (g.1 * g.1) ≤ c then -1 else if g.2.1.getD c.toNatClampNeg 0 = 0 then -6 else g.2.1.getD c.toNatClampNeg 0
theorem c_at {c : Int32} (C : CI h g P i0 i1 K) : go (d + 12) 43 0 [.ref 5, .int c, aU] [] h = some (some (.int (q_at g c)), h) := by
  have W := C.w
  obtain ⟨L, S, b5, b33, B, T, -⟩ := id W.1
  have hs := B.2.1
  have hq := (sq_lt hs).1
  have e12 := m12 (d := d + 11) (x := c) hs L
  unfold q_at
  rcases pk_ix c (n := g.1 * g.1) (by omega) with hc | hc | ⟨j, hj, rfl⟩
  · simp only [hc, true_or, if_true] at e12
    simp only [ee_43_0, ee_43_0N, ee_43_1, ee_43_4, ee_43_7, ee_43_10, ee_43_11, ee_43_14, ee_43_17, ee_43_18, ee_43_19, ee_43_19N, ee_43_20, ee_43_23, ee_43_26, ee_43_29, ee_43_30, ee_43_31, ee_43_32, ee_43_33, ee_43_36, ee_43_38, ee_43_41, ee_43_42, W.F, KK, e12, hc, true_or, Option.bind_some, Option.toList, List.cons_append, List.nil_append, List.append_nil, if_true, if_false, Bool.false_eq_true, eq_self, not_true_eq_false, not_false_eq_true]
  · simp only [hc, or_true, if_true] at e12
    simp only [ee_43_0, ee_43_0N, ee_43_1, ee_43_4, ee_43_7, ee_43_10, ee_43_11, ee_43_14, ee_43_17, ee_43_18, ee_43_19, ee_43_19N, ee_43_20, ee_43_23, ee_43_26, ee_43_29, ee_43_30, ee_43_31, ee_43_32, ee_43_33, ee_43_36, ee_43_38, ee_43_41, ee_43_42, W.F, KK, e12, hc, or_true, Option.bind_some, Option.toList, List.cons_append, List.nil_append, List.append_nil, if_true, if_false, Bool.false_eq_true, eq_self, not_true_eq_false, not_false_eq_true]
  · have n1 : ¬ nI j < 0 := nI_pos (by omega)
    have n2 : ¬ nI (g.1 * g.1) ≤ nI j := nI_nle2 (by omega) (by omega) hj
    simp only [n1, n2, or_self, if_false] at e12
    have i1' : ia h 32 (nI j) = some (g.2.1.getD j 0) := B.1.2.1.ia (by omega)
    by_cases hz : g.2.1.getD j 0 = 0 <;> simp only [ee_43_0, ee_43_0N, ee_43_1, ee_43_4, ee_43_7, ee_43_10, ee_43_11, ee_43_14, ee_43_17, ee_43_18, ee_43_19, ee_43_19N, ee_43_20, ee_43_23, ee_43_26, ee_43_29, ee_43_30, ee_43_31, ee_43_32, ee_43_33, ee_43_36, ee_43_38, ee_43_41, ee_43_42, W.F, KK, e12, n1, n2, or_self, nI_clamp (show j < 2 ^ 31 by omega), i1', hz, Option.bind_some, Option.toList, List.cons_append, List.nil_append, List.append_nil, if_true, if_false, Bool.false_eq_true, eq_self, not_true_eq_false, not_false_eq_true]
/-- say, wipe -/
def q_say (P : List Int32) (x : Int32) : Int32 × List Int32 := if 97 ≤ x ∧ x ≤ 122 then (if P.length < 16 then (nI (P.length + 1), P ++ [x]) else (-4, P)) else (-2, P)
theorem c_say {x : Int32} (C : CI h g P i0 i1 K) : ∃ h', go (d + 12) 44 0 [.ref 5, .int x] [] h = some (some (.int (q_say P x).1), h') ∧ CI h' g (q_say P x).2 i0 i1 K ∧ Off h h' 5 96 := by
  have W := C.w
  obtain ⟨L, S, b5, b33, B, T, -⟩ := id W.1
  have hl := T.1.len
  have e60 := m60 (d := d + 11) (h := h) (x := x)
  unfold q_say
  by_cases hx : 97 ≤ x ∧ x ≤ 122
  · rw [if_pos hx] at e60
    by_cases hp : P.length < 16
    · have n1 : nI P.length < 16 := nI_lt (b := 16) hp (by omega)
      obtain ⟨h', e33, T', O⟩ := m33 (d := d + 11) (x := x) T.1 (by decide) hp
      have C1 := C.pad O T' (fun y hy => by
        rcases List.mem_append.mp hy with hy | hy
        · exact T.2 y hy
        · rw [List.mem_singleton.mp hy]; exact hx)
      have F1 := C1.w.F
      rw [List.length_append, List.length_singleton] at F1
      refine ⟨h', ?_, by simp only [hx, hp, and_self, if_true]; exact C1, O.mono (by decide) (by decide)⟩
      simp only [ee_44_0, ee_44_1, ee_44_4, ee_44_7, ee_44_9, ee_44_10, ee_44_10N, ee_44_11, ee_44_14, ee_44_17, ee_44_19, ee_44_22, ee_44_24, ee_44_25, ee_44_25N, ee_44_26, ee_44_29, ee_44_30, ee_44_33, ee_44_33N, ee_44_34, ee_44_37, ee_44_40, W.F, F1, KK, e60, n1, e33, hx, hp, and_self, Option.bind_some, Option.toList, List.cons_append, List.nil_append, List.append_nil, if_true, if_false, Bool.false_eq_true, eq_self, not_true_eq_false, not_false_eq_true]
    · have n1 : ¬ nI P.length < 16 := nI_nlt (b := 16) (by omega) (by omega)
      refine ⟨h, ?_, by simp only [hx, hp, and_self, if_true, if_false]; exact C, Off.rf⟩
      simp only [ee_44_0, ee_44_1, ee_44_4, ee_44_7, ee_44_9, ee_44_10, ee_44_10N, ee_44_11, ee_44_14, ee_44_17, ee_44_19, ee_44_22, ee_44_24, ee_44_25, ee_44_25N, ee_44_26, ee_44_29, ee_44_30, ee_44_33, ee_44_33N, ee_44_34, ee_44_37, ee_44_40, W.F, KK, e60, n1, hx, hp, and_self, Option.bind_some, Option.toList, List.cons_append, List.nil_append, List.append_nil, if_true, if_false, Bool.false_eq_true, eq_self, not_true_eq_false, not_false_eq_true]
  · rw [if_neg hx] at e60
    refine ⟨h, ?_, by simp only [hx, if_false]; exact C, Off.rf⟩
    simp only [ee_44_0, ee_44_1, ee_44_4, ee_44_7, ee_44_9, ee_44_10, ee_44_10N, ee_44_11, ee_44_14, ee_44_17, ee_44_19, ee_44_22, ee_44_24, ee_44_25, ee_44_25N, ee_44_26, ee_44_29, ee_44_30, ee_44_33, ee_44_33N, ee_44_34, ee_44_37, ee_44_40, W.F, KK, e60, hx, Option.bind_some, Option.toList, List.cons_append, List.nil_append, List.append_nil, if_true, if_false, Bool.false_eq_true, eq_self, not_true_eq_false, not_false_eq_true]
theorem pad0 (T : TextAt h 34 16 P) : pf h 34 1 5 5 0 (.int 0) = some (h.set 34 (.inl (5, [.ref 35, .int 0]))) ∧ TextAt (h.set 34 (.inl (5, [.ref 35, .int 0]))) 34 16 [] ∧ Off h (h.set 34 (.inl (5, [.ref 35, .int 0]))) 34 36 := by
  obtain ⟨t1, xs, t2, t3⟩ := T
  refine ⟨pf_at t1 (show 1 < 2 by decide) rfl, ⟨set_at (at_lt t1), P ++ xs, by rw [set_ne (by decide)]; exact t2, by rw [List.length_nil, List.length_append]; omega⟩, Off.set (by decide) (by decide)⟩
theorem no_mem {α : Type} {p : α → Prop} : ∀ x ∈ ([] : List α), p x := fun _ hx => by cases hx
theorem c_wipe (C : CI h g P i0 i1 K) : ∃ h', go (d + 12) 45 0 [.ref 5, aU] [] h = some (some (.int (nI P.length)), h') ∧ CI h' g [] i0 i1 K ∧ Off h h' 5 96 := by
  have W := C.w
  obtain ⟨L, S, b5, b33, B, T, -⟩ := id W.1
  obtain ⟨p1, T1, O1⟩ := pad0 T.1
  refine ⟨_, ?_, C.pad O1 T1 no_mem, O1.mono (by decide) (by decide)⟩
  simp only [ee_45_0, ee_45_0N, ee_45_1, ee_45_4, ee_45_7, ee_45_8, ee_45_8N, ee_45_9, ee_45_12, ee_45_13, ee_45_16, ee_45_17, W.F, p1, Option.bind_some, Option.toList, List.cons_append, List.nil_append, List.append_nil, if_true, if_false, Bool.false_eq_true, eq_self, not_true_eq_false, not_false_eq_true]
/-- take -/
def q_take (g : gG) (P : List Int32) (k : Int32) : Int32 × gG × List Int32 :=
  if k = 0 then (if 3 ≤ P.length ∧ P.length ≤ 4 then (if g.2.2.1.length < 3 then (nI g.2.2.1.length, (g.1, g.2.1, g.2.2.1 ++ [P], g.2.2.2), []) else (-4, g, P)) else (-7, g, P))
  else if k = 1 then (if 2 ≤ P.length ∧ P.length ≤ 4 then (if g.2.2.2.1.length < 3 then (nI g.2.2.2.1.length, (g.1, g.2.1, g.2.2.1, g.2.2.2.1 ++ [P], g.2.2.2.2), []) else (-4, g, P)) else (-7, g, P))
  else if k = 2 then (if 1 ≤ P.length ∧ P.length ≤ 9 then (nI P.length, (g.1, g.2.1, g.2.2.1, g.2.2.2.1, P), []) else (-7, g, P)) else (-2, g, P)
theorem fin_pad (O1 : Off h h' 12 33) (B1 : BoardG h' 12 g') (W : CW h g P i0 i1 K) : ∃ h2 h3, gf h' 5 4 7 7 = some (.ref 34) ∧ pf h' 34 1 5 5 0 (.int 0) = some h2 ∧ isC h2 5 7 = true ∧ go d 63 0 [.ref 5] [] h2 = some (none, h3) ∧ CI h3 g' [] i0 i1 K ∧ Off h h3 5 96 := by
  have W1 := W.brd O1 B1
  obtain ⟨p1, T1, O2⟩ := pad0 W1.1.2.2.2.2.2.1.1
  have W2 := W1.pad O2 T1 no_mem
  obtain ⟨h3, e63, CI3, O3⟩ := m63w (d := d) W2
  exact ⟨_, h3, W1.F.2.2.2.2.1, p1, W2.F.2.2.2.2.2.2.2.2.2.1, e63, CI3, ((O1.mono (by decide) (by decide)).trans (O2.mono (by decide) (by decide))).trans (O3.mono (by decide) (by decide))⟩
theorem rng {n lo hi : Nat} (h1 : n < 100) (h2 : lo < 100) (h3 : hi < 100) : (lo ≤ n ∧ n ≤ hi ∧ ¬ nI n < nI lo ∧ nI n ≤ nI hi) ∨ (¬ (lo ≤ n ∧ n ≤ hi) ∧ nI n < nI lo) ∨ (¬ (lo ≤ n ∧ n ≤ hi) ∧ ¬ nI n < nI lo ∧ ¬ nI n ≤ nI hi) := by
  by_cases a1 : lo ≤ n
  · by_cases a2 : n ≤ hi
    · exact Or.inl ⟨a1, a2, nI_nlt a1 (by omega), nI_le a2 (by omega)⟩
    · exact Or.inr (Or.inr ⟨fun z => a2 z.2, nI_nlt a1 (by omega), nI_nle2 (by omega) (by omega) (by omega)⟩)
  · exact Or.inr (Or.inl ⟨fun z => a1 z.1, nI_lt (by omega) (by omega)⟩)
theorem c_take {k : Int32} (C : CI h g P i0 i1 K) : ∃ h', go (d + 12) 46 0 [.ref 5, .int k, aU] [] h = some (some (.int (q_take g P k).1), h') ∧ CI h' (q_take g P k).2.1 (q_take g P k).2.2 i0 i1 K ∧ Off h h' 5 96 := by
  have W := C.w
  obtain ⟨L, S, b5, b33, B, T, -⟩ := id W.1
  have hl := T.1.len
  have e62 := m62 (d := d + 11) W (k := k)
  obtain ⟨⟨a1, a2, a3, a4, a5⟩, k1, k2, k3, k4, k5, k6⟩ := id B
  unfold q_take
  rcases kk3 k with rfl | rfl | rfl | ⟨hk, z0, z1, z2⟩ | ⟨hk, hk2, hk3, z0, z1, z2⟩
  · simp only [eq_self, if_true] at e62
    rcases rng (n := P.length) (lo := 3) (hi := 4) (by omega) (by decide) (by decide) with ⟨y1, y2, y3, y4⟩ | ⟨y1, y2⟩ | ⟨y1, y2, y3⟩
    · change ¬ nI P.length < 3 at y3
      change nI P.length ≤ 4 at y4
      by_cases hn : g.2.2.1.length < 3
      · have n3 : nI g.2.2.1.length < 3 := nI_lt (b := 3) hn (by omega)
        obtain ⟨h1, e38, A1, O1⟩ := m38 (d := d + 10) a3 T.1 (by decide) y2 hn (by decide)
        have B1 : BoardG h1 12 (g.1, g.2.1, g.2.2.1 ++ [P], g.2.2.2) := ⟨⟨by rw [O1.2 12 (by decide)]; exact a1, a2.off O1 (by decide), A1, a4.off O1 (by decide), a5.off O1 (by decide)⟩, k1, k2, k3, fun w hw => by
          rcases List.mem_append.mp hw with hw | hw
          · exact k4 w hw
          · rw [List.mem_singleton.mp hw]; exact ⟨y1, y2, T.2⟩, k5, k6⟩
        obtain ⟨h2, h3, f1, f2, f3, f4, f5, f6⟩ := fin_pad (d := d + 11) (O1.mono (by decide) (by decide)) B1 W
        refine ⟨h3, ?_, by simp only [eq_self, if_true, y1, y2, and_self, hn]; exact f5, f6⟩
        simp only [ee_46_0, ee_46_1, ee_46_4, ee_46_5, ee_46_6, ee_46_9, ee_46_11, ee_46_12, ee_46_12N, ee_46_13, ee_46_16, ee_46_19, ee_46_22, ee_46_23, ee_46_24, ee_46_27, ee_46_27N, ee_46_28, ee_46_31, ee_46_34, ee_46_37, ee_46_38, ee_46_39, ee_46_42, ee_46_44, ee_46_45, ee_46_46, ee_46_47, ee_46_50, ee_46_50N, ee_46_51, ee_46_52, ee_46_55, ee_46_58, ee_46_59, ee_46_62, ee_46_64, ee_46_65, ee_46_66, ee_46_67, ee_46_70, ee_46_70N, ee_46_71, ee_46_74, ee_46_77, ee_46_77N, ee_46_78, ee_46_81, ee_46_84, ee_46_84N, ee_46_85, ee_46_88, ee_46_91, ee_46_94, ee_46_95, ee_46_98, ee_46_98N, ee_46_99, ee_46_100, ee_46_103, ee_46_103N, ee_46_104, ee_46_107, ee_46_110, ee_46_111, ee_46_111N, ee_46_112, ee_46_115, ee_46_116, ee_46_119, ee_46_119N, ee_46_120, ee_46_123, ee_46_124, W.F, KK, e62, y1, y2, y3, y4, n3, hn, e38, f1, f2, f3, f4, and_self, Option.bind_some, Option.toList, List.cons_append, List.nil_append, List.append_nil, if_true, if_false, Bool.false_eq_true, eq_self, not_true_eq_false, not_false_eq_true]
      · have n3 : ¬ nI g.2.2.1.length < 3 := nI_nlt (b := 3) (by omega) (by have := a3.1; omega)
        refine ⟨h, ?_, by simp only [eq_self, if_true, y1, y2, and_self, hn, if_false]; exact C, Off.rf⟩
        simp only [ee_46_0, ee_46_1, ee_46_4, ee_46_5, ee_46_6, ee_46_9, ee_46_11, ee_46_12, ee_46_12N, ee_46_13, ee_46_16, ee_46_19, ee_46_22, ee_46_23, ee_46_24, ee_46_27, ee_46_27N, ee_46_28, ee_46_31, ee_46_34, ee_46_37, ee_46_38, ee_46_39, ee_46_42, ee_46_44, ee_46_45, ee_46_46, ee_46_47, ee_46_50, ee_46_50N, ee_46_51, ee_46_52, ee_46_55, ee_46_58, ee_46_59, ee_46_62, ee_46_64, ee_46_65, ee_46_66, ee_46_67, ee_46_70, ee_46_70N, ee_46_71, ee_46_74, ee_46_77, ee_46_77N, ee_46_78, ee_46_81, ee_46_84, ee_46_84N, ee_46_85, ee_46_88, ee_46_91, ee_46_94, ee_46_95, ee_46_98, ee_46_98N, ee_46_99, ee_46_100, ee_46_103, ee_46_103N, ee_46_104, ee_46_107, ee_46_110, ee_46_111, ee_46_111N, ee_46_112, ee_46_115, ee_46_116, ee_46_119, ee_46_119N, ee_46_120, ee_46_123, ee_46_124, W.F, KK, e62, y1, y2, y3, y4, n3, hn, and_self, Option.bind_some, Option.toList, List.cons_append, List.nil_append, List.append_nil, if_true, if_false, Bool.false_eq_true, eq_self, not_true_eq_false, not_false_eq_true]
    · change nI P.length < 3 at y2
      refine ⟨h, ?_, by simp only [eq_self, if_true, y1, if_false]; exact C, Off.rf⟩
      simp only [ee_46_0, ee_46_1, ee_46_4, ee_46_5, ee_46_6, ee_46_9, ee_46_11, ee_46_12, ee_46_12N, ee_46_13, ee_46_16, ee_46_19, ee_46_22, ee_46_23, ee_46_24, ee_46_27, ee_46_27N, ee_46_28, ee_46_31, ee_46_34, ee_46_37, ee_46_38, ee_46_39, ee_46_42, ee_46_44, ee_46_45, ee_46_46, ee_46_47, ee_46_50, ee_46_50N, ee_46_51, ee_46_52, ee_46_55, ee_46_58, ee_46_59, ee_46_62, ee_46_64, ee_46_65, ee_46_66, ee_46_67, ee_46_70, ee_46_70N, ee_46_71, ee_46_74, ee_46_77, ee_46_77N, ee_46_78, ee_46_81, ee_46_84, ee_46_84N, ee_46_85, ee_46_88, ee_46_91, ee_46_94, ee_46_95, ee_46_98, ee_46_98N, ee_46_99, ee_46_100, ee_46_103, ee_46_103N, ee_46_104, ee_46_107, ee_46_110, ee_46_111, ee_46_111N, ee_46_112, ee_46_115, ee_46_116, ee_46_119, ee_46_119N, ee_46_120, ee_46_123, ee_46_124, W.F, KK, y1, y2, Option.bind_some, Option.toList, List.cons_append, List.nil_append, List.append_nil, if_true, if_false, Bool.false_eq_true, eq_self, not_true_eq_false, not_false_eq_true]
    · change ¬ nI P.length < 3 at y2
      change ¬ nI P.length ≤ 4 at y3
      refine ⟨h, ?_, by simp only [eq_self, if_true, y1, if_false]; exact C, Off.rf⟩
      simp only [ee_46_0, ee_46_1, ee_46_4, ee_46_5, ee_46_6, ee_46_9, ee_46_11, ee_46_12, ee_46_12N, ee_46_13, ee_46_16, ee_46_19, ee_46_22, ee_46_23, ee_46_24, ee_46_27, ee_46_27N, ee_46_28, ee_46_31, ee_46_34, ee_46_37, ee_46_38, ee_46_39, ee_46_42, ee_46_44, ee_46_45, ee_46_46, ee_46_47, ee_46_50, ee_46_50N, ee_46_51, ee_46_52, ee_46_55, ee_46_58, ee_46_59, ee_46_62, ee_46_64, ee_46_65, ee_46_66, ee_46_67, ee_46_70, ee_46_70N, ee_46_71, ee_46_74, ee_46_77, ee_46_77N, ee_46_78, ee_46_81, ee_46_84, ee_46_84N, ee_46_85, ee_46_88, ee_46_91, ee_46_94, ee_46_95, ee_46_98, ee_46_98N, ee_46_99, ee_46_100, ee_46_103, ee_46_103N, ee_46_104, ee_46_107, ee_46_110, ee_46_111, ee_46_111N, ee_46_112, ee_46_115, ee_46_116, ee_46_119, ee_46_119N, ee_46_120, ee_46_123, ee_46_124, W.F, KK, y1, y2, y3, Option.bind_some, Option.toList, List.cons_append, List.nil_append, List.append_nil, if_true, if_false, Bool.false_eq_true, eq_self, not_true_eq_false, not_false_eq_true]
  · simp only [KK, if_false] at e62
    rcases rng (n := P.length) (lo := 2) (hi := 4) (by omega) (by decide) (by decide) with ⟨y1, y2, y3, y4⟩ | ⟨y1, y2⟩ | ⟨y1, y2, y3⟩
    · change ¬ nI P.length < 2 at y3
      change nI P.length ≤ 4 at y4
      by_cases hn : g.2.2.2.1.length < 3
      · have n3 : nI g.2.2.2.1.length < 3 := nI_lt (b := 3) hn (by omega)
        obtain ⟨h1, e38, A1, O1⟩ := m38 (d := d + 10) a4 T.1 (by decide) y2 hn (by decide)
        have B1 : BoardG h1 12 (g.1, g.2.1, g.2.2.1, g.2.2.2.1 ++ [P], g.2.2.2.2) := ⟨⟨by rw [O1.2 12 (by decide)]; exact a1, a2.off O1 (by decide), a3.off O1 (by decide), A1, a5.off O1 (by decide)⟩, k1, k2, k3, k4, fun w hw => by
          rcases List.mem_append.mp hw with hw | hw
          · exact k5 w hw
          · rw [List.mem_singleton.mp hw]; exact ⟨y1, y2, T.2⟩, k6⟩
        obtain ⟨h2, h3, f1, f2, f3, f4, f5, f6⟩ := fin_pad (d := d + 11) (O1.mono (by decide) (by decide)) B1 W
        refine ⟨h3, ?_, by simp only [KK, eq_self, if_true, y1, y2, and_self, hn, if_false]; exact f5, f6⟩
        simp only [ee_46_0, ee_46_1, ee_46_4, ee_46_5, ee_46_6, ee_46_9, ee_46_11, ee_46_12, ee_46_12N, ee_46_13, ee_46_16, ee_46_19, ee_46_22, ee_46_23, ee_46_24, ee_46_27, ee_46_27N, ee_46_28, ee_46_31, ee_46_34, ee_46_37, ee_46_38, ee_46_39, ee_46_42, ee_46_44, ee_46_45, ee_46_46, ee_46_47, ee_46_50, ee_46_50N, ee_46_51, ee_46_52, ee_46_55, ee_46_58, ee_46_59, ee_46_62, ee_46_64, ee_46_65, ee_46_66, ee_46_67, ee_46_70, ee_46_70N, ee_46_71, ee_46_74, ee_46_77, ee_46_77N, ee_46_78, ee_46_81, ee_46_84, ee_46_84N, ee_46_85, ee_46_88, ee_46_91, ee_46_94, ee_46_95, ee_46_98, ee_46_98N, ee_46_99, ee_46_100, ee_46_103, ee_46_103N, ee_46_104, ee_46_107, ee_46_110, ee_46_111, ee_46_111N, ee_46_112, ee_46_115, ee_46_116, ee_46_119, ee_46_119N, ee_46_120, ee_46_123, ee_46_124, W.F, KK, e62, y1, y2, y3, y4, n3, hn, e38, f1, f2, f3, f4, and_self, Option.bind_some, Option.toList, List.cons_append, List.nil_append, List.append_nil, if_true, if_false, Bool.false_eq_true, eq_self, not_true_eq_false, not_false_eq_true]
      · have n3 : ¬ nI g.2.2.2.1.length < 3 := nI_nlt (b := 3) (by omega) (by have := a4.1; omega)
        refine ⟨h, ?_, by simp only [KK, eq_self, if_true, y1, y2, and_self, hn, if_false]; exact C, Off.rf⟩
        simp only [ee_46_0, ee_46_1, ee_46_4, ee_46_5, ee_46_6, ee_46_9, ee_46_11, ee_46_12, ee_46_12N, ee_46_13, ee_46_16, ee_46_19, ee_46_22, ee_46_23, ee_46_24, ee_46_27, ee_46_27N, ee_46_28, ee_46_31, ee_46_34, ee_46_37, ee_46_38, ee_46_39, ee_46_42, ee_46_44, ee_46_45, ee_46_46, ee_46_47, ee_46_50, ee_46_50N, ee_46_51, ee_46_52, ee_46_55, ee_46_58, ee_46_59, ee_46_62, ee_46_64, ee_46_65, ee_46_66, ee_46_67, ee_46_70, ee_46_70N, ee_46_71, ee_46_74, ee_46_77, ee_46_77N, ee_46_78, ee_46_81, ee_46_84, ee_46_84N, ee_46_85, ee_46_88, ee_46_91, ee_46_94, ee_46_95, ee_46_98, ee_46_98N, ee_46_99, ee_46_100, ee_46_103, ee_46_103N, ee_46_104, ee_46_107, ee_46_110, ee_46_111, ee_46_111N, ee_46_112, ee_46_115, ee_46_116, ee_46_119, ee_46_119N, ee_46_120, ee_46_123, ee_46_124, W.F, KK, e62, y1, y2, y3, y4, n3, hn, and_self, Option.bind_some, Option.toList, List.cons_append, List.nil_append, List.append_nil, if_true, if_false, Bool.false_eq_true, eq_self, not_true_eq_false, not_false_eq_true]
    · change nI P.length < 2 at y2
      refine ⟨h, ?_, by simp only [KK, eq_self, if_true, y1, if_false]; exact C, Off.rf⟩
      simp only [ee_46_0, ee_46_1, ee_46_4, ee_46_5, ee_46_6, ee_46_9, ee_46_11, ee_46_12, ee_46_12N, ee_46_13, ee_46_16, ee_46_19, ee_46_22, ee_46_23, ee_46_24, ee_46_27, ee_46_27N, ee_46_28, ee_46_31, ee_46_34, ee_46_37, ee_46_38, ee_46_39, ee_46_42, ee_46_44, ee_46_45, ee_46_46, ee_46_47, ee_46_50, ee_46_50N, ee_46_51, ee_46_52, ee_46_55, ee_46_58, ee_46_59, ee_46_62, ee_46_64, ee_46_65, ee_46_66, ee_46_67, ee_46_70, ee_46_70N, ee_46_71, ee_46_74, ee_46_77, ee_46_77N, ee_46_78, ee_46_81, ee_46_84, ee_46_84N, ee_46_85, ee_46_88, ee_46_91, ee_46_94, ee_46_95, ee_46_98, ee_46_98N, ee_46_99, ee_46_100, ee_46_103, ee_46_103N, ee_46_104, ee_46_107, ee_46_110, ee_46_111, ee_46_111N, ee_46_112, ee_46_115, ee_46_116, ee_46_119, ee_46_119N, ee_46_120, ee_46_123, ee_46_124, W.F, KK, y1, y2, Option.bind_some, Option.toList, List.cons_append, List.nil_append, List.append_nil, if_true, if_false, Bool.false_eq_true, eq_self, not_true_eq_false, not_false_eq_true]
    · change ¬ nI P.length < 2 at y2
      change ¬ nI P.length ≤ 4 at y3
      refine ⟨h, ?_, by simp only [KK, eq_self, if_true, y1, if_false]; exact C, Off.rf⟩
      simp only [ee_46_0, ee_46_1, ee_46_4, ee_46_5, ee_46_6, ee_46_9, ee_46_11, ee_46_12, ee_46_12N, ee_46_13, ee_46_16, ee_46_19, ee_46_22, ee_46_23, ee_46_24, ee_46_27, ee_46_27N, ee_46_28, ee_46_31, ee_46_34, ee_46_37, ee_46_38, ee_46_39, ee_46_42, ee_46_44, ee_46_45, ee_46_46, ee_46_47, ee_46_50, ee_46_50N, ee_46_51, ee_46_52, ee_46_55, ee_46_58, ee_46_59, ee_46_62, ee_46_64, ee_46_65, ee_46_66, ee_46_67, ee_46_70, ee_46_70N, ee_46_71, ee_46_74, ee_46_77, ee_46_77N, ee_46_78, ee_46_81, ee_46_84, ee_46_84N, ee_46_85, ee_46_88, ee_46_91, ee_46_94, ee_46_95, ee_46_98, ee_46_98N, ee_46_99, ee_46_100, ee_46_103, ee_46_103N, ee_46_104, ee_46_107, ee_46_110, ee_46_111, ee_46_111N, ee_46_112, ee_46_115, ee_46_116, ee_46_119, ee_46_119N, ee_46_120, ee_46_123, ee_46_124, W.F, KK, y1, y2, y3, Option.bind_some, Option.toList, List.cons_append, List.nil_append, List.append_nil, if_true, if_false, Bool.false_eq_true, eq_self, not_true_eq_false, not_false_eq_true]
  · rcases rng (n := P.length) (lo := 1) (hi := 9) (by omega) (by decide) (by decide) with ⟨y1, y2, y3, y4⟩ | ⟨y1, y2⟩ | ⟨y1, y2, y3⟩
    · change ¬ nI P.length < 1 at y3
      change nI P.length ≤ 9 at y4
      obtain ⟨h1, e34, A1, O1⟩ := m34 (d := d + 11) a5 T.1 (by decide) (by decide) y2 (by decide)
      have B1 : BoardG h1 12 (g.1, g.2.1, g.2.2.1, g.2.2.2.1, P) := ⟨⟨by rw [O1.2 12 (by decide)]; exact a1, a2.off O1 (by decide), a3.off O1 (by decide), a4.off O1 (by decide), A1⟩, k1, k2, k3, k4, k5, y1, y2, T.2⟩
      have F1 := (W.brd (O1.mono (by decide) (by decide)) B1).F
      obtain ⟨h2, h3, f1, f2, f3, f4, f5, f6⟩ := fin_pad (d := d + 11) (O1.mono (by decide) (by decide)) B1 W
      refine ⟨h3, ?_, by simp only [KK, eq_self, if_true, y1, y2, and_self, if_false]; exact f5, f6⟩
      simp only [ee_46_0, ee_46_1, ee_46_4, ee_46_5, ee_46_6, ee_46_9, ee_46_11, ee_46_12, ee_46_12N, ee_46_13, ee_46_16, ee_46_19, ee_46_22, ee_46_23, ee_46_24, ee_46_27, ee_46_27N, ee_46_28, ee_46_31, ee_46_34, ee_46_37, ee_46_38, ee_46_39, ee_46_42, ee_46_44, ee_46_45, ee_46_46, ee_46_47, ee_46_50, ee_46_50N, ee_46_51, ee_46_52, ee_46_55, ee_46_58, ee_46_59, ee_46_62, ee_46_64, ee_46_65, ee_46_66, ee_46_67, ee_46_70, ee_46_70N, ee_46_71, ee_46_74, ee_46_77, ee_46_77N, ee_46_78, ee_46_81, ee_46_84, ee_46_84N, ee_46_85, ee_46_88, ee_46_91, ee_46_94, ee_46_95, ee_46_98, ee_46_98N, ee_46_99, ee_46_100, ee_46_103, ee_46_103N, ee_46_104, ee_46_107, ee_46_110, ee_46_111, ee_46_111N, ee_46_112, ee_46_115, ee_46_116, ee_46_119, ee_46_119N, ee_46_120, ee_46_123, ee_46_124, W.F, F1, KK, y1, y2, y3, y4, e34, f1, f2, f3, f4, and_self, Option.bind_some, Option.toList, List.cons_append, List.nil_append, List.append_nil, if_true, if_false, Bool.false_eq_true, eq_self, not_true_eq_false, not_false_eq_true]
    · change nI P.length < 1 at y2
      refine ⟨h, ?_, by simp only [KK, eq_self, if_true, y1, if_false]; exact C, Off.rf⟩
      simp only [ee_46_0, ee_46_1, ee_46_4, ee_46_5, ee_46_6, ee_46_9, ee_46_11, ee_46_12, ee_46_12N, ee_46_13, ee_46_16, ee_46_19, ee_46_22, ee_46_23, ee_46_24, ee_46_27, ee_46_27N, ee_46_28, ee_46_31, ee_46_34, ee_46_37, ee_46_38, ee_46_39, ee_46_42, ee_46_44, ee_46_45, ee_46_46, ee_46_47, ee_46_50, ee_46_50N, ee_46_51, ee_46_52, ee_46_55, ee_46_58, ee_46_59, ee_46_62, ee_46_64, ee_46_65, ee_46_66, ee_46_67, ee_46_70, ee_46_70N, ee_46_71, ee_46_74, ee_46_77, ee_46_77N, ee_46_78, ee_46_81, ee_46_84, ee_46_84N, ee_46_85, ee_46_88, ee_46_91, ee_46_94, ee_46_95, ee_46_98, ee_46_98N, ee_46_99, ee_46_100, ee_46_103, ee_46_103N, ee_46_104, ee_46_107, ee_46_110, ee_46_111, ee_46_111N, ee_46_112, ee_46_115, ee_46_116, ee_46_119, ee_46_119N, ee_46_120, ee_46_123, ee_46_124, W.F, KK, y1, y2, Option.bind_some, Option.toList, List.cons_append, List.nil_append, List.append_nil, if_true, if_false, Bool.false_eq_true, eq_self, not_true_eq_false, not_false_eq_true]
    · change ¬ nI P.length < 1 at y2
      change ¬ nI P.length ≤ 9 at y3
      refine ⟨h, ?_, by simp only [KK, eq_self, if_true, y1, if_false]; exact C, Off.rf⟩
      simp only [ee_46_0, ee_46_1, ee_46_4, ee_46_5, ee_46_6, ee_46_9, ee_46_11, ee_46_12, ee_46_12N, ee_46_13, ee_46_16, ee_46_19, ee_46_22, ee_46_23, ee_46_24, ee_46_27, ee_46_27N, ee_46_28, ee_46_31, ee_46_34, ee_46_37, ee_46_38, ee_46_39, ee_46_42, ee_46_44, ee_46_45, ee_46_46, ee_46_47, ee_46_50, ee_46_50N, ee_46_51, ee_46_52, ee_46_55, ee_46_58, ee_46_59, ee_46_62, ee_46_64, ee_46_65, ee_46_66, ee_46_67, ee_46_70, ee_46_70N, ee_46_71, ee_46_74, ee_46_77, ee_46_77N, ee_46_78, ee_46_81, ee_46_84, ee_46_84N, ee_46_85, ee_46_88, ee_46_91, ee_46_94, ee_46_95, ee_46_98, ee_46_98N, ee_46_99, ee_46_100, ee_46_103, ee_46_103N, ee_46_104, ee_46_107, ee_46_110, ee_46_111, ee_46_111N, ee_46_112, ee_46_115, ee_46_116, ee_46_119, ee_46_119N, ee_46_120, ee_46_123, ee_46_124, W.F, KK, y1, y2, y3, Option.bind_some, Option.toList, List.cons_append, List.nil_append, List.append_nil, if_true, if_false, Bool.false_eq_true, eq_self, not_true_eq_false, not_false_eq_true]
  · refine ⟨h, ?_, by simp only [z0, z1, z2, if_false]; exact C, Off.rf⟩
    simp only [ee_46_0, ee_46_1, ee_46_4, ee_46_5, ee_46_6, ee_46_9, ee_46_11, ee_46_12, ee_46_12N, ee_46_13, ee_46_16, ee_46_19, ee_46_22, ee_46_23, ee_46_24, ee_46_27, ee_46_27N, ee_46_28, ee_46_31, ee_46_34, ee_46_37, ee_46_38, ee_46_39, ee_46_42, ee_46_44, ee_46_45, ee_46_46, ee_46_47, ee_46_50, ee_46_50N, ee_46_51, ee_46_52, ee_46_55, ee_46_58, ee_46_59, ee_46_62, ee_46_64, ee_46_65, ee_46_66, ee_46_67, ee_46_70, ee_46_70N, ee_46_71, ee_46_74, ee_46_77, ee_46_77N, ee_46_78, ee_46_81, ee_46_84, ee_46_84N, ee_46_85, ee_46_88, ee_46_91, ee_46_94, ee_46_95, ee_46_98, ee_46_98N, ee_46_99, ee_46_100, ee_46_103, ee_46_103N, ee_46_104, ee_46_107, ee_46_110, ee_46_111, ee_46_111N, ee_46_112, ee_46_115, ee_46_116, ee_46_119, ee_46_119N, ee_46_120, ee_46_123, ee_46_124, hk, z0, z1, z2, Option.bind_some, Option.toList, List.cons_append, List.nil_append, List.append_nil, if_true, if_false, Bool.false_eq_true, eq_self, not_true_eq_false, not_false_eq_true]
  · refine ⟨h, ?_, by simp only [z0, z1, z2, if_false]; exact C, Off.rf⟩
    simp only [ee_46_0, ee_46_1, ee_46_4, ee_46_5, ee_46_6, ee_46_9, ee_46_11, ee_46_12, ee_46_12N, ee_46_13, ee_46_16, ee_46_19, ee_46_22, ee_46_23, ee_46_24, ee_46_27, ee_46_27N, ee_46_28, ee_46_31, ee_46_34, ee_46_37, ee_46_38, ee_46_39, ee_46_42, ee_46_44, ee_46_45, ee_46_46, ee_46_47, ee_46_50, ee_46_50N, ee_46_51, ee_46_52, ee_46_55, ee_46_58, ee_46_59, ee_46_62, ee_46_64, ee_46_65, ee_46_66, ee_46_67, ee_46_70, ee_46_70N, ee_46_71, ee_46_74, ee_46_77, ee_46_77N, ee_46_78, ee_46_81, ee_46_84, ee_46_84N, ee_46_85, ee_46_88, ee_46_91, ee_46_94, ee_46_95, ee_46_98, ee_46_98N, ee_46_99, ee_46_100, ee_46_103, ee_46_103N, ee_46_104, ee_46_107, ee_46_110, ee_46_111, ee_46_111N, ee_46_112, ee_46_115, ee_46_116, ee_46_119, ee_46_119N, ee_46_120, ee_46_123, ee_46_124, hk, hk2, z0, z1, z2, Option.bind_some, Option.toList, List.cons_append, List.nil_append, List.append_nil, if_true, if_false, Bool.false_eq_true, eq_self, not_true_eq_false, not_false_eq_true]
/-- drop -/
def q_drop (g : gG) (k : Int32) : Int32 × gG := if k = 0 then (nI g.2.2.1.length, (g.1, g.2.1, [], g.2.2.2)) else if k = 1 then (nI g.2.2.2.1.length, (g.1, g.2.1, g.2.2.1, [], g.2.2.2.2)) else (-2, g)
theorem list0 {a : Nat} {ws : List (List Int32)} (A : ListAt h a ws) : pf h a 1 6 6 0 (.int 0) = some (h.set a (.inl (6, [.ref (a + 1), .int 0]))) ∧ ListAt (h.set a (.inl (6, [.ref (a + 1), .int 0]))) a [] := by
  obtain ⟨l, b1, b2, w0, w1, w2, T0, T1, T2, e⟩ := A
  refine ⟨pf_at b1 (show 1 < 2 by decide) rfl, by decide, set_at (at_lt b1), by rw [set_ne (by omega)]; exact b2, w0, w1, w2, T0.set (by omega) (by omega), T1.set (by omega) (by omega), T2.set (by omega) (by omega), rfl⟩
theorem c_drop {k : Int32} (C : CI h g P i0 i1 K) : ∃ h', go (d + 12) 47 0 [.ref 5, .int k, aU] [] h = some (some (.int (q_drop g k).1), h') ∧ CI h' (q_drop g k).2 P i0 i1 K ∧ Off h h' 5 96 := by
  have W := C.w
  obtain ⟨L, S, b5, b33, B, T, -⟩ := id W.1
  have e62 := m62 (d := d + 11) W (k := k)
  obtain ⟨⟨a1, a2, a3, a4, a5⟩, k1, k2, k3, k4, k5, k6⟩ := id B
  unfold q_drop
  by_cases z0 : k = 0
  · subst z0
    simp only [eq_self, if_true] at e62
    obtain ⟨p1, A1⟩ := list0 a3
    have O1 : Off h (h.set (12 + 1) (.inl (6, [.ref (12 + 1 + 1), .int 0]))) 13 21 := Off.set (by decide) (by decide)
    generalize h.set (12 + 1) (.inl (6, [.ref (12 + 1 + 1), .int 0])) = h1 at p1 A1 O1
    have B1 : BoardG h1 12 (g.1, g.2.1, [], g.2.2.2) := ⟨⟨by rw [O1.2 12 (by decide)]; exact a1, a2.off O1 (by decide), A1, a4.off O1 (by decide), a5.off O1 (by decide)⟩, k1, k2, k3, no_mem, k5, k6⟩
    have W1 := W.brd (O1.mono (by decide) (by decide)) B1
    obtain ⟨h2, e63, CI2, O2⟩ := m63w (d := d + 11) W1
    refine ⟨h2, ?_, by simp only [eq_self, if_true]; exact CI2, (O1.mono (by decide) (by decide)).trans (O2.mono (by decide) (by decide))⟩
    simp only [ee_47_0, ee_47_1, ee_47_4, ee_47_5, ee_47_6, ee_47_9, ee_47_11, ee_47_12, ee_47_12N, ee_47_13, ee_47_14, ee_47_17, ee_47_20, ee_47_21, ee_47_21N, ee_47_22, ee_47_23, ee_47_26, ee_47_27, ee_47_30, ee_47_30N, ee_47_31, ee_47_34, ee_47_35, W.F, KK, e62, p1, e63, W1.F.2.2.2.2.2.2.2.2.2.1, Option.bind_some, Option.toList, List.cons_append, List.nil_append, List.append_nil, if_true, if_false, Bool.false_eq_true, eq_self, not_true_eq_false, not_false_eq_true]
  · by_cases z1 : k = 1
    · subst z1
      simp only [KK, if_false] at e62
      obtain ⟨p1, A1⟩ := list0 a4
      have O1 : Off h (h.set (12 + 9) (.inl (6, [.ref (12 + 9 + 1), .int 0]))) 21 29 := Off.set (by decide) (by decide)
      generalize h.set (12 + 9) (.inl (6, [.ref (12 + 9 + 1), .int 0])) = h1 at p1 A1 O1
      have B1 : BoardG h1 12 (g.1, g.2.1, g.2.2.1, [], g.2.2.2.2) := ⟨⟨by rw [O1.2 12 (by decide)]; exact a1, a2.off O1 (by decide), a3.off O1 (by decide), A1, a5.off O1 (by decide)⟩, k1, k2, k3, k4, no_mem, k6⟩
      have W1 := W.brd (O1.mono (by decide) (by decide)) B1
      obtain ⟨h2, e63, CI2, O2⟩ := m63w (d := d + 11) W1
      refine ⟨h2, ?_, by simp only [KK, if_false, eq_self, if_true]; exact CI2, (O1.mono (by decide) (by decide)).trans (O2.mono (by decide) (by decide))⟩
      simp only [ee_47_0, ee_47_1, ee_47_4, ee_47_5, ee_47_6, ee_47_9, ee_47_11, ee_47_12, ee_47_12N, ee_47_13, ee_47_14, ee_47_17, ee_47_20, ee_47_21, ee_47_21N, ee_47_22, ee_47_23, ee_47_26, ee_47_27, ee_47_30, ee_47_30N, ee_47_31, ee_47_34, ee_47_35, W.F, KK, e62, p1, e63, W1.F.2.2.2.2.2.2.2.2.2.1, Option.bind_some, Option.toList, List.cons_append, List.nil_append, List.append_nil, if_true, if_false, Bool.false_eq_true, eq_self, not_true_eq_false, not_false_eq_true]
    · refine ⟨h, ?_, by simp only [z0, z1, if_false]; exact C, Off.rf⟩
      simp only [ee_47_0, ee_47_1, ee_47_4, ee_47_5, ee_47_6, ee_47_9, ee_47_11, ee_47_12, ee_47_12N, ee_47_13, ee_47_14, ee_47_17, ee_47_20, ee_47_21, ee_47_21N, ee_47_22, ee_47_23, ee_47_26, ee_47_27, ee_47_30, ee_47_30N, ee_47_31, ee_47_34, ee_47_35, z0, z1, Option.bind_some, Option.toList, List.cons_append, List.nil_append, List.append_nil, if_true, if_false, Bool.false_eq_true, eq_self, not_true_eq_false, not_false_eq_true]
end CM1
