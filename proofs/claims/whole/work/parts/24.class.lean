/-! the class as a whole: a game's state is side, cells, words, barred words, the rest -/
abbrev gG : Type := Nat × List Int32 × List (List Int32) × List (List Int32) × List Int32
abbrev isL (x : Int32) : Prop := 97 ≤ x ∧ x ≤ 122
def gOk (g : gG) : Prop := sideOk g.1 ∧ (∀ c, g.1 * g.1 ≤ c → g.2.1.getD c 0 = 0) ∧ (∀ c, g.2.1.getD c 0 = 0 ∨ isL (g.2.1.getD c 0)) ∧ (∀ w ∈ g.2.2.1, 3 ≤ w.length ∧ w.length ≤ 4 ∧ ∀ x ∈ w, isL x) ∧ (∀ w ∈ g.2.2.2.1, 2 ≤ w.length ∧ w.length ≤ 4 ∧ ∀ x ∈ w, isL x) ∧ (1 ≤ g.2.2.2.2.length ∧ g.2.2.2.2.length ≤ 9 ∧ ∀ x ∈ g.2.2.2.2, isL x)
def BoardG (h : aH) (b : Nat) (g : gG) : Prop := BoardAt h b g.1 g.2.1 g.2.2.1 g.2.2.2.1 g.2.2.2.2 ∧ gOk g
def wObj (K : Int32) : aC := .inl (7, [.ref 6, .ref 9, .ref 12, .ref 33, .ref 34, .ref 36, .ref 38, .ref 44, .int K])
/-- all but what the searches keep -/
def CB (h : aH) (g : gG) (P : List Int32) (i0 i1 : gG) (K : Int32) : Prop := LatAt h ∧ (h[2]? = some (.inr (.inl (2, [3, 2, 1]))) ∧ h[3]? = some (.inr (.inl (2, [4, 4, 9])))) ∧ h[5]? = some (wObj K) ∧ h[33]? = some (.inr (.inr (0, [some 54, some 75]))) ∧ BoardG h 12 g ∧ (TextAt h 34 16 P ∧ ∀ x ∈ P, isL x) ∧ (∃ s c, SquareAt h 36 s c) ∧ BoardG h 54 i0 ∧ BoardG h 75 i1
def CrossAt (h : aH) (kn : Int32) (q : cS) : Prop := (∃ s c, SquareAt h 42 s c) ∧ h[38]? = some (crObj kn q.1.1 q.1.2.1 q.1.2.2.1) ∧ (h[39]? = some (ints q.2.1) ∧ q.2.1.length = 3) ∧ (h[40]? = some (ints q.2.2) ∧ q.2.2.length = 3) ∧ (h[41]? = some (ints q.1.2.2.2) ∧ q.1.2.2.2.length = 3)
def GoodAt (h : aH) (kn : Int32) (q : gS) : Prop := (∃ s c, SquareAt h 48 s c) ∧ h[44]? = some (gObj kn q.1.1 q.1.2.1) ∧ (h[45]? = some (ints q.2.1) ∧ q.2.1.length = 3) ∧ (h[46]? = some (ints q.2.2) ∧ q.2.2.length = 3) ∧ (h[47]? = some (ints q.1.2.2.1) ∧ q.1.2.2.1.length = 3) ∧ (∃ s c, SquareAt h 50 s c) ∧ SquareAt h 52 q.1.2.2.2.1 q.1.2.2.2.2
def mostOf (g : gG) (m w : Int32) (fp ps : List Int32) : cS := walk g.1 (fun _ => true) meetC g.2.2.1 0 g.2.1 ((0, m, w, fp), ps, [0, 0, 0])
def goodOf (g : gG) (f : Int32) (r : List Int32 × Nat × List Int32) (ps : List Int32) : gS := walk g.1 (fun cs => !spoil g.1 g.2.2.1 g.2.2.2.1 cs) (meetG g.1 g.2.2.1 g.2.2.2.1 g.2.2.2.2) g.2.2.1 0 g.2.1 ((0, f, r), ps, [0, 0, 0])
def CI (h : aH) (g : gG) (P : List Int32) (i0 i1 : gG) (K : Int32) : Prop := CB h g P i0 i1 K ∧ (∃ kn q, CrossAt h kn q ∧ (kn = 0 ∨ (kn = 1 ∧ ∃ m w fp ps, ps.length = 3 ∧ q = mostOf g m w fp ps))) ∧ (∃ kn q, GoodAt h kn q ∧ (kn = 0 ∨ (kn = 1 ∧ ∃ f r ps, ps.length = 3 ∧ q = goodOf g f r ps)))
section CL2
variable {h h' : aH} {g g' i0 i1 : gG} {P P' : List Int32} {K kn kg : Int32} {lo hi b d : Nat} {q : cS} {r : gS}
theorem BoardG.off (O : Off h h' lo hi) (A : BoardG h b g) (hd : b + 21 ≤ lo ∨ hi ≤ b) : BoardG h' b g := ⟨A.1.off O hd, A.2⟩
theorem CrossAt.off (O : Off h h' lo hi) (A : CrossAt h kn q) (hd : 44 ≤ lo ∨ hi ≤ 38) : CrossAt h' kn q := by
  obtain ⟨⟨s, c, Q⟩, b1, ⟨b2, l2⟩, ⟨b3, l3⟩, b4, l4⟩ := A
  exact ⟨⟨s, c, Q.off O (by omega)⟩, by rw [O.2 38 (by omega)]; exact b1, ⟨by rw [O.2 39 (by omega)]; exact b2, l2⟩, ⟨by rw [O.2 40 (by omega)]; exact b3, l3⟩, by rw [O.2 41 (by omega)]; exact b4, l4⟩
theorem GoodAt.off (O : Off h h' lo hi) (A : GoodAt h kg r) (hd : 54 ≤ lo ∨ hi ≤ 44) : GoodAt h' kg r := by
  obtain ⟨⟨s, c, Q⟩, b1, ⟨b2, l2⟩, ⟨b3, l3⟩, ⟨b4, l4⟩, ⟨s2, c2, Q2⟩, Q3⟩ := A
  exact ⟨⟨s, c, Q.off O (by omega)⟩, by rw [O.2 44 (by omega)]; exact b1, ⟨by rw [O.2 45 (by omega)]; exact b2, l2⟩, ⟨by rw [O.2 46 (by omega)]; exact b3, l3⟩, ⟨by rw [O.2 47 (by omega)]; exact b4, l4⟩, ⟨s2, c2, Q2.off O (by omega)⟩, Q3.off O (by omega)⟩
theorem CB.srch (O : Off h h' 38 54) (C : CB h g P i0 i1 K) : CB h' g P i0 i1 K := by
  obtain ⟨L, ⟨s2, s3⟩, b5, b33, B, T, ⟨s, c, Q⟩, B0, B1⟩ := C
  exact ⟨L.off O (by decide), ⟨by rw [O.2 2 (by decide)]; exact s2, by rw [O.2 3 (by decide)]; exact s3⟩, by rw [O.2 5 (by decide)]; exact b5, by rw [O.2 33 (by decide)]; exact b33, B.off O (by decide), ⟨T.1.off O (by decide), T.2⟩, ⟨s, c, Q.off O (by decide)⟩, B0.off O (by decide), B1.off O (by decide)⟩
theorem CB.brd (O : Off h h' 12 33) (A : BoardG h' 12 g') (C : CB h g P i0 i1 K) : CB h' g' P i0 i1 K := by
  obtain ⟨L, ⟨s2, s3⟩, b5, b33, B, T, ⟨s, c, Q⟩, B0, B1⟩ := C
  exact ⟨L.off O (by decide), ⟨by rw [O.2 2 (by decide)]; exact s2, by rw [O.2 3 (by decide)]; exact s3⟩, by rw [O.2 5 (by decide)]; exact b5, by rw [O.2 33 (by decide)]; exact b33, A, ⟨T.1.off O (by decide), T.2⟩, ⟨s, c, Q.off O (by decide)⟩, B0.off O (by decide), B1.off O (by decide)⟩
theorem CB.pad (O : Off h h' 34 36) (T' : TextAt h' 34 16 P') (hP : ∀ x ∈ P', isL x) (C : CB h g P i0 i1 K) : CB h' g P' i0 i1 K := by
  obtain ⟨L, ⟨s2, s3⟩, b5, b33, B, T, ⟨s, c, Q⟩, B0, B1⟩ := C
  exact ⟨L.off O (by decide), ⟨by rw [O.2 2 (by decide)]; exact s2, by rw [O.2 3 (by decide)]; exact s3⟩, by rw [O.2 5 (by decide)]; exact b5, by rw [O.2 33 (by decide)]; exact b33, B.off O (by decide), ⟨T', hP⟩, ⟨s, c, Q.off O (by decide)⟩, B0.off O (by decide), B1.off O (by decide)⟩
theorem CI.pad (O : Off h h' 34 36) (T' : TextAt h' 34 16 P') (hP : ∀ x ∈ P', isL x) (C : CI h g P i0 i1 K) : CI h' g P' i0 i1 K := by
  obtain ⟨C, ⟨kn, q, X, hx⟩, kg, r, Y, hy⟩ := C
  exact ⟨C.pad O T' hP, ⟨kn, q, X.off O (by decide), hx⟩, kg, r, Y.off O (by decide), hy⟩
theorem g5 (b5 : h[5]? = some (wObj K)) : gf h 5 0 7 7 = some (.ref 6) ∧ gf h 5 1 7 7 = some (.ref 9) ∧ gf h 5 2 7 7 = some (.ref 12) ∧ gf h 5 3 7 7 = some (.ref 33) ∧ gf h 5 4 7 7 = some (.ref 34) ∧ gf h 5 5 7 7 = some (.ref 36) ∧ gf h 5 6 7 7 = some (.ref 38) ∧ gf h 5 7 7 7 = some (.ref 44) ∧ gf h 5 8 7 7 = some (.int K) ∧ isC h 5 7 = true := by
  refine ⟨?_, ?_, ?_, ?_, ?_, ?_, ?_, ?_, ?_, ?_⟩
  all_goals first | (unfold gf; rw [b5]; rfl) | (unfold isC; rw [b5]; rfl)
/-- forgetLayings -/
theorem m63 (C : CB h g P i0 i1 K) (X : CrossAt h kn q) (Y : GoodAt h kg r) : ∃ h', go d 63 0 [.ref 5] [] h = some (none, h') ∧ CI h' g P i0 i1 K ∧ Off h h' 38 54 := by
  obtain ⟨⟨s, c, Q⟩, b1, ⟨b2, l2⟩, ⟨b3, l3⟩, b4, l4⟩ := id X
  obtain ⟨⟨s', c', Q'⟩, a1, ⟨a2, k2⟩, ⟨a3, k3⟩, ⟨a4, k4⟩, ⟨s2, c2, Q2⟩, Q3⟩ := id Y
  obtain ⟨f0, f1, f2, f3, f4, f5, f6, f7, f8, ic⟩ := g5 C.2.2.1
  have p1 : pf h 38 6 1 1 1 (.int 0) = some (h.set 38 (crObj 0 q.1.1 q.1.2.1 q.1.2.2.1)) := pf_at b1 (show 6 < 9 by decide) rfl
  have O1 : Off h (h.set 38 (crObj 0 q.1.1 q.1.2.1 q.1.2.2.1)) 38 44 := Off.set (by decide) (by decide)
  have X1 : CrossAt (h.set 38 (crObj 0 q.1.1 q.1.2.1 q.1.2.2.1)) 0 q := ⟨⟨s, c, Q.set (by decide) (by decide)⟩, set_at (at_lt b1), ⟨by rw [set_ne (by decide)]; exact b2, l2⟩, ⟨by rw [set_ne (by decide)]; exact b3, l3⟩, by rw [set_ne (by decide)]; exact b4, l4⟩
  have Y1 := Y.off O1 (by decide)
  have f7' : gf (h.set 38 (crObj 0 q.1.1 q.1.2.1 q.1.2.2.1)) 5 7 7 7 = some (.ref 44) := by unfold gf; rw [set_ne (by decide), C.2.2.1]; rfl
  generalize h.set 38 (crObj 0 q.1.1 q.1.2.1 q.1.2.2.1) = h1 at p1 O1 X1 Y1 f7'
  obtain ⟨⟨s', c', Q'⟩, a1, ⟨a2, k2⟩, ⟨a3, k3⟩, ⟨a4, k4⟩, ⟨s2, c2, Q2⟩, Q3⟩ := id Y1
  have p2 : pf h1 44 6 2 2 1 (.int 0) = some (h1.set 44 (gObj 0 r.1.1 r.1.2.1)) := pf_at a1 (show 6 < 10 by decide) rfl
  have O2 : Off h1 (h1.set 44 (gObj 0 r.1.1 r.1.2.1)) 44 54 := Off.set (by decide) (by decide)
  have Y2 : GoodAt (h1.set 44 (gObj 0 r.1.1 r.1.2.1)) 0 r := ⟨⟨s', c', Q'.set (by decide) (by decide)⟩, set_at (at_lt a1), ⟨by rw [set_ne (by decide)]; exact a2, k2⟩, ⟨by rw [set_ne (by decide)]; exact a3, k3⟩, ⟨by rw [set_ne (by decide)]; exact a4, k4⟩, ⟨s2, c2, Q2.set (by decide) (by decide)⟩, Q3.set (by decide) (by decide)⟩
  have O3 : Off h (h1.set 44 (gObj 0 r.1.1 r.1.2.1)) 38 54 := (O1.mono (by decide) (by decide)).trans (O2.mono (by decide) (by decide))
  refine ⟨_, ?_, ⟨C.srch O3, ⟨0, q, X1.off O2 (by decide), Or.inl rfl⟩, 0, r, Y2, Or.inl rfl⟩, O3⟩
  simp only [ee_63_0, ee_63_0N, ee_63_1, ee_63_4, ee_63_5, ee_63_8, ee_63_8N, ee_63_9, ee_63_12, ee_63_13, ee_63_16, f6, p1, f7', p2, Option.bind_some, Option.toList, List.cons_append, List.nil_append, List.append_nil, if_true, if_false, Bool.false_eq_true, eq_self, not_true_eq_false, not_false_eq_true]
/-- isLetter, isPlaceAsked, listOf, hasCell -/
theorem m60 {x : Int32} : go d 60 0 [.int x] [] h = some (some (.int (if 97 ≤ x ∧ x ≤ 122 then 1 else 0)), h) := by
  by_cases h1 : x < 97
  · have : ¬ (97 ≤ x ∧ x ≤ 122) := fun z => absurd z.1 (Int32.not_le.mpr h1)
    simp only [ee_60_0, ee_60_1, ee_60_3, ee_60_6, ee_60_7, ee_60_9, ee_60_12, ee_60_13, ee_60_16, ee_60_17, ee_60_17T, h1, this, Option.bind_some, Option.toList, List.cons_append, List.nil_append, List.append_nil, if_true, if_false, Bool.false_eq_true, eq_self, not_true_eq_false, not_false_eq_true]
  · have h1' : 97 ≤ x := Int32.not_lt.mp h1
    by_cases h2 : x ≤ 122
    · have h2' : ¬ 122 < x := Int32.not_lt.mpr h2
      simp only [ee_60_0, ee_60_1, ee_60_3, ee_60_6, ee_60_7, ee_60_9, ee_60_12, ee_60_13, ee_60_16, ee_60_17, ee_60_17T, h1, h2, h2', h1', and_self, Option.bind_some, Option.toList, List.cons_append, List.nil_append, List.append_nil, if_true, if_false, Bool.false_eq_true, eq_self, not_true_eq_false, not_false_eq_true]
    · have h2' : 122 < x := Int32.not_le.mp h2
      simp only [ee_60_0, ee_60_1, ee_60_3, ee_60_6, ee_60_7, ee_60_9, ee_60_12, ee_60_13, ee_60_16, ee_60_17, ee_60_17T, h1, h2, h2', h1', and_false, Option.bind_some, Option.toList, List.cons_append, List.nil_append, List.append_nil, if_true, if_false, Bool.false_eq_true, eq_self, not_true_eq_false, not_false_eq_true]
theorem m61 {x : Int32} : go d 61 0 [.int x] [] h = some (some (.int (if 10 ≤ x ∧ x < 13 then 1 else 0)), h) := by
  by_cases h1 : x < 10
  · have : ¬ (10 ≤ x ∧ x < 13) := fun z => absurd z.1 (Int32.not_le.mpr h1)
    simp only [ee_61_0, ee_61_1, ee_61_3, ee_61_6, ee_61_7, ee_61_9, ee_61_12, ee_61_13, ee_61_16, ee_61_17, ee_61_17T, h1, this, Option.bind_some, Option.toList, List.cons_append, List.nil_append, List.append_nil, if_true, if_false, Bool.false_eq_true, eq_self, not_true_eq_false, not_false_eq_true]
  · have h1' : 10 ≤ x := Int32.not_lt.mp h1
    by_cases h2 : x < 13
    · have h3 : ¬ 13 ≤ x := Int32.not_le.mpr h2
      simp only [ee_61_0, ee_61_1, ee_61_3, ee_61_6, ee_61_7, ee_61_9, ee_61_12, ee_61_13, ee_61_16, ee_61_17, ee_61_17T, h1, h2, h3, h1', and_self, Option.bind_some, Option.toList, List.cons_append, List.nil_append, List.append_nil, if_true, if_false, Bool.false_eq_true, eq_self, not_true_eq_false, not_false_eq_true]
    · have h3 : 13 ≤ x := Int32.not_lt.mp h2
      simp only [ee_61_0, ee_61_1, ee_61_3, ee_61_6, ee_61_7, ee_61_9, ee_61_12, ee_61_13, ee_61_16, ee_61_17, ee_61_17T, h1, h2, h3, h1', and_false, Option.bind_some, Option.toList, List.cons_append, List.nil_append, List.append_nil, if_true, if_false, Bool.false_eq_true, eq_self, not_true_eq_false, not_false_eq_true]
theorem m12 {s : Nat} {x : Int32} (hs : sideOk s) (L : LatAt h) : go d 12 0 [.ref (latA s), .int x] [] h = some (some (.int (if x < 0 ∨ nI (s * s) ≤ x then 0 else 1)), h) := by
  by_cases h1 : x < 0
  · simp only [ee_12_0, ee_12_1, ee_12_4, ee_12_5, ee_12_5N, ee_12_6, ee_12_9, ee_12_12, ee_12_13, ee_12_16, ee_12_17, ee_12_17T, L.f1 hs, h1, Option.bind_some, Option.toList, List.cons_append, List.nil_append, List.append_nil, if_true, if_false, Bool.false_eq_true, eq_self, not_true_eq_false, not_false_eq_true, true_or]
  · by_cases h2 : nI (s * s) ≤ x
    · simp only [ee_12_0, ee_12_1, ee_12_4, ee_12_5, ee_12_5N, ee_12_6, ee_12_9, ee_12_12, ee_12_13, ee_12_16, ee_12_17, ee_12_17T, L.f1 hs, h1, h2, Option.bind_some, Option.toList, List.cons_append, List.nil_append, List.append_nil, if_true, if_false, Bool.false_eq_true, eq_self, not_true_eq_false, not_false_eq_true, or_true]
    · simp only [ee_12_0, ee_12_1, ee_12_4, ee_12_5, ee_12_5N, ee_12_6, ee_12_9, ee_12_12, ee_12_13, ee_12_16, ee_12_17, ee_12_17T, L.f1 hs, h1, h2, Option.bind_some, Option.toList, List.cons_append, List.nil_append, List.append_nil, if_true, if_false, Bool.false_eq_true, eq_self, not_true_eq_false, not_false_eq_true, or_self]
theorem m13x {s : Nat} {x : Int32} (hs : sideOk s) (L : LatAt h) : go d 13 0 [.ref (latA s), .int x] [] h = some (some (.int (if x < 0 ∨ nI (8 * s * s) ≤ x then 0 else 1)), h) := by
  by_cases h1 : x < 0
  · simp only [ee_13_0, ee_13_1, ee_13_4, ee_13_5, ee_13_5N, ee_13_6, ee_13_9, ee_13_12, ee_13_13, ee_13_16, ee_13_17, ee_13_17T, L.f2 hs, h1, Option.bind_some, Option.toList, List.cons_append, List.nil_append, List.append_nil, if_true, if_false, Bool.false_eq_true, eq_self, not_true_eq_false, not_false_eq_true, true_or]
  · by_cases h2 : nI (8 * s * s) ≤ x
    · simp only [ee_13_0, ee_13_1, ee_13_4, ee_13_5, ee_13_5N, ee_13_6, ee_13_9, ee_13_12, ee_13_13, ee_13_16, ee_13_17, ee_13_17T, L.f2 hs, h1, h2, Option.bind_some, Option.toList, List.cons_append, List.nil_append, List.append_nil, if_true, if_false, Bool.false_eq_true, eq_self, not_true_eq_false, not_false_eq_true, or_true]
    · simp only [ee_13_0, ee_13_1, ee_13_4, ee_13_5, ee_13_5N, ee_13_6, ee_13_9, ee_13_12, ee_13_13, ee_13_16, ee_13_17, ee_13_17T, L.f2 hs, h1, h2, Option.bind_some, Option.toList, List.cons_append, List.nil_append, List.append_nil, if_true, if_false, Bool.false_eq_true, eq_self, not_true_eq_false, not_false_eq_true, or_self]
/-- searches in any state -/
def CW (h : aH) (g : gG) (P : List Int32) (i0 i1 : gG) (K : Int32) : Prop := CB h g P i0 i1 K ∧ (∃ kn q, CrossAt h kn q) ∧ (∃ kn q, GoodAt h kn q)
theorem CI.w (C : CI h g P i0 i1 K) : CW h g P i0 i1 K := by
  obtain ⟨C, ⟨kn, q, X, hx⟩, kg, r, Y, hy⟩ := C
  exact ⟨C, ⟨kn, q, X⟩, kg, r, Y⟩
theorem CW.brd (O : Off h h' 12 33) (A : BoardG h' 12 g') (C : CW h g P i0 i1 K) : CW h' g' P i0 i1 K := by
  obtain ⟨C, ⟨kn, q, X⟩, kg, r, Y⟩ := C
  exact ⟨C.brd O A, ⟨kn, q, X.off O (by decide)⟩, kg, r, Y.off O (by decide)⟩
theorem CW.pad (O : Off h h' 34 36) (T' : TextAt h' 34 16 P') (hP : ∀ x ∈ P', isL x) (C : CW h g P i0 i1 K) : CW h' g P' i0 i1 K := by
  obtain ⟨C, ⟨kn, q, X⟩, kg, r, Y⟩ := C
  exact ⟨C.pad O T' hP, ⟨kn, q, X.off O (by decide)⟩, kg, r, Y.off O (by decide)⟩
theorem m63w (C : CW h g P i0 i1 K) : ∃ h', go d 63 0 [.ref 5] [] h = some (none, h') ∧ CI h' g P i0 i1 K ∧ Off h h' 38 54 := by
  obtain ⟨C, ⟨kn, q, X⟩, kg, r, Y⟩ := C
  exact m63 C X Y
theorem CW.F (C : CW h g P i0 i1 K) : gf h 5 0 7 7 = some (.ref 6) ∧ gf h 5 1 7 7 = some (.ref 9) ∧ gf h 5 2 7 7 = some (.ref 12) ∧ gf h 5 3 7 7 = some (.ref 33) ∧ gf h 5 4 7 7 = some (.ref 34) ∧ gf h 5 5 7 7 = some (.ref 36) ∧ gf h 5 6 7 7 = some (.ref 38) ∧ gf h 5 7 7 7 = some (.ref 44) ∧ gf h 5 8 7 7 = some (.int K) ∧ isC h 5 7 = true ∧
    (gf h 12 0 0 0 = some (.ref 31) ∧ gf h 12 1 0 0 = some (.ref 13) ∧ gf h 12 2 0 0 = some (.ref 21) ∧ gf h 12 3 0 0 = some (.ref 29) ∧ isC h 12 0 = true ∧ isC h 54 0 = true ∧ isC h 75 0 = true) ∧
    (gf h 31 0 4 4 = some (.ref 32) ∧ gf h 31 1 4 4 = some (.ref (latA g.1)) ∧ isC h 31 4 = true ∧ isC h 36 4 = true) ∧
    (gf h (latA g.1) 0 3 3 = some (.int (nI g.1)) ∧ gf h (latA g.1) 1 3 3 = some (.int (nI (g.1 * g.1))) ∧ gf h (latA g.1) 2 3 3 = some (.int (nI (8 * g.1 * g.1))) ∧ isC h (latA g.1) 3 = true) ∧
    (gf h 13 1 6 6 = some (.int (nI g.2.2.1.length)) ∧ isC h 13 6 = true ∧ gf h 21 1 6 6 = some (.int (nI g.2.2.2.1.length)) ∧ isC h 21 6 = true) ∧
    (gf h 29 0 5 5 = some (.ref 30) ∧ gf h 29 1 5 5 = some (.int (nI g.2.2.2.2.length)) ∧ isC h 29 5 = true ∧ gf h 34 0 5 5 = some (.ref 35) ∧ gf h 34 1 5 5 = some (.int (nI P.length)) ∧ isC h 34 5 = true) ∧
    (isC h 38 1 = true ∧ isC h 44 2 = true) ∧ (ia h 2 0 = some 3 ∧ ia h 2 1 = some 2 ∧ ia h 2 2 = some 1) ∧ (ia h 3 0 = some 4 ∧ ia h 3 1 = some 4 ∧ ia h 3 2 = some 9) := by
  obtain ⟨C, ⟨kn, q, X⟩, kg, r, Y⟩ := C
  obtain ⟨L, ⟨s2, s3⟩, b5, b33, B, T, ⟨s, c, Q⟩, B0, B1⟩ := C
  obtain ⟨f0, f1, f2, f3, f4, f5, f6, f7, f8, ic⟩ := g5 b5
  have hs := B.2.1
  refine ⟨f0, f1, f2, f3, f4, f5, f6, f7, f8, ic, ⟨B.1.f0, B.1.f1, B.1.f2, B.1.f3, B.1.isc, B0.1.isc, B1.1.isc⟩, ⟨B.1.2.1.f0, B.1.2.1.f1, B.1.2.1.isc, Q.isc⟩, ⟨L.f0 hs, L.f1 hs, L.f2 hs, L.isc hs⟩, ⟨B.1.2.2.1.f1, B.1.2.2.1.isc, B.1.2.2.2.1.f1, B.1.2.2.2.1.isc⟩, ⟨B.1.2.2.2.2.f0, B.1.2.2.2.2.f1, B.1.2.2.2.2.isc, T.1.f0, T.1.f1, T.1.isc⟩, ⟨?_, ?_⟩, ⟨?_, ?_, ?_⟩, ?_, ?_, ?_⟩
  · unfold isC; rw [X.2.1]; rfl
  · unfold isC; rw [Y.2.1]; rfl
  · unfold ia; rw [s2]; decide +kernel
  · unfold ia; rw [s2]; decide +kernel
  · unfold ia; rw [s2]; decide +kernel
  · unfold ia; rw [s3]; decide +kernel
  · unfold ia; rw [s3]; decide +kernel
  · unfold ia; rw [s3]; decide +kernel
theorem KK : (¬ (1 : Int32) = 0 ∧ ¬ (0 : Int32) = 1 ∧ ¬ (2 : Int32) = 0 ∧ ¬ (0 : Int32) = 2 ∧ ¬ (2 : Int32) = 1 ∧ ¬ (1 : Int32) = 2) ∧ (¬ (0 : Int32) < 0 ∧ ¬ (1 : Int32) < 0 ∧ ¬ (2 : Int32) < 0 ∧ (0 : Int32) ≤ 2 ∧ (1 : Int32) ≤ 2 ∧ (2 : Int32) ≤ 2 ∧ (0 : Int32) ≤ 1 ∧ (1 : Int32) ≤ 1 ∧ ¬ (2 : Int32) ≤ 1) ∧ (¬ (3 : Int32) < 3 ∧ (3 : Int32) ≤ 4 ∧ ¬ (4 : Int32) < 3 ∧ (4 : Int32) ≤ 4 ∧ ¬ (4 : Int32) = 3) := by decide
theorem m62 (C : CW h g P i0 i1 K) {k : Int32} : go d 62 0 [.ref 5, .int k] [] h = some (some (.ref (if k = 0 then 13 else 21)), h) := by
  by_cases hk : k = 0 <;> simp only [ee_62_0, ee_62_1, ee_62_4, ee_62_4N, ee_62_5, ee_62_8, ee_62_11, ee_62_14, ee_62_14N, ee_62_15, ee_62_18, ee_62_21, ee_62_21N, hk, C.F, Option.bind_some, Option.toList, List.cons_append, List.nil_append, List.append_nil, if_true, if_false, Bool.false_eq_true, eq_self, not_true_eq_false, not_false_eq_true]
/-- side -/
def q_side (g : gG) (v : Int32) : Int32 × gG := if v = 3 then (nI g.1, (3, List.replicate 16 0, g.2.2)) else if v = 4 then (nI g.1, (4, List.replicate 16 0, g.2.2)) else (-2, g)
theorem getD_rep (n c : Nat) : (List.replicate n (0 : Int32)).getD c 0 = 0 := rep_getD n c
theorem c_side {v : Int32} (C : CI h g P i0 i1 K) : ∃ h', go (d + 12) 41 0 [.ref 5, .int v, aU] [] h = some (some (.int (q_side g v).1), h') ∧ CI h' (q_side g v).2 P i0 i1 K ∧ Off h h' 5 96 := by
  have W := C.w
  obtain ⟨L, S, b5, b33, B, T, -⟩ := id W.1
  have main : ∀ s2, sideOk s2 → ∃ h1 h', go (d + 11) 22 0 [.ref 31, .ref (latA s2)] [] h = some (none, h1) ∧ isC h1 5 7 = true ∧ go (d + 11) 63 0 [.ref 5] [] h1 = some (none, h') ∧ CI h' (s2, List.replicate 16 0, g.2.2) P i0 i1 K ∧ Off h h' 5 96 := by
    intro s2 hs2
    have e22 := m22 (d := d + 10) (s2 := s2) B.1.2.1
    have O1 : Off h (sqSet h 31 s2 (List.replicate 16 0)) 31 33 := sqSet_off
    have Q1 : SquareAt (sqSet h 31 s2 (List.replicate 16 0)) 31 s2 (List.replicate 16 0) := sqSet_at B.1.2.1 rfl
    generalize sqSet h 31 s2 (List.replicate 16 0) = h1 at e22 O1 Q1
    obtain ⟨a1, a2, a3, a4, a5⟩ := B.1
    obtain ⟨k1, k2, k3, k4, k5, k6⟩ := B.2
    have B1 : BoardG h1 12 (s2, List.replicate 16 0, g.2.2) := ⟨⟨by rw [O1.2 12 (by decide)]; exact a1, Q1, a3.off O1 (by decide), a4.off O1 (by decide), a5.off O1 (by decide)⟩, hs2, fun c _ => getD_rep 16 c, fun c => Or.inl (getD_rep 16 c), k4, k5, k6⟩
    have C1 := W.brd (O1.mono (by decide) (by decide)) B1
    obtain ⟨h2, e63, CI2, O2⟩ := m63w (d := d + 11) C1
    exact ⟨h1, h2, e22, C1.F.2.2.2.2.2.2.2.2.2.1, e63, CI2, (O1.mono (by decide) (by decide)).trans (O2.mono (by decide) (by decide))⟩
  unfold q_side
  by_cases h3 : v = 3
  · subst h3
    obtain ⟨h1, h', e1, e2, e3, r1, r2⟩ := main 3 (Or.inl rfl)
    refine ⟨h', ?_, by simpa using r1, r2⟩
    have ea : latA 3 = 6 := rfl
    rw [ea] at e1
    simp only [ee_41_0, ee_41_1, ee_41_2, ee_41_5, ee_41_6, ee_41_7, ee_41_10, ee_41_12, ee_41_13, ee_41_13N, ee_41_14, ee_41_17, ee_41_20, ee_41_23, ee_41_26, ee_41_27, ee_41_27N, ee_41_28, ee_41_31, ee_41_34, ee_41_35, ee_41_36, ee_41_39, ee_41_39N, ee_41_40, ee_41_43, ee_41_46, ee_41_46N, ee_41_47, ee_41_50, ee_41_53, ee_41_53N, ee_41_54, ee_41_57, ee_41_58, KK, W.F, e1, e2, e3, Option.bind_some, Option.toList, List.cons_append, List.nil_append, List.append_nil, if_true, if_false, Bool.false_eq_true, eq_self, not_true_eq_false, not_false_eq_true]
  · by_cases h4 : v = 4
    · subst h4
      obtain ⟨h1, h', e1, e2, e3, r1, r2⟩ := main 4 (Or.inr rfl)
      refine ⟨h', ?_, by simpa using r1, r2⟩
      have ea : latA 4 = 9 := rfl
      rw [ea] at e1
      simp only [ee_41_0, ee_41_1, ee_41_2, ee_41_5, ee_41_6, ee_41_7, ee_41_10, ee_41_12, ee_41_13, ee_41_13N, ee_41_14, ee_41_17, ee_41_20, ee_41_23, ee_41_26, ee_41_27, ee_41_27N, ee_41_28, ee_41_31, ee_41_34, ee_41_35, ee_41_36, ee_41_39, ee_41_39N, ee_41_40, ee_41_43, ee_41_46, ee_41_46N, ee_41_47, ee_41_50, ee_41_53, ee_41_53N, ee_41_54, ee_41_57, ee_41_58, KK, W.F, e1, e2, e3, Option.bind_some, Option.toList, List.cons_append, List.nil_append, List.append_nil, if_true, if_false, Bool.false_eq_true, eq_self, not_true_eq_false, not_false_eq_true]
    · refine ⟨h, ?_, by simp only [h3, h4, if_false]; exact C, Off.rf⟩
      by_cases n1 : v < 3
      · simp only [ee_41_0, ee_41_1, ee_41_2, ee_41_5, ee_41_6, ee_41_7, ee_41_10, ee_41_12, ee_41_13, ee_41_13N, ee_41_14, ee_41_17, ee_41_20, ee_41_23, ee_41_26, ee_41_27, ee_41_27N, ee_41_28, ee_41_31, ee_41_34, ee_41_35, ee_41_36, ee_41_39, ee_41_39N, ee_41_40, ee_41_43, ee_41_46, ee_41_46N, ee_41_47, ee_41_50, ee_41_53, ee_41_53N, ee_41_54, ee_41_57, ee_41_58, n1, h3, h4, Option.bind_some, Option.toList, List.cons_append, List.nil_append, List.append_nil, if_true, if_false, Bool.false_eq_true, eq_self, not_true_eq_false, not_false_eq_true]
      · have n2 : ¬ v ≤ 4 := by
          have a1 : (3 : Int32).toInt ≤ v.toInt := Int32.le_iff_toInt_le.mp (Int32.not_lt.mp n1)
          have a2 : ¬ v.toInt = 3 := fun z => h3 (Int32.toInt_inj.mp z)
          have a3 : ¬ v.toInt = 4 := fun z => h4 (Int32.toInt_inj.mp z)
          have e3 : (3 : Int32).toInt = 3 := by decide
          rw [Int32.le_iff_toInt_le]
          have e4 : (4 : Int32).toInt = 4 := by decide
          omega
        simp only [ee_41_0, ee_41_1, ee_41_2, ee_41_5, ee_41_6, ee_41_7, ee_41_10, ee_41_12, ee_41_13, ee_41_13N, ee_41_14, ee_41_17, ee_41_20, ee_41_23, ee_41_26, ee_41_27, ee_41_27N, ee_41_28, ee_41_31, ee_41_34, ee_41_35, ee_41_36, ee_41_39, ee_41_39N, ee_41_40, ee_41_43, ee_41_46, ee_41_46N, ee_41_47, ee_41_50, ee_41_53, ee_41_53N, ee_41_54, ee_41_57, ee_41_58, n1, n2, h3, h4, Option.bind_some, Option.toList, List.cons_append, List.nil_append, List.append_nil, if_true, if_false, Bool.false_eq_true, eq_self, not_true_eq_false, not_false_eq_true]
end CL2
