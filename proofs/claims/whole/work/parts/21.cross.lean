/-! the search for the layings that cross most -/
def bc1 (x : Int32) : Int32 := x - ((x.toUInt32 >>> ((1 : Int32).toUInt32 &&& Int32.toUInt32 31)).toInt32 &&& 1431655765)
def bc2 (x : Int32) : Int32 := (x &&& 858993459) + ((x.toUInt32 >>> ((2 : Int32).toUInt32 &&& Int32.toUInt32 31)).toInt32 &&& 858993459)
def bc3 (x : Int32) : Int32 := (x + (x.toUInt32 >>> ((4 : Int32).toUInt32 &&& Int32.toUInt32 31)).toInt32) &&& 252645135
def bc4 (x : Int32) : Int32 := x + (x.toUInt32 >>> ((8 : Int32).toUInt32 &&& Int32.toUInt32 31)).toInt32
def bc5 (x : Int32) : Int32 := x + (x.toUInt32 >>> ((16 : Int32).toUInt32 &&& Int32.toUInt32 31)).toInt32
/-- Integer.bitCount -/
def bcI (x : Int32) : Int32 := bc5 (bc4 (bc3 (bc2 (bc1 x)))) &&& 63
theorem m119 {d : Nat} {h : aH} {x : Int32} : go d 119 0 [.int x] [] h = some (some (.int (bcI x)), h) := by
  simp only [ee_119_0, ee_119_1, ee_119_2, ee_119_3, ee_119_4, ee_119_7, ee_119_8, ee_119_9, ee_119_10, ee_119_11, ee_119_14, ee_119_15, ee_119_16, ee_119_17, ee_119_18, ee_119_21, ee_119_22, ee_119_23, ee_119_24, ee_119_25, ee_119_26, ee_119_27, ee_119_28, ee_119_29, ee_119_32, ee_119_33, ee_119_34, ee_119_35, ee_119_36, ee_119_38, ee_119_39, ee_119_40, ee_119_41, ee_119_42, ee_119_43, ee_119_45, ee_119_46, ee_119_47, ee_119_48, ee_119_49, ee_119_51, ee_119_52, bcI, bc5, bc4, bc3, bc2, bc1]
def crObj (kn t m w : Int32) : aC := .inl (1, [.ref 12, .ref 42, .ref 39, .ref 40, .ref 41, .int t, .int kn, .int m, .int w])
def crs (ss : List Int32) : Int32 := bcI ((ss.getD 0 0 &&& ss.getD 1 0) ||| (ss.getD 0 0 &&& ss.getD 2 0) ||| (ss.getD 1 0 &&& ss.getD 2 0))
abbrev cA : Type := Int32 × Int32 × Int32 × List Int32
/-- a laying met: total, most, with most, the first places -/
def meetC (_ : List Int32) (q : cA × List Int32 × List Int32) : cA × List Int32 × List Int32 :=
  if q.1.1 = 0 ∨ q.1.2.1 < crs q.2.2 then ((q.1.1 + 1, crs q.2.2, 1, q.2.1), q.2) else if crs q.2.2 = q.1.2.1 then ((q.1.1 + 1, q.1.2.1, q.1.2.2.1 + 1, q.1.2.2.2), q.2) else ((q.1.1 + 1, q.1.2.1, q.1.2.2.1, q.1.2.2.2), q.2)
def IC (h0 : aH) (kn : Int32) (s : Nat) (csB : List Int32) (ws bs : List (List Int32)) (rs : List Int32) (h : aH) (cs : List Int32) (q : cA × List Int32 × List Int32) : Prop :=
  LatAt h ∧ BoardAt h 12 s csB ws bs rs ∧ SquareAt h 42 s cs ∧ h[38]? = some (crObj kn q.1.1 q.1.2.1 q.1.2.2.1) ∧ (h[39]? = some (ints q.2.1) ∧ q.2.1.length = 3) ∧ (h[40]? = some (ints q.2.2) ∧ q.2.2.length = 3) ∧ (h[41]? = some (ints q.1.2.2.2) ∧ q.1.2.2.2.length = 3) ∧ Off h0 h 38 44
section CR
variable {h0 h : aH} {kn : Int32} {s d : Nat} {csB cs rs : List Int32} {ws bs : List (List Int32)} {q : cA × List Int32 × List Int32}
theorem BoardAt.set {k b : Nat} {x : aC} (A : BoardAt h b s csB ws bs rs) (hk : k < b ∨ b + 21 ≤ k) : BoardAt (h.set k x) b s csB ws bs rs := A.off (Off.set (lo := k) (hi := k + 1) (by omega) (by omega)) (by omega)
theorem IC.laid {cs' : List Int32} (I : IC h0 kn s csB ws bs rs h cs q) (hl : cs'.length = 16) : IC h0 kn s csB ws bs rs (h.set 43 (ints cs')) cs' q := by
  obtain ⟨L, A, Q, b1, ⟨b2, l2⟩, ⟨b3, l3⟩, ⟨b4, l4⟩, O⟩ := I
  exact ⟨L.set (by decide), A.set (by decide), Q.put hl, by rw [set_ne (by decide)]; exact b1, ⟨by rw [set_ne (by decide)]; exact b2, l2⟩, ⟨by rw [set_ne (by decide)]; exact b3, l3⟩, ⟨by rw [set_ne (by decide)]; exact b4, l4⟩, O.trans (Off.set (by decide) (by decide))⟩
theorem IC.pls {ps' : List Int32} (I : IC h0 kn s csB ws bs rs h cs q) (hl : ps'.length = 3) : IC h0 kn s csB ws bs rs (h.set 39 (ints ps')) cs (q.1, ps', q.2.2) := by
  obtain ⟨L, A, Q, b1, ⟨b2, l2⟩, ⟨b3, l3⟩, ⟨b4, l4⟩, O⟩ := I
  exact ⟨L.set (by decide), A.set (by decide), Q.set (by decide) (by decide), by rw [set_ne (by decide)]; exact b1, ⟨set_at (at_lt b2), hl⟩, ⟨by rw [set_ne (by decide)]; exact b3, l3⟩, ⟨by rw [set_ne (by decide)]; exact b4, l4⟩, O.trans (Off.set (by decide) (by decide))⟩
theorem IC.sts {ss' : List Int32} (I : IC h0 kn s csB ws bs rs h cs q) (hl : ss'.length = 3) : IC h0 kn s csB ws bs rs (h.set 40 (ints ss')) cs (q.1, q.2.1, ss') := by
  obtain ⟨L, A, Q, b1, ⟨b2, l2⟩, ⟨b3, l3⟩, ⟨b4, l4⟩, O⟩ := I
  exact ⟨L.set (by decide), A.set (by decide), Q.set (by decide) (by decide), by rw [set_ne (by decide)]; exact b1, ⟨by rw [set_ne (by decide)]; exact b2, l2⟩, ⟨set_at (at_lt b3), hl⟩, ⟨by rw [set_ne (by decide)]; exact b4, l4⟩, O.trans (Off.set (by decide) (by decide))⟩
theorem IC.fps {fp' : List Int32} (I : IC h0 kn s csB ws bs rs h cs q) (hl : fp'.length = 3) : IC h0 kn s csB ws bs rs (h.set 41 (ints fp')) cs ((q.1.1, q.1.2.1, q.1.2.2.1, fp'), q.2) := by
  obtain ⟨L, A, Q, b1, ⟨b2, l2⟩, ⟨b3, l3⟩, ⟨b4, l4⟩, O⟩ := I
  exact ⟨L.set (by decide), A.set (by decide), Q.set (by decide) (by decide), by rw [set_ne (by decide)]; exact b1, ⟨by rw [set_ne (by decide)]; exact b2, l2⟩, ⟨by rw [set_ne (by decide)]; exact b3, l3⟩, ⟨set_at (at_lt b4), hl⟩, O.trans (Off.set (by decide) (by decide))⟩
theorem IC.obj {kn' t m w : Int32} (I : IC h0 kn s csB ws bs rs h cs q) : IC h0 kn' s csB ws bs rs (h.set 38 (crObj kn' t m w)) cs ((t, m, w, q.1.2.2.2), q.2) := by
  obtain ⟨L, A, Q, b1, ⟨b2, l2⟩, ⟨b3, l3⟩, ⟨b4, l4⟩, O⟩ := I
  exact ⟨L.set (by decide), A.set (by decide), Q.set (by decide) (by decide), set_at (at_lt b1), ⟨by rw [set_ne (by decide)]; exact b2, l2⟩, ⟨by rw [set_ne (by decide)]; exact b3, l3⟩, ⟨by rw [set_ne (by decide)]; exact b4, l4⟩, O.trans (Off.set (by decide) (by decide))⟩
theorem IC.fi (I : IC h0 kn s csB ws bs rs h cs q) : FI 38 false s csB ws bs rs h cs q := by
  obtain ⟨L, A, Q, b1, b2, b3, -, -⟩ := I
  refine ⟨L, A, Q, ⟨?_, ?_, ?_, ?_⟩, ⟨?_, ?_⟩, b2, b3⟩
  · unfold gf; rw [b1]; rfl
  · unfold gf; rw [b1]; rfl
  · unfold gf; rw [b1]; rfl
  · unfold gf; rw [b1]; rfl
  · unfold isC; rw [b1]; rfl
  · unfold isC; rw [b1]; rfl
theorem IC.g (I : IC h0 kn s csB ws bs rs h cs q) : gf h 38 3 1 1 = some (.ref 40) ∧ gf h 38 5 1 1 = some (.int q.1.1) ∧ gf h 38 7 1 1 = some (.int q.1.2.1) ∧ gf h 38 8 1 1 = some (.int q.1.2.2.1) ∧ gf h 38 4 1 2 = some (.ref 41) := by
  obtain ⟨-, -, -, b1, -⟩ := I
  refine ⟨?_, ?_, ?_, ?_, ?_⟩ <;> (unfold gf; rw [b1]; rfl)
theorem IC.p7 (I : IC h0 kn s csB ws bs rs h cs q) (x : Int32) : pf h 38 7 1 1 0 (.int x) = some (h.set 38 (crObj kn q.1.1 x q.1.2.2.1)) := pf_at I.2.2.2.1 (show 7 < 9 by decide) rfl
theorem IC.p8 (I : IC h0 kn s csB ws bs rs h cs q) (x : Int32) : pf h 38 8 1 1 0 (.int x) = some (h.set 38 (crObj kn q.1.1 q.1.2.1 x)) := pf_at I.2.2.2.1 (show 8 < 9 by decide) rfl
theorem IC.p5 (I : IC h0 kn s csB ws bs rs h cs q) (x : Int32) : pf h 38 5 1 1 0 (.int x) = some (h.set 38 (crObj kn x q.1.2.1 q.1.2.2.1)) := pf_at I.2.2.2.1 (show 5 < 9 by decide) rfl
theorem ia3 {a : Nat} {xs : List Int32} (ha : h[a]? = some (ints xs)) (hl : xs.length = 3) : ia h a 0 = some (xs.getD 0 0) ∧ ia h a 1 = some (xs.getD 1 0) ∧ ia h a 2 = some (xs.getD 2 0) := by
  refine ⟨?_, ?_, ?_⟩
  · exact ia_at (n := 0) ha (by omega) (by omega)
  · exact ia_at (n := 1) ha (by omega) (by omega)
  · exact ia_at (n := 2) ha (by omega) (by omega)
theorem cpy3 {a b : Nat} {xs ys : List Int32} (ha : h[a]? = some (ints xs)) (hb : h[b]? = some (ints ys)) (hx : xs.length = 3) (hy : ys.length = 3) : cpy h a b 3 = some (h.set b (ints xs)) := by
  unfold cpy
  rw [ha]
  simp only
  rw [hb]
  have e3 : (3 : Int32).toNatClampNeg = 3 := by decide
  have n3 : ¬ (3 : Int32) < 0 := by decide
  simp only [e3, n3, hx, hy, and_self, not_false_eq_true, Nat.le_refl, if_true]
  rw [List.take_of_length_le (by omega), List.drop_of_length_le (by omega), List.append_nil]
/-- keepPlaces of the crossed search -/
theorem m19c (I : IC h0 kn s csB ws bs rs h cs q) : go d 19 0 [.ref 38] [] h = some (none, h.set 41 (ints q.2.1)) := by
  have F := I.fi
  obtain ⟨L, A, Q, b1, ⟨b2, l2⟩, ⟨b3, l3⟩, ⟨b4, l4⟩, O⟩ := id I
  simp only [ee_19_0, ee_19_0N, ee_19_1, ee_19_4, ee_19_5, ee_19_5N, ee_19_6, ee_19_9, ee_19_10, ee_19_11, ee_19_14, F.2.2.2.1.2.2.1, I.g.2.2.2.2, cpy3 b2 b4 l2 l4, Option.bind_some, Option.toList, List.cons_append, List.nil_append, List.append_nil, if_true, if_false, Bool.false_eq_true, eq_self, not_true_eq_false, not_false_eq_true]
theorem m4 (I : IC h0 kn s csB ws bs rs h cs q) : ∃ h', go (d + 1) 4 0 [.ref 38, aU] [] h = some (none, h') ∧ IC h0 kn s csB ws bs rs h' cs (meetC cs q) := by
  obtain ⟨g3, g5, g7, g8, g4⟩ := I.g
  obtain ⟨x0, x1, x2⟩ := ia3 I.2.2.2.2.2.1.1 I.2.2.2.2.2.1.2
  -- behind the first decision
  have step2 : ∀ {h : aH} {q : cA × List Int32 × List Int32}, IC h0 kn s csB ws bs rs h cs q → ∃ h', go (d + 1) 4 74 [.ref 38, .int (crs q.2.2)] [] h = some (none, h') ∧ IC h0 kn s csB ws bs rs h' cs (if crs q.2.2 = q.1.2.1 then ((q.1.1 + 1, q.1.2.1, q.1.2.2.1 + 1, q.1.2.2.2), q.2) else ((q.1.1 + 1, q.1.2.1, q.1.2.2.1, q.1.2.2.2), q.2)) := by
    intro h q I
    obtain ⟨g3, g5, g7, g8, g4⟩ := I.g
    by_cases hc : crs q.2.2 = q.1.2.1
    · have I1 := I.obj (kn' := kn) (t := q.1.1) (m := q.1.2.1) (w := q.1.2.2.1 + 1)
      have I2 := I1.obj (kn' := kn) (t := q.1.1 + 1) (m := q.1.2.1) (w := q.1.2.2.1 + 1)
      have p8 := I.p8 (q.1.2.2.1 + 1)
      have g5' := I1.g.2.1
      have p5 := I1.p5 (q.1.1 + 1)
      simp only at g5' p5
      refine ⟨_, ?_, by rw [if_pos hc]; exact I2⟩
      have hc' : ¬ ¬ crs q.2.2 = q.1.2.1 := fun z => z hc
      simp only [ee_4_0, ee_4_0N, ee_4_1, ee_4_4, ee_4_5, ee_4_6, ee_4_6N, ee_4_7, ee_4_10, ee_4_11, ee_4_12, ee_4_13, ee_4_13N, ee_4_14, ee_4_17, ee_4_18, ee_4_19, ee_4_19N, ee_4_20, ee_4_23, ee_4_24, ee_4_25, ee_4_26, ee_4_27, ee_4_27N, ee_4_28, ee_4_31, ee_4_32, ee_4_33, ee_4_33N, ee_4_34, ee_4_37, ee_4_38, ee_4_39, ee_4_40, ee_4_41, ee_4_44, ee_4_45, ee_4_45N, ee_4_46, ee_4_49, ee_4_52, ee_4_53, ee_4_53N, ee_4_54, ee_4_57, ee_4_60, ee_4_60N, ee_4_61, ee_4_62, ee_4_65, ee_4_65N, ee_4_66, ee_4_67, ee_4_70, ee_4_70N, ee_4_71, ee_4_74, ee_4_75, ee_4_75N, ee_4_76, ee_4_79, ee_4_82, ee_4_82N, ee_4_83, ee_4_84, ee_4_87, ee_4_88, ee_4_89, ee_4_92, ee_4_92N, ee_4_93, ee_4_94, ee_4_97, ee_4_98, ee_4_99, ee_4_102, g7, g8, hc', p8, g5', p5, Option.bind_some, Option.toList, List.cons_append, List.nil_append, List.append_nil, if_true, if_false, Bool.false_eq_true, eq_self, not_true_eq_false, not_false_eq_true]
    · have I2 := I.obj (kn' := kn) (t := q.1.1 + 1) (m := q.1.2.1) (w := q.1.2.2.1)
      have p5 := I.p5 (q.1.1 + 1)
      refine ⟨_, ?_, by rw [if_neg hc]; exact I2⟩
      simp only [ee_4_0, ee_4_0N, ee_4_1, ee_4_4, ee_4_5, ee_4_6, ee_4_6N, ee_4_7, ee_4_10, ee_4_11, ee_4_12, ee_4_13, ee_4_13N, ee_4_14, ee_4_17, ee_4_18, ee_4_19, ee_4_19N, ee_4_20, ee_4_23, ee_4_24, ee_4_25, ee_4_26, ee_4_27, ee_4_27N, ee_4_28, ee_4_31, ee_4_32, ee_4_33, ee_4_33N, ee_4_34, ee_4_37, ee_4_38, ee_4_39, ee_4_40, ee_4_41, ee_4_44, ee_4_45, ee_4_45N, ee_4_46, ee_4_49, ee_4_52, ee_4_53, ee_4_53N, ee_4_54, ee_4_57, ee_4_60, ee_4_60N, ee_4_61, ee_4_62, ee_4_65, ee_4_65N, ee_4_66, ee_4_67, ee_4_70, ee_4_70N, ee_4_71, ee_4_74, ee_4_75, ee_4_75N, ee_4_76, ee_4_79, ee_4_82, ee_4_82N, ee_4_83, ee_4_84, ee_4_87, ee_4_88, ee_4_89, ee_4_92, ee_4_92N, ee_4_93, ee_4_94, ee_4_97, ee_4_98, ee_4_99, ee_4_102, g7, g5, hc, p5, Option.bind_some, Option.toList, List.cons_append, List.nil_append, List.append_nil, if_true, if_false, Bool.false_eq_true, eq_self, not_true_eq_false, not_false_eq_true]
  have head : go (d + 1) 4 0 [.ref 38, aU] [] h = go (d + 1) 4 45 [.ref 38, .int (crs q.2.2)] [] h := by
    simp only [ee_4_0, ee_4_0N, ee_4_1, ee_4_4, ee_4_5, ee_4_6, ee_4_6N, ee_4_7, ee_4_10, ee_4_11, ee_4_12, ee_4_13, ee_4_13N, ee_4_14, ee_4_17, ee_4_18, ee_4_19, ee_4_19N, ee_4_20, ee_4_23, ee_4_24, ee_4_25, ee_4_26, ee_4_27, ee_4_27N, ee_4_28, ee_4_31, ee_4_32, ee_4_33, ee_4_33N, ee_4_34, ee_4_37, ee_4_38, ee_4_39, ee_4_40, ee_4_41, ee_4_44, ee_4_46, ee_4_49, ee_4_52, ee_4_53, ee_4_53N, ee_4_54, ee_4_57, ee_4_60, ee_4_60N, ee_4_61, ee_4_62, ee_4_65, ee_4_65N, ee_4_66, ee_4_67, ee_4_70, ee_4_70N, ee_4_71, ee_4_74, ee_4_75, ee_4_75N, ee_4_76, ee_4_79, ee_4_82, ee_4_82N, ee_4_83, ee_4_84, ee_4_87, ee_4_88, ee_4_89, ee_4_92, ee_4_92N, ee_4_93, ee_4_94, ee_4_97, ee_4_98, ee_4_99, ee_4_102, g3, x0, x1, x2, m119, Option.bind_some, Option.toList, List.cons_append, List.nil_append, List.append_nil, if_true, if_false, Bool.false_eq_true, eq_self, not_true_eq_false, not_false_eq_true, crs]
  rw [head]
  by_cases hA : q.1.1 = 0 ∨ q.1.2.1 < crs q.2.2
  · have I1 := I.obj (kn' := kn) (t := q.1.1) (m := crs q.2.2) (w := q.1.2.2.1)
    have I2 := I1.obj (kn' := kn) (t := q.1.1) (m := crs q.2.2) (w := 0)
    have I3 := I2.fps (fp' := q.2.1) I.2.2.2.2.1.2
    have p7 := I.p7 (crs q.2.2)
    have p8 := I1.p8 0
    have e19 := m19c (d := d) I2
    have c1 := I2.fi.2.2.2.2.1.1
    simp only at p8 e19 I3
    obtain ⟨h', e, r⟩ := step2 I3
    refine ⟨h', ?_, ?_⟩
    · have i1 : isC ((h.set 38 (crObj kn q.1.1 (crs q.2.2) q.1.2.2.1)).set 38 (crObj kn q.1.1 (crs q.2.2) 0)) 38 1 = true := c1
      rcases Classical.em (q.1.1 = 0) with hz | hz
      · have hz2 := eq_true hz
        simp only [ee_4_0, ee_4_0N, ee_4_1, ee_4_4, ee_4_5, ee_4_6, ee_4_6N, ee_4_7, ee_4_10, ee_4_11, ee_4_12, ee_4_13, ee_4_13N, ee_4_14, ee_4_17, ee_4_18, ee_4_19, ee_4_19N, ee_4_20, ee_4_23, ee_4_24, ee_4_25, ee_4_26, ee_4_27, ee_4_27N, ee_4_28, ee_4_31, ee_4_32, ee_4_33, ee_4_33N, ee_4_34, ee_4_37, ee_4_38, ee_4_39, ee_4_40, ee_4_41, ee_4_44, ee_4_45, ee_4_45N, ee_4_46, ee_4_49, ee_4_52, ee_4_53, ee_4_53N, ee_4_54, ee_4_57, ee_4_60, ee_4_60N, ee_4_61, ee_4_62, ee_4_65, ee_4_65N, ee_4_66, ee_4_67, ee_4_70, ee_4_70N, ee_4_71, ee_4_75, ee_4_75N, ee_4_76, ee_4_79, ee_4_82, ee_4_82N, ee_4_83, ee_4_84, ee_4_87, ee_4_88, ee_4_89, ee_4_92, ee_4_92N, ee_4_93, ee_4_94, ee_4_97, ee_4_98, ee_4_99, ee_4_102, g5, g7, hz2, if_true, p7, p8, i1, e19, Option.bind_some, Option.toList, List.cons_append, List.nil_append, List.append_nil, if_true, if_false, Bool.false_eq_true, eq_self, not_true_eq_false, not_false_eq_true]
        exact e
      · have hlt : ¬ crs q.2.2 ≤ q.1.2.1 := by
          have := hA.resolve_left hz
          exact Int32.not_le.mpr this
        simp only [ee_4_0, ee_4_0N, ee_4_1, ee_4_4, ee_4_5, ee_4_6, ee_4_6N, ee_4_7, ee_4_10, ee_4_11, ee_4_12, ee_4_13, ee_4_13N, ee_4_14, ee_4_17, ee_4_18, ee_4_19, ee_4_19N, ee_4_20, ee_4_23, ee_4_24, ee_4_25, ee_4_26, ee_4_27, ee_4_27N, ee_4_28, ee_4_31, ee_4_32, ee_4_33, ee_4_33N, ee_4_34, ee_4_37, ee_4_38, ee_4_39, ee_4_40, ee_4_41, ee_4_44, ee_4_45, ee_4_45N, ee_4_46, ee_4_49, ee_4_52, ee_4_53, ee_4_53N, ee_4_54, ee_4_57, ee_4_60, ee_4_60N, ee_4_61, ee_4_62, ee_4_65, ee_4_65N, ee_4_66, ee_4_67, ee_4_70, ee_4_70N, ee_4_71, ee_4_75, ee_4_75N, ee_4_76, ee_4_79, ee_4_82, ee_4_82N, ee_4_83, ee_4_84, ee_4_87, ee_4_88, ee_4_89, ee_4_92, ee_4_92N, ee_4_93, ee_4_94, ee_4_97, ee_4_98, ee_4_99, ee_4_102, g5, g7, hz, hlt, if_false, p7, p8, i1, e19, Option.bind_some, Option.toList, List.cons_append, List.nil_append, List.append_nil, if_true, if_false, Bool.false_eq_true, eq_self, not_true_eq_false, not_false_eq_true]
        exact e
    · unfold meetC
      rw [if_pos hA]
      simp only [if_true] at r
      exact r
  · obtain ⟨h', e, r⟩ := step2 I
    refine ⟨h', ?_, by unfold meetC; rw [if_neg hA]; exact r⟩
    have hz : ¬ q.1.1 = 0 := fun z => hA (Or.inl z)
    have hle : crs q.2.2 ≤ q.1.2.1 := by
      have : ¬ q.1.2.1 < crs q.2.2 := fun z => hA (Or.inr z)
      exact Int32.not_lt.mp this
    simp only [ee_4_0, ee_4_0N, ee_4_1, ee_4_4, ee_4_5, ee_4_6, ee_4_6N, ee_4_7, ee_4_10, ee_4_11, ee_4_12, ee_4_13, ee_4_13N, ee_4_14, ee_4_17, ee_4_18, ee_4_19, ee_4_19N, ee_4_20, ee_4_23, ee_4_24, ee_4_25, ee_4_26, ee_4_27, ee_4_27N, ee_4_28, ee_4_31, ee_4_32, ee_4_33, ee_4_33N, ee_4_34, ee_4_37, ee_4_38, ee_4_39, ee_4_40, ee_4_41, ee_4_44, ee_4_45, ee_4_45N, ee_4_46, ee_4_49, ee_4_52, ee_4_53, ee_4_53N, ee_4_54, ee_4_57, ee_4_60, ee_4_60N, ee_4_61, ee_4_62, ee_4_65, ee_4_65N, ee_4_66, ee_4_67, ee_4_70, ee_4_70N, ee_4_71, ee_4_75, ee_4_75N, ee_4_76, ee_4_79, ee_4_82, ee_4_82N, ee_4_83, ee_4_84, ee_4_87, ee_4_88, ee_4_89, ee_4_92, ee_4_92N, ee_4_93, ee_4_94, ee_4_97, ee_4_98, ee_4_99, ee_4_102, g5, g7, hz, hle, Option.bind_some, Option.toList, List.cons_append, List.nil_append, List.append_nil, if_true, if_false, Bool.false_eq_true, eq_self, not_true_eq_false, not_false_eq_true]
    exact e
theorem m3 {o : Nat} : go d 3 0 [.ref o] [] h = some (some (.int 1), h) := by
  simp only [ee_3_0, ee_3_1, ee_3_1T]
end CR
