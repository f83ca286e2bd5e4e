/-! most, covers, good, hide -/
section CM3
variable {h h' : aH} {g g' i0 i1 : gG} {P P' : List Int32} {K kn kg : Int32} {lo hi b d : Nat} {q : cS} {r : gS}
theorem CW.srch (O : Off h h' 38 54) (C : CB h g P i0 i1 K) : CB h' g P i0 i1 K := C.srch O
/-- look, for the crossed ones -/
theorem lk_c (C : CI h g P i0 i1 K) : ∃ h' m w fp ps, ps.length = 3 ∧ go (d + 11) 17 0 [.ref 38] [] h = some (none, h') ∧ CI h' g P i0 i1 K ∧ CrossAt h' 1 (mostOf g m w fp ps) ∧ Off h h' 38 54 := by
  obtain ⟨C0, ⟨kn, q, X, hx⟩, kg, r, Y, hy⟩ := id C
  rcases hx with hx | ⟨hx, m, w, fp, ps, hps, hq⟩
  · subst hx
    obtain ⟨⟨s, c, Q⟩, b1, ⟨b2, l2⟩, ⟨b3, l3⟩, b4, l4⟩ := id X
    obtain ⟨L, S, b5, b33, B, T, -⟩ := id C0
    obtain ⟨h', e, L', A', Q', c1, c2, c3, c4, O⟩ := m17c (d := d + 2) B.2.1 L B.1 Q b1 b2 l2 b3 l3 b4 l4
    have X' : CrossAt h' 1 (mostOf g q.1.2.1 q.1.2.2.1 q.1.2.2.2 q.2.1) := ⟨⟨_, _, Q'⟩, c1, c2, c3, c4⟩
    exact ⟨h', q.1.2.1, q.1.2.2.1, q.1.2.2.2, q.2.1, l2, e, ⟨C0.srch (O.mono (by decide) (by decide)), ⟨1, _, X', Or.inr ⟨rfl, _, _, _, _, l2, rfl⟩⟩, kg, r, Y.off O (by decide), hy⟩, X', O.mono (by decide) (by decide)⟩
  · subst hx
    subst hq
    have hk : gf h 38 6 1 2 = some (.int 1) := by unfold gf; rw [X.2.1]; rfl
    exact ⟨h, m, w, fp, ps, hps, m17k hk, C, X, Off.rf⟩
theorem lk_g (C : CI h g P i0 i1 K) : ∃ h' f r ps, ps.length = 3 ∧ go (d + 11) 17 0 [.ref 44] [] h = some (none, h') ∧ CI h' g P i0 i1 K ∧ GoodAt h' 1 (goodOf g f r ps) ∧ Off h h' 38 54 := by
  obtain ⟨C0, ⟨kn, q, X, hx⟩, kg, r, Y, hy⟩ := id C
  rcases hy with hy | ⟨hy, f, rr, ps, hps, hq⟩
  · subst hy
    obtain ⟨⟨s', c', Q'⟩, a1, ⟨a2, k2⟩, ⟨a3, k3⟩, ⟨a4, k4⟩, Q2, Q3⟩ := id Y
    obtain ⟨L, S, b5, b33, B, T, -⟩ := id C0
    have hw : ∀ w ∈ g.2.2.1, 0 < w.length := fun w hw => by have := (B.2.2.2.2.1 w hw).1; omega
    have hb : ∀ w ∈ g.2.2.2.1, 0 < w.length := fun w hw => by have := (B.2.2.2.2.2.1 w hw).1; omega
    have hr : 0 < g.2.2.2.2.length := B.2.2.2.2.2.2.1
    obtain ⟨h', e, L', A', Q1', c1, c2, c3, c4, c5, c6, O⟩ := m17g (d := d + 2) B.2.1 hw hb hr L B.1 Q' a1 a2 k2 a3 k3 a4 k4 Q2 Q3
    have Y' : GoodAt h' 1 (goodOf g r.1.2.1 r.1.2.2 r.2.1) := ⟨⟨_, _, Q1'⟩, c1, c2, c3, c4, c5, c6⟩
    exact ⟨h', r.1.2.1, r.1.2.2, r.2.1, k2, e, ⟨C0.srch (O.mono (by decide) (by decide)), ⟨kn, q, X.off O (by decide), hx⟩, 1, _, Y', Or.inr ⟨rfl, _, _, _, k2, rfl⟩⟩, Y', O.mono (by decide) (by decide)⟩
  · subst hy
    subst hq
    have hk : gf h 44 6 1 2 = some (.int 1) := by unfold gf; rw [Y.2.1]; rfl
    exact ⟨h, f, rr, ps, hps, m17k hk, C, Y, Off.rf⟩
/-- what most answers of what was found -/
def ansM (n : Nat) (A : cA) (x : Int32) : Int32 := if x = 0 then A.1 else if x = 1 then (if A.1 = 0 then -6 else A.2.1) else if x = 2 then (if A.1 = 0 then -6 else A.2.2.1) else if 10 ≤ x ∧ x < 13 then (if A.1 = 0 then -6 else if (x - 10).toNatClampNeg < n then A.2.2.2.getD (x - 10).toNatClampNeg 0 else -6) else -2
theorem b1013 (x : Int32) : (¬ (10 ≤ x ∧ x < 13)) ∨ ∃ j, j < 3 ∧ x = nI (10 + j) ∧ x - 10 = nI j := by
  by_cases h1 : 10 ≤ x
  · by_cases h2 : x < 13
    · have a1 : (10 : Int32).toInt ≤ x.toInt := Int32.le_iff_toInt_le.mp h1
      have a2 : x.toInt < (13 : Int32).toInt := Int32.lt_iff_toInt_lt.mp h2
      have e1 : (10 : Int32).toInt = 10 := by decide
      have e2 : (13 : Int32).toInt = 13 := by decide
      refine Or.inr ⟨x.toInt.toNat - 10, by omega, ?_, ?_⟩
      · apply Int32.toInt_inj.mp
        rw [nI_toInt (by omega)]
        omega
      · have : x = nI (10 + (x.toInt.toNat - 10)) := by
          apply Int32.toInt_inj.mp
          rw [nI_toInt (by omega)]
          omega
        rw [this, show (10 : Int32) = nI 10 by decide, pk_sub (by omega)]
        congr 1
        rw [← this]
        omega
    · exact Or.inl (fun z => h2 z.2)
  · exact Or.inl (fun z => h1 z.1)
theorem c_most {x : Int32} (C : CI h g P i0 i1 K) : ∃ m w fp ps, ps.length = 3 ∧ ∃ h', go (d + 12) 53 0 [.ref 5, .int x, aU] [] h = some (some (.int (ansM g.2.2.1.length (mostOf g m w fp ps).1 x)), h') ∧ CI h' g P i0 i1 K ∧ Off h h' 5 96 := by
  have W := C.w
  have e61 := m61 (d := d + 11) (h := h) (x := x)
  obtain ⟨h', m, w, fp, ps, hps, e, C', X, O⟩ := lk_c (d := d) C
  refine ⟨m, w, fp, ps, hps, ?_⟩
  obtain ⟨-, b1, -, -, b4, l4⟩ := id X
  have W' := C'.w
  generalize hQ : mostOf g m w fp ps = Q at *
  have g1 : gf h' 38 5 1 1 = some (.int Q.1.1) ∧ gf h' 38 7 1 1 = some (.int Q.1.2.1) ∧ gf h' 38 8 1 1 = some (.int Q.1.2.2.1) ∧ gf h' 38 0 1 2 = some (.ref 12) ∧ gf h' 38 4 1 2 = some (.ref 41) := by
    refine ⟨?_, ?_, ?_, ?_, ?_⟩ <;> (unfold gf; rw [b1]; rfl)
  unfold ansM
  rcases b1013 x with hx | ⟨j, hj, hx, hx2⟩
  · rw [if_neg hx] at e61
    rcases kk3 x with rfl | rfl | rfl | ⟨hk, z0, z1, z2⟩ | ⟨hk, hk2, hk3, z0, z1, z2⟩
    · refine ⟨h', ?_, C', O.mono (by decide) (by decide)⟩
      simp only [ee_53_0, ee_53_1, ee_53_4, ee_53_5, ee_53_6, ee_53_9, ee_53_10, ee_53_13, ee_53_14, ee_53_15, ee_53_18, ee_53_20, ee_53_21, ee_53_21N, ee_53_22, ee_53_25, ee_53_28, ee_53_29, ee_53_32, ee_53_32N, ee_53_33, ee_53_36, ee_53_39, ee_53_40, ee_53_40N, ee_53_41, ee_53_44, ee_53_47, ee_53_50, ee_53_52, ee_53_53, ee_53_54, ee_53_57, ee_53_57N, ee_53_58, ee_53_61, ee_53_62, ee_53_64, ee_53_65, ee_53_68, ee_53_69, ee_53_70, ee_53_71, ee_53_74, ee_53_74N, ee_53_75, ee_53_78, ee_53_81, ee_53_84, ee_53_84N, ee_53_85, ee_53_88, ee_53_91, W.F, W'.F, KK, e61, e, g1, Option.bind_some, Option.toList, List.cons_append, List.nil_append, List.append_nil, if_true, if_false, Bool.false_eq_true, eq_self, not_true_eq_false, not_false_eq_true]
    · refine ⟨h', ?_, C', O.mono (by decide) (by decide)⟩
      by_cases ht : Q.1.1 = 0 <;> simp only [ee_53_0, ee_53_1, ee_53_4, ee_53_5, ee_53_6, ee_53_9, ee_53_10, ee_53_13, ee_53_14, ee_53_15, ee_53_18, ee_53_20, ee_53_21, ee_53_21N, ee_53_22, ee_53_25, ee_53_28, ee_53_29, ee_53_32, ee_53_32N, ee_53_33, ee_53_36, ee_53_39, ee_53_40, ee_53_40N, ee_53_41, ee_53_44, ee_53_47, ee_53_50, ee_53_52, ee_53_53, ee_53_54, ee_53_57, ee_53_57N, ee_53_58, ee_53_61, ee_53_62, ee_53_64, ee_53_65, ee_53_68, ee_53_69, ee_53_70, ee_53_71, ee_53_74, ee_53_74N, ee_53_75, ee_53_78, ee_53_81, ee_53_84, ee_53_84N, ee_53_85, ee_53_88, ee_53_91, W.F, W'.F, KK, e61, e, g1, ht, Option.bind_some, Option.toList, List.cons_append, List.nil_append, List.append_nil, if_true, if_false, Bool.false_eq_true, eq_self, not_true_eq_false, not_false_eq_true]
    · refine ⟨h', ?_, C', O.mono (by decide) (by decide)⟩
      by_cases ht : Q.1.1 = 0 <;> simp only [ee_53_0, ee_53_1, ee_53_4, ee_53_5, ee_53_6, ee_53_9, ee_53_10, ee_53_13, ee_53_14, ee_53_15, ee_53_18, ee_53_20, ee_53_21, ee_53_21N, ee_53_22, ee_53_25, ee_53_28, ee_53_29, ee_53_32, ee_53_32N, ee_53_33, ee_53_36, ee_53_39, ee_53_40, ee_53_40N, ee_53_41, ee_53_44, ee_53_47, ee_53_50, ee_53_52, ee_53_53, ee_53_54, ee_53_57, ee_53_57N, ee_53_58, ee_53_61, ee_53_62, ee_53_64, ee_53_65, ee_53_68, ee_53_69, ee_53_70, ee_53_71, ee_53_74, ee_53_74N, ee_53_75, ee_53_78, ee_53_81, ee_53_84, ee_53_84N, ee_53_85, ee_53_88, ee_53_91, W.F, W'.F, KK, e61, e, g1, ht, Option.bind_some, Option.toList, List.cons_append, List.nil_append, List.append_nil, if_true, if_false, Bool.false_eq_true, eq_self, not_true_eq_false, not_false_eq_true]
    · exact ⟨h, by simp only [ee_53_0, ee_53_1, ee_53_4, ee_53_5, ee_53_6, ee_53_9, ee_53_10, ee_53_13, ee_53_14, ee_53_15, ee_53_18, ee_53_20, ee_53_21, ee_53_21N, ee_53_22, ee_53_25, ee_53_28, ee_53_29, ee_53_32, ee_53_32N, ee_53_33, ee_53_36, ee_53_39, ee_53_40, ee_53_40N, ee_53_41, ee_53_44, ee_53_47, ee_53_50, ee_53_52, ee_53_53, ee_53_54, ee_53_57, ee_53_57N, ee_53_58, ee_53_61, ee_53_62, ee_53_64, ee_53_65, ee_53_68, ee_53_69, ee_53_70, ee_53_71, ee_53_74, ee_53_74N, ee_53_75, ee_53_78, ee_53_81, ee_53_84, ee_53_84N, ee_53_85, ee_53_88, ee_53_91, W.F, KK, e61, hk, z0, z1, z2, hx, Option.bind_some, Option.toList, List.cons_append, List.nil_append, List.append_nil, if_true, if_false, Bool.false_eq_true, eq_self, not_true_eq_false, not_false_eq_true], C, Off.rf⟩
    · exact ⟨h, by simp only [ee_53_0, ee_53_1, ee_53_4, ee_53_5, ee_53_6, ee_53_9, ee_53_10, ee_53_13, ee_53_14, ee_53_15, ee_53_18, ee_53_20, ee_53_21, ee_53_21N, ee_53_22, ee_53_25, ee_53_28, ee_53_29, ee_53_32, ee_53_32N, ee_53_33, ee_53_36, ee_53_39, ee_53_40, ee_53_40N, ee_53_41, ee_53_44, ee_53_47, ee_53_50, ee_53_52, ee_53_53, ee_53_54, ee_53_57, ee_53_57N, ee_53_58, ee_53_61, ee_53_62, ee_53_64, ee_53_65, ee_53_68, ee_53_69, ee_53_70, ee_53_71, ee_53_74, ee_53_74N, ee_53_75, ee_53_78, ee_53_81, ee_53_84, ee_53_84N, ee_53_85, ee_53_88, ee_53_91, W.F, KK, e61, hk, hk2, z0, z1, z2, hx, Option.bind_some, Option.toList, List.cons_append, List.nil_append, List.append_nil, if_true, if_false, Bool.false_eq_true, eq_self, not_true_eq_false, not_false_eq_true], C, Off.rf⟩
  · refine ⟨h', ?_, C', O.mono (by decide) (by decide)⟩
    have hb : 10 ≤ x ∧ x < 13 := by
      subst hx
      exact ⟨by rw [show (10 : Int32) = nI 10 by decide]; exact nI_le (by omega) (by omega), by rw [show (13 : Int32) = nI 13 by decide]; exact nI_lt (by omega) (by omega)⟩
    rw [if_pos hb] at e61
    have z0 : ¬ x = 0 ∧ ¬ x = 1 ∧ ¬ x = 2 := by
      refine ⟨?_, ?_, ?_⟩ <;> intro z <;> subst z <;> exact absurd hb (by decide)
    have e20 := m20 (d := d + 11) (o := 38) (j := j) C'.1.2.2.2.2.1.1 g1.2.2.2.1 g1.2.2.2.2 b4 l4 hj
    rw [← hx2] at e20
    have hc : (x - 10).toNatClampNeg = j := by rw [hx2]; exact nI_clamp (by omega)
    rw [hc]
    by_cases ht : Q.1.1 = 0 <;> simp only [ee_53_0, ee_53_1, ee_53_4, ee_53_5, ee_53_6, ee_53_9, ee_53_10, ee_53_13, ee_53_14, ee_53_15, ee_53_18, ee_53_20, ee_53_21, ee_53_21N, ee_53_22, ee_53_25, ee_53_28, ee_53_29, ee_53_32, ee_53_32N, ee_53_33, ee_53_36, ee_53_39, ee_53_40, ee_53_40N, ee_53_41, ee_53_44, ee_53_47, ee_53_50, ee_53_52, ee_53_53, ee_53_54, ee_53_57, ee_53_57N, ee_53_58, ee_53_61, ee_53_62, ee_53_64, ee_53_65, ee_53_68, ee_53_69, ee_53_70, ee_53_71, ee_53_74, ee_53_74N, ee_53_75, ee_53_78, ee_53_81, ee_53_84, ee_53_84N, ee_53_85, ee_53_88, ee_53_91, W.F, W'.F, KK, e61, e, e20, g1, ht, z0, hb, and_self, Option.bind_some, Option.toList, List.cons_append, List.nil_append, List.append_nil, if_true, if_false, Bool.false_eq_true, eq_self, not_true_eq_false, not_false_eq_true]
/-- good -/
def ansG (s n : Nat) (A : gA) (x : Int32) : Int32 := if x = 0 then A.1 else if 10 ≤ x ∧ x < 13 then (if A.1 = 0 then -6 else if (x - 10).toNatClampNeg < n then A.2.2.1.getD (x - 10).toNatClampNeg 0 else -6) else if 100 ≤ x ∧ x < 116 then (if A.1 = 0 then -6 else if (x - 100).toNatClampNeg < s * s then A.2.2.2.2.getD (x - 100).toNatClampNeg 0 else -6) else -2
theorem b100 (x : Int32) : (x < 100 ∧ ¬ (100 ≤ x ∧ x < 116)) ∨ (¬ x < 100 ∧ 116 ≤ x ∧ ¬ (100 ≤ x ∧ x < 116)) ∨ ((100 ≤ x ∧ x < 116) ∧ ¬ x < 100 ∧ ¬ 116 ≤ x ∧ ∃ j, j < 16 ∧ x - 100 = nI j ∧ x = nI (100 + j)) := by
  have e1 : (100 : Int32).toInt = 100 := by decide
  have e2 : (116 : Int32).toInt = 116 := by decide
  by_cases h1 : 100 ≤ x
  · have h1' : ¬ x < 100 := Int32.not_lt.mpr h1
    by_cases h2 : x < 116
    · have a1 : (100 : Int32).toInt ≤ x.toInt := Int32.le_iff_toInt_le.mp h1
      have a2 : x.toInt < (116 : Int32).toInt := Int32.lt_iff_toInt_lt.mp h2
      have e3 : x = nI (100 + (x.toInt.toNat - 100)) := by
        apply Int32.toInt_inj.mp
        rw [nI_toInt (by omega)]
        omega
      refine Or.inr (Or.inr ⟨⟨h1, h2⟩, h1', Int32.not_le.mpr h2, x.toInt.toNat - 100, by omega, ?_, e3⟩)
      generalize x.toInt.toNat - 100 = j at e3
      rw [e3, show (100 : Int32) = nI 100 by decide, pk_sub (by omega), Nat.add_sub_cancel_left]
    · exact Or.inr (Or.inl ⟨h1', Int32.not_lt.mp h2, fun z => h2 z.2⟩)
  · exact Or.inl ⟨Int32.not_le.mp h1, fun z => h1 z.1⟩
theorem c_good {x : Int32} (C : CI h g P i0 i1 K) : ∃ f r ps, ps.length = 3 ∧ ∃ h', go (d + 12) 55 0 [.ref 5, .int x, aU, aU, aU] [] h = some (some (.int (ansG g.1 g.2.2.1.length (goodOf g f r ps).1 x)), h') ∧ CI h' g P i0 i1 K ∧ Off h h' 5 96 := by
  have W := C.w
  have e61 := m61 (d := d + 11) (h := h) (x := x)
  obtain ⟨h', f, r, ps, hps, e, C', Y, O⟩ := lk_g (d := d) C
  refine ⟨f, r, ps, hps, ?_⟩
  obtain ⟨-, b1, -, -, ⟨b4, l4⟩, -, Q3⟩ := id Y
  have W' := C'.w
  obtain ⟨L, S, b5, b33, B, T, -⟩ := id W'.1
  generalize hQ : goodOf g f r ps = Q at *
  have g1 : gf h' 44 5 2 2 = some (.int Q.1.1) ∧ gf h' 44 8 2 2 = some (.ref 52) ∧ gf h' 44 0 1 2 = some (.ref 12) ∧ gf h' 44 4 1 2 = some (.ref 47) := by
    refine ⟨?_, ?_, ?_, ?_⟩ <;> (unfold gf; rw [b1]; rfl)
  have g2 : gf h' 52 0 4 4 = some (.ref 53) := Q3.f0
  unfold ansG
  by_cases x0 : x = 0
  · subst x0
    have n1 : ¬ ((10 : Int32) ≤ 0 ∧ (0 : Int32) < 13) := by decide
    have n2 : (0 : Int32) < 100 := by decide
    rw [if_neg n1] at e61
    refine ⟨h', ?_, C', O.mono (by decide) (by decide)⟩
    simp only [ee_55_0, ee_55_1, ee_55_4, ee_55_5, ee_55_6, ee_55_8, ee_55_11, ee_55_12, ee_55_14, ee_55_17, ee_55_18, ee_55_21, ee_55_22, ee_55_23, ee_55_24, ee_55_27, ee_55_28, ee_55_31, ee_55_32, ee_55_35, ee_55_37, ee_55_38, ee_55_38N, ee_55_39, ee_55_42, ee_55_45, ee_55_46, ee_55_49, ee_55_49N, ee_55_50, ee_55_53, ee_55_56, ee_55_57, ee_55_57N, ee_55_58, ee_55_61, ee_55_64, ee_55_67, ee_55_69, ee_55_70, ee_55_71, ee_55_74, ee_55_74N, ee_55_75, ee_55_78, ee_55_79, ee_55_81, ee_55_82, ee_55_85, ee_55_86, ee_55_87, ee_55_89, ee_55_90, ee_55_92, ee_55_92N, ee_55_93, ee_55_96, ee_55_99, ee_55_102, ee_55_104, ee_55_107, ee_55_110, ee_55_110N, ee_55_111, ee_55_114, ee_55_117, ee_55_120, ee_55_122, ee_55_123, ee_55_126, ee_55_128, W.F, W'.F, KK, n2, e61, e, g1, Option.bind_some, Option.toList, List.cons_append, List.nil_append, List.append_nil, if_true, if_false, Bool.false_eq_true, eq_self, not_true_eq_false, not_false_eq_true]
  · rcases b1013 x with hx | ⟨j, hj, hx, hx2⟩
    · rw [if_neg hx] at e61
      rcases b100 x with ⟨y1, y2⟩ | ⟨y1, y2, y3⟩ | ⟨y1, y2, y3, j, hj, hx2, -⟩
      · exact ⟨h, by simp only [ee_55_0, ee_55_1, ee_55_4, ee_55_5, ee_55_6, ee_55_8, ee_55_11, ee_55_12, ee_55_14, ee_55_17, ee_55_18, ee_55_21, ee_55_22, ee_55_23, ee_55_24, ee_55_27, ee_55_28, ee_55_31, ee_55_32, ee_55_35, ee_55_37, ee_55_38, ee_55_38N, ee_55_39, ee_55_42, ee_55_45, ee_55_46, ee_55_49, ee_55_49N, ee_55_50, ee_55_53, ee_55_56, ee_55_57, ee_55_57N, ee_55_58, ee_55_61, ee_55_64, ee_55_67, ee_55_69, ee_55_70, ee_55_71, ee_55_74, ee_55_74N, ee_55_75, ee_55_78, ee_55_79, ee_55_81, ee_55_82, ee_55_85, ee_55_86, ee_55_87, ee_55_89, ee_55_90, ee_55_92, ee_55_92N, ee_55_93, ee_55_96, ee_55_99, ee_55_102, ee_55_104, ee_55_107, ee_55_110, ee_55_110N, ee_55_111, ee_55_114, ee_55_117, ee_55_120, ee_55_122, ee_55_123, ee_55_126, ee_55_128, W.F, KK, e61, x0, hx, y1, y2, Option.bind_some, Option.toList, List.cons_append, List.nil_append, List.append_nil, if_true, if_false, Bool.false_eq_true, eq_self, not_true_eq_false, not_false_eq_true], C, Off.rf⟩
      · exact ⟨h, by simp only [ee_55_0, ee_55_1, ee_55_4, ee_55_5, ee_55_6, ee_55_8, ee_55_11, ee_55_12, ee_55_14, ee_55_17, ee_55_18, ee_55_21, ee_55_22, ee_55_23, ee_55_24, ee_55_27, ee_55_28, ee_55_31, ee_55_32, ee_55_35, ee_55_37, ee_55_38, ee_55_38N, ee_55_39, ee_55_42, ee_55_45, ee_55_46, ee_55_49, ee_55_49N, ee_55_50, ee_55_53, ee_55_56, ee_55_57, ee_55_57N, ee_55_58, ee_55_61, ee_55_64, ee_55_67, ee_55_69, ee_55_70, ee_55_71, ee_55_74, ee_55_74N, ee_55_75, ee_55_78, ee_55_79, ee_55_81, ee_55_82, ee_55_85, ee_55_86, ee_55_87, ee_55_89, ee_55_90, ee_55_92, ee_55_92N, ee_55_93, ee_55_96, ee_55_99, ee_55_102, ee_55_104, ee_55_107, ee_55_110, ee_55_110N, ee_55_111, ee_55_114, ee_55_117, ee_55_120, ee_55_122, ee_55_123, ee_55_126, ee_55_128, W.F, KK, e61, x0, hx, y1, y2, y3, Option.bind_some, Option.toList, List.cons_append, List.nil_append, List.append_nil, if_true, if_false, Bool.false_eq_true, eq_self, not_true_eq_false, not_false_eq_true], C, Off.rf⟩
      · refine ⟨h', ?_, C', O.mono (by decide) (by decide)⟩
        have hq := (sq_lt B.2.1).1
        have hc : (x - 100).toNatClampNeg = j := by rw [hx2]; exact nI_clamp (by omega)
        have e12 := m12 (d := d + 11) (x := x - 100) B.2.1 L
        rw [hc]
        have i1 : ia h' 53 (x - 100) = some (Q.1.2.2.2.2.getD j 0) := by rw [hx2]; exact Q3.ia hj
        have n1 : ¬ x - 100 < 0 := by rw [hx2]; exact nI_pos (by omega)
        by_cases hjs : j < g.1 * g.1
        · have n2 : ¬ nI (g.1 * g.1) ≤ x - 100 := by rw [hx2]; exact nI_nle2 (by omega) (by omega) hjs
          simp only [n1, n2, or_self, if_false] at e12
          by_cases ht : Q.1.1 = 0 <;> simp only [ee_55_0, ee_55_1, ee_55_4, ee_55_5, ee_55_6, ee_55_8, ee_55_11, ee_55_12, ee_55_14, ee_55_17, ee_55_18, ee_55_21, ee_55_22, ee_55_23, ee_55_24, ee_55_27, ee_55_28, ee_55_31, ee_55_32, ee_55_35, ee_55_37, ee_55_38, ee_55_38N, ee_55_39, ee_55_42, ee_55_45, ee_55_46, ee_55_49, ee_55_49N, ee_55_50, ee_55_53, ee_55_56, ee_55_57, ee_55_57N, ee_55_58, ee_55_61, ee_55_64, ee_55_67, ee_55_69, ee_55_70, ee_55_71, ee_55_74, ee_55_74N, ee_55_75, ee_55_78, ee_55_79, ee_55_81, ee_55_82, ee_55_85, ee_55_86, ee_55_87, ee_55_89, ee_55_90, ee_55_92, ee_55_92N, ee_55_93, ee_55_96, ee_55_99, ee_55_102, ee_55_104, ee_55_107, ee_55_110, ee_55_110N, ee_55_111, ee_55_114, ee_55_117, ee_55_120, ee_55_122, ee_55_123, ee_55_126, ee_55_128, W.F, W'.F, KK, e61, e, e12, g1, g2, i1, ht, hjs, x0, hx, y1, y2, y3, and_self, Option.bind_some, Option.toList, List.cons_append, List.nil_append, List.append_nil, if_true, if_false, Bool.false_eq_true, eq_self, not_true_eq_false, not_false_eq_true]
        · have n2 : nI (g.1 * g.1) ≤ x - 100 := by rw [hx2]; exact nI_le (by omega) (by omega)
          simp only [n2, or_true, if_true] at e12
          by_cases ht : Q.1.1 = 0 <;> simp only [ee_55_0, ee_55_1, ee_55_4, ee_55_5, ee_55_6, ee_55_8, ee_55_11, ee_55_12, ee_55_14, ee_55_17, ee_55_18, ee_55_21, ee_55_22, ee_55_23, ee_55_24, ee_55_27, ee_55_28, ee_55_31, ee_55_32, ee_55_35, ee_55_37, ee_55_38, ee_55_38N, ee_55_39, ee_55_42, ee_55_45, ee_55_46, ee_55_49, ee_55_49N, ee_55_50, ee_55_53, ee_55_56, ee_55_57, ee_55_57N, ee_55_58, ee_55_61, ee_55_64, ee_55_67, ee_55_69, ee_55_70, ee_55_71, ee_55_74, ee_55_74N, ee_55_75, ee_55_78, ee_55_79, ee_55_81, ee_55_82, ee_55_85, ee_55_86, ee_55_87, ee_55_89, ee_55_90, ee_55_92, ee_55_92N, ee_55_93, ee_55_96, ee_55_99, ee_55_102, ee_55_104, ee_55_107, ee_55_110, ee_55_110N, ee_55_111, ee_55_114, ee_55_117, ee_55_120, ee_55_122, ee_55_123, ee_55_126, ee_55_128, W.F, W'.F, KK, e61, e, e12, g1, g2, ht, hjs, x0, hx, y1, y2, y3, and_self, Option.bind_some, Option.toList, List.cons_append, List.nil_append, List.append_nil, if_true, if_false, Bool.false_eq_true, eq_self, not_true_eq_false, not_false_eq_true]
    · refine ⟨h', ?_, C', O.mono (by decide) (by decide)⟩
      have hb : 10 ≤ x ∧ x < 13 := by
        subst hx
        exact ⟨by rw [show (10 : Int32) = nI 10 by decide]; exact nI_le (by omega) (by omega), by rw [show (13 : Int32) = nI 13 by decide]; exact nI_lt (by omega) (by omega)⟩
      have n2 : x < 100 := by rw [hx, show (100 : Int32) = nI 100 by decide]; exact nI_lt (by omega) (by omega)
      rw [if_pos hb] at e61
      have e20 := m20 (d := d + 11) (o := 44) (j := j) C'.1.2.2.2.2.1.1 g1.2.2.1 g1.2.2.2 b4 l4 hj
      rw [← hx2] at e20
      have hc : (x - 10).toNatClampNeg = j := by rw [hx2]; exact nI_clamp (by omega)
      rw [hc]
      by_cases ht : Q.1.1 = 0 <;> simp only [ee_55_0, ee_55_1, ee_55_4, ee_55_5, ee_55_6, ee_55_8, ee_55_11, ee_55_12, ee_55_14, ee_55_17, ee_55_18, ee_55_21, ee_55_22, ee_55_23, ee_55_24, ee_55_27, ee_55_28, ee_55_31, ee_55_32, ee_55_35, ee_55_37, ee_55_38, ee_55_38N, ee_55_39, ee_55_42, ee_55_45, ee_55_46, ee_55_49, ee_55_49N, ee_55_50, ee_55_53, ee_55_56, ee_55_57, ee_55_57N, ee_55_58, ee_55_61, ee_55_64, ee_55_67, ee_55_69, ee_55_70, ee_55_71, ee_55_74, ee_55_74N, ee_55_75, ee_55_78, ee_55_79, ee_55_81, ee_55_82, ee_55_85, ee_55_86, ee_55_87, ee_55_89, ee_55_90, ee_55_92, ee_55_92N, ee_55_93, ee_55_96, ee_55_99, ee_55_102, ee_55_104, ee_55_107, ee_55_110, ee_55_110N, ee_55_111, ee_55_114, ee_55_117, ee_55_120, ee_55_122, ee_55_123, ee_55_126, ee_55_128, W.F, W'.F, KK, e61, e, e20, g1, ht, x0, n2, hb, and_self, Option.bind_some, Option.toList, List.cons_append, List.nil_append, List.append_nil, if_true, if_false, Bool.false_eq_true, eq_self, not_true_eq_false, not_false_eq_true]
/-- hide: what the first good one leaves is a square -/
theorem m63f (C : CB h g P i0 i1 K) (X : CrossAt h kn q) (Y : GoodAt h kg r) : ∃ h', go d 63 0 [.ref 5] [] h = some (none, h') ∧ h'[44]? = some (gObj 0 r.1.1 r.1.2.1) := by
  obtain ⟨-, b1, -⟩ := id X
  obtain ⟨-, a1, -⟩ := id Y
  obtain ⟨f0, f1, f2, f3, f4, f5, f6, f7, f8, ic⟩ := g5 C.2.2.1
  have p1 : pf h 38 6 1 1 1 (.int 0) = some (h.set 38 (crObj 0 q.1.1 q.1.2.1 q.1.2.2.1)) := pf_at b1 (show 6 < 9 by decide) rfl
  have f7' : gf (h.set 38 (crObj 0 q.1.1 q.1.2.1 q.1.2.2.1)) 5 7 7 7 = some (.ref 44) := by unfold gf; rw [set_ne (by decide), C.2.2.1]; rfl
  have a1' : (h.set 38 (crObj 0 q.1.1 q.1.2.1 q.1.2.2.1))[44]? = some (gObj kg r.1.1 r.1.2.1) := by rw [set_ne (by decide)]; exact a1
  have p2 : pf (h.set 38 (crObj 0 q.1.1 q.1.2.1 q.1.2.2.1)) 44 6 2 2 1 (.int 0) = some ((h.set 38 (crObj 0 q.1.1 q.1.2.1 q.1.2.2.1)).set 44 (gObj 0 r.1.1 r.1.2.1)) := pf_at a1' (show 6 < 10 by decide) rfl
  refine ⟨_, ?_, set_at (at_lt a1')⟩
  simp only [ee_63_0, ee_63_0N, ee_63_1, ee_63_4, ee_63_5, ee_63_8, ee_63_8N, ee_63_9, ee_63_12, ee_63_13, ee_63_16, f6, p1, f7', p2, Option.bind_some, Option.toList, List.cons_append, List.nil_append, List.append_nil, if_true, if_false, Bool.false_eq_true, eq_self, not_true_eq_false, not_false_eq_true]
theorem pourF_ok2 {rs : List Int32} (hr : ∀ x ∈ rs, isL x) (h0 : 0 < rs.length) (N : Nat) : ∀ (n c : Nat) (q : List Int32 × Nat × Nat), c + n = N → q.2.1 < rs.length → (∀ c, N ≤ c → q.1.getD c 0 = 0) → (∀ c, q.1.getD c 0 = 0 ∨ isL (q.1.getD c 0)) → (∀ e, N ≤ e → (pourF rs c n q).1.getD e 0 = 0) ∧ (∀ e, (pourF rs c n q).1.getD e 0 = 0 ∨ isL ((pourF rs c n q).1.getD e 0))
  | 0, _, _, _, _, k1, k2 => ⟨k1, k2⟩
  | n + 1, c, q, hc, hq, k1, k2 => by
    unfold pourF
    refine pourF_ok2 hr h0 N n (c + 1) _ (by omega) ?_ ?_ ?_
    · unfold pour1
      split
      · simp only; split <;> omega
      · exact hq
    · intro e he
      unfold pour1
      split
      · simp only
        rw [getD_set, if_neg (by omega)]; exact k1 e he
      · exact k1 e he
    · intro e
      unfold pour1
      split
      · simp only
        rw [getD_set]
        split
        · exact Or.inr (hr _ (getD_mem hq))
        · exact k2 e
      · exact k2 e
theorem walk_inv {α : Type} {s : Nat} {hope : List Int32 → Bool} {meet : List Int32 → α × List Int32 × List Int32 → α × List Int32 × List Int32} (Sq : List Int32 → Prop) (I : α → Prop) (V : List Int32 → Prop) (hlay : ∀ cs w p, Sq cs → V w → p < 8 * s * s → acc s cs w p = true → Sq (layF s w p 0 w.length (cs, 0)).1) (hmeet : ∀ cs q, Sq cs → I q.1 → I (meet cs q).1) : ∀ (W : List (List Int32)) (k : Nat) (cs : List Int32) (q : α × List Int32 × List Int32), (∀ w ∈ W, V w) → Sq cs → I q.1 → I (walk s hope meet W k cs q).1
  | [], k, cs, q, _, hS, hI => by
    unfold walk
    exact hmeet cs q hS hI
  | w :: W, k, cs, q, hV, hS, hI => by
    unfold walk
    split
    · have key : ∀ (l : List Nat) (q : α × List Int32 × List Int32), (∀ p ∈ l, p < 8 * s * s) → I q.1 → I (l.foldl (fun q p => if acc s cs w p = true then walk s hope meet W (k + 1) (layF s w p 0 w.length (cs, 0)).1 (q.1, q.2.1.set k (nI p), q.2.2.set k (csetF s p 0 w.length 0)) else q) q).1 := by
        intro l
        induction l with
        | nil => intro q _ hI; exact hI
        | cons p l ih =>
          intro q hl hI
          rw [List.foldl_cons]
          apply ih _ (fun p hp => hl p (List.mem_cons_of_mem _ hp))
          split
          · rename_i ha
            exact walk_inv Sq I V hlay hmeet W (k + 1) _ _ (fun w hw => hV w (List.mem_cons_of_mem _ hw)) (hlay cs w p hS (hV w List.mem_cons_self) (hl p List.mem_cons_self) ha) hI
          · exact hI
      exact key _ q (fun p hp => by have := List.mem_range'_1.mp hp; omega) hI
    · exact hI
def sqOk (s : Nat) (cs : List Int32) : Prop := cs.length = 16 ∧ (∀ c, s * s ≤ c → cs.getD c 0 = 0) ∧ (∀ c, cs.getD c 0 = 0 ∨ isL (cs.getD c 0))
theorem acc_r {s p : Nat} {cs w : List Int32} (ha : acc s cs w p = true) : w.length ≤ rN s p := by
  unfold acc at ha
  simp only [Bool.and_eq_true, decide_eq_true_eq] at ha
  exact ha.1
theorem sqOk.lay {s p : Nat} {cs w : List Int32} (hs : sideOk s) (hp : p < 8 * s * s) (hw : ∀ x ∈ w, isL x) (ha : acc s cs w p = true) (k : sqOk s cs) : sqOk s (layF s w p 0 w.length (cs, 0)).1 := by
  obtain ⟨k1, k2⟩ := layF_ok hs hp (acc_r ha) hw w.length 0 (cs, 0) (by omega) k.2.1 k.2.2
  exact ⟨by rw [layF_len]; exact k.1, k1, k2⟩
theorem sqOk.pour {s : Nat} {cs rs : List Int32} (h0 : 0 < rs.length) (hr : ∀ x ∈ rs, isL x) (k : sqOk s cs) : sqOk s (pourF rs 0 (s * s) (cs, 0, 0)).1 := by
  obtain ⟨k1, k2⟩ := pourF_ok2 hr h0 (s * s) (s * s) 0 (cs, 0, 0) (by omega) h0 k.2.1 k.2.2
  exact ⟨by rw [pourF_len]; exact k.1, k1, k2⟩
theorem good_sq {f : Int32} {rr : List Int32 × Nat × List Int32} {ps : List Int32} (B : gOk g) (hl : g.2.1.length = 16) : (goodOf g f rr ps).1.1 = 0 ∨ ((goodOf g f rr ps).1.2.2.2.1 = g.1 ∧ sqOk g.1 (goodOf g f rr ps).1.2.2.2.2) := by
  unfold goodOf
  refine walk_inv (sqOk g.1) (fun A : gA => A.1 = 0 ∨ (A.2.2.2.1 = g.1 ∧ sqOk g.1 A.2.2.2.2)) (fun w => ∀ x ∈ w, isL x) (fun cs w p k hw hp ha => k.lay B.1 hp hw ha) ?_ g.2.2.1 0 g.2.1 _ (fun w hw => (B.2.2.2.1 w hw).2.2) ⟨hl, B.2.1, B.2.2.1⟩ (Or.inl rfl)
  intro cs q k hI
  unfold meetG
  split
  · exact hI
  · split
    · exact Or.inr ⟨rfl, k.pour B.2.2.2.2.2.1 B.2.2.2.2.2.2.2⟩
    · rename_i h2 h3
      rcases hI with hI | hI
      · exact absurd hI h3
      · exact Or.inr hI
theorem c_hide (C : CI h g P i0 i1 K) : ∃ f r ps, ps.length = 3 ∧ ∃ h', go (d + 12) 56 0 [.ref 5] [] h = some (some (.int (if (goodOf g f r ps).1.1 = 0 then -5 else (goodOf g f r ps).1.2.1)), h') ∧ CI h' (if (goodOf g f r ps).1.1 = 0 then g else (g.1, (goodOf g f r ps).1.2.2.2.2, g.2.2)) P i0 i1 K ∧ Off h h' 5 96 := by
  have W := C.w
  obtain ⟨h1, f, r, ps, hps, e, C', Y, O⟩ := lk_g (d := d) C
  obtain ⟨-, b1, -, -, ⟨b4, l4⟩, -, Q3⟩ := id Y
  have W' := C'.w
  obtain ⟨L, S, b5, b33, B, T, -⟩ := id W'.1
  have gs := good_sq (f := f) (rr := r) (ps := ps) B.2 B.1.2.1.2.2
  generalize hQ : goodOf g f r ps = Q at *
  have g1 : gf h1 44 5 2 2 = some (.int Q.1.1) ∧ gf h1 44 8 2 2 = some (.ref 52) := by
    refine ⟨?_, ?_⟩ <;> (unfold gf; rw [b1]; rfl)
  by_cases ht : Q.1.1 = 0
  · refine ⟨f, r, ps, hps, h1, ?_, ?_, O.mono (by decide) (by decide)⟩
    · rw [hQ, if_pos ht]
      simp only [ee_56_0, ee_56_0N, ee_56_1, ee_56_4, ee_56_7, ee_56_7N, ee_56_8, ee_56_11, ee_56_14, ee_56_17, ee_56_19, ee_56_20, ee_56_20N, ee_56_21, ee_56_24, ee_56_27, ee_56_27N, ee_56_28, ee_56_31, ee_56_34, ee_56_37, ee_56_37N, ee_56_38, ee_56_41, ee_56_41N, ee_56_42, ee_56_45, ee_56_48, W.F, W'.F, KK, e, g1, ht, Option.bind_some, Option.toList, List.cons_append, List.nil_append, List.append_nil, if_true, if_false, Bool.false_eq_true, eq_self, not_true_eq_false, not_false_eq_true]
    · rw [hQ, if_pos ht]
      exact C'
  · obtain ⟨gs1, gs2⟩ : Q.1.2.2.2.1 = g.1 ∧ sqOk g.1 Q.1.2.2.2.2 := gs.resolve_left ht
    have e23 := m23 (d := d + 11) B.1.2.1 Q3 (by decide) (by decide) (by decide)
    rw [gs1] at e23
    have O1 : Off h1 (sqSet h1 31 g.1 Q.1.2.2.2.2) 31 33 := sqSet_off
    have Q1 : SquareAt (sqSet h1 31 g.1 Q.1.2.2.2.2) 31 g.1 Q.1.2.2.2.2 := sqSet_at B.1.2.1 gs2.1
    have e23' : go (d + 11) 23 0 [.ref 31, .ref 52] [] h1 = some (none, sqSet h1 31 g.1 Q.1.2.2.2.2) := e23
    generalize sqSet h1 31 g.1 Q.1.2.2.2.2 = h2 at e23' O1 Q1
    obtain ⟨a1, a2, a3, a4, a5⟩ := B.1
    obtain ⟨k1, k2, k3, k4, k5, k6⟩ := B.2
    have B1 : BoardG h2 12 (g.1, Q.1.2.2.2.2, g.2.2) := ⟨⟨by rw [O1.2 12 (by decide)]; exact a1, Q1, a3.off O1 (by decide), a4.off O1 (by decide), a5.off O1 (by decide)⟩, k1, gs2.2.1, gs2.2.2, k4, k5, k6⟩
    have W1 := W'.brd (O1.mono (by decide) (by decide)) B1
    have b1' : h2[44]? = some (gObj 1 Q.1.1 Q.1.2.1) := by rw [O1.2 44 (by decide)]; exact b1
    obtain ⟨C2, ⟨kn2, q2, X2⟩, kg2, r2, Y2⟩ := id W1
    have hr2 : kg2 = 1 ∧ r2.1.2.1 = Q.1.2.1 ∧ r2.1.1 = Q.1.1 := by
      have := Y2.2.1
      rw [b1'] at this
      simp only [gObj, Option.some.injEq, Sum.inl.injEq, Prod.mk.injEq, List.cons.injEq, Value.int.injEq, true_and, and_true] at this
      exact ⟨this.2.1.symm, this.2.2.symm, this.1.symm⟩
    obtain ⟨h3, e63, CI3, O3⟩ := m63w (d := d + 11) W1
    obtain ⟨h3', e63', G3⟩ := m63f (d := d + 11) (h := h2) C2 X2 Y2
    have eh : h3' = h3 := by rw [e63] at e63'; exact (congrArg (fun z => z.2) (Option.some.inj e63')).symm
    rw [eh] at G3
    have g3 : gf h3 44 9 2 2 = some (.int Q.1.2.1) := by unfold gf; rw [G3, hr2.2.1]; rfl
    refine ⟨f, r, ps, hps, h3, ?_, ?_, ((O.mono (by decide) (by decide)).trans (O1.mono (by decide) (by decide))).trans (O3.mono (by decide) (by decide))⟩
    · rw [hQ, if_neg ht]
      simp only [ee_56_0, ee_56_0N, ee_56_1, ee_56_4, ee_56_7, ee_56_7N, ee_56_8, ee_56_11, ee_56_14, ee_56_17, ee_56_19, ee_56_20, ee_56_20N, ee_56_21, ee_56_24, ee_56_27, ee_56_27N, ee_56_28, ee_56_31, ee_56_34, ee_56_37, ee_56_37N, ee_56_38, ee_56_41, ee_56_41N, ee_56_42, ee_56_45, ee_56_48, W.F, W'.F, CI3.w.F, W1.F.2.2.2.2.2.2.2.2.2.1, KK, e, e23', e63, g1, g3, ht, Option.bind_some, Option.toList, List.cons_append, List.nil_append, List.append_nil, if_true, if_false, Bool.false_eq_true, eq_self, not_true_eq_false, not_false_eq_true]
    · rw [hQ, if_neg ht]
      exact CI3
/-- covers -/
def pk3 (a b c : Int32) (k : Nat) : Int32 := if k = 0 then a else if k = 1 then b else c
def covW (s : Nat) (p : Nat → Nat) : List (List Int32) → Nat → List Int32 → Int32 → Int32
  | [], _, _, m => bcI m
  | w :: W, k, cs, m => if acc s cs w (p k) = true then covW s p W (k + 1) (layF s w (p k) 0 w.length (cs, 0)).1 (m ||| csetF s (p k) 0 w.length 0) else -5
def outP (s : Nat) (a : Int32) : Prop := a < 0 ∨ nI (8 * s * s) ≤ a
theorem CI.trial (O : Off h h' 36 38) (Q : ∃ s c, SquareAt h' 36 s c) (C : CI h g P i0 i1 K) : CI h' g P i0 i1 K := by
  obtain ⟨C, ⟨kn, q, X, hx⟩, kg, r, Y, hy⟩ := C
  obtain ⟨L, ⟨s2, s3⟩, b5, b33, B, T, -, B0, B1⟩ := C
  exact ⟨⟨L.off O (by decide), ⟨by rw [O.2 2 (by decide)]; exact s2, by rw [O.2 3 (by decide)]; exact s3⟩, by rw [O.2 5 (by decide)]; exact b5, by rw [O.2 33 (by decide)]; exact b33, B.off O (by decide), ⟨T.1.off O (by decide), T.2⟩, Q, B0.off O (by decide), B1.off O (by decide)⟩, ⟨kn, q, X.off O (by decide), hx⟩, kg, r, Y.off O (by decide), hy⟩
theorem cov_loop {a b c : Int32} {p : Nat → Nat} (hs : sideOk g.1) (hp : ∀ k, k < g.2.2.1.length → pk3 a b c k = nI (p k) ∧ p k < 8 * g.1 * g.1) : ∀ (W : List (List Int32)) (k : Nat) (cs : List Int32) (m : Int32) (l8 l9 : Value) (h : aH), g.2.2.1.drop k = W → k ≤ 3 → CI h g P i0 i1 K → SquareAt h 36 g.1 cs →
    ∃ h', go (d + 12) 54 91 [.ref 5, .int a, .int b, .int c, .int (nI g.2.2.1.length), .ref (latA g.1), .int m, .int (nI k), l8, l9] [] h = some (some (.int (covW g.1 p W k cs m)), h') ∧ CI h' g P i0 i1 K ∧ Off h h' 36 38
  | [], k, cs, m, l8, l9, h, hW, hk, C, Q => by
    have hle : g.2.2.1.length ≤ k := by simpa using hW
    have n1 : nI g.2.2.1.length ≤ nI k := nI_le hle (by omega)
    have e119 := m119 (d := d + 11) (h := h) (x := m)
    refine ⟨h, ?_, C, Off.rf⟩
    simp only [ee_54_0, ee_54_0N, ee_54_1, ee_54_4, ee_54_7, ee_54_10, ee_54_12, ee_54_12N, ee_54_13, ee_54_16, ee_54_19, ee_54_22, ee_54_22N, ee_54_24, ee_54_26, ee_54_29, ee_54_29N, ee_54_31, ee_54_32, ee_54_35, ee_54_38, ee_54_40, ee_54_41, ee_54_44, ee_54_44N, ee_54_46, ee_54_47, ee_54_50, ee_54_53, ee_54_55, ee_54_56, ee_54_59, ee_54_59N, ee_54_61, ee_54_62, ee_54_65, ee_54_68, ee_54_70, ee_54_71, ee_54_71N, ee_54_72, ee_54_75, ee_54_75N, ee_54_76, ee_54_79, ee_54_82, ee_54_85, ee_54_86, ee_54_88, ee_54_89, ee_54_91, ee_54_93, ee_54_95, ee_54_98, ee_54_98N, ee_54_99, ee_54_102, ee_54_105, ee_54_107, ee_54_110, ee_54_110N, ee_54_112, ee_54_114, ee_54_117, ee_54_118, ee_54_121, ee_54_123, ee_54_124, ee_54_127, ee_54_128, ee_54_131, ee_54_132, ee_54_134, ee_54_134N, ee_54_136, ee_54_136N, ee_54_139, ee_54_139N, ee_54_140, ee_54_143, ee_54_143N, ee_54_145, ee_54_147, ee_54_150, ee_54_153, ee_54_155, ee_54_156, ee_54_156N, ee_54_157, ee_54_160, ee_54_160N, ee_54_162, ee_54_164, ee_54_167, ee_54_168, ee_54_170, ee_54_170N, ee_54_172, ee_54_174, ee_54_174N, ee_54_176, ee_54_179, ee_54_182, ee_54_183, ee_54_185, ee_54_188, ee_54_191, ee_54_193, ee_54_196, n1, e119, covW, Option.bind_some, Option.toList, List.cons_append, List.nil_append, List.append_nil, if_true, if_false, Bool.false_eq_true, eq_self, not_true_eq_false, not_false_eq_true]
  | w :: W, k, cs, m, l8, l9, h, hW, hk, C, Q => by
    have hlt : k < g.2.2.1.length := by
      apply Nat.lt_of_not_le
      intro hle
      rw [List.drop_eq_nil_of_le hle] at hW
      cases hW
    have W0 := C.w
    obtain ⟨L, S, b5, b33, B, T, -⟩ := id W0.1
    have hn := B.1.2.2.1.1
    have hwk : g.2.2.1.getD k [] = w := by
      rw [List.drop_eq_getElem_cons hlt] at hW
      rw [List.getD_eq_getElem?_getD, List.getElem?_eq_getElem hlt]
      exact (List.cons.inj hW).1
    have hW' : g.2.2.1.drop (k + 1) = W := by
      rw [List.drop_eq_getElem_cons hlt] at hW
      exact (List.cons.inj hW).2
    have n1 : ¬ nI g.2.2.1.length ≤ nI k := nI_nle2 (by omega) (by omega) hlt
    have e37 := m37 (d := d + 11) B.1.2.2.1 hlt
    have T1 := B.1.2.2.1.text k hlt
    rw [hwk] at T1
    obtain ⟨p1, p2⟩ := hp k hlt
    have e24 := m24 (d := d + 9) hs L Q T1 (by decide) p2
    have sel : ∀ l8, go (d + 12) 54 112 [.ref 5, .int a, .int b, .int c, .int (nI g.2.2.1.length), .ref (latA g.1), .int m, .int (nI k), l8, l9] [] h = go (d + 12) 54 134 [.ref 5, .int a, .int b, .int c, .int (nI g.2.2.1.length), .ref (latA g.1), .int m, .int (nI k), l8, .int (nI (p k))] [] h := by
      intro l8
      have : k = 0 ∨ k = 1 ∨ k = 2 := by omega
      rw [← p1]
      rcases this with rfl | rfl | rfl
      · show go (d + 12) 54 112 [.ref 5, .int a, .int b, .int c, .int (nI g.2.2.1.length), .ref (latA g.1), .int m, .int 0, l8, l9] [] h = go (d + 12) 54 134 [.ref 5, .int a, .int b, .int c, .int (nI g.2.2.1.length), .ref (latA g.1), .int m, .int 0, l8, .int a] [] h
        simp only [ee_54_0, ee_54_0N, ee_54_1, ee_54_4, ee_54_7, ee_54_10, ee_54_12, ee_54_12N, ee_54_13, ee_54_16, ee_54_19, ee_54_22, ee_54_22N, ee_54_24, ee_54_26, ee_54_29, ee_54_29N, ee_54_31, ee_54_32, ee_54_35, ee_54_38, ee_54_40, ee_54_41, ee_54_44, ee_54_44N, ee_54_46, ee_54_47, ee_54_50, ee_54_53, ee_54_55, ee_54_56, ee_54_59, ee_54_59N, ee_54_61, ee_54_62, ee_54_65, ee_54_68, ee_54_70, ee_54_71, ee_54_71N, ee_54_72, ee_54_75, ee_54_75N, ee_54_76, ee_54_79, ee_54_82, ee_54_85, ee_54_86, ee_54_88, ee_54_89, ee_54_91, ee_54_93, ee_54_95, ee_54_98, ee_54_98N, ee_54_99, ee_54_102, ee_54_105, ee_54_107, ee_54_110, ee_54_110N, ee_54_112, ee_54_114, ee_54_117, ee_54_118, ee_54_121, ee_54_123, ee_54_124, ee_54_127, ee_54_128, ee_54_131, ee_54_132, ee_54_136, ee_54_136N, ee_54_139, ee_54_139N, ee_54_140, ee_54_143, ee_54_143N, ee_54_145, ee_54_147, ee_54_150, ee_54_153, ee_54_155, ee_54_156, ee_54_156N, ee_54_157, ee_54_160, ee_54_160N, ee_54_162, ee_54_164, ee_54_167, ee_54_168, ee_54_170, ee_54_170N, ee_54_172, ee_54_174, ee_54_174N, ee_54_176, ee_54_179, ee_54_182, ee_54_183, ee_54_185, ee_54_188, ee_54_191, ee_54_193, ee_54_196, KK, Option.bind_some, Option.toList, List.cons_append, List.nil_append, List.append_nil, if_true, if_false, Bool.false_eq_true, eq_self, not_true_eq_false, not_false_eq_true]
      · show go (d + 12) 54 112 [.ref 5, .int a, .int b, .int c, .int (nI g.2.2.1.length), .ref (latA g.1), .int m, .int 1, l8, l9] [] h = go (d + 12) 54 134 [.ref 5, .int a, .int b, .int c, .int (nI g.2.2.1.length), .ref (latA g.1), .int m, .int 1, l8, .int b] [] h
        simp only [ee_54_0, ee_54_0N, ee_54_1, ee_54_4, ee_54_7, ee_54_10, ee_54_12, ee_54_12N, ee_54_13, ee_54_16, ee_54_19, ee_54_22, ee_54_22N, ee_54_24, ee_54_26, ee_54_29, ee_54_29N, ee_54_31, ee_54_32, ee_54_35, ee_54_38, ee_54_40, ee_54_41, ee_54_44, ee_54_44N, ee_54_46, ee_54_47, ee_54_50, ee_54_53, ee_54_55, ee_54_56, ee_54_59, ee_54_59N, ee_54_61, ee_54_62, ee_54_65, ee_54_68, ee_54_70, ee_54_71, ee_54_71N, ee_54_72, ee_54_75, ee_54_75N, ee_54_76, ee_54_79, ee_54_82, ee_54_85, ee_54_86, ee_54_88, ee_54_89, ee_54_91, ee_54_93, ee_54_95, ee_54_98, ee_54_98N, ee_54_99, ee_54_102, ee_54_105, ee_54_107, ee_54_110, ee_54_110N, ee_54_112, ee_54_114, ee_54_117, ee_54_118, ee_54_121, ee_54_123, ee_54_124, ee_54_127, ee_54_128, ee_54_131, ee_54_132, ee_54_136, ee_54_136N, ee_54_139, ee_54_139N, ee_54_140, ee_54_143, ee_54_143N, ee_54_145, ee_54_147, ee_54_150, ee_54_153, ee_54_155, ee_54_156, ee_54_156N, ee_54_157, ee_54_160, ee_54_160N, ee_54_162, ee_54_164, ee_54_167, ee_54_168, ee_54_170, ee_54_170N, ee_54_172, ee_54_174, ee_54_174N, ee_54_176, ee_54_179, ee_54_182, ee_54_183, ee_54_185, ee_54_188, ee_54_191, ee_54_193, ee_54_196, KK, Option.bind_some, Option.toList, List.cons_append, List.nil_append, List.append_nil, if_true, if_false, Bool.false_eq_true, eq_self, not_true_eq_false, not_false_eq_true]
      · show go (d + 12) 54 112 [.ref 5, .int a, .int b, .int c, .int (nI g.2.2.1.length), .ref (latA g.1), .int m, .int 2, l8, l9] [] h = go (d + 12) 54 134 [.ref 5, .int a, .int b, .int c, .int (nI g.2.2.1.length), .ref (latA g.1), .int m, .int 2, l8, .int c] [] h
        simp only [ee_54_0, ee_54_0N, ee_54_1, ee_54_4, ee_54_7, ee_54_10, ee_54_12, ee_54_12N, ee_54_13, ee_54_16, ee_54_19, ee_54_22, ee_54_22N, ee_54_24, ee_54_26, ee_54_29, ee_54_29N, ee_54_31, ee_54_32, ee_54_35, ee_54_38, ee_54_40, ee_54_41, ee_54_44, ee_54_44N, ee_54_46, ee_54_47, ee_54_50, ee_54_53, ee_54_55, ee_54_56, ee_54_59, ee_54_59N, ee_54_61, ee_54_62, ee_54_65, ee_54_68, ee_54_70, ee_54_71, ee_54_71N, ee_54_72, ee_54_75, ee_54_75N, ee_54_76, ee_54_79, ee_54_82, ee_54_85, ee_54_86, ee_54_88, ee_54_89, ee_54_91, ee_54_93, ee_54_95, ee_54_98, ee_54_98N, ee_54_99, ee_54_102, ee_54_105, ee_54_107, ee_54_110, ee_54_110N, ee_54_112, ee_54_114, ee_54_117, ee_54_118, ee_54_121, ee_54_123, ee_54_124, ee_54_127, ee_54_128, ee_54_131, ee_54_132, ee_54_136, ee_54_136N, ee_54_139, ee_54_139N, ee_54_140, ee_54_143, ee_54_143N, ee_54_145, ee_54_147, ee_54_150, ee_54_153, ee_54_155, ee_54_156, ee_54_156N, ee_54_157, ee_54_160, ee_54_160N, ee_54_162, ee_54_164, ee_54_167, ee_54_168, ee_54_170, ee_54_170N, ee_54_172, ee_54_174, ee_54_174N, ee_54_176, ee_54_179, ee_54_182, ee_54_183, ee_54_185, ee_54_188, ee_54_191, ee_54_193, ee_54_196, KK, Option.bind_some, Option.toList, List.cons_append, List.nil_append, List.append_nil, if_true, if_false, Bool.false_eq_true, eq_self, not_true_eq_false, not_false_eq_true]
    unfold covW
    by_cases ha : acc g.1 cs w (p k) = true
    · have hr := acc_r ha
      have hw := T1.len
      have e25 := m25 (d := d + 11) hs L Q T1 (by decide) p2 hr (by omega) (by omega)
      have O1 : Off h (h.set 37 (ints (layF g.1 w (p k) 0 w.length (cs, 0)).1)) 36 38 := Off.set (by decide) (by decide)
      have Q1 : SquareAt (h.set 37 (ints (layF g.1 w (p k) 0 w.length (cs, 0)).1)) 36 g.1 (layF g.1 w (p k) 0 w.length (cs, 0)).1 := Q.put (by rw [layF_len]; exact Q.2.2)
      have C1 := C.trial O1 ⟨_, _, Q1⟩
      have e25' : go (d + 11) 25 0 [.ref 36, .ref (12 + 1 + 2 + 2 * k), .int (nI (p k)), aU, aU, aU, aU] [] h = some (some (.int (layF g.1 w (p k) 0 w.length (cs, 0)).2), h.set 37 (ints (layF g.1 w (p k) 0 w.length (cs, 0)).1)) := e25
      have T2 := T1.off O1 (by omega)
      generalize h.set 37 (ints (layF g.1 w (p k) 0 w.length (cs, 0)).1) = h1 at e25' O1 Q1 C1 T2
      have e15 := m15 (d := d + 11) (n := w.length) hs C1.1.1 p2 (by omega)
      obtain ⟨h', e, C', O'⟩ := cov_loop hs hp W (k + 1) (layF g.1 w (p k) 0 w.length (cs, 0)).1 (m ||| csetF g.1 (p k) 0 w.length 0) (.ref (12 + 1 + 2 + 2 * k)) (.int (nI (p k))) h1 hW' (by omega) C1 Q1
      refine ⟨h', ?_, C', O1.trans O'⟩
      rw [ha, bI_t] at e24
      rw [if_pos ha, ee_54_91]
      simp only [ee_54_0, ee_54_0N, ee_54_1, ee_54_4, ee_54_7, ee_54_10, ee_54_12, ee_54_12N, ee_54_13, ee_54_16, ee_54_19, ee_54_22, ee_54_22N, ee_54_24, ee_54_26, ee_54_29, ee_54_29N, ee_54_31, ee_54_32, ee_54_35, ee_54_38, ee_54_40, ee_54_41, ee_54_44, ee_54_44N, ee_54_46, ee_54_47, ee_54_50, ee_54_53, ee_54_55, ee_54_56, ee_54_59, ee_54_59N, ee_54_61, ee_54_62, ee_54_65, ee_54_68, ee_54_70, ee_54_71, ee_54_71N, ee_54_72, ee_54_75, ee_54_75N, ee_54_76, ee_54_79, ee_54_82, ee_54_85, ee_54_86, ee_54_88, ee_54_89, ee_54_93, ee_54_95, ee_54_98, ee_54_98N, ee_54_99, ee_54_102, ee_54_105, ee_54_107, ee_54_110, ee_54_110N, ee_54_114, ee_54_117, ee_54_118, ee_54_121, ee_54_123, ee_54_124, ee_54_127, ee_54_128, ee_54_131, ee_54_132, ee_54_134, ee_54_134N, ee_54_136, ee_54_136N, ee_54_139, ee_54_139N, ee_54_140, ee_54_143, ee_54_143N, ee_54_145, ee_54_147, ee_54_150, ee_54_153, ee_54_155, ee_54_156, ee_54_156N, ee_54_157, ee_54_160, ee_54_160N, ee_54_162, ee_54_164, ee_54_167, ee_54_168, ee_54_170, ee_54_170N, ee_54_172, ee_54_174, ee_54_174N, ee_54_176, ee_54_179, ee_54_182, ee_54_183, ee_54_185, ee_54_188, ee_54_191, ee_54_193, ee_54_196, W0.F, KK, n1, e37, sel, e24, e25', C1.w.F, T2.f1, e15, nI_1, e, Option.bind_some, Option.toList, List.cons_append, List.nil_append, List.append_nil, if_true, if_false, Bool.false_eq_true, eq_self, not_true_eq_false, not_false_eq_true]
    · refine ⟨h, ?_, C, Off.rf⟩
      have ha' : acc g.1 cs w (p k) = false := by simpa using ha
      rw [ha', bI_f] at e24
      rw [if_neg ha, ee_54_91]
      simp only [ee_54_0, ee_54_0N, ee_54_1, ee_54_4, ee_54_7, ee_54_10, ee_54_12, ee_54_12N, ee_54_13, ee_54_16, ee_54_19, ee_54_22, ee_54_22N, ee_54_24, ee_54_26, ee_54_29, ee_54_29N, ee_54_31, ee_54_32, ee_54_35, ee_54_38, ee_54_40, ee_54_41, ee_54_44, ee_54_44N, ee_54_46, ee_54_47, ee_54_50, ee_54_53, ee_54_55, ee_54_56, ee_54_59, ee_54_59N, ee_54_61, ee_54_62, ee_54_65, ee_54_68, ee_54_70, ee_54_71, ee_54_71N, ee_54_72, ee_54_75, ee_54_75N, ee_54_76, ee_54_79, ee_54_82, ee_54_85, ee_54_86, ee_54_88, ee_54_89, ee_54_93, ee_54_95, ee_54_98, ee_54_98N, ee_54_99, ee_54_102, ee_54_105, ee_54_107, ee_54_110, ee_54_110N, ee_54_114, ee_54_117, ee_54_118, ee_54_121, ee_54_123, ee_54_124, ee_54_127, ee_54_128, ee_54_131, ee_54_132, ee_54_134, ee_54_134N, ee_54_136, ee_54_136N, ee_54_139, ee_54_139N, ee_54_140, ee_54_143, ee_54_143N, ee_54_145, ee_54_147, ee_54_150, ee_54_153, ee_54_155, ee_54_156, ee_54_156N, ee_54_157, ee_54_160, ee_54_160N, ee_54_162, ee_54_164, ee_54_167, ee_54_168, ee_54_170, ee_54_170N, ee_54_172, ee_54_174, ee_54_174N, ee_54_176, ee_54_179, ee_54_182, ee_54_183, ee_54_185, ee_54_188, ee_54_191, ee_54_193, ee_54_196, W0.F, KK, n1, e37, sel, e24, Option.bind_some, Option.toList, List.cons_append, List.nil_append, List.append_nil, if_true, if_false, Bool.false_eq_true, eq_self, not_true_eq_false, not_false_eq_true]
def q_covers (g : gG) (a b c : Int32) : Int32 := if (0 < g.2.2.1.length ∧ (a < 0 ∨ nI (8 * g.1 * g.1) ≤ a)) ∨ (1 < g.2.2.1.length ∧ (b < 0 ∨ nI (8 * g.1 * g.1) ≤ b)) ∨ (2 < g.2.2.1.length ∧ (c < 0 ∨ nI (8 * g.1 * g.1) ≤ c)) then -2 else covW g.1 (fun k => (pk3 a b c k).toNatClampNeg) g.2.2.1 0 g.2.1 0
theorem c_covers {a b c : Int32} (C : CI h g P i0 i1 K) : ∃ h', go (d + 12) 54 0 [.ref 5, .int a, .int b, .int c, aU, aU, aU, aU, aU, aU] [] h = some (some (.int (q_covers g a b c)), h') ∧ CI h' g P i0 i1 K ∧ Off h h' 5 96 := by
  have W := C.w
  obtain ⟨L, S, b5, b33, B, T, ⟨s3, c3, Q3⟩, -⟩ := id W.1
  have hs := B.2.1
  have hq := (sq_lt hs).2
  have hn := B.1.2.2.1.1
  have ea := m13x (d := d + 11) (x := a) hs L
  have eb := m13x (d := d + 11) (x := b) hs L
  have ec := m13x (d := d + 11) (x := c) hs L
  have c0 : nI g.2.2.1.length ≤ 0 ↔ ¬ 0 < g.2.2.1.length := by rw [show (0 : Int32) = nI 0 by decide, nI_leI (by omega) (by omega)]; omega
  have c1 : nI g.2.2.1.length ≤ 1 ↔ ¬ 1 < g.2.2.1.length := by rw [show (1 : Int32) = nI 1 by decide, nI_leI (by omega) (by omega)]; omega
  have c2 : nI g.2.2.1.length ≤ 2 ↔ ¬ 2 < g.2.2.1.length := by rw [show (2 : Int32) = nI 2 by decide, nI_leI (by omega) (by omega)]; omega
  unfold q_covers
  by_cases h1 : 0 < g.2.2.1.length ∧ (a < 0 ∨ nI (8 * g.1 * g.1) ≤ a)
  · rw [if_pos h1.2] at ea
    refine ⟨h, ?_, C, Off.rf⟩
    have h10 := h1.1
    rw [if_pos (Or.inl h1)]
    simp only [ee_54_0, ee_54_0N, ee_54_1, ee_54_4, ee_54_7, ee_54_10, ee_54_12, ee_54_12N, ee_54_13, ee_54_16, ee_54_19, ee_54_22, ee_54_22N, ee_54_24, ee_54_26, ee_54_29, ee_54_29N, ee_54_31, ee_54_32, ee_54_35, ee_54_38, ee_54_40, ee_54_41, ee_54_44, ee_54_44N, ee_54_46, ee_54_47, ee_54_50, ee_54_53, ee_54_55, ee_54_56, ee_54_59, ee_54_59N, ee_54_61, ee_54_62, ee_54_65, ee_54_68, ee_54_70, ee_54_71, ee_54_71N, ee_54_72, ee_54_75, ee_54_75N, ee_54_76, ee_54_79, ee_54_82, ee_54_85, ee_54_86, ee_54_88, ee_54_89, ee_54_91, ee_54_93, ee_54_95, ee_54_98, ee_54_98N, ee_54_99, ee_54_102, ee_54_105, ee_54_107, ee_54_110, ee_54_110N, ee_54_112, ee_54_114, ee_54_117, ee_54_118, ee_54_121, ee_54_123, ee_54_124, ee_54_127, ee_54_128, ee_54_131, ee_54_132, ee_54_134, ee_54_134N, ee_54_136, ee_54_136N, ee_54_139, ee_54_139N, ee_54_140, ee_54_143, ee_54_143N, ee_54_145, ee_54_147, ee_54_150, ee_54_153, ee_54_155, ee_54_156, ee_54_156N, ee_54_157, ee_54_160, ee_54_160N, ee_54_162, ee_54_164, ee_54_167, ee_54_168, ee_54_170, ee_54_170N, ee_54_172, ee_54_174, ee_54_174N, ee_54_176, ee_54_179, ee_54_182, ee_54_183, ee_54_185, ee_54_188, ee_54_191, ee_54_193, ee_54_196, W.F, KK, c0, h10, ea, Option.bind_some, Option.toList, List.cons_append, List.nil_append, List.append_nil, if_true, if_false, Bool.false_eq_true, eq_self, not_true_eq_false, not_false_eq_true]
  · have s1 : go (d + 12) 54 0 [.ref 5, .int a, .int b, .int c, aU, aU, aU, aU, aU, aU] [] h = go (d + 12) 54 38 [.ref 5, .int a, .int b, .int c, .int (nI g.2.2.1.length), .ref (latA g.1), aU, aU, aU, aU] [] h := by
      by_cases k0 : 0 < g.2.2.1.length
      · have h1' : ¬ (a < 0 ∨ nI (8 * g.1 * g.1) ≤ a) := fun z => h1 ⟨k0, z⟩
        rw [if_neg h1'] at ea
        simp only [ee_54_0, ee_54_0N, ee_54_1, ee_54_4, ee_54_7, ee_54_10, ee_54_12, ee_54_12N, ee_54_13, ee_54_16, ee_54_19, ee_54_22, ee_54_22N, ee_54_24, ee_54_26, ee_54_29, ee_54_29N, ee_54_31, ee_54_32, ee_54_35, ee_54_40, ee_54_41, ee_54_44, ee_54_44N, ee_54_46, ee_54_47, ee_54_50, ee_54_53, ee_54_55, ee_54_56, ee_54_59, ee_54_59N, ee_54_61, ee_54_62, ee_54_65, ee_54_68, ee_54_70, ee_54_71, ee_54_71N, ee_54_72, ee_54_75, ee_54_75N, ee_54_76, ee_54_79, ee_54_82, ee_54_85, ee_54_86, ee_54_88, ee_54_89, ee_54_91, ee_54_93, ee_54_95, ee_54_98, ee_54_98N, ee_54_99, ee_54_102, ee_54_105, ee_54_107, ee_54_110, ee_54_110N, ee_54_112, ee_54_114, ee_54_117, ee_54_118, ee_54_121, ee_54_123, ee_54_124, ee_54_127, ee_54_128, ee_54_131, ee_54_132, ee_54_134, ee_54_134N, ee_54_136, ee_54_136N, ee_54_139, ee_54_139N, ee_54_140, ee_54_143, ee_54_143N, ee_54_145, ee_54_147, ee_54_150, ee_54_153, ee_54_155, ee_54_156, ee_54_156N, ee_54_157, ee_54_160, ee_54_160N, ee_54_162, ee_54_164, ee_54_167, ee_54_168, ee_54_170, ee_54_170N, ee_54_172, ee_54_174, ee_54_174N, ee_54_176, ee_54_179, ee_54_182, ee_54_183, ee_54_185, ee_54_188, ee_54_191, ee_54_193, ee_54_196, W.F, KK, c0, k0, ea, Option.bind_some, Option.toList, List.cons_append, List.nil_append, List.append_nil, if_true, if_false, Bool.false_eq_true, eq_self, not_true_eq_false, not_false_eq_true]
      · simp only [ee_54_0, ee_54_0N, ee_54_1, ee_54_4, ee_54_7, ee_54_10, ee_54_12, ee_54_12N, ee_54_13, ee_54_16, ee_54_19, ee_54_22, ee_54_22N, ee_54_24, ee_54_26, ee_54_29, ee_54_29N, ee_54_31, ee_54_32, ee_54_35, ee_54_40, ee_54_41, ee_54_44, ee_54_44N, ee_54_46, ee_54_47, ee_54_50, ee_54_53, ee_54_55, ee_54_56, ee_54_59, ee_54_59N, ee_54_61, ee_54_62, ee_54_65, ee_54_68, ee_54_70, ee_54_71, ee_54_71N, ee_54_72, ee_54_75, ee_54_75N, ee_54_76, ee_54_79, ee_54_82, ee_54_85, ee_54_86, ee_54_88, ee_54_89, ee_54_91, ee_54_93, ee_54_95, ee_54_98, ee_54_98N, ee_54_99, ee_54_102, ee_54_105, ee_54_107, ee_54_110, ee_54_110N, ee_54_112, ee_54_114, ee_54_117, ee_54_118, ee_54_121, ee_54_123, ee_54_124, ee_54_127, ee_54_128, ee_54_131, ee_54_132, ee_54_134, ee_54_134N, ee_54_136, ee_54_136N, ee_54_139, ee_54_139N, ee_54_140, ee_54_143, ee_54_143N, ee_54_145, ee_54_147, ee_54_150, ee_54_153, ee_54_155, ee_54_156, ee_54_156N, ee_54_157, ee_54_160, ee_54_160N, ee_54_162, ee_54_164, ee_54_167, ee_54_168, ee_54_170, ee_54_170N, ee_54_172, ee_54_174, ee_54_174N, ee_54_176, ee_54_179, ee_54_182, ee_54_183, ee_54_185, ee_54_188, ee_54_191, ee_54_193, ee_54_196, W.F, KK, c0, k0, Option.bind_some, Option.toList, List.cons_append, List.nil_append, List.append_nil, if_true, if_false, Bool.false_eq_true, eq_self, not_true_eq_false, not_false_eq_true]
    rw [s1]
    by_cases h2 : 1 < g.2.2.1.length ∧ (b < 0 ∨ nI (8 * g.1 * g.1) ≤ b)
    · rw [if_pos h2.2] at eb
      refine ⟨h, ?_, C, Off.rf⟩
      have h20 := h2.1
      rw [if_pos (Or.inr (Or.inl h2))]
      simp only [ee_54_0, ee_54_0N, ee_54_1, ee_54_4, ee_54_7, ee_54_10, ee_54_12, ee_54_12N, ee_54_13, ee_54_16, ee_54_19, ee_54_22, ee_54_22N, ee_54_24, ee_54_26, ee_54_29, ee_54_29N, ee_54_31, ee_54_32, ee_54_35, ee_54_38, ee_54_40, ee_54_41, ee_54_44, ee_54_44N, ee_54_46, ee_54_47, ee_54_50, ee_54_53, ee_54_55, ee_54_56, ee_54_59, ee_54_59N, ee_54_61, ee_54_62, ee_54_65, ee_54_68, ee_54_70, ee_54_71, ee_54_71N, ee_54_72, ee_54_75, ee_54_75N, ee_54_76, ee_54_79, ee_54_82, ee_54_85, ee_54_86, ee_54_88, ee_54_89, ee_54_91, ee_54_93, ee_54_95, ee_54_98, ee_54_98N, ee_54_99, ee_54_102, ee_54_105, ee_54_107, ee_54_110, ee_54_110N, ee_54_112, ee_54_114, ee_54_117, ee_54_118, ee_54_121, ee_54_123, ee_54_124, ee_54_127, ee_54_128, ee_54_131, ee_54_132, ee_54_134, ee_54_134N, ee_54_136, ee_54_136N, ee_54_139, ee_54_139N, ee_54_140, ee_54_143, ee_54_143N, ee_54_145, ee_54_147, ee_54_150, ee_54_153, ee_54_155, ee_54_156, ee_54_156N, ee_54_157, ee_54_160, ee_54_160N, ee_54_162, ee_54_164, ee_54_167, ee_54_168, ee_54_170, ee_54_170N, ee_54_172, ee_54_174, ee_54_174N, ee_54_176, ee_54_179, ee_54_182, ee_54_183, ee_54_185, ee_54_188, ee_54_191, ee_54_193, ee_54_196, W.F, KK, c1, h20, eb, Option.bind_some, Option.toList, List.cons_append, List.nil_append, List.append_nil, if_true, if_false, Bool.false_eq_true, eq_self, not_true_eq_false, not_false_eq_true]
    · have s2 : go (d + 12) 54 38 [.ref 5, .int a, .int b, .int c, .int (nI g.2.2.1.length), .ref (latA g.1), aU, aU, aU, aU] [] h = go (d + 12) 54 53 [.ref 5, .int a, .int b, .int c, .int (nI g.2.2.1.length), .ref (latA g.1), aU, aU, aU, aU] [] h := by
        by_cases k0 : 1 < g.2.2.1.length
        · have h1' : ¬ (b < 0 ∨ nI (8 * g.1 * g.1) ≤ b) := fun z => h2 ⟨k0, z⟩
          rw [if_neg h1'] at eb
          simp only [ee_54_0, ee_54_0N, ee_54_1, ee_54_4, ee_54_7, ee_54_10, ee_54_12, ee_54_12N, ee_54_13, ee_54_16, ee_54_19, ee_54_22, ee_54_22N, ee_54_24, ee_54_26, ee_54_29, ee_54_29N, ee_54_31, ee_54_32, ee_54_35, ee_54_38, ee_54_40, ee_54_41, ee_54_44, ee_54_44N, ee_54_46, ee_54_47, ee_54_50, ee_54_55, ee_54_56, ee_54_59, ee_54_59N, ee_54_61, ee_54_62, ee_54_65, ee_54_68, ee_54_70, ee_54_71, ee_54_71N, ee_54_72, ee_54_75, ee_54_75N, ee_54_76, ee_54_79, ee_54_82, ee_54_85, ee_54_86, ee_54_88, ee_54_89, ee_54_91, ee_54_93, ee_54_95, ee_54_98, ee_54_98N, ee_54_99, ee_54_102, ee_54_105, ee_54_107, ee_54_110, ee_54_110N, ee_54_112, ee_54_114, ee_54_117, ee_54_118, ee_54_121, ee_54_123, ee_54_124, ee_54_127, ee_54_128, ee_54_131, ee_54_132, ee_54_134, ee_54_134N, ee_54_136, ee_54_136N, ee_54_139, ee_54_139N, ee_54_140, ee_54_143, ee_54_143N, ee_54_145, ee_54_147, ee_54_150, ee_54_153, ee_54_155, ee_54_156, ee_54_156N, ee_54_157, ee_54_160, ee_54_160N, ee_54_162, ee_54_164, ee_54_167, ee_54_168, ee_54_170, ee_54_170N, ee_54_172, ee_54_174, ee_54_174N, ee_54_176, ee_54_179, ee_54_182, ee_54_183, ee_54_185, ee_54_188, ee_54_191, ee_54_193, ee_54_196, W.F, KK, c1, k0, eb, Option.bind_some, Option.toList, List.cons_append, List.nil_append, List.append_nil, if_true, if_false, Bool.false_eq_true, eq_self, not_true_eq_false, not_false_eq_true]
        · simp only [ee_54_0, ee_54_0N, ee_54_1, ee_54_4, ee_54_7, ee_54_10, ee_54_12, ee_54_12N, ee_54_13, ee_54_16, ee_54_19, ee_54_22, ee_54_22N, ee_54_24, ee_54_26, ee_54_29, ee_54_29N, ee_54_31, ee_54_32, ee_54_35, ee_54_38, ee_54_40, ee_54_41, ee_54_44, ee_54_44N, ee_54_46, ee_54_47, ee_54_50, ee_54_55, ee_54_56, ee_54_59, ee_54_59N, ee_54_61, ee_54_62, ee_54_65, ee_54_68, ee_54_70, ee_54_71, ee_54_71N, ee_54_72, ee_54_75, ee_54_75N, ee_54_76, ee_54_79, ee_54_82, ee_54_85, ee_54_86, ee_54_88, ee_54_89, ee_54_91, ee_54_93, ee_54_95, ee_54_98, ee_54_98N, ee_54_99, ee_54_102, ee_54_105, ee_54_107, ee_54_110, ee_54_110N, ee_54_112, ee_54_114, ee_54_117, ee_54_118, ee_54_121, ee_54_123, ee_54_124, ee_54_127, ee_54_128, ee_54_131, ee_54_132, ee_54_134, ee_54_134N, ee_54_136, ee_54_136N, ee_54_139, ee_54_139N, ee_54_140, ee_54_143, ee_54_143N, ee_54_145, ee_54_147, ee_54_150, ee_54_153, ee_54_155, ee_54_156, ee_54_156N, ee_54_157, ee_54_160, ee_54_160N, ee_54_162, ee_54_164, ee_54_167, ee_54_168, ee_54_170, ee_54_170N, ee_54_172, ee_54_174, ee_54_174N, ee_54_176, ee_54_179, ee_54_182, ee_54_183, ee_54_185, ee_54_188, ee_54_191, ee_54_193, ee_54_196, W.F, KK, c1, k0, Option.bind_some, Option.toList, List.cons_append, List.nil_append, List.append_nil, if_true, if_false, Bool.false_eq_true, eq_self, not_true_eq_false, not_false_eq_true]
      rw [s2]
      by_cases h3 : 2 < g.2.2.1.length ∧ (c < 0 ∨ nI (8 * g.1 * g.1) ≤ c)
      · rw [if_pos h3.2] at ec
        refine ⟨h, ?_, C, Off.rf⟩
        have h30 := h3.1
        rw [if_pos (Or.inr (Or.inr h3))]
        simp only [ee_54_0, ee_54_0N, ee_54_1, ee_54_4, ee_54_7, ee_54_10, ee_54_12, ee_54_12N, ee_54_13, ee_54_16, ee_54_19, ee_54_22, ee_54_22N, ee_54_24, ee_54_26, ee_54_29, ee_54_29N, ee_54_31, ee_54_32, ee_54_35, ee_54_38, ee_54_40, ee_54_41, ee_54_44, ee_54_44N, ee_54_46, ee_54_47, ee_54_50, ee_54_53, ee_54_55, ee_54_56, ee_54_59, ee_54_59N, ee_54_61, ee_54_62, ee_54_65, ee_54_68, ee_54_70, ee_54_71, ee_54_71N, ee_54_72, ee_54_75, ee_54_75N, ee_54_76, ee_54_79, ee_54_82, ee_54_85, ee_54_86, ee_54_88, ee_54_89, ee_54_91, ee_54_93, ee_54_95, ee_54_98, ee_54_98N, ee_54_99, ee_54_102, ee_54_105, ee_54_107, ee_54_110, ee_54_110N, ee_54_112, ee_54_114, ee_54_117, ee_54_118, ee_54_121, ee_54_123, ee_54_124, ee_54_127, ee_54_128, ee_54_131, ee_54_132, ee_54_134, ee_54_134N, ee_54_136, ee_54_136N, ee_54_139, ee_54_139N, ee_54_140, ee_54_143, ee_54_143N, ee_54_145, ee_54_147, ee_54_150, ee_54_153, ee_54_155, ee_54_156, ee_54_156N, ee_54_157, ee_54_160, ee_54_160N, ee_54_162, ee_54_164, ee_54_167, ee_54_168, ee_54_170, ee_54_170N, ee_54_172, ee_54_174, ee_54_174N, ee_54_176, ee_54_179, ee_54_182, ee_54_183, ee_54_185, ee_54_188, ee_54_191, ee_54_193, ee_54_196, W.F, KK, c2, h30, ec, Option.bind_some, Option.toList, List.cons_append, List.nil_append, List.append_nil, if_true, if_false, Bool.false_eq_true, eq_self, not_true_eq_false, not_false_eq_true]
      · have s3 : go (d + 12) 54 53 [.ref 5, .int a, .int b, .int c, .int (nI g.2.2.1.length), .ref (latA g.1), aU, aU, aU, aU] [] h = go (d + 12) 54 71 [.ref 5, .int a, .int b, .int c, .int (nI g.2.2.1.length), .ref (latA g.1), aU, aU, aU, aU] [] h := by
          by_cases k0 : 2 < g.2.2.1.length
          · have h1' : ¬ (c < 0 ∨ nI (8 * g.1 * g.1) ≤ c) := fun z => h3 ⟨k0, z⟩
            rw [if_neg h1'] at ec
            simp only [ee_54_0, ee_54_0N, ee_54_1, ee_54_4, ee_54_7, ee_54_10, ee_54_12, ee_54_12N, ee_54_13, ee_54_16, ee_54_19, ee_54_22, ee_54_22N, ee_54_24, ee_54_26, ee_54_29, ee_54_29N, ee_54_31, ee_54_32, ee_54_35, ee_54_38, ee_54_40, ee_54_41, ee_54_44, ee_54_44N, ee_54_46, ee_54_47, ee_54_50, ee_54_53, ee_54_55, ee_54_56, ee_54_59, ee_54_59N, ee_54_61, ee_54_62, ee_54_65, ee_54_68, ee_54_70, ee_54_72, ee_54_75, ee_54_75N, ee_54_76, ee_54_79, ee_54_82, ee_54_85, ee_54_86, ee_54_88, ee_54_89, ee_54_91, ee_54_93, ee_54_95, ee_54_98, ee_54_98N, ee_54_99, ee_54_102, ee_54_105, ee_54_107, ee_54_110, ee_54_110N, ee_54_112, ee_54_114, ee_54_117, ee_54_118, ee_54_121, ee_54_123, ee_54_124, ee_54_127, ee_54_128, ee_54_131, ee_54_132, ee_54_134, ee_54_134N, ee_54_136, ee_54_136N, ee_54_139, ee_54_139N, ee_54_140, ee_54_143, ee_54_143N, ee_54_145, ee_54_147, ee_54_150, ee_54_153, ee_54_155, ee_54_156, ee_54_156N, ee_54_157, ee_54_160, ee_54_160N, ee_54_162, ee_54_164, ee_54_167, ee_54_168, ee_54_170, ee_54_170N, ee_54_172, ee_54_174, ee_54_174N, ee_54_176, ee_54_179, ee_54_182, ee_54_183, ee_54_185, ee_54_188, ee_54_191, ee_54_193, ee_54_196, W.F, KK, c2, k0, ec, Option.bind_some, Option.toList, List.cons_append, List.nil_append, List.append_nil, if_true, if_false, Bool.false_eq_true, eq_self, not_true_eq_false, not_false_eq_true]
          · simp only [ee_54_0, ee_54_0N, ee_54_1, ee_54_4, ee_54_7, ee_54_10, ee_54_12, ee_54_12N, ee_54_13, ee_54_16, ee_54_19, ee_54_22, ee_54_22N, ee_54_24, ee_54_26, ee_54_29, ee_54_29N, ee_54_31, ee_54_32, ee_54_35, ee_54_38, ee_54_40, ee_54_41, ee_54_44, ee_54_44N, ee_54_46, ee_54_47, ee_54_50, ee_54_53, ee_54_55, ee_54_56, ee_54_59, ee_54_59N, ee_54_61, ee_54_62, ee_54_65, ee_54_68, ee_54_70, ee_54_72, ee_54_75, ee_54_75N, ee_54_76, ee_54_79, ee_54_82, ee_54_85, ee_54_86, ee_54_88, ee_54_89, ee_54_91, ee_54_93, ee_54_95, ee_54_98, ee_54_98N, ee_54_99, ee_54_102, ee_54_105, ee_54_107, ee_54_110, ee_54_110N, ee_54_112, ee_54_114, ee_54_117, ee_54_118, ee_54_121, ee_54_123, ee_54_124, ee_54_127, ee_54_128, ee_54_131, ee_54_132, ee_54_134, ee_54_134N, ee_54_136, ee_54_136N, ee_54_139, ee_54_139N, ee_54_140, ee_54_143, ee_54_143N, ee_54_145, ee_54_147, ee_54_150, ee_54_153, ee_54_155, ee_54_156, ee_54_156N, ee_54_157, ee_54_160, ee_54_160N, ee_54_162, ee_54_164, ee_54_167, ee_54_168, ee_54_170, ee_54_170N, ee_54_172, ee_54_174, ee_54_174N, ee_54_176, ee_54_179, ee_54_182, ee_54_183, ee_54_185, ee_54_188, ee_54_191, ee_54_193, ee_54_196, W.F, KK, c2, k0, Option.bind_some, Option.toList, List.cons_append, List.nil_append, List.append_nil, if_true, if_false, Bool.false_eq_true, eq_self, not_true_eq_false, not_false_eq_true]
        rw [s3, if_neg (by rintro (z | z | z); exact h1 z; exact h2 z; exact h3 z)]
        have e23 := m23 (d := d + 11) Q3 B.1.2.1 (by decide) (by decide) (by decide)
        have O1 : Off h (sqSet h 36 g.1 g.2.1) 36 38 := sqSet_off
        have Q1 : SquareAt (sqSet h 36 g.1 g.2.1) 36 g.1 g.2.1 := sqSet_at Q3 B.1.2.1.2.2
        have e23' : go (d + 11) 23 0 [.ref 36, .ref 31] [] h = some (none, sqSet h 36 g.1 g.2.1) := e23
        generalize sqSet h 36 g.1 g.2.1 = h1' at e23' O1 Q1
        have C1 := C.trial O1 ⟨_, _, Q1⟩
        have hp : ∀ k, k < g.2.2.1.length → pk3 a b c k = nI (pk3 a b c k).toNatClampNeg ∧ (pk3 a b c k).toNatClampNeg < 8 * g.1 * g.1 := by
          intro k hk
          have key : ¬ (pk3 a b c k < 0 ∨ nI (8 * g.1 * g.1) ≤ pk3 a b c k) := by
            have : k = 0 ∨ k = 1 ∨ k = 2 := by omega
            rcases this with rfl | rfl | rfl
            · exact fun z => h1 ⟨by omega, z⟩
            · exact fun z => h2 ⟨by omega, z⟩
            · exact fun z => h3 ⟨by omega, z⟩
          rcases pk_ix (pk3 a b c k) (n := 8 * g.1 * g.1) (by omega) with hc | hc | ⟨j, hj, hx⟩
          · exact absurd (Or.inl hc) key
          · exact absurd (Or.inr hc) key
          · rw [hx, nI_clamp (by omega)]; exact ⟨rfl, hj⟩
        obtain ⟨h', e, C', O'⟩ := cov_loop (d := d) hs hp g.2.2.1 0 g.2.1 0 aU aU h1' rfl (by decide) C1 Q1
        rw [nI_0] at e
        refine ⟨h', ?_, C', (O1.mono (by decide) (by decide)).trans (O'.mono (by decide) (by decide))⟩
        simp only [ee_54_0, ee_54_0N, ee_54_1, ee_54_4, ee_54_7, ee_54_10, ee_54_12, ee_54_12N, ee_54_13, ee_54_16, ee_54_19, ee_54_22, ee_54_22N, ee_54_24, ee_54_26, ee_54_29, ee_54_29N, ee_54_31, ee_54_32, ee_54_35, ee_54_38, ee_54_40, ee_54_41, ee_54_44, ee_54_44N, ee_54_46, ee_54_47, ee_54_50, ee_54_53, ee_54_55, ee_54_56, ee_54_59, ee_54_59N, ee_54_61, ee_54_62, ee_54_65, ee_54_68, ee_54_70, ee_54_71, ee_54_71N, ee_54_72, ee_54_75, ee_54_75N, ee_54_76, ee_54_79, ee_54_82, ee_54_85, ee_54_86, ee_54_88, ee_54_89, ee_54_93, ee_54_95, ee_54_98, ee_54_98N, ee_54_99, ee_54_102, ee_54_105, ee_54_107, ee_54_110, ee_54_110N, ee_54_112, ee_54_114, ee_54_117, ee_54_118, ee_54_121, ee_54_123, ee_54_124, ee_54_127, ee_54_128, ee_54_131, ee_54_132, ee_54_134, ee_54_134N, ee_54_136, ee_54_136N, ee_54_139, ee_54_139N, ee_54_140, ee_54_143, ee_54_143N, ee_54_145, ee_54_147, ee_54_150, ee_54_153, ee_54_155, ee_54_156, ee_54_156N, ee_54_157, ee_54_160, ee_54_160N, ee_54_162, ee_54_164, ee_54_167, ee_54_168, ee_54_170, ee_54_170N, ee_54_172, ee_54_174, ee_54_174N, ee_54_176, ee_54_179, ee_54_182, ee_54_183, ee_54_185, ee_54_188, ee_54_191, ee_54_193, ee_54_196, W.F, KK, e23', e, Option.bind_some, Option.toList, List.cons_append, List.nil_append, List.append_nil, if_true, if_false, Bool.false_eq_true, eq_self, not_true_eq_false, not_false_eq_true]
end CM3
