/-! fill, letter, stands, put, fits, image, restore, count -/
section CM2
variable {h h' : aH} {g g' i0 i1 : gG} {P P' : List Int32} {K kn kg : Int32} {lo hi b d : Nat} {q : cS} {r : gS}
/-- fill -/
def dif (cs P : List Int32) (c : Nat) : Bool := decide (¬ cs.getD c 0 = P.getD c 0)
def q_fill (g : gG) (P : List Int32) : Int32 × gG × List Int32 := if P.length = g.1 * g.1 then (nI (cnt (dif g.2.1 P) P.length), (g.1, updR g.2.1 0 (fun c => P.getD c 0) P.length, g.2.2), []) else (-7, g, P)
theorem getD_mem {P : List Int32} {c : Nat} (hc : c < P.length) : P.getD c 0 ∈ P := by
  rw [List.getD_eq_getElem?_getD, List.getElem?_eq_getElem hc]
  exact List.getElem_mem hc
theorem getD_out {P : List Int32} {c : Nat} (hc : P.length ≤ c) : P.getD c 0 = 0 := by
  rw [List.getD_eq_getElem?_getD, List.getElem?_eq_none hc]; rfl
theorem fill_loop (C : CI h g P i0 i1 K) (hP : P.length = g.1 * g.1) : go (d + 12) 48 30 [.ref 5, .int (nI (cnt (dif g.2.1 P) 0)), .int (nI 0)] [] (h.set 32 (ints (updR g.2.1 0 (fun c => P.getD c 0) 0))) = go (d + 12) 48 30 [.ref 5, .int (nI (cnt (dif g.2.1 P) P.length)), .int (nI P.length)] [] (h.set 32 (ints (updR g.2.1 0 (fun c => P.getD c 0) P.length))) := by
  have W := C.w
  obtain ⟨L, S, b5, b33, B, T, -⟩ := id W.1
  have hq := (sq_lt B.2.1).1
  have hl16 := B.1.2.1.2.2
  refine go_loop (fun i => [.ref 5, .int (nI (cnt (dif g.2.1 P) i)), .int (nI i)]) (fun i => h.set 32 (ints (updR g.2.1 0 (fun c => P.getD c 0) i))) P.length ?_
  intro i hi
  have O1 : Off h (h.set 32 (ints (updR g.2.1 0 (fun c => P.getD c 0) i))) 31 33 := Off.set (by decide) (by decide)
  have Q1 : SquareAt (h.set 32 (ints (updR g.2.1 0 (fun c => P.getD c 0) i))) 31 g.1 (updR g.2.1 0 (fun c => P.getD c 0) i) := B.1.2.1.put (by rw [updR_len]; exact hl16)
  have T1 := T.1.off O1 (by decide)
  have f5 : gf (h.set 32 (ints (updR g.2.1 0 (fun c => P.getD c 0) i))) 5 4 7 7 = some (.ref 34) ∧ gf (h.set 32 (ints (updR g.2.1 0 (fun c => P.getD c 0) i))) 5 2 7 7 = some (.ref 12) ∧ gf (h.set 32 (ints (updR g.2.1 0 (fun c => P.getD c 0) i))) 12 0 0 0 = some (.ref 31) := by
    refine ⟨?_, ?_, ?_⟩
    · unfold gf; rw [set_ne (by decide), b5]; rfl
    · unfold gf; rw [set_ne (by decide), b5]; rfl
    · unfold gf; rw [set_ne (by decide), B.1.1]; rfl
  have g1 : gf (h.set 32 (ints (updR g.2.1 0 (fun c => P.getD c 0) i))) 31 0 4 4 = some (.ref 32) := Q1.f0
  have g2 : gf (h.set 32 (ints (updR g.2.1 0 (fun c => P.getD c 0) i))) 34 0 5 5 = some (.ref 35) := T1.f0
  have ia1 : ia (h.set 32 (ints (updR g.2.1 0 (fun c => P.getD c 0) i))) 32 (nI i) = some (g.2.1.getD i 0) := by
    rw [show (32 : Nat) = 31 + 1 from rfl, Q1.ia (by omega), updR_at _ _ _ _ _ (by omega), if_neg (by omega)]
  have ia2 : ia (h.set 32 (ints (updR g.2.1 0 (fun c => P.getD c 0) i))) 35 (nI i) = some (P.getD i 0) := T1.ia hi (by decide)
  have is1 : is_ (h.set 32 (ints (updR g.2.1 0 (fun c => P.getD c 0) i))) 32 (nI i) (P.getD i 0) = some (h.set 32 (ints (updR g.2.1 0 (fun c => P.getD c 0) (i + 1)))) := by
    rw [show (32 : Nat) = 31 + 1 from rfl, Q1.is_ (by omega), List.set_set, updR, Nat.zero_add]
  have n1 : ¬ nI P.length ≤ nI i := nI_nle2 (by omega) (by omega) hi
  have ct : cnt (dif g.2.1 P) (i + 1) = cnt (dif g.2.1 P) i + (if dif g.2.1 P i = true then 1 else 0) := rfl
  generalize h.set 32 (ints (updR g.2.1 0 (fun c => P.getD c 0) i)) = h1 at *
  rw [ee_48_30]
  by_cases hz : g.2.1.getD i 0 = P.getD i 0
  · have hd : ¬ dif g.2.1 P i = true := by simp only [dif, hz, not_true_eq_false, decide_false, Bool.false_eq_true, not_false_eq_true]
    rw [if_neg hd] at ct
    simp only [ee_48_0, ee_48_0N, ee_48_1, ee_48_4, ee_48_7, ee_48_7N, ee_48_8, ee_48_11, ee_48_14, ee_48_17, ee_48_20, ee_48_23, ee_48_25, ee_48_26, ee_48_27, ee_48_28, ee_48_29, ee_48_31, ee_48_31N, ee_48_32, ee_48_35, ee_48_38, ee_48_41, ee_48_41N, ee_48_42, ee_48_45, ee_48_48, ee_48_51, ee_48_52, ee_48_53, ee_48_53N, ee_48_54, ee_48_57, ee_48_60, ee_48_61, ee_48_62, ee_48_65, ee_48_68, ee_48_68N, ee_48_69, ee_48_72, ee_48_75, ee_48_78, ee_48_79, ee_48_79N, ee_48_80, ee_48_83, ee_48_86, ee_48_87, ee_48_88, ee_48_89, ee_48_92, ee_48_95, ee_48_95N, ee_48_96, ee_48_99, ee_48_100, ee_48_103, ee_48_103N, ee_48_104, ee_48_107, ee_48_108, f5, g1, g2, T1.f1, n1, ia1, ia2, hz, is1, Option.bind_some, Option.toList, List.cons_append, List.nil_append, List.append_nil, if_true, if_false, Bool.false_eq_true, eq_self, not_true_eq_false, not_false_eq_true, ct, nI_1, Nat.add_zero]
  · have hd : dif g.2.1 P i = true := by simp only [dif, hz, not_false_eq_true, decide_true]
    rw [if_pos hd] at ct
    simp only [ee_48_0, ee_48_0N, ee_48_1, ee_48_4, ee_48_7, ee_48_7N, ee_48_8, ee_48_11, ee_48_14, ee_48_17, ee_48_20, ee_48_23, ee_48_25, ee_48_26, ee_48_27, ee_48_28, ee_48_29, ee_48_31, ee_48_31N, ee_48_32, ee_48_35, ee_48_38, ee_48_41, ee_48_41N, ee_48_42, ee_48_45, ee_48_48, ee_48_51, ee_48_52, ee_48_53, ee_48_53N, ee_48_54, ee_48_57, ee_48_60, ee_48_61, ee_48_62, ee_48_65, ee_48_68, ee_48_68N, ee_48_69, ee_48_72, ee_48_75, ee_48_78, ee_48_79, ee_48_79N, ee_48_80, ee_48_83, ee_48_86, ee_48_87, ee_48_88, ee_48_89, ee_48_92, ee_48_95, ee_48_95N, ee_48_96, ee_48_99, ee_48_100, ee_48_103, ee_48_103N, ee_48_104, ee_48_107, ee_48_108, f5, g1, g2, T1.f1, n1, ia1, ia2, hz, is1, Option.bind_some, Option.toList, List.cons_append, List.nil_append, List.append_nil, if_true, if_false, Bool.false_eq_true, eq_self, not_true_eq_false, not_false_eq_true, ct, nI_1]
theorem c_fill (C : CI h g P i0 i1 K) : ∃ h', go (d + 12) 48 0 [.ref 5, aU, aU] [] h = some (some (.int (q_fill g P).1), h') ∧ CI h' (q_fill g P).2.1 (q_fill g P).2.2 i0 i1 K ∧ Off h h' 5 96 := by
  have W := C.w
  obtain ⟨L, S, b5, b33, B, T, -⟩ := id W.1
  have hq := (sq_lt B.2.1).1
  have hl := T.1.len
  have hl16 := B.1.2.1.2.2
  unfold q_fill
  by_cases hP : P.length = g.1 * g.1
  · have e := fill_loop (d := d) C hP
    have e0 : h.set 32 (ints (updR g.2.1 0 (fun c => P.getD c 0) 0)) = h := set_same B.1.2.1.2.1
    rw [e0] at e
    have B1 := B.cells (cs' := updR g.2.1 0 (fun c => P.getD c 0) P.length) (by rw [updR_len]; exact hl16) (fun c hc => by rw [updR_at _ _ _ _ _ (by omega), if_neg (by omega)]; exact B.2.2.1 c hc) (fun c => by
      rw [updR_at _ _ _ _ _ (by omega)]
      by_cases hz : 0 ≤ c ∧ c < 0 + P.length
      · rw [if_pos hz]; exact Or.inr (T.2 _ (getD_mem (by omega)))
      · rw [if_neg hz]; exact B.2.2.2.1 c)
    have O1 : Off h (h.set 32 (ints (updR g.2.1 0 (fun c => P.getD c 0) P.length))) 12 33 := Off.set (by decide) (by decide)
    have F1 := (W.brd O1 B1).F
    obtain ⟨h2, h3, f1, f2, f3, f4, f5, f6⟩ := fin_pad (d := d + 11) O1 B1 W
    refine ⟨h3, ?_, by simp only [hP, if_true]; rw [hP] at f5; exact f5, f6⟩
    have n0 : nI P.length = nI (g.1 * g.1) := by rw [hP]
    have n1 : nI P.length ≤ nI P.length := Int32.le_refl _
    have z0 : cnt (dif g.2.1 P) 0 = 0 := rfl
    rw [z0, nI_0] at e
    rw [if_pos hP]
    generalize h.set 32 (ints (updR g.2.1 0 (fun c => P.getD c 0) P.length)) = h1 at *
    simp only [ee_48_0, ee_48_0N, ee_48_1, ee_48_4, ee_48_7, ee_48_7N, ee_48_8, ee_48_11, ee_48_14, ee_48_17, ee_48_20, ee_48_23, ee_48_25, ee_48_26, ee_48_27, ee_48_28, ee_48_29, ee_48_31, ee_48_31N, ee_48_32, ee_48_35, ee_48_38, ee_48_41, ee_48_41N, ee_48_42, ee_48_45, ee_48_48, ee_48_51, ee_48_52, ee_48_53, ee_48_53N, ee_48_54, ee_48_57, ee_48_60, ee_48_61, ee_48_62, ee_48_65, ee_48_68, ee_48_68N, ee_48_69, ee_48_72, ee_48_75, ee_48_78, ee_48_79, ee_48_79N, ee_48_80, ee_48_83, ee_48_86, ee_48_87, ee_48_88, ee_48_89, ee_48_92, ee_48_95, ee_48_95N, ee_48_96, ee_48_99, ee_48_100, ee_48_103, ee_48_103N, ee_48_104, ee_48_107, ee_48_108, W.F, n0, Option.bind_some, Option.toList, List.cons_append, List.nil_append, List.append_nil, if_true, if_false, Bool.false_eq_true, eq_self, not_true_eq_false, not_false_eq_true]
    rw [e, ee_48_30]
    simp only [ee_48_0, ee_48_0N, ee_48_1, ee_48_4, ee_48_7, ee_48_7N, ee_48_8, ee_48_11, ee_48_14, ee_48_17, ee_48_20, ee_48_23, ee_48_25, ee_48_26, ee_48_27, ee_48_28, ee_48_29, ee_48_31, ee_48_31N, ee_48_32, ee_48_35, ee_48_38, ee_48_41, ee_48_41N, ee_48_42, ee_48_45, ee_48_48, ee_48_51, ee_48_52, ee_48_53, ee_48_53N, ee_48_54, ee_48_57, ee_48_60, ee_48_61, ee_48_62, ee_48_65, ee_48_68, ee_48_68N, ee_48_69, ee_48_72, ee_48_75, ee_48_78, ee_48_79, ee_48_79N, ee_48_80, ee_48_83, ee_48_86, ee_48_87, ee_48_88, ee_48_89, ee_48_92, ee_48_95, ee_48_95N, ee_48_96, ee_48_99, ee_48_100, ee_48_103, ee_48_103N, ee_48_104, ee_48_107, ee_48_108, F1, n1, f2, f3, f4, Option.bind_some, Option.toList, List.cons_append, List.nil_append, List.append_nil, if_true, if_false, Bool.false_eq_true, eq_self, not_true_eq_false, not_false_eq_true]
  · have n0 : ¬ nI P.length = nI (g.1 * g.1) := by rw [nI_eq (by omega) (by omega)]; exact hP
    refine ⟨h, ?_, by simp only [hP, if_false]; exact C, Off.rf⟩
    simp only [ee_48_0, ee_48_0N, ee_48_1, ee_48_4, ee_48_7, ee_48_7N, ee_48_8, ee_48_11, ee_48_14, ee_48_17, ee_48_20, ee_48_23, ee_48_25, ee_48_26, ee_48_27, ee_48_28, ee_48_29, ee_48_31, ee_48_31N, ee_48_32, ee_48_35, ee_48_38, ee_48_41, ee_48_41N, ee_48_42, ee_48_45, ee_48_48, ee_48_51, ee_48_52, ee_48_53, ee_48_53N, ee_48_54, ee_48_57, ee_48_60, ee_48_61, ee_48_62, ee_48_65, ee_48_68, ee_48_68N, ee_48_69, ee_48_72, ee_48_75, ee_48_78, ee_48_79, ee_48_79N, ee_48_80, ee_48_83, ee_48_86, ee_48_87, ee_48_88, ee_48_89, ee_48_92, ee_48_95, ee_48_95N, ee_48_96, ee_48_99, ee_48_100, ee_48_103, ee_48_103N, ee_48_104, ee_48_107, ee_48_108, W.F, n0, hP, Option.bind_some, Option.toList, List.cons_append, List.nil_append, List.append_nil, if_true, if_false, Bool.false_eq_true, eq_self, not_true_eq_false, not_false_eq_true]
/-- letter -/
def fnd (ws : List (List Int32)) (n : Int32) : Option (List Int32) := if n < 0 ∨ nI ws.length ≤ n then none else some (ws.getD n.toNatClampNeg [])
def q_lt (w : List Int32) (i : Int32) : Int32 := if i = -1 then nI w.length else if nI w.length ≤ i then -6 else w.getD i.toNatClampNeg 0
def q_ln (o : Option (List Int32)) (i : Int32) : Int32 := match o with
  | none => -1
  | some w => q_lt w i
def txt (g : gG) (k n : Int32) : Option (List Int32) := if k = 2 then some g.2.2.2.2 else if k = 0 then fnd g.2.2.1 n else fnd g.2.2.2.1 n
def q_letter (g : gG) (k n i : Int32) : Int32 := if (k = 0 ∨ k = 1 ∨ k = 2) ∧ -1 ≤ i then q_ln (txt g k n) i else -2
theorem ge_m1 {i : Int32} (h1 : -1 ≤ i) (h2 : ¬ i = -1) : ¬ i < 0 := by
  have a1 : (-1 : Int32).toInt ≤ i.toInt := Int32.le_iff_toInt_le.mp h1
  have a2 : ¬ i.toInt = (-1 : Int32).toInt := fun z => h2 (Int32.toInt_inj.mp z)
  have e1 : (-1 : Int32).toInt = -1 := by decide
  have e0 : (0 : Int32).toInt = 0 := by decide
  rw [Int32.lt_iff_toInt_lt]
  omega
theorem let43 {t c : Nat} {w : List Int32} {k n i : Int32} (T : TextAt h t c w) (hc : c < 2 ^ 31) (hi : -1 ≤ i) : go (d + 12) 49 43 [.ref 5, .int k, .int n, .int i, .ref t] [] h = some (some (.int (q_lt w i)), h) := by
  unfold q_lt
  have hl := T.len
  by_cases h1 : i = -1
  · simp only [ee_49_0, ee_49_1, ee_49_4, ee_49_5, ee_49_6, ee_49_9, ee_49_10, ee_49_11, ee_49_14, ee_49_16, ee_49_17, ee_49_18, ee_49_19, ee_49_22, ee_49_22N, ee_49_23, ee_49_26, ee_49_29, ee_49_32, ee_49_32N, ee_49_33, ee_49_34, ee_49_37, ee_49_38, ee_49_41, ee_49_41N, ee_49_43, ee_49_43N, ee_49_45, ee_49_45N, ee_49_48, ee_49_49, ee_49_50, ee_49_51, ee_49_52, ee_49_55, ee_49_55N, ee_49_57, ee_49_60, ee_49_61, ee_49_62, ee_49_62N, ee_49_64, ee_49_67, ee_49_70, ee_49_70N, ee_49_72, ee_49_75, ee_49_76, ee_49_77, ee_49_80, ee_49_82, h1, T.f1, Option.bind_some, Option.toList, List.cons_append, List.nil_append, List.append_nil, if_true, if_false, Bool.false_eq_true, eq_self, not_true_eq_false, not_false_eq_true]
  · by_cases h2 : nI w.length ≤ i
    · simp only [ee_49_0, ee_49_1, ee_49_4, ee_49_5, ee_49_6, ee_49_9, ee_49_10, ee_49_11, ee_49_14, ee_49_16, ee_49_17, ee_49_18, ee_49_19, ee_49_22, ee_49_22N, ee_49_23, ee_49_26, ee_49_29, ee_49_32, ee_49_32N, ee_49_33, ee_49_34, ee_49_37, ee_49_38, ee_49_41, ee_49_41N, ee_49_43, ee_49_43N, ee_49_45, ee_49_45N, ee_49_48, ee_49_49, ee_49_50, ee_49_51, ee_49_52, ee_49_55, ee_49_55N, ee_49_57, ee_49_60, ee_49_61, ee_49_62, ee_49_62N, ee_49_64, ee_49_67, ee_49_70, ee_49_70N, ee_49_72, ee_49_75, ee_49_76, ee_49_77, ee_49_80, ee_49_82, h1, h2, T.f1, Option.bind_some, Option.toList, List.cons_append, List.nil_append, List.append_nil, if_true, if_false, Bool.false_eq_true, eq_self, not_true_eq_false, not_false_eq_true]
    · obtain ⟨j, hj, rfl⟩ : ∃ j, j < w.length ∧ i = nI j := by
        rcases pk_ix i (n := w.length) (by omega) with hc | hc | hc
        · exact absurd hc (ge_m1 hi h1)
        · exact absurd hc h2
        · exact hc
      have i1 := T.ia hj hc
      simp only [ee_49_0, ee_49_1, ee_49_4, ee_49_5, ee_49_6, ee_49_9, ee_49_10, ee_49_11, ee_49_14, ee_49_16, ee_49_17, ee_49_18, ee_49_19, ee_49_22, ee_49_22N, ee_49_23, ee_49_26, ee_49_29, ee_49_32, ee_49_32N, ee_49_33, ee_49_34, ee_49_37, ee_49_38, ee_49_41, ee_49_41N, ee_49_43, ee_49_43N, ee_49_45, ee_49_45N, ee_49_48, ee_49_49, ee_49_50, ee_49_51, ee_49_52, ee_49_55, ee_49_55N, ee_49_57, ee_49_60, ee_49_61, ee_49_62, ee_49_62N, ee_49_64, ee_49_67, ee_49_70, ee_49_70N, ee_49_72, ee_49_75, ee_49_76, ee_49_77, ee_49_80, ee_49_82, h1, h2, T.f1, T.f0, i1, nI_clamp (show j < 2 ^ 31 by omega), Option.bind_some, Option.toList, List.cons_append, List.nil_append, List.append_nil, if_true, if_false, Bool.false_eq_true, eq_self, not_true_eq_false, not_false_eq_true]
theorem fnd37 {a : Nat} {ws : List (List Int32)} (A : ListAt h a ws) (n : Int32) : (fnd ws n = none ∧ go d 37 0 [.ref a, .int n] [] h = some (some .null, h)) ∨ (∃ j, j < ws.length ∧ n = nI j ∧ fnd ws n = some (ws.getD j []) ∧ ws.getD j [] ∈ ws ∧ go d 37 0 [.ref a, .int n] [] h = some (some (.ref (a + 2 + 2 * j)), h) ∧ TextAt h (a + 2 + 2 * j) 4 (ws.getD j [])) := by
  have hl := A.1
  unfold fnd
  rcases pk_ix n (n := ws.length) (by omega) with hc | hc | ⟨j, hj, rfl⟩
  · exact Or.inl ⟨if_pos (Or.inl hc), m37N A (Or.inl hc)⟩
  · exact Or.inl ⟨if_pos (Or.inr hc), m37N A (Or.inr hc)⟩
  · refine Or.inr ⟨j, hj, rfl, ?_, ?_, m37 A hj, A.text j hj⟩
    · rw [if_neg (fun z => z.elim (nI_pos (by omega)) (nI_nle2 (by omega) (by omega) hj)), nI_clamp (by omega)]
    · rw [List.getD_eq_getElem?_getD, List.getElem?_eq_getElem hj]; exact List.getElem_mem hj
theorem c_letter {k n i : Int32} (C : CI h g P i0 i1 K) : go (d + 12) 49 0 [.ref 5, .int k, .int n, .int i, aU] [] h = some (some (.int (q_letter g k n i)), h) := by
  have W := C.w
  obtain ⟨L, S, b5, b33, B, T, -⟩ := id W.1
  have e62 := m62 (d := d + 11) W (k := k)
  unfold q_letter
  by_cases hi : -1 ≤ i
  · rcases kk3 k with rfl | rfl | rfl | ⟨hk, z0, z1, z2⟩ | ⟨hk, hk2, hk3, z0, z1, z2⟩
    · simp only [eq_self, if_true] at e62
      have n2 : ¬ (2 : Int32) < 0 := by decide
      simp only [txt, KK, eq_self, true_or, hi, and_self, if_true, if_false]
      rcases fnd37 (d := d + 11) B.1.2.2.1 n with ⟨o, e37⟩ | ⟨j, hj, rfl, o, om, e37, T1⟩
      · rw [o]
        simp only [ee_49_0, ee_49_1, ee_49_4, ee_49_5, ee_49_6, ee_49_9, ee_49_10, ee_49_11, ee_49_14, ee_49_16, ee_49_17, ee_49_18, ee_49_19, ee_49_22, ee_49_22N, ee_49_23, ee_49_26, ee_49_29, ee_49_32, ee_49_32N, ee_49_33, ee_49_34, ee_49_37, ee_49_38, ee_49_41, ee_49_41N, ee_49_45, ee_49_45N, ee_49_48, ee_49_49, ee_49_50, ee_49_51, ee_49_52, ee_49_55, ee_49_55N, ee_49_57, ee_49_60, ee_49_61, ee_49_62, ee_49_62N, ee_49_64, ee_49_67, ee_49_70, ee_49_70N, ee_49_72, ee_49_75, ee_49_76, ee_49_77, ee_49_80, ee_49_82, W.F, KK, hi, e62, e37, ee_49_41N, ee_49_43N, q_ln, Option.bind_some, Option.toList, List.cons_append, List.nil_append, List.append_nil, if_true, if_false, Bool.false_eq_true, eq_self, not_true_eq_false, not_false_eq_true]
      · rw [o]
        have e := let43 (d := d) (k := 0) (n := nI j) T1 (by decide) hi
        simp only [ee_49_0, ee_49_1, ee_49_4, ee_49_5, ee_49_6, ee_49_9, ee_49_10, ee_49_11, ee_49_14, ee_49_16, ee_49_17, ee_49_18, ee_49_19, ee_49_22, ee_49_22N, ee_49_23, ee_49_26, ee_49_29, ee_49_32, ee_49_32N, ee_49_33, ee_49_34, ee_49_37, ee_49_38, ee_49_41, ee_49_41N, ee_49_45, ee_49_45N, ee_49_48, ee_49_49, ee_49_50, ee_49_51, ee_49_52, ee_49_55, ee_49_55N, ee_49_57, ee_49_60, ee_49_61, ee_49_62, ee_49_62N, ee_49_64, ee_49_67, ee_49_70, ee_49_70N, ee_49_72, ee_49_75, ee_49_76, ee_49_77, ee_49_80, ee_49_82, W.F, KK, hi, e62, e37, e, q_ln, Option.bind_some, Option.toList, List.cons_append, List.nil_append, List.append_nil, if_true, if_false, Bool.false_eq_true, eq_self, not_true_eq_false, not_false_eq_true]
    · simp only [KK, if_false] at e62
      have n2 : ¬ (2 : Int32) < 1 := by decide
      simp only [txt, KK, eq_self, true_or, or_true, hi, and_self, if_true, if_false]
      rcases fnd37 (d := d + 11) B.1.2.2.2.1 n with ⟨o, e37⟩ | ⟨j, hj, rfl, o, om, e37, T1⟩
      · rw [o]
        simp only [ee_49_0, ee_49_1, ee_49_4, ee_49_5, ee_49_6, ee_49_9, ee_49_10, ee_49_11, ee_49_14, ee_49_16, ee_49_17, ee_49_18, ee_49_19, ee_49_22, ee_49_22N, ee_49_23, ee_49_26, ee_49_29, ee_49_32, ee_49_32N, ee_49_33, ee_49_34, ee_49_37, ee_49_38, ee_49_41, ee_49_41N, ee_49_45, ee_49_45N, ee_49_48, ee_49_49, ee_49_50, ee_49_51, ee_49_52, ee_49_55, ee_49_55N, ee_49_57, ee_49_60, ee_49_61, ee_49_62, ee_49_62N, ee_49_64, ee_49_67, ee_49_70, ee_49_70N, ee_49_72, ee_49_75, ee_49_76, ee_49_77, ee_49_80, ee_49_82, W.F, KK, hi, n2, e62, e37, ee_49_41N, ee_49_43N, q_ln, Option.bind_some, Option.toList, List.cons_append, List.nil_append, List.append_nil, if_true, if_false, Bool.false_eq_true, eq_self, not_true_eq_false, not_false_eq_true]
      · rw [o]
        have e := let43 (d := d) (k := 1) (n := nI j) T1 (by decide) hi
        simp only [ee_49_0, ee_49_1, ee_49_4, ee_49_5, ee_49_6, ee_49_9, ee_49_10, ee_49_11, ee_49_14, ee_49_16, ee_49_17, ee_49_18, ee_49_19, ee_49_22, ee_49_22N, ee_49_23, ee_49_26, ee_49_29, ee_49_32, ee_49_32N, ee_49_33, ee_49_34, ee_49_37, ee_49_38, ee_49_41, ee_49_41N, ee_49_45, ee_49_45N, ee_49_48, ee_49_49, ee_49_50, ee_49_51, ee_49_52, ee_49_55, ee_49_55N, ee_49_57, ee_49_60, ee_49_61, ee_49_62, ee_49_62N, ee_49_64, ee_49_67, ee_49_70, ee_49_70N, ee_49_72, ee_49_75, ee_49_76, ee_49_77, ee_49_80, ee_49_82, W.F, KK, hi, n2, e62, e37, e, q_ln, Option.bind_some, Option.toList, List.cons_append, List.nil_append, List.append_nil, if_true, if_false, Bool.false_eq_true, eq_self, not_true_eq_false, not_false_eq_true]
    · have n2 : ¬ (2 : Int32) < 2 := by decide
      simp only [txt, KK, eq_self, or_true, hi, and_self, if_true]
      have e := let43 (d := d) (k := 2) (n := n) B.1.2.2.2.2 (by decide) hi
      simp only [ee_49_0, ee_49_1, ee_49_4, ee_49_5, ee_49_6, ee_49_9, ee_49_10, ee_49_11, ee_49_14, ee_49_16, ee_49_17, ee_49_18, ee_49_19, ee_49_22, ee_49_22N, ee_49_23, ee_49_26, ee_49_29, ee_49_32, ee_49_32N, ee_49_33, ee_49_34, ee_49_37, ee_49_38, ee_49_41, ee_49_41N, ee_49_45, ee_49_45N, ee_49_48, ee_49_49, ee_49_50, ee_49_51, ee_49_52, ee_49_55, ee_49_55N, ee_49_57, ee_49_60, ee_49_61, ee_49_62, ee_49_62N, ee_49_64, ee_49_67, ee_49_70, ee_49_70N, ee_49_72, ee_49_75, ee_49_76, ee_49_77, ee_49_80, ee_49_82, W.F, KK, hi, n2, e, q_ln, Option.bind_some, Option.toList, List.cons_append, List.nil_append, List.append_nil, if_true, if_false, Bool.false_eq_true, eq_self, not_true_eq_false, not_false_eq_true]
    · simp only [ee_49_0, ee_49_1, ee_49_4, ee_49_5, ee_49_6, ee_49_9, ee_49_10, ee_49_11, ee_49_14, ee_49_16, ee_49_17, ee_49_18, ee_49_19, ee_49_22, ee_49_22N, ee_49_23, ee_49_26, ee_49_29, ee_49_32, ee_49_32N, ee_49_33, ee_49_34, ee_49_37, ee_49_38, ee_49_41, ee_49_41N, ee_49_45, ee_49_45N, ee_49_48, ee_49_49, ee_49_50, ee_49_51, ee_49_52, ee_49_55, ee_49_55N, ee_49_57, ee_49_60, ee_49_61, ee_49_62, ee_49_62N, ee_49_64, ee_49_67, ee_49_70, ee_49_70N, ee_49_72, ee_49_75, ee_49_76, ee_49_77, ee_49_80, ee_49_82, hk, z0, z1, z2, or_self, false_and, Option.bind_some, Option.toList, List.cons_append, List.nil_append, List.append_nil, if_true, if_false, Bool.false_eq_true, eq_self, not_true_eq_false, not_false_eq_true]
    · simp only [ee_49_0, ee_49_1, ee_49_4, ee_49_5, ee_49_6, ee_49_9, ee_49_10, ee_49_11, ee_49_14, ee_49_16, ee_49_17, ee_49_18, ee_49_19, ee_49_22, ee_49_22N, ee_49_23, ee_49_26, ee_49_29, ee_49_32, ee_49_32N, ee_49_33, ee_49_34, ee_49_37, ee_49_38, ee_49_41, ee_49_41N, ee_49_45, ee_49_45N, ee_49_48, ee_49_49, ee_49_50, ee_49_51, ee_49_52, ee_49_55, ee_49_55N, ee_49_57, ee_49_60, ee_49_61, ee_49_62, ee_49_62N, ee_49_64, ee_49_67, ee_49_70, ee_49_70N, ee_49_72, ee_49_75, ee_49_76, ee_49_77, ee_49_80, ee_49_82, hk, hk2, hk3, z0, z1, z2, or_self, false_and, Option.bind_some, Option.toList, List.cons_append, List.nil_append, List.append_nil, if_true, if_false, Bool.false_eq_true, eq_self, not_true_eq_false, not_false_eq_true]
  · rcases kk3 k with rfl | rfl | rfl | ⟨hk, z0, z1, z2⟩ | ⟨hk, hk2, hk3, z0, z1, z2⟩
    · have n2 : ¬ (2 : Int32) < 0 := by decide
      simp only [ee_49_0, ee_49_1, ee_49_4, ee_49_5, ee_49_6, ee_49_9, ee_49_10, ee_49_11, ee_49_14, ee_49_16, ee_49_17, ee_49_18, ee_49_19, ee_49_22, ee_49_22N, ee_49_23, ee_49_26, ee_49_29, ee_49_32, ee_49_32N, ee_49_33, ee_49_34, ee_49_37, ee_49_38, ee_49_41, ee_49_41N, ee_49_45, ee_49_45N, ee_49_48, ee_49_49, ee_49_50, ee_49_51, ee_49_52, ee_49_55, ee_49_55N, ee_49_57, ee_49_60, ee_49_61, ee_49_62, ee_49_62N, ee_49_64, ee_49_67, ee_49_70, ee_49_70N, ee_49_72, ee_49_75, ee_49_76, ee_49_77, ee_49_80, ee_49_82, KK, hi, and_false, n2, Option.bind_some, Option.toList, List.cons_append, List.nil_append, List.append_nil, if_true, if_false, Bool.false_eq_true, eq_self, not_true_eq_false, not_false_eq_true]
    · have n2 : ¬ (2 : Int32) < 1 := by decide
      simp only [ee_49_0, ee_49_1, ee_49_4, ee_49_5, ee_49_6, ee_49_9, ee_49_10, ee_49_11, ee_49_14, ee_49_16, ee_49_17, ee_49_18, ee_49_19, ee_49_22, ee_49_22N, ee_49_23, ee_49_26, ee_49_29, ee_49_32, ee_49_32N, ee_49_33, ee_49_34, ee_49_37, ee_49_38, ee_49_41, ee_49_41N, ee_49_45, ee_49_45N, ee_49_48, ee_49_49, ee_49_50, ee_49_51, ee_49_52, ee_49_55, ee_49_55N, ee_49_57, ee_49_60, ee_49_61, ee_49_62, ee_49_62N, ee_49_64, ee_49_67, ee_49_70, ee_49_70N, ee_49_72, ee_49_75, ee_49_76, ee_49_77, ee_49_80, ee_49_82, KK, hi, and_false, n2, Option.bind_some, Option.toList, List.cons_append, List.nil_append, List.append_nil, if_true, if_false, Bool.false_eq_true, eq_self, not_true_eq_false, not_false_eq_true]
    · have n2 : ¬ (2 : Int32) < 2 := by decide
      simp only [ee_49_0, ee_49_1, ee_49_4, ee_49_5, ee_49_6, ee_49_9, ee_49_10, ee_49_11, ee_49_14, ee_49_16, ee_49_17, ee_49_18, ee_49_19, ee_49_22, ee_49_22N, ee_49_23, ee_49_26, ee_49_29, ee_49_32, ee_49_32N, ee_49_33, ee_49_34, ee_49_37, ee_49_38, ee_49_41, ee_49_41N, ee_49_45, ee_49_45N, ee_49_48, ee_49_49, ee_49_50, ee_49_51, ee_49_52, ee_49_55, ee_49_55N, ee_49_57, ee_49_60, ee_49_61, ee_49_62, ee_49_62N, ee_49_64, ee_49_67, ee_49_70, ee_49_70N, ee_49_72, ee_49_75, ee_49_76, ee_49_77, ee_49_80, ee_49_82, KK, hi, and_false, n2, Option.bind_some, Option.toList, List.cons_append, List.nil_append, List.append_nil, if_true, if_false, Bool.false_eq_true, eq_self, not_true_eq_false, not_false_eq_true]
    · simp only [ee_49_0, ee_49_1, ee_49_4, ee_49_5, ee_49_6, ee_49_9, ee_49_10, ee_49_11, ee_49_14, ee_49_16, ee_49_17, ee_49_18, ee_49_19, ee_49_22, ee_49_22N, ee_49_23, ee_49_26, ee_49_29, ee_49_32, ee_49_32N, ee_49_33, ee_49_34, ee_49_37, ee_49_38, ee_49_41, ee_49_41N, ee_49_45, ee_49_45N, ee_49_48, ee_49_49, ee_49_50, ee_49_51, ee_49_52, ee_49_55, ee_49_55N, ee_49_57, ee_49_60, ee_49_61, ee_49_62, ee_49_62N, ee_49_64, ee_49_67, ee_49_70, ee_49_70N, ee_49_72, ee_49_75, ee_49_76, ee_49_77, ee_49_80, ee_49_82, hk, hi, and_false, Option.bind_some, Option.toList, List.cons_append, List.nil_append, List.append_nil, if_true, if_false, Bool.false_eq_true, eq_self, not_true_eq_false, not_false_eq_true]
    · simp only [ee_49_0, ee_49_1, ee_49_4, ee_49_5, ee_49_6, ee_49_9, ee_49_10, ee_49_11, ee_49_14, ee_49_16, ee_49_17, ee_49_18, ee_49_19, ee_49_22, ee_49_22N, ee_49_23, ee_49_26, ee_49_29, ee_49_32, ee_49_32N, ee_49_33, ee_49_34, ee_49_37, ee_49_38, ee_49_41, ee_49_41N, ee_49_45, ee_49_45N, ee_49_48, ee_49_49, ee_49_50, ee_49_51, ee_49_52, ee_49_55, ee_49_55N, ee_49_57, ee_49_60, ee_49_61, ee_49_62, ee_49_62N, ee_49_64, ee_49_67, ee_49_70, ee_49_70N, ee_49_72, ee_49_75, ee_49_76, ee_49_77, ee_49_80, ee_49_82, hk, hk3, hi, and_false, Option.bind_some, Option.toList, List.cons_append, List.nil_append, List.append_nil, if_true, if_false, Bool.false_eq_true, eq_self, not_true_eq_false, not_false_eq_true]
/-- stands -/
def q_sn (g : gG) (o : Option (List Int32)) (i : Int32) : Int32 := match o with
  | none => -1
  | some w => standN g.1 g.2.1 w i
def q_stands (g : gG) (k n i : Int32) : Int32 := if (k = 0 ∨ k = 1) ∧ -1 ≤ i then q_sn g (if k = 0 then fnd g.2.2.1 n else fnd g.2.2.2.1 n) i else -2
theorem c_stands {k n i : Int32} (C : CI h g P i0 i1 K) : go (d + 12) 50 0 [.ref 5, .int k, .int n, .int i, aU] [] h = some (some (.int (q_stands g k n i)), h) := by
  have W := C.w
  obtain ⟨L, S, b5, b33, B, T, -⟩ := id W.1
  have e62 := m62 (d := d + 11) W (k := k)
  have hs := B.2.1
  unfold q_stands
  by_cases z0 : k = 0
  · subst z0
    by_cases hi : -1 ≤ i
    · simp only [eq_self, if_true] at e62
      simp only [eq_self, true_or, hi, and_self, if_true]
      rcases fnd37 (d := d + 11) B.1.2.2.1 n with ⟨o, e37⟩ | ⟨j, hj, rfl, o, om, e37, T1⟩
      · rw [o]
        simp only [ee_50_0, ee_50_1, ee_50_4, ee_50_5, ee_50_6, ee_50_9, ee_50_10, ee_50_11, ee_50_14, ee_50_16, ee_50_17, ee_50_17N, ee_50_18, ee_50_19, ee_50_22, ee_50_23, ee_50_26, ee_50_26N, ee_50_28, ee_50_28N, ee_50_30, ee_50_30N, ee_50_33, ee_50_34, ee_50_35, ee_50_35N, ee_50_36, ee_50_39, ee_50_42, ee_50_42N, ee_50_44, ee_50_45, ee_50_48, W.F, KK, hi, e62, e37, q_sn, Option.bind_some, Option.toList, List.cons_append, List.nil_append, List.append_nil, if_true, if_false, Bool.false_eq_true, eq_self, not_true_eq_false, not_false_eq_true]
      · rw [o]
        have e := m28 (d := d + 10) hs L B.1.2.1 T1 (by decide) (by have := (B.2.2.2.2.1 _ om).1; omega) i
        simp only [ee_50_0, ee_50_1, ee_50_4, ee_50_5, ee_50_6, ee_50_9, ee_50_10, ee_50_11, ee_50_14, ee_50_16, ee_50_17, ee_50_17N, ee_50_18, ee_50_19, ee_50_22, ee_50_23, ee_50_26, ee_50_26N, ee_50_28, ee_50_28N, ee_50_30, ee_50_30N, ee_50_33, ee_50_34, ee_50_35, ee_50_35N, ee_50_36, ee_50_39, ee_50_42, ee_50_42N, ee_50_44, ee_50_45, ee_50_48, W.F, KK, hi, e62, e37, e, q_sn, standN, Option.bind_some, Option.toList, List.cons_append, List.nil_append, List.append_nil, if_true, if_false, Bool.false_eq_true, eq_self, not_true_eq_false, not_false_eq_true]
    · simp only [ee_50_0, ee_50_1, ee_50_4, ee_50_5, ee_50_6, ee_50_9, ee_50_10, ee_50_11, ee_50_14, ee_50_16, ee_50_17, ee_50_17N, ee_50_18, ee_50_19, ee_50_22, ee_50_23, ee_50_26, ee_50_26N, ee_50_28, ee_50_28N, ee_50_30, ee_50_30N, ee_50_33, ee_50_34, ee_50_35, ee_50_35N, ee_50_36, ee_50_39, ee_50_42, ee_50_42N, ee_50_44, ee_50_45, ee_50_48, W.F, KK, hi, and_false, Option.bind_some, Option.toList, List.cons_append, List.nil_append, List.append_nil, if_true, if_false, Bool.false_eq_true, eq_self, not_true_eq_false, not_false_eq_true]
  · by_cases z1 : k = 1
    · subst z1
      by_cases hi : -1 ≤ i
      · simp only [KK, if_false] at e62
        simp only [KK, eq_self, or_true, hi, and_self, if_true, if_false]
        rcases fnd37 (d := d + 11) B.1.2.2.2.1 n with ⟨o, e37⟩ | ⟨j, hj, rfl, o, om, e37, T1⟩
        · rw [o]
          simp only [ee_50_0, ee_50_1, ee_50_4, ee_50_5, ee_50_6, ee_50_9, ee_50_10, ee_50_11, ee_50_14, ee_50_16, ee_50_17, ee_50_17N, ee_50_18, ee_50_19, ee_50_22, ee_50_23, ee_50_26, ee_50_26N, ee_50_28, ee_50_28N, ee_50_30, ee_50_30N, ee_50_33, ee_50_34, ee_50_35, ee_50_35N, ee_50_36, ee_50_39, ee_50_42, ee_50_42N, ee_50_44, ee_50_45, ee_50_48, W.F, KK, hi, e62, e37, q_sn, Option.bind_some, Option.toList, List.cons_append, List.nil_append, List.append_nil, if_true, if_false, Bool.false_eq_true, eq_self, not_true_eq_false, not_false_eq_true]
        · rw [o]
          have e := m28 (d := d + 10) hs L B.1.2.1 T1 (by decide) (by have := (B.2.2.2.2.2.1 _ om).1; omega) i
          simp only [ee_50_0, ee_50_1, ee_50_4, ee_50_5, ee_50_6, ee_50_9, ee_50_10, ee_50_11, ee_50_14, ee_50_16, ee_50_17, ee_50_17N, ee_50_18, ee_50_19, ee_50_22, ee_50_23, ee_50_26, ee_50_26N, ee_50_28, ee_50_28N, ee_50_30, ee_50_30N, ee_50_33, ee_50_34, ee_50_35, ee_50_35N, ee_50_36, ee_50_39, ee_50_42, ee_50_42N, ee_50_44, ee_50_45, ee_50_48, W.F, KK, hi, e62, e37, e, q_sn, standN, Option.bind_some, Option.toList, List.cons_append, List.nil_append, List.append_nil, if_true, if_false, Bool.false_eq_true, eq_self, not_true_eq_false, not_false_eq_true]
      · simp only [ee_50_0, ee_50_1, ee_50_4, ee_50_5, ee_50_6, ee_50_9, ee_50_10, ee_50_11, ee_50_14, ee_50_16, ee_50_17, ee_50_17N, ee_50_18, ee_50_19, ee_50_22, ee_50_23, ee_50_26, ee_50_26N, ee_50_28, ee_50_28N, ee_50_30, ee_50_30N, ee_50_33, ee_50_34, ee_50_35, ee_50_35N, ee_50_36, ee_50_39, ee_50_42, ee_50_42N, ee_50_44, ee_50_45, ee_50_48, W.F, KK, hi, and_false, Option.bind_some, Option.toList, List.cons_append, List.nil_append, List.append_nil, if_true, if_false, Bool.false_eq_true, eq_self, not_true_eq_false, not_false_eq_true]
    · simp only [ee_50_0, ee_50_1, ee_50_4, ee_50_5, ee_50_6, ee_50_9, ee_50_10, ee_50_11, ee_50_14, ee_50_16, ee_50_17, ee_50_17N, ee_50_18, ee_50_19, ee_50_22, ee_50_23, ee_50_26, ee_50_26N, ee_50_28, ee_50_28N, ee_50_30, ee_50_30N, ee_50_33, ee_50_34, ee_50_35, ee_50_35N, ee_50_36, ee_50_39, ee_50_42, ee_50_42N, ee_50_44, ee_50_45, ee_50_48, z0, z1, or_self, false_and, Option.bind_some, Option.toList, List.cons_append, List.nil_append, List.append_nil, if_true, if_false, Bool.false_eq_true, eq_self, not_true_eq_false, not_false_eq_true]
/-- put -/
theorem layF_ok {s p : Nat} {w : List Int32} (hs : sideOk s) (hp : p < 8 * s * s) (hr : w.length ≤ rN s p) (hw : ∀ x ∈ w, isL x) : ∀ (n i : Nat) (q : List Int32 × Int32), i + n = w.length → (∀ c, s * s ≤ c → q.1.getD c 0 = 0) → (∀ c, q.1.getD c 0 = 0 ∨ isL (q.1.getD c 0)) → (∀ c, s * s ≤ c → (layF s w p i n q).1.getD c 0 = 0) ∧ (∀ c, (layF s w p i n q).1.getD c 0 = 0 ∨ isL ((layF s w p i n q).1.getD c 0))
  | 0, _, _, _, k1, k2 => ⟨k1, k2⟩
  | n + 1, i, q, hi, k1, k2 => by
    unfold layF
    refine layF_ok hs hp hr hw n (i + 1) _ (by omega) ?_ ?_
    · intro c hc
      unfold lay1
      split
      · have := ((geo hs hp).2.2.2.2 i (by omega)).2
        simp only
        rw [getD_set, if_neg (by omega)]; exact k1 c hc
      · exact k1 c hc
    · intro c
      unfold lay1
      split
      · simp only
        rw [getD_set]
        split
        · exact Or.inr (hw _ (getD_mem (by omega)))
        · exact k2 c
      · exact k2 c
def q_put (g : gG) (n p : Int32) : Int32 × gG := match fnd g.2.2.1 n with
  | none => (-1, g)
  | some w => if p < 0 ∨ nI (8 * g.1 * g.1) ≤ p then (-2, g) else if acc g.1 g.2.1 w p.toNatClampNeg = true then (bcI (layF g.1 w p.toNatClampNeg 0 w.length (g.2.1, 0)).2, (g.1, (layF g.1 w p.toNatClampNeg 0 w.length (g.2.1, 0)).1, g.2.2)) else (-5, g)
theorem c_put {n p : Int32} (C : CI h g P i0 i1 K) : ∃ h', go (d + 12) 51 0 [.ref 5, .int n, .int p, aU, aU] [] h = some (some (.int (q_put g n p).1), h') ∧ CI h' (q_put g n p).2 P i0 i1 K ∧ Off h h' 5 96 := by
  have W := C.w
  obtain ⟨L, S, b5, b33, B, T, -⟩ := id W.1
  have hs := B.2.1
  have hq := (sq_lt hs).2
  have e13 := m13x (d := d + 11) (x := p) hs L
  unfold q_put
  rcases fnd37 (d := d + 11) B.1.2.2.1 n with ⟨o, e37⟩ | ⟨j, hj, rfl, o, om, e37, T1⟩
  · rw [o]
    refine ⟨h, ?_, C, Off.rf⟩
    simp only [ee_51_0, ee_51_0N, ee_51_1, ee_51_4, ee_51_7, ee_51_8, ee_51_11, ee_51_11N, ee_51_12, ee_51_12N, ee_51_13, ee_51_13N, ee_51_16, ee_51_17, ee_51_18, ee_51_18N, ee_51_19, ee_51_22, ee_51_25, ee_51_28, ee_51_29, ee_51_32, ee_51_35, ee_51_37, ee_51_38, ee_51_38N, ee_51_39, ee_51_42, ee_51_45, ee_51_45N, ee_51_46, ee_51_47, ee_51_50, ee_51_53, ee_51_55, ee_51_56, ee_51_56N, ee_51_57, ee_51_60, ee_51_63, ee_51_63N, ee_51_64, ee_51_65, ee_51_68, ee_51_70, ee_51_70N, ee_51_71, ee_51_74, ee_51_76, ee_51_79, W.F, KK, e37, Option.bind_some, Option.toList, List.cons_append, List.nil_append, List.append_nil, if_true, if_false, Bool.false_eq_true, eq_self, not_true_eq_false, not_false_eq_true]
  · rw [o]
    have hw := B.2.2.2.2.1 _ om
    generalize g.2.2.1.getD j [] = w at *
    rcases pk_ix p (n := 8 * g.1 * g.1) (by omega) with hc | hc | ⟨m, hm, rfl⟩
    · refine ⟨h, ?_, by simp only [hc, true_or, if_true]; exact C, Off.rf⟩
      simp only [hc, true_or, if_true] at e13
      simp only [ee_51_0, ee_51_0N, ee_51_1, ee_51_4, ee_51_7, ee_51_8, ee_51_11, ee_51_11N, ee_51_12, ee_51_12N, ee_51_13, ee_51_13N, ee_51_16, ee_51_17, ee_51_18, ee_51_18N, ee_51_19, ee_51_22, ee_51_25, ee_51_28, ee_51_29, ee_51_32, ee_51_35, ee_51_37, ee_51_38, ee_51_38N, ee_51_39, ee_51_42, ee_51_45, ee_51_45N, ee_51_46, ee_51_47, ee_51_50, ee_51_53, ee_51_55, ee_51_56, ee_51_56N, ee_51_57, ee_51_60, ee_51_63, ee_51_63N, ee_51_64, ee_51_65, ee_51_68, ee_51_70, ee_51_70N, ee_51_71, ee_51_74, ee_51_76, ee_51_79, W.F, KK, e37, e13, hc, true_or, Option.bind_some, Option.toList, List.cons_append, List.nil_append, List.append_nil, if_true, if_false, Bool.false_eq_true, eq_self, not_true_eq_false, not_false_eq_true]
    · refine ⟨h, ?_, by simp only [hc, or_true, if_true]; exact C, Off.rf⟩
      simp only [hc, or_true, if_true] at e13
      simp only [ee_51_0, ee_51_0N, ee_51_1, ee_51_4, ee_51_7, ee_51_8, ee_51_11, ee_51_11N, ee_51_12, ee_51_12N, ee_51_13, ee_51_13N, ee_51_16, ee_51_17, ee_51_18, ee_51_18N, ee_51_19, ee_51_22, ee_51_25, ee_51_28, ee_51_29, ee_51_32, ee_51_35, ee_51_37, ee_51_38, ee_51_38N, ee_51_39, ee_51_42, ee_51_45, ee_51_45N, ee_51_46, ee_51_47, ee_51_50, ee_51_53, ee_51_55, ee_51_56, ee_51_56N, ee_51_57, ee_51_60, ee_51_63, ee_51_63N, ee_51_64, ee_51_65, ee_51_68, ee_51_70, ee_51_70N, ee_51_71, ee_51_74, ee_51_76, ee_51_79, W.F, KK, e37, e13, hc, or_true, Option.bind_some, Option.toList, List.cons_append, List.nil_append, List.append_nil, if_true, if_false, Bool.false_eq_true, eq_self, not_true_eq_false, not_false_eq_true]
    · have n1 : ¬ nI m < 0 := nI_pos (by omega)
      have n2 : ¬ nI (8 * g.1 * g.1) ≤ nI m := nI_nle2 (by omega) (by omega) hm
      simp only [n1, n2, or_self, if_false] at e13
      have e24 := m24 (d := d + 9) hs L B.1.2.1 T1 (by decide) hm
      by_cases ha : acc g.1 g.2.1 w m = true
      · have hr : w.length ≤ rN g.1 m := by
          unfold acc at ha
          simp only [Bool.and_eq_true, decide_eq_true_eq] at ha
          exact ha.1
        have hl3 := B.1.2.2.1.1
        have e25 := m25 (d := d + 11) hs L B.1.2.1 T1 (by decide) hm hr (by omega) (by omega)
        obtain ⟨k2, k3⟩ := layF_ok hs hm hr hw.2.2 w.length 0 (g.2.1, 0) (by omega) B.2.2.1 B.2.2.2.1
        have B1 := B.cells (by rw [layF_len]; exact B.1.2.1.2.2) k2 k3
        have O1 : Off h (h.set 32 (ints (layF g.1 w m 0 w.length (g.2.1, 0)).1)) 12 33 := Off.set (by decide) (by decide)
        have W1 := W.brd O1 B1
        obtain ⟨h2, e63, CI2, O2⟩ := m63w (d := d + 11) W1
        refine ⟨h2, ?_, by simp only [n1, n2, or_self, if_false, nI_clamp (show m < 2 ^ 31 by omega), ha, if_true]; exact CI2, (O1.mono (by decide) (by decide)).trans (O2.mono (by decide) (by decide))⟩
        simp only [ha, bI_t] at e24
        have ic := W1.F.2.2.2.2.2.2.2.2.2.1
        have e119 := m119 (d := d + 11) (h := h2) (x := (layF g.1 w m 0 w.length (g.2.1, 0)).2)
        simp only [ee_51_0, ee_51_0N, ee_51_1, ee_51_4, ee_51_7, ee_51_8, ee_51_11, ee_51_11N, ee_51_12, ee_51_12N, ee_51_13, ee_51_13N, ee_51_16, ee_51_17, ee_51_18, ee_51_18N, ee_51_19, ee_51_22, ee_51_25, ee_51_28, ee_51_29, ee_51_32, ee_51_35, ee_51_37, ee_51_38, ee_51_38N, ee_51_39, ee_51_42, ee_51_45, ee_51_45N, ee_51_46, ee_51_47, ee_51_50, ee_51_53, ee_51_55, ee_51_56, ee_51_56N, ee_51_57, ee_51_60, ee_51_63, ee_51_63N, ee_51_64, ee_51_65, ee_51_68, ee_51_70, ee_51_70N, ee_51_71, ee_51_74, ee_51_76, ee_51_79, W.F, KK, e37, e13, e24, e25, e63, e119, ic, n1, n2, or_self, nI_clamp (show m < 2 ^ 31 by omega), ha, Option.bind_some, Option.toList, List.cons_append, List.nil_append, List.append_nil, if_true, if_false, Bool.false_eq_true, eq_self, not_true_eq_false, not_false_eq_true]
      · refine ⟨h, ?_, by simp only [n1, n2, or_self, if_false, nI_clamp (show m < 2 ^ 31 by omega), ha]; exact C, Off.rf⟩
        have ha' : acc g.1 g.2.1 w m = false := by simpa using ha
        simp only [ha', bI_f] at e24
        simp only [ee_51_0, ee_51_0N, ee_51_1, ee_51_4, ee_51_7, ee_51_8, ee_51_11, ee_51_11N, ee_51_12, ee_51_12N, ee_51_13, ee_51_13N, ee_51_16, ee_51_17, ee_51_18, ee_51_18N, ee_51_19, ee_51_22, ee_51_25, ee_51_28, ee_51_29, ee_51_32, ee_51_35, ee_51_37, ee_51_38, ee_51_38N, ee_51_39, ee_51_42, ee_51_45, ee_51_45N, ee_51_46, ee_51_47, ee_51_50, ee_51_53, ee_51_55, ee_51_56, ee_51_56N, ee_51_57, ee_51_60, ee_51_63, ee_51_63N, ee_51_64, ee_51_65, ee_51_68, ee_51_70, ee_51_70N, ee_51_71, ee_51_74, ee_51_76, ee_51_79, W.F, KK, e37, e13, e24, n1, n2, or_self, nI_clamp (show m < 2 ^ 31 by omega), ha', Option.bind_some, Option.toList, List.cons_append, List.nil_append, List.append_nil, if_true, if_false, Bool.false_eq_true, eq_self, not_true_eq_false, not_false_eq_true]
/-- fits -/
def q_fits (g : gG) (n x : Int32) : Int32 := match fnd g.2.2.1 n with
  | none => -1
  | some w => if x = 0 then nI (cnt (fun p => decide (w.length ≤ rN g.1 p)) (8 * g.1 * g.1)) else if x = 1 then nI (cnt (acc g.1 g.2.1 w) (8 * g.1 * g.1)) else -2
theorem c_fits {n x : Int32} (C : CI h g P i0 i1 K) : go (d + 12) 52 0 [.ref 5, .int n, .int x, aU, aU, aU, aU] [] h = some (some (.int (q_fits g n x)), h) := by
  have W := C.w
  obtain ⟨L, S, b5, b33, B, T, -⟩ := id W.1
  have hs := B.2.1
  have hq := (sq_lt hs).2
  unfold q_fits
  rcases fnd37 (d := d + 11) B.1.2.2.1 n with ⟨o, e37⟩ | ⟨j, hj, rfl, o, om, e37, T1⟩
  · rw [o]
    simp only [ee_52_0, ee_52_0N, ee_52_1, ee_52_4, ee_52_7, ee_52_8, ee_52_11, ee_52_11N, ee_52_12, ee_52_12N, ee_52_13, ee_52_13N, ee_52_16, ee_52_17, ee_52_18, ee_52_19, ee_52_22, ee_52_23, ee_52_24, ee_52_27, ee_52_29, ee_52_30, ee_52_30N, ee_52_31, ee_52_34, ee_52_37, ee_52_40, ee_52_40N, ee_52_42, ee_52_43, ee_52_45, ee_52_46, ee_52_50, ee_52_50N, ee_52_52, ee_52_55, ee_52_58, ee_52_59, ee_52_62, ee_52_62N, ee_52_64, ee_52_66, ee_52_66N, ee_52_67, ee_52_70, ee_52_73, ee_52_76, ee_52_79, ee_52_79N, ee_52_80, ee_52_83, ee_52_86, ee_52_86N, ee_52_87, ee_52_89, ee_52_92, ee_52_95, ee_52_98, ee_52_101, ee_52_104, ee_52_106, W.F, KK, e37, Option.bind_some, Option.toList, List.cons_append, List.nil_append, List.append_nil, if_true, if_false, Bool.false_eq_true, eq_self, not_true_eq_false, not_false_eq_true]
  · rw [o]
    have hl := T1.len
    generalize g.2.2.1.getD j [] = w at *
    have nn : nI (8 * g.1 * g.1) ≤ nI (8 * g.1 * g.1) := Int32.le_refl _
    by_cases z0 : x = 0
    · subst z0
      have e : go (d + 12) 52 48 [.ref 5, .int (nI j), .int 0, .ref (12 + 1 + 2 + 2 * j), .ref (latA g.1), .int (nI (cnt (fun p => decide (w.length ≤ rN g.1 p)) 0)), .int (nI 0)] [] h = go (d + 12) 52 48 [.ref 5, .int (nI j), .int 0, .ref (12 + 1 + 2 + 2 * j), .ref (latA g.1), .int (nI (cnt (fun p => decide (w.length ≤ rN g.1 p)) (8 * g.1 * g.1))), .int (nI (8 * g.1 * g.1))] [] h := by
        refine go_loop (fun i => [.ref 5, .int (nI j), .int 0, .ref (12 + 1 + 2 + 2 * j), .ref (latA g.1), .int (nI (cnt (fun p => decide (w.length ≤ rN g.1 p)) i)), .int (nI i)]) (fun _ => h) (8 * g.1 * g.1) ?_
        intro i hi
        have n1 : ¬ nI (8 * g.1 * g.1) ≤ nI i := nI_nle2 (by omega) (by omega) hi
        have e14 := m14 (d := d + 10) (n := w.length) hs L hi (by omega)
        rw [ee_52_48]
        by_cases hz : w.length ≤ rN g.1 i
        · simp only [hz, decide_true, bI_t] at e14
          simp only [ee_52_0, ee_52_0N, ee_52_1, ee_52_4, ee_52_7, ee_52_8, ee_52_11, ee_52_11N, ee_52_12, ee_52_12N, ee_52_13, ee_52_13N, ee_52_16, ee_52_17, ee_52_18, ee_52_19, ee_52_22, ee_52_23, ee_52_24, ee_52_27, ee_52_29, ee_52_30, ee_52_30N, ee_52_31, ee_52_34, ee_52_37, ee_52_40, ee_52_40N, ee_52_42, ee_52_43, ee_52_45, ee_52_46, ee_52_50, ee_52_50N, ee_52_52, ee_52_55, ee_52_58, ee_52_59, ee_52_62, ee_52_62N, ee_52_64, ee_52_66, ee_52_66N, ee_52_67, ee_52_70, ee_52_73, ee_52_76, ee_52_79, ee_52_79N, ee_52_80, ee_52_83, ee_52_86, ee_52_86N, ee_52_87, ee_52_89, ee_52_92, ee_52_95, ee_52_98, ee_52_101, ee_52_104, ee_52_106, W.F, KK, T1.f1, n1, e14, cnt, hz, decide_true, Option.bind_some, Option.toList, List.cons_append, List.nil_append, List.append_nil, if_true, if_false, Bool.false_eq_true, eq_self, not_true_eq_false, not_false_eq_true, nI_1]
        · simp only [hz, decide_false, bI_f] at e14
          simp only [ee_52_0, ee_52_0N, ee_52_1, ee_52_4, ee_52_7, ee_52_8, ee_52_11, ee_52_11N, ee_52_12, ee_52_12N, ee_52_13, ee_52_13N, ee_52_16, ee_52_17, ee_52_18, ee_52_19, ee_52_22, ee_52_23, ee_52_24, ee_52_27, ee_52_29, ee_52_30, ee_52_30N, ee_52_31, ee_52_34, ee_52_37, ee_52_40, ee_52_40N, ee_52_42, ee_52_43, ee_52_45, ee_52_46, ee_52_50, ee_52_50N, ee_52_52, ee_52_55, ee_52_58, ee_52_59, ee_52_62, ee_52_62N, ee_52_64, ee_52_66, ee_52_66N, ee_52_67, ee_52_70, ee_52_73, ee_52_76, ee_52_79, ee_52_79N, ee_52_80, ee_52_83, ee_52_86, ee_52_86N, ee_52_87, ee_52_89, ee_52_92, ee_52_95, ee_52_98, ee_52_101, ee_52_104, ee_52_106, W.F, KK, T1.f1, n1, e14, cnt, hz, decide_false, Option.bind_some, Option.toList, List.cons_append, List.nil_append, List.append_nil, if_true, if_false, Bool.false_eq_true, eq_self, not_true_eq_false, not_false_eq_true, nI_1, Nat.add_zero]
      rw [show cnt (fun p => decide (w.length ≤ rN g.1 p)) 0 = 0 from rfl, nI_0] at e
      simp only [ee_52_0, ee_52_0N, ee_52_1, ee_52_4, ee_52_7, ee_52_8, ee_52_11, ee_52_11N, ee_52_12, ee_52_12N, ee_52_13, ee_52_13N, ee_52_16, ee_52_17, ee_52_18, ee_52_19, ee_52_22, ee_52_23, ee_52_24, ee_52_27, ee_52_29, ee_52_30, ee_52_30N, ee_52_31, ee_52_34, ee_52_37, ee_52_40, ee_52_40N, ee_52_42, ee_52_43, ee_52_45, ee_52_46, ee_52_50, ee_52_50N, ee_52_52, ee_52_55, ee_52_58, ee_52_59, ee_52_62, ee_52_62N, ee_52_64, ee_52_66, ee_52_66N, ee_52_67, ee_52_70, ee_52_73, ee_52_76, ee_52_79, ee_52_79N, ee_52_80, ee_52_83, ee_52_86, ee_52_86N, ee_52_87, ee_52_89, ee_52_92, ee_52_95, ee_52_98, ee_52_101, ee_52_104, ee_52_106, W.F, KK, e37, Option.bind_some, Option.toList, List.cons_append, List.nil_append, List.append_nil, if_true, if_false, Bool.false_eq_true, eq_self, not_true_eq_false, not_false_eq_true]
      rw [e, ee_52_48]
      simp only [ee_52_0, ee_52_0N, ee_52_1, ee_52_4, ee_52_7, ee_52_8, ee_52_11, ee_52_11N, ee_52_12, ee_52_12N, ee_52_13, ee_52_13N, ee_52_16, ee_52_17, ee_52_18, ee_52_19, ee_52_22, ee_52_23, ee_52_24, ee_52_27, ee_52_29, ee_52_30, ee_52_30N, ee_52_31, ee_52_34, ee_52_37, ee_52_40, ee_52_40N, ee_52_42, ee_52_43, ee_52_45, ee_52_46, ee_52_50, ee_52_50N, ee_52_52, ee_52_55, ee_52_58, ee_52_59, ee_52_62, ee_52_62N, ee_52_64, ee_52_66, ee_52_66N, ee_52_67, ee_52_70, ee_52_73, ee_52_76, ee_52_79, ee_52_79N, ee_52_80, ee_52_83, ee_52_86, ee_52_86N, ee_52_87, ee_52_89, ee_52_92, ee_52_95, ee_52_98, ee_52_101, ee_52_104, ee_52_106, W.F, KK, nn, Option.bind_some, Option.toList, List.cons_append, List.nil_append, List.append_nil, if_true, if_false, Bool.false_eq_true, eq_self, not_true_eq_false, not_false_eq_true]
    · by_cases z1 : x = 1
      · subst z1
        have e : go (d + 12) 52 48 [.ref 5, .int (nI j), .int 1, .ref (12 + 1 + 2 + 2 * j), .ref (latA g.1), .int (nI (cnt (acc g.1 g.2.1 w) 0)), .int (nI 0)] [] h = go (d + 12) 52 48 [.ref 5, .int (nI j), .int 1, .ref (12 + 1 + 2 + 2 * j), .ref (latA g.1), .int (nI (cnt (acc g.1 g.2.1 w) (8 * g.1 * g.1))), .int (nI (8 * g.1 * g.1))] [] h := by
          refine go_loop (fun i => [.ref 5, .int (nI j), .int 1, .ref (12 + 1 + 2 + 2 * j), .ref (latA g.1), .int (nI (cnt (acc g.1 g.2.1 w) i)), .int (nI i)]) (fun _ => h) (8 * g.1 * g.1) ?_
          intro i hi
          have n1 : ¬ nI (8 * g.1 * g.1) ≤ nI i := nI_nle2 (by omega) (by omega) hi
          have e24 := m24 (d := d + 9) hs L B.1.2.1 T1 (by decide) hi
          rw [ee_52_48]
          by_cases hz : acc g.1 g.2.1 w i = true
          · simp only [hz, bI_t] at e24
            simp only [ee_52_0, ee_52_0N, ee_52_1, ee_52_4, ee_52_7, ee_52_8, ee_52_11, ee_52_11N, ee_52_12, ee_52_12N, ee_52_13, ee_52_13N, ee_52_16, ee_52_17, ee_52_18, ee_52_19, ee_52_22, ee_52_23, ee_52_24, ee_52_27, ee_52_29, ee_52_30, ee_52_30N, ee_52_31, ee_52_34, ee_52_37, ee_52_40, ee_52_40N, ee_52_42, ee_52_43, ee_52_45, ee_52_46, ee_52_50, ee_52_50N, ee_52_52, ee_52_55, ee_52_58, ee_52_59, ee_52_62, ee_52_62N, ee_52_64, ee_52_66, ee_52_66N, ee_52_67, ee_52_70, ee_52_73, ee_52_76, ee_52_79, ee_52_79N, ee_52_80, ee_52_83, ee_52_86, ee_52_86N, ee_52_87, ee_52_89, ee_52_92, ee_52_95, ee_52_98, ee_52_101, ee_52_104, ee_52_106, W.F, KK, n1, e24, cnt, hz, Option.bind_some, Option.toList, List.cons_append, List.nil_append, List.append_nil, if_true, if_false, Bool.false_eq_true, eq_self, not_true_eq_false, not_false_eq_true, nI_1]
          · have hz' : acc g.1 g.2.1 w i = false := by simpa using hz
            simp only [hz', bI_f] at e24
            simp only [ee_52_0, ee_52_0N, ee_52_1, ee_52_4, ee_52_7, ee_52_8, ee_52_11, ee_52_11N, ee_52_12, ee_52_12N, ee_52_13, ee_52_13N, ee_52_16, ee_52_17, ee_52_18, ee_52_19, ee_52_22, ee_52_23, ee_52_24, ee_52_27, ee_52_29, ee_52_30, ee_52_30N, ee_52_31, ee_52_34, ee_52_37, ee_52_40, ee_52_40N, ee_52_42, ee_52_43, ee_52_45, ee_52_46, ee_52_50, ee_52_50N, ee_52_52, ee_52_55, ee_52_58, ee_52_59, ee_52_62, ee_52_62N, ee_52_64, ee_52_66, ee_52_66N, ee_52_67, ee_52_70, ee_52_73, ee_52_76, ee_52_79, ee_52_79N, ee_52_80, ee_52_83, ee_52_86, ee_52_86N, ee_52_87, ee_52_89, ee_52_92, ee_52_95, ee_52_98, ee_52_101, ee_52_104, ee_52_106, W.F, KK, n1, e24, cnt, hz', Option.bind_some, Option.toList, List.cons_append, List.nil_append, List.append_nil, if_true, if_false, Bool.false_eq_true, eq_self, not_true_eq_false, not_false_eq_true, nI_1, Nat.add_zero]
        rw [show cnt (acc g.1 g.2.1 w) 0 = 0 from rfl, nI_0] at e
        simp only [ee_52_0, ee_52_0N, ee_52_1, ee_52_4, ee_52_7, ee_52_8, ee_52_11, ee_52_11N, ee_52_12, ee_52_12N, ee_52_13, ee_52_13N, ee_52_16, ee_52_17, ee_52_18, ee_52_19, ee_52_22, ee_52_23, ee_52_24, ee_52_27, ee_52_29, ee_52_30, ee_52_30N, ee_52_31, ee_52_34, ee_52_37, ee_52_40, ee_52_40N, ee_52_42, ee_52_43, ee_52_45, ee_52_46, ee_52_50, ee_52_50N, ee_52_52, ee_52_55, ee_52_58, ee_52_59, ee_52_62, ee_52_62N, ee_52_64, ee_52_66, ee_52_66N, ee_52_67, ee_52_70, ee_52_73, ee_52_76, ee_52_79, ee_52_79N, ee_52_80, ee_52_83, ee_52_86, ee_52_86N, ee_52_87, ee_52_89, ee_52_92, ee_52_95, ee_52_98, ee_52_101, ee_52_104, ee_52_106, W.F, KK, e37, Option.bind_some, Option.toList, List.cons_append, List.nil_append, List.append_nil, if_true, if_false, Bool.false_eq_true, eq_self, not_true_eq_false, not_false_eq_true]
        rw [e, ee_52_48]
        simp only [ee_52_0, ee_52_0N, ee_52_1, ee_52_4, ee_52_7, ee_52_8, ee_52_11, ee_52_11N, ee_52_12, ee_52_12N, ee_52_13, ee_52_13N, ee_52_16, ee_52_17, ee_52_18, ee_52_19, ee_52_22, ee_52_23, ee_52_24, ee_52_27, ee_52_29, ee_52_30, ee_52_30N, ee_52_31, ee_52_34, ee_52_37, ee_52_40, ee_52_40N, ee_52_42, ee_52_43, ee_52_45, ee_52_46, ee_52_50, ee_52_50N, ee_52_52, ee_52_55, ee_52_58, ee_52_59, ee_52_62, ee_52_62N, ee_52_64, ee_52_66, ee_52_66N, ee_52_67, ee_52_70, ee_52_73, ee_52_76, ee_52_79, ee_52_79N, ee_52_80, ee_52_83, ee_52_86, ee_52_86N, ee_52_87, ee_52_89, ee_52_92, ee_52_95, ee_52_98, ee_52_101, ee_52_104, ee_52_106, W.F, KK, nn, Option.bind_some, Option.toList, List.cons_append, List.nil_append, List.append_nil, if_true, if_false, Bool.false_eq_true, eq_self, not_true_eq_false, not_false_eq_true]
      · simp only [ee_52_0, ee_52_0N, ee_52_1, ee_52_4, ee_52_7, ee_52_8, ee_52_11, ee_52_11N, ee_52_12, ee_52_12N, ee_52_13, ee_52_13N, ee_52_16, ee_52_17, ee_52_18, ee_52_19, ee_52_22, ee_52_23, ee_52_24, ee_52_27, ee_52_29, ee_52_30, ee_52_30N, ee_52_31, ee_52_34, ee_52_37, ee_52_40, ee_52_40N, ee_52_42, ee_52_43, ee_52_45, ee_52_46, ee_52_50, ee_52_50N, ee_52_52, ee_52_55, ee_52_58, ee_52_59, ee_52_62, ee_52_62N, ee_52_64, ee_52_66, ee_52_66N, ee_52_67, ee_52_70, ee_52_73, ee_52_76, ee_52_79, ee_52_79N, ee_52_80, ee_52_83, ee_52_86, ee_52_86N, ee_52_87, ee_52_89, ee_52_92, ee_52_95, ee_52_98, ee_52_101, ee_52_104, ee_52_106, W.F, KK, e37, z0, z1, Option.bind_some, Option.toList, List.cons_append, List.nil_append, List.append_nil, if_true, if_false, Bool.false_eq_true, eq_self, not_true_eq_false, not_false_eq_true]
/-- images -/
def kI (a b : Bool) : Int32 := (if a then 1 else 0) ||| (if b then 2 else 0)
theorem kI_0 (a b : Bool) : kI a b ||| ((1 : Int32) <<< ((0 : Int32) &&& 31)) = kI true b := by cases a <;> cases b <;> decide
theorem kI_1 (a b : Bool) : kI a b ||| ((1 : Int32) <<< ((1 : Int32) &&& 31)) = kI a true := by cases a <;> cases b <;> decide
theorem kI_g0 (a b : Bool) : (kI a b >>> ((0 : Int32) &&& 31)) &&& 1 = bI a := by cases a <;> cases b <;> decide
theorem kI_g1 (a b : Bool) : (kI a b >>> ((1 : Int32) &&& 31)) &&& 1 = bI b := by cases a <;> cases b <;> decide
theorem CB.kpt (K' : Int32) (C : CB h g P i0 i1 K) : pf h 5 8 7 7 0 (.int K') = some (h.set 5 (wObj K')) ∧ CB (h.set 5 (wObj K')) g P i0 i1 K' := by
  obtain ⟨L, ⟨s2, s3⟩, b5, b33, B, T, ⟨s, c, Q⟩, B0, B1⟩ := C
  have O : Off h (h.set 5 (wObj K')) 5 6 := Off.set (by decide) (by decide)
  have L1 : LatAt (h.set 5 (wObj K')) := by
    obtain ⟨a1, a2, a3, a4, a5, a6⟩ := L
    refine ⟨?_, ?_, ?_, ?_, ?_, ?_⟩ <;> rw [set_ne (by decide)] <;> assumption
  exact ⟨pf_at b5 (show 8 < 9 by decide) rfl, L1, ⟨by rw [O.2 2 (by decide)]; exact s2, by rw [O.2 3 (by decide)]; exact s3⟩, set_at (at_lt b5), by rw [O.2 33 (by decide)]; exact b33, B.off O (by decide), ⟨T.1.off O (by decide), T.2⟩, ⟨s, c, Q.off O (by decide)⟩, B0.off O (by decide), B1.off O (by decide)⟩
theorem CI.kpt (K' : Int32) (C : CI h g P i0 i1 K) : pf h 5 8 7 7 0 (.int K') = some (h.set 5 (wObj K')) ∧ CI (h.set 5 (wObj K')) g P i0 i1 K' := by
  obtain ⟨C, ⟨kn, q, X, hx⟩, kg, r, Y, hy⟩ := C
  have O : Off h (h.set 5 (wObj K')) 5 6 := Off.set (by decide) (by decide)
  exact ⟨(C.kpt K').1, (C.kpt K').2, ⟨kn, q, X.off O (by decide), hx⟩, kg, r, Y.off O (by decide), hy⟩
theorem CI.im0 (O : Off h h' 54 75) (A : BoardG h' 54 g') (C : CI h g P i0 i1 K) : CI h' g P g' i1 K := by
  obtain ⟨C, ⟨kn, q, X, hx⟩, kg, r, Y, hy⟩ := C
  obtain ⟨L, ⟨s2, s3⟩, b5, b33, B, T, ⟨s, c, Q⟩, B0, B1⟩ := C
  exact ⟨⟨L.off O (by decide), ⟨by rw [O.2 2 (by decide)]; exact s2, by rw [O.2 3 (by decide)]; exact s3⟩, by rw [O.2 5 (by decide)]; exact b5, by rw [O.2 33 (by decide)]; exact b33, B.off O (by decide), ⟨T.1.off O (by decide), T.2⟩, ⟨s, c, Q.off O (by decide)⟩, A, B1.off O (by decide)⟩, ⟨kn, q, X.off O (by decide), hx⟩, kg, r, Y.off O (by decide), hy⟩
theorem CI.im1 (O : Off h h' 75 96) (A : BoardG h' 75 g') (C : CI h g P i0 i1 K) : CI h' g P i0 g' K := by
  obtain ⟨C, ⟨kn, q, X, hx⟩, kg, r, Y, hy⟩ := C
  obtain ⟨L, ⟨s2, s3⟩, b5, b33, B, T, ⟨s, c, Q⟩, B0, B1⟩ := C
  exact ⟨⟨L.off O (by decide), ⟨by rw [O.2 2 (by decide)]; exact s2, by rw [O.2 3 (by decide)]; exact s3⟩, by rw [O.2 5 (by decide)]; exact b5, by rw [O.2 33 (by decide)]; exact b33, B.off O (by decide), ⟨T.1.off O (by decide), T.2⟩, ⟨s, c, Q.off O (by decide)⟩, B0.off O (by decide), A⟩, ⟨kn, q, X.off O (by decide), hx⟩, kg, r, Y.off O (by decide), hy⟩
theorem aa33 (b33 : h[33]? = some (.inr (.inr (0, [some 54, some 75])))) : aa h 33 0 = some (.ref 54) ∧ aa h 33 1 = some (.ref 75) := by
  constructor <;> (unfold aa; rw [b33]; decide +kernel)
def q_image (g i0 i1 : gG) (a b : Bool) (k : Int32) : Int32 × gG × gG × Bool × Bool := if k = 0 then (1, g, i1, true, b) else if k = 1 then (1, i0, g, a, true) else (-2, i0, i1, a, b)
theorem kk2 (k : Int32) : k = 0 ∨ k = 1 ∨ (¬ k = 0 ∧ ¬ k = 1 ∧ (k < 0 ∨ (¬ k < 0 ∧ ¬ k < 2))) := by
  rcases kk3 k with rfl | rfl | rfl | ⟨hk, z0, z1, z2⟩ | ⟨hk, hk2, hk3, z0, z1, z2⟩
  · exact Or.inl rfl
  · exact Or.inr (Or.inl rfl)
  · exact Or.inr (Or.inr (by decide))
  · exact Or.inr (Or.inr ⟨z0, z1, Or.inl hk⟩)
  · exact Or.inr (Or.inr ⟨z0, z1, Or.inr ⟨hk, fun z => hk2 (Int32.le_of_lt z)⟩⟩)
theorem c_image {k : Int32} {a b : Bool} (C : CI h g P i0 i1 (kI a b)) : ∃ h', go (d + 12) 57 0 [.ref 5, .int k] [] h = some (some (.int (q_image g i0 i1 a b k).1), h') ∧ CI h' g P (q_image g i0 i1 a b k).2.1 (q_image g i0 i1 a b k).2.2.1 (kI (q_image g i0 i1 a b k).2.2.2.1 (q_image g i0 i1 a b k).2.2.2.2) ∧ Off h h' 5 96 := by
  have W := C.w
  obtain ⟨L, S, b5, b33, B, T, -, B0, B1⟩ := id W.1
  obtain ⟨x0, x1⟩ := aa33 b33
  have n02 : (0 : Int32) < 2 ∧ (1 : Int32) < 2 := by decide
  unfold q_image
  rcases kk2 k with rfl | rfl | ⟨z0, z1, z2⟩
  · obtain ⟨h1, e1, A1, O1⟩ := m1 (d := d + 9) B0.1 B.1 (by decide)
    have C1 := C.im0 O1 ⟨A1, B.2⟩
    obtain ⟨p1, C2⟩ := C1.kpt (kI a b ||| ((1 : Int32) <<< ((0 : Int32) &&& 31)))
    have F1 := C1.w.F
    refine ⟨_, ?_, by simp only [eq_self, if_true]; rw [kI_0] at C2; exact C2, (O1.mono (by decide) (by decide)).trans ?_⟩
    · simp only [ee_57_0, ee_57_1, ee_57_4, ee_57_5, ee_57_6, ee_57_9, ee_57_11, ee_57_12, ee_57_12N, ee_57_13, ee_57_16, ee_57_17, ee_57_18, ee_57_18N, ee_57_19, ee_57_22, ee_57_25, ee_57_25N, ee_57_26, ee_57_27, ee_57_30, ee_57_31, ee_57_32, ee_57_33, ee_57_34, ee_57_37, ee_57_38, W.F, F1, KK, n02, x0, e1, p1, Option.bind_some, Option.toList, List.cons_append, List.nil_append, List.append_nil, if_true, if_false, Bool.false_eq_true, eq_self, not_true_eq_false, not_false_eq_true]
      rw [kI_0]
    · exact Off.set (by decide) (by decide)
  · obtain ⟨h1, e1, A1, O1⟩ := m1 (d := d + 9) B1.1 B.1 (by decide)
    have C1 := C.im1 O1 ⟨A1, B.2⟩
    obtain ⟨p1, C2⟩ := C1.kpt (kI a b ||| ((1 : Int32) <<< ((1 : Int32) &&& 31)))
    have F1 := C1.w.F
    refine ⟨_, ?_, by simp only [KK, eq_self, if_true, if_false]; rw [kI_1] at C2; exact C2, (O1.mono (by decide) (by decide)).trans ?_⟩
    · simp only [ee_57_0, ee_57_1, ee_57_4, ee_57_5, ee_57_6, ee_57_9, ee_57_11, ee_57_12, ee_57_12N, ee_57_13, ee_57_16, ee_57_17, ee_57_18, ee_57_18N, ee_57_19, ee_57_22, ee_57_25, ee_57_25N, ee_57_26, ee_57_27, ee_57_30, ee_57_31, ee_57_32, ee_57_33, ee_57_34, ee_57_37, ee_57_38, W.F, F1, KK, n02, x1, e1, p1, Option.bind_some, Option.toList, List.cons_append, List.nil_append, List.append_nil, if_true, if_false, Bool.false_eq_true, eq_self, not_true_eq_false, not_false_eq_true]
      rw [kI_1]
    · exact Off.set (by decide) (by decide)
  · refine ⟨h, ?_, by simp only [z0, z1, if_false]; exact C, Off.rf⟩
    rcases z2 with z2 | ⟨z2, z3⟩
    · simp only [ee_57_0, ee_57_1, ee_57_4, ee_57_5, ee_57_6, ee_57_9, ee_57_11, ee_57_12, ee_57_12N, ee_57_13, ee_57_16, ee_57_17, ee_57_18, ee_57_18N, ee_57_19, ee_57_22, ee_57_25, ee_57_25N, ee_57_26, ee_57_27, ee_57_30, ee_57_31, ee_57_32, ee_57_33, ee_57_34, ee_57_37, ee_57_38, z0, z1, z2, Option.bind_some, Option.toList, List.cons_append, List.nil_append, List.append_nil, if_true, if_false, Bool.false_eq_true, eq_self, not_true_eq_false, not_false_eq_true]
    · simp only [ee_57_0, ee_57_1, ee_57_4, ee_57_5, ee_57_6, ee_57_9, ee_57_11, ee_57_12, ee_57_12N, ee_57_13, ee_57_16, ee_57_17, ee_57_18, ee_57_18N, ee_57_19, ee_57_22, ee_57_25, ee_57_25N, ee_57_26, ee_57_27, ee_57_30, ee_57_31, ee_57_32, ee_57_33, ee_57_34, ee_57_37, ee_57_38, z0, z1, z2, z3, Option.bind_some, Option.toList, List.cons_append, List.nil_append, List.append_nil, if_true, if_false, Bool.false_eq_true, eq_self, not_true_eq_false, not_false_eq_true]
def q_restore (g i0 i1 : gG) (a b : Bool) (k : Int32) : Int32 × gG := if k = 0 then (if a = true then (1, i0) else (-3, g)) else if k = 1 then (if b = true then (1, i1) else (-3, g)) else (-2, g)
theorem c_restore {k : Int32} {a b : Bool} (C : CI h g P i0 i1 (kI a b)) : ∃ h', go (d + 12) 58 0 [.ref 5, .int k] [] h = some (some (.int (q_restore g i0 i1 a b k).1), h') ∧ CI h' (q_restore g i0 i1 a b k).2 P i0 i1 (kI a b) ∧ Off h h' 5 96 := by
  have W := C.w
  obtain ⟨L, S, b5, b33, B, T, -, B0, B1⟩ := id W.1
  obtain ⟨x0, x1⟩ := aa33 b33
  have n02 : (0 : Int32) < 2 ∧ (1 : Int32) < 2 := by decide
  unfold q_restore
  rcases kk2 k with rfl | rfl | ⟨z0, z1, z2⟩
  · cases a
    · refine ⟨h, ?_, by simp only [eq_self, if_true, Bool.false_eq_true, if_false]; exact C, Off.rf⟩
      simp only [ee_58_0, ee_58_1, ee_58_4, ee_58_5, ee_58_6, ee_58_9, ee_58_11, ee_58_12, ee_58_12N, ee_58_13, ee_58_16, ee_58_17, ee_58_18, ee_58_19, ee_58_20, ee_58_23, ee_58_25, ee_58_26, ee_58_26N, ee_58_27, ee_58_30, ee_58_30N, ee_58_31, ee_58_34, ee_58_35, ee_58_36, ee_58_39, ee_58_39N, ee_58_40, ee_58_43, ee_58_44, W.F, KK, n02, kI_g0, bI_f, Option.bind_some, Option.toList, List.cons_append, List.nil_append, List.append_nil, if_true, if_false, Bool.false_eq_true, eq_self, not_true_eq_false, not_false_eq_true]
    · obtain ⟨h1, e1, A1, O1⟩ := m1 (d := d + 9) B.1 B0.1 (by decide)
      have W1 := W.brd O1 ⟨A1, B0.2⟩
      obtain ⟨h2, e63, CI2, O2⟩ := m63w (d := d + 11) W1
      have F1 := W1.F
      refine ⟨h2, ?_, by simp only [eq_self, if_true]; exact CI2, (O1.mono (by decide) (by decide)).trans (O2.mono (by decide) (by decide))⟩
      simp only [ee_58_0, ee_58_1, ee_58_4, ee_58_5, ee_58_6, ee_58_9, ee_58_11, ee_58_12, ee_58_12N, ee_58_13, ee_58_16, ee_58_17, ee_58_18, ee_58_19, ee_58_20, ee_58_23, ee_58_25, ee_58_26, ee_58_26N, ee_58_27, ee_58_30, ee_58_30N, ee_58_31, ee_58_34, ee_58_35, ee_58_36, ee_58_39, ee_58_39N, ee_58_40, ee_58_43, ee_58_44, W.F, F1.2.2.2.2.2.2.2.2.2.1, KK, n02, kI_g0, bI_t, x0, e1, e63, Option.bind_some, Option.toList, List.cons_append, List.nil_append, List.append_nil, if_true, if_false, Bool.false_eq_true, eq_self, not_true_eq_false, not_false_eq_true]
  · cases b
    · refine ⟨h, ?_, by simp only [KK, eq_self, if_true, Bool.false_eq_true, if_false]; exact C, Off.rf⟩
      simp only [ee_58_0, ee_58_1, ee_58_4, ee_58_5, ee_58_6, ee_58_9, ee_58_11, ee_58_12, ee_58_12N, ee_58_13, ee_58_16, ee_58_17, ee_58_18, ee_58_19, ee_58_20, ee_58_23, ee_58_25, ee_58_26, ee_58_26N, ee_58_27, ee_58_30, ee_58_30N, ee_58_31, ee_58_34, ee_58_35, ee_58_36, ee_58_39, ee_58_39N, ee_58_40, ee_58_43, ee_58_44, W.F, KK, n02, kI_g1, bI_f, Option.bind_some, Option.toList, List.cons_append, List.nil_append, List.append_nil, if_true, if_false, Bool.false_eq_true, eq_self, not_true_eq_false, not_false_eq_true]
    · obtain ⟨h1, e1, A1, O1⟩ := m1 (d := d + 9) B.1 B1.1 (by decide)
      have W1 := W.brd O1 ⟨A1, B1.2⟩
      obtain ⟨h2, e63, CI2, O2⟩ := m63w (d := d + 11) W1
      have F1 := W1.F
      refine ⟨h2, ?_, by simp only [KK, eq_self, if_true, if_false]; exact CI2, (O1.mono (by decide) (by decide)).trans (O2.mono (by decide) (by decide))⟩
      simp only [ee_58_0, ee_58_1, ee_58_4, ee_58_5, ee_58_6, ee_58_9, ee_58_11, ee_58_12, ee_58_12N, ee_58_13, ee_58_16, ee_58_17, ee_58_18, ee_58_19, ee_58_20, ee_58_23, ee_58_25, ee_58_26, ee_58_26N, ee_58_27, ee_58_30, ee_58_30N, ee_58_31, ee_58_34, ee_58_35, ee_58_36, ee_58_39, ee_58_39N, ee_58_40, ee_58_43, ee_58_44, W.F, F1.2.2.2.2.2.2.2.2.2.1, KK, n02, kI_g1, bI_t, x1, e1, e63, Option.bind_some, Option.toList, List.cons_append, List.nil_append, List.append_nil, if_true, if_false, Bool.false_eq_true, eq_self, not_true_eq_false, not_false_eq_true]
  · refine ⟨h, ?_, by simp only [z0, z1, if_false]; exact C, Off.rf⟩
    rcases z2 with z2 | ⟨z2, z3⟩
    · simp only [ee_58_0, ee_58_1, ee_58_4, ee_58_5, ee_58_6, ee_58_9, ee_58_11, ee_58_12, ee_58_12N, ee_58_13, ee_58_16, ee_58_17, ee_58_18, ee_58_19, ee_58_20, ee_58_23, ee_58_25, ee_58_26, ee_58_26N, ee_58_27, ee_58_30, ee_58_30N, ee_58_31, ee_58_34, ee_58_35, ee_58_36, ee_58_39, ee_58_39N, ee_58_40, ee_58_43, ee_58_44, z0, z1, z2, Option.bind_some, Option.toList, List.cons_append, List.nil_append, List.append_nil, if_true, if_false, Bool.false_eq_true, eq_self, not_true_eq_false, not_false_eq_true]
    · simp only [ee_58_0, ee_58_1, ee_58_4, ee_58_5, ee_58_6, ee_58_9, ee_58_11, ee_58_12, ee_58_12N, ee_58_13, ee_58_16, ee_58_17, ee_58_18, ee_58_19, ee_58_20, ee_58_23, ee_58_25, ee_58_26, ee_58_26N, ee_58_27, ee_58_30, ee_58_30N, ee_58_31, ee_58_34, ee_58_35, ee_58_36, ee_58_39, ee_58_39N, ee_58_40, ee_58_43, ee_58_44, z0, z1, z2, z3, Option.bind_some, Option.toList, List.cons_append, List.nil_append, List.append_nil, if_true, if_false, Bool.false_eq_true, eq_self, not_true_eq_false, not_false_eq_true]
/-- count -/
def q_cnt (g : gG) (P : List Int32) (K : Int32) (j : Nat) : Int32 := match j with
  | 0 => nI g.1
  | 1 => nI g.2.2.1.length
  | 2 => nI g.2.2.2.1.length
  | 3 => nI (emF g.2.1 0 (g.1 * g.1) 0)
  | 4 => nI P.length
  | 5 => bcI (mkF g.2.1 0 (g.1 * g.1) 0)
  | _ => K
def q_count (g : gG) (P : List Int32) (K x : Int32) : Int32 := if x < 0 ∨ nI 7 ≤ x then -2 else q_cnt g P K x.toNatClampNeg
theorem m31 {s a : Nat} {cs : List Int32} (hs : sideOk s) (L : LatAt h) (Q : SquareAt h a s cs) : go (d + 1) 31 0 [.ref a, aU, aU] [] h = some (some (.int (bcI (mkF cs 0 (s * s) 0))), h) := by
  have e := m31_loop (d := d + 1) hs L Q (s * s) 0 0 (by omega)
  rw [nI_0] at e
  have e119 := m119 (d := d) (h := h) (x := mkF cs 0 (s * s) 0)
  simp only [ee_31_0, ee_31_1, ee_31_2, ee_31_3, ee_31_5, ee_31_5N, ee_31_6, ee_31_9, ee_31_12, ee_31_15, ee_31_15N, ee_31_16, ee_31_19, ee_31_20, ee_31_21, ee_31_24, ee_31_25, ee_31_26, ee_31_26N, ee_31_27, ee_31_30, ee_31_31, ee_31_32, ee_31_34, ee_31_35, ee_31_36, ee_31_37, ee_31_38, ee_31_41, ee_31_44, ee_31_45, ee_31_48, e, e119, Option.bind_some, Option.toList, List.cons_append, List.nil_append, List.append_nil, if_true, if_false, Bool.false_eq_true, eq_self, not_true_eq_false, not_false_eq_true]
theorem c_count {x : Int32} (C : CI h g P i0 i1 K) : go (d + 12) 59 0 [.ref 5, .int x] [] h = some (some (.int (q_count g P K x)), h) := by
  have W := C.w
  obtain ⟨L, S, b5, b33, B, T, -, B0, B1⟩ := id W.1
  have hs := B.2.1
  have e30 := m30 (d := d + 11) hs L B.1.2.1
  have e31 := m31 (d := d + 10) hs L B.1.2.1
  unfold q_count
  rcases pk_ix x (n := 7) (by decide) with hc | hc | ⟨j, hj, rfl⟩
  · have hx : x.toInt < 0 ∨ 6 < x.toInt := by
      have a1 : x.toInt < (0 : Int32).toInt := Int32.lt_iff_toInt_lt.mp hc
      have e0 : (0 : Int32).toInt = 0 := by decide
      omega
    simp only [ee_59_0, ee_59_1_d hx, ee_59_115, ee_59_117, hc, true_or, if_true]
  · have hx : x.toInt < 0 ∨ 6 < x.toInt := by
      have a1 : (nI 7).toInt ≤ x.toInt := Int32.le_iff_toInt_le.mp hc
      have e0 : (nI 7).toInt = 7 := by decide
      omega
    simp only [ee_59_0, ee_59_1_d hx, ee_59_115, ee_59_117, hc, or_true, if_true]
  · have n1 : ¬ nI j < 0 := nI_pos (by omega)
    have n2 : ¬ nI 7 ≤ nI j := nI_nle2 (by omega) (by omega) hj
    simp only [n1, n2, or_self, if_false, nI_clamp (show j < 2 ^ 31 by omega)]
    have : j = 0 ∨ j = 1 ∨ j = 2 ∨ j = 3 ∨ j = 4 ∨ j = 5 ∨ j = 6 := by omega
    rcases this with rfl | rfl | rfl | rfl | rfl | rfl | rfl
    · show go (d + 12) 59 0 [.ref 5, .int 0] [] h = _
      simp only [ee_59_0, ee_59_1_0, ee_59_1_1, ee_59_1_2, ee_59_1_3, ee_59_1_4, ee_59_1_5, ee_59_1_6, ee_59_1_d, ee_59_44, ee_59_44N, ee_59_45, ee_59_48, ee_59_51, ee_59_54, ee_59_57, ee_59_58, ee_59_58N, ee_59_59, ee_59_62, ee_59_65, ee_59_68, ee_59_69, ee_59_69N, ee_59_70, ee_59_73, ee_59_76, ee_59_79, ee_59_80, ee_59_80N, ee_59_81, ee_59_84, ee_59_87, ee_59_90, ee_59_91, ee_59_91N, ee_59_92, ee_59_95, ee_59_98, ee_59_99, ee_59_99N, ee_59_100, ee_59_103, ee_59_106, ee_59_109, ee_59_110, ee_59_110N, ee_59_111, ee_59_114, ee_59_115, ee_59_117, W.F, q_cnt, Option.bind_some, Option.toList, List.cons_append, List.nil_append, List.append_nil, if_true, if_false, Bool.false_eq_true, eq_self, not_true_eq_false, not_false_eq_true]
    · show go (d + 12) 59 0 [.ref 5, .int 1] [] h = _
      simp only [ee_59_0, ee_59_1_0, ee_59_1_1, ee_59_1_2, ee_59_1_3, ee_59_1_4, ee_59_1_5, ee_59_1_6, ee_59_1_d, ee_59_44, ee_59_44N, ee_59_45, ee_59_48, ee_59_51, ee_59_54, ee_59_57, ee_59_58, ee_59_58N, ee_59_59, ee_59_62, ee_59_65, ee_59_68, ee_59_69, ee_59_69N, ee_59_70, ee_59_73, ee_59_76, ee_59_79, ee_59_80, ee_59_80N, ee_59_81, ee_59_84, ee_59_87, ee_59_90, ee_59_91, ee_59_91N, ee_59_92, ee_59_95, ee_59_98, ee_59_99, ee_59_99N, ee_59_100, ee_59_103, ee_59_106, ee_59_109, ee_59_110, ee_59_110N, ee_59_111, ee_59_114, ee_59_115, ee_59_117, W.F, q_cnt, Option.bind_some, Option.toList, List.cons_append, List.nil_append, List.append_nil, if_true, if_false, Bool.false_eq_true, eq_self, not_true_eq_false, not_false_eq_true]
    · show go (d + 12) 59 0 [.ref 5, .int 2] [] h = _
      simp only [ee_59_0, ee_59_1_0, ee_59_1_1, ee_59_1_2, ee_59_1_3, ee_59_1_4, ee_59_1_5, ee_59_1_6, ee_59_1_d, ee_59_44, ee_59_44N, ee_59_45, ee_59_48, ee_59_51, ee_59_54, ee_59_57, ee_59_58, ee_59_58N, ee_59_59, ee_59_62, ee_59_65, ee_59_68, ee_59_69, ee_59_69N, ee_59_70, ee_59_73, ee_59_76, ee_59_79, ee_59_80, ee_59_80N, ee_59_81, ee_59_84, ee_59_87, ee_59_90, ee_59_91, ee_59_91N, ee_59_92, ee_59_95, ee_59_98, ee_59_99, ee_59_99N, ee_59_100, ee_59_103, ee_59_106, ee_59_109, ee_59_110, ee_59_110N, ee_59_111, ee_59_114, ee_59_115, ee_59_117, W.F, q_cnt, Option.bind_some, Option.toList, List.cons_append, List.nil_append, List.append_nil, if_true, if_false, Bool.false_eq_true, eq_self, not_true_eq_false, not_false_eq_true]
    · show go (d + 12) 59 0 [.ref 5, .int 3] [] h = _
      simp only [ee_59_0, ee_59_1_0, ee_59_1_1, ee_59_1_2, ee_59_1_3, ee_59_1_4, ee_59_1_5, ee_59_1_6, ee_59_1_d, ee_59_44, ee_59_44N, ee_59_45, ee_59_48, ee_59_51, ee_59_54, ee_59_57, ee_59_58, ee_59_58N, ee_59_59, ee_59_62, ee_59_65, ee_59_68, ee_59_69, ee_59_69N, ee_59_70, ee_59_73, ee_59_76, ee_59_79, ee_59_80, ee_59_80N, ee_59_81, ee_59_84, ee_59_87, ee_59_90, ee_59_91, ee_59_91N, ee_59_92, ee_59_95, ee_59_98, ee_59_99, ee_59_99N, ee_59_100, ee_59_103, ee_59_106, ee_59_109, ee_59_110, ee_59_110N, ee_59_111, ee_59_114, ee_59_115, ee_59_117, W.F, e30, q_cnt, Option.bind_some, Option.toList, List.cons_append, List.nil_append, List.append_nil, if_true, if_false, Bool.false_eq_true, eq_self, not_true_eq_false, not_false_eq_true]
    · show go (d + 12) 59 0 [.ref 5, .int 4] [] h = _
      simp only [ee_59_0, ee_59_1_0, ee_59_1_1, ee_59_1_2, ee_59_1_3, ee_59_1_4, ee_59_1_5, ee_59_1_6, ee_59_1_d, ee_59_44, ee_59_44N, ee_59_45, ee_59_48, ee_59_51, ee_59_54, ee_59_57, ee_59_58, ee_59_58N, ee_59_59, ee_59_62, ee_59_65, ee_59_68, ee_59_69, ee_59_69N, ee_59_70, ee_59_73, ee_59_76, ee_59_79, ee_59_80, ee_59_80N, ee_59_81, ee_59_84, ee_59_87, ee_59_90, ee_59_91, ee_59_91N, ee_59_92, ee_59_95, ee_59_98, ee_59_99, ee_59_99N, ee_59_100, ee_59_103, ee_59_106, ee_59_109, ee_59_110, ee_59_110N, ee_59_111, ee_59_114, ee_59_115, ee_59_117, W.F, q_cnt, Option.bind_some, Option.toList, List.cons_append, List.nil_append, List.append_nil, if_true, if_false, Bool.false_eq_true, eq_self, not_true_eq_false, not_false_eq_true]
    · show go (d + 12) 59 0 [.ref 5, .int 5] [] h = _
      simp only [ee_59_0, ee_59_1_0, ee_59_1_1, ee_59_1_2, ee_59_1_3, ee_59_1_4, ee_59_1_5, ee_59_1_6, ee_59_1_d, ee_59_44, ee_59_44N, ee_59_45, ee_59_48, ee_59_51, ee_59_54, ee_59_57, ee_59_58, ee_59_58N, ee_59_59, ee_59_62, ee_59_65, ee_59_68, ee_59_69, ee_59_69N, ee_59_70, ee_59_73, ee_59_76, ee_59_79, ee_59_80, ee_59_80N, ee_59_81, ee_59_84, ee_59_87, ee_59_90, ee_59_91, ee_59_91N, ee_59_92, ee_59_95, ee_59_98, ee_59_99, ee_59_99N, ee_59_100, ee_59_103, ee_59_106, ee_59_109, ee_59_110, ee_59_110N, ee_59_111, ee_59_114, ee_59_115, ee_59_117, W.F, e31, q_cnt, Option.bind_some, Option.toList, List.cons_append, List.nil_append, List.append_nil, if_true, if_false, Bool.false_eq_true, eq_self, not_true_eq_false, not_false_eq_true]
    · show go (d + 12) 59 0 [.ref 5, .int 6] [] h = _
      simp only [ee_59_0, ee_59_1_0, ee_59_1_1, ee_59_1_2, ee_59_1_3, ee_59_1_4, ee_59_1_5, ee_59_1_6, ee_59_1_d, ee_59_44, ee_59_44N, ee_59_45, ee_59_48, ee_59_51, ee_59_54, ee_59_57, ee_59_58, ee_59_58N, ee_59_59, ee_59_62, ee_59_65, ee_59_68, ee_59_69, ee_59_69N, ee_59_70, ee_59_73, ee_59_76, ee_59_79, ee_59_80, ee_59_80N, ee_59_81, ee_59_84, ee_59_87, ee_59_90, ee_59_91, ee_59_91N, ee_59_92, ee_59_95, ee_59_98, ee_59_99, ee_59_99N, ee_59_100, ee_59_103, ee_59_106, ee_59_109, ee_59_110, ee_59_110N, ee_59_111, ee_59_114, ee_59_115, ee_59_117, W.F, q_cnt, Option.bind_some, Option.toList, List.cons_append, List.nil_append, List.append_nil, if_true, if_false, Bool.false_eq_true, eq_self, not_true_eq_false, not_false_eq_true]
end CM2
