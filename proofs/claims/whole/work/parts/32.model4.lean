/-! the reference: begin, standsIn, timesIn, stands, canPut, put, fits -/
section MD4
variable {h h' h0 : aH} {g g' i0 i1 : gG} {P P' S I PD SQ CV FP : List Int32} {a b : Bool} {n l m k t f : Int32} {lo hi d : Nat}
def WordAt (S : List Int32) (kd j : Nat) (w : List Int32) : Prop := (kd < 2 ∧ j < 3 ∧ 1 ≤ w.length ∧ w.length ≤ 4) ∧ S.getD (53 + 3 * kd + j) 0 = nI w.length ∧ ∀ i, i < w.length → S.getD (29 + 12 * kd + 4 * j + i) 0 = w.getD i 0
theorem Enc.w0 {j : Nat} (E : Enc (fun j => S.getD j 0) g) (G : GW g) (hj : j < g.2.2.1.length) : WordAt S 0 j (g.2.2.1.getD j []) := by
  have hm := G.1.2.2.2.1 _ (show g.2.2.1.getD j [] ∈ g.2.2.1 by rw [List.getD_eq_getElem?_getD, List.getElem?_eq_getElem hj]; exact List.getElem_mem hj)
  have h3 := G.2.2.1
  exact ⟨⟨by decide, by omega, by omega, hm.2.1⟩, (E.s.2.2.2.2.1 j hj).1, fun i hi => (E.s.2.2.2.2.1 j hj).2 i hi⟩
theorem Enc.w1 {j : Nat} (E : Enc (fun j => S.getD j 0) g) (G : GW g) (hj : j < g.2.2.2.1.length) : WordAt S 1 j (g.2.2.2.1.getD j []) := by
  have hm := G.1.2.2.2.2.1 _ (show g.2.2.2.1.getD j [] ∈ g.2.2.2.1 by rw [List.getD_eq_getElem?_getD, List.getElem?_eq_getElem hj]; exact List.getElem_mem hj)
  have h3 := G.2.2.2
  exact ⟨⟨by decide, by omega, by omega, hm.2.1⟩, (E.s.2.2.2.2.2 j hj).1, fun i hi => (E.s.2.2.2.2.2 j hj).2 i hi⟩
theorem WordAt.long {kd j : Nat} {w : List Int32} (W : WordAt S kd j w) (M : ML h S I PD SQ CV FP a b n l m k t f) : go d 71 0 [.ref 96, .int (nI kd), .int (nI j)] [] h = some (some (.int (nI w.length)), h) := by
  rw [o71 M W.1.1 W.1.2.1, W.2.1]
theorem WordAt.let {kd j i : Nat} {w : List Int32} (W : WordAt S kd j w) (M : ML h S I PD SQ CV FP a b n l m k t f) (hi : i < w.length) : go d 72 0 [.ref 96, .int (nI kd), .int (nI j), .int (nI i)] [] h = some (some (.int (w.getD i 0)), h) := by
  rw [o72 M W.1.1 W.1.2.1 (by have := W.1.2.2.2; omega), W.2.2 i hi]
/-- begin -/
theorem o87 (M0 : ML h S I PD SQ CV FP a b n l m k t f) : ∃ h', go d 87 0 [.ref 96, aU] [] h = some (none, h') ∧ ML h' S I PD (updR SQ 0 (fun c => S.getD (1 + c) 0) 16) (updR CV 0 (fun _ => 0) 16) FP a b n l m k t f ∧ Off h h' 96 104 := by
  have lp := go_iter (d := d) (M := 87) (pc := 2) (fun i ls h' => ls = [.ref 96, .int (nI i)] ∧ ML h' S I PD (updR SQ 0 (fun c => S.getD (1 + c) 0) i) (updR CV 0 (fun _ => 0) i) FP a b n l m k t f ∧ Off h h' 96 104) 16 (by
    rintro i ls h2 hi ⟨rfl, M2, O2⟩
    obtain ⟨h3, w3, M3, O3⟩ := M2.w101 (j := 0 + i) (S.getD (1 + i) 0) (by omega)
    obtain ⟨h4, w4, M4, O4⟩ := M3.w102 (j := 0 + i) 0 (by omega)
    refine ⟨_, h4, ?_, rfl, M4, (O2.trans O3).trans O4⟩
    have n1 : ¬ (16 : Int32) ≤ nI i := nI_nle2 (a := i) (b := 16) (by omega) (by omega) hi
    have x1 : (1 : Int32) + nI i = nI (1 + i) := xI 1 i
    have r := M2.r97 (j := 1 + i) (by omega)
    rw [Nat.zero_add] at w3 w4
    rw [ee_87_2]
    simp only [ee_87_0, ee_87_1, ee_87_3, ee_87_5, ee_87_8, ee_87_8N, ee_87_9, ee_87_12, ee_87_13, ee_87_13N, ee_87_14, ee_87_17, ee_87_18, ee_87_19, ee_87_20, ee_87_21, ee_87_22, ee_87_22N, ee_87_23, ee_87_26, ee_87_27, ee_87_28, ee_87_29, ee_87_32, ee_87_35, M2.F, M3.F, n1, x1, r, w3, w4, nI_1, Option.bind_some, Option.toList, List.cons_append, List.nil_append, List.append_nil, if_true, if_false, Bool.false_eq_true, eq_self, not_true_eq_false, not_false_eq_true])
  obtain ⟨ls, h3, e3, rfl, M3, O3⟩ := lp _ h ⟨rfl, M0, Off.rf⟩
  refine ⟨h3, ?_, M3, O3⟩
  rw [nI_0] at e3
  have n1 : (16 : Int32) ≤ nI 16 := by decide
  simp only [ee_87_0, ee_87_1, ee_87_3, ee_87_5, ee_87_8, ee_87_8N, ee_87_9, ee_87_12, ee_87_13, ee_87_13N, ee_87_14, ee_87_17, ee_87_18, ee_87_19, ee_87_20, ee_87_21, ee_87_22, ee_87_22N, ee_87_23, ee_87_26, ee_87_27, ee_87_28, ee_87_29, ee_87_32, ee_87_35, e3, Option.bind_some, Option.toList, List.cons_append, List.nil_append, List.append_nil, if_true, if_false, Bool.false_eq_true, eq_self, not_true_eq_false, not_false_eq_true]
  rw [ee_87_2]
  simp only [ee_87_0, ee_87_1, ee_87_3, ee_87_5, ee_87_8, ee_87_8N, ee_87_9, ee_87_12, ee_87_13, ee_87_13N, ee_87_14, ee_87_17, ee_87_18, ee_87_19, ee_87_20, ee_87_21, ee_87_22, ee_87_22N, ee_87_23, ee_87_26, ee_87_27, ee_87_28, ee_87_29, ee_87_32, ee_87_35, n1, Option.bind_some, Option.toList, List.cons_append, List.nil_append, List.append_nil, if_true, if_false, Bool.false_eq_true, eq_self, not_true_eq_false, not_false_eq_true]
/-- standsIn: cs is what lies from fr on -/
theorem shB_s (s : Nat) (cs w : List Int32) (p i : Nat) : shB s cs w p 0 (i + 1) = (shB s cs w p 0 i && decide (cs.getD (cl s p i) 0 = w.getD i 0)) := by
  unfold shB
  rw [List.range'_1_concat, List.all_append, List.all_cons, List.all_nil, Bool.and_true, Nat.zero_add]
theorem o92 {s fr kd j p : Nat} {cs w : List Int32} (hs : sideOk s) (hf : fr + 16 ≤ 80) (hsq : ∀ c, c < s * s → SQ.getD (fr + c) 0 = cs.getD c 0) (W : WordAt S kd j w) (M : ML h S I PD SQ CV FP a b n l m k t f) (e0 : S.getD 0 0 = nI s) (hp : p < 8 * s * s) : go (d + 4) 92 0 [.ref 96, .int (nI fr), .int (nI kd), .int (nI j), .int (nI p), aU, aU, aU] [] h = some (some (.int (bI (sh s cs w p))), h) := by
  have hq := (sq_lt hs)
  have hl4 := W.1.2.2.2
  have hl1 := W.1.2.2.1
  have e71 := W.long (d := d + 3) M
  have e72 := W.let (d := d + 3) (i := 0) M (by omega)
  rw [nI_0] at e72
  have n8 : ¬ (8 : Int32) = 0 := by decide
  have x8 : nI p / 8 = nI (p / 8) := div8 p (by omega)
  have c0 : cl s p 0 = p / 8 := cl0_dec s (by rcases hs with rfl | rfl <;> simp) p hp
  have hp8 : p / 8 < s * s := by rw [Nat.mul_assoc] at hp; omega
  have r0 := M.r101 (j := fr + p / 8) (by omega)
  rw [hsq _ hp8] at r0
  have e86 := o86 (d := d) (n' := w.length) hs M e0 hp hl1 hl4
  by_cases h1 : cs.getD (p / 8) 0 = w.getD 0 0
  · by_cases h2 : w.length ≤ rN s p
    · rw [decide_eq_true h2, bI_t] at e86
      have lp : go (d + 4) 92 49 [.ref 96, .int (nI fr), .int (nI kd), .int (nI j), .int (nI p), .int (nI w.length), .int (bI (shB s cs w p 0 (1 + 0))), .int (nI (1 + 0))] [] h = go (d + 4) 92 49 [.ref 96, .int (nI fr), .int (nI kd), .int (nI j), .int (nI p), .int (nI w.length), .int (bI (shB s cs w p 0 (1 + (w.length - 1)))), .int (nI (1 + (w.length - 1)))] [] h := by
        refine go_loop (fun i => [.ref 96, .int (nI fr), .int (nI kd), .int (nI j), .int (nI p), .int (nI w.length), .int (bI (shB s cs w p 0 (1 + i))), .int (nI (1 + i))]) (fun _ => h) (w.length - 1) ?_
        intro i hi
        have n1 : ¬ nI w.length ≤ nI (1 + i) := nI_nle2 (by omega) (by omega) (by omega)
        have e85 := o85a (d := d + 1) hs M e0 hp (i := 1 + i) (by omega) (by omega)
        have hc := ((geo hs hp).2.2.2.2 (1 + i) (by omega)).2
        have r1 := M.r101 (j := fr + cl s p (1 + i)) (by omega)
        rw [hsq _ hc] at r1
        have e72 := W.let (d := d + 3) (i := 1 + i) M (by omega)
        rw [ee_92_49, show 1 + (i + 1) = 1 + i + 1 by omega, shB_s]
        by_cases hb : shB s cs w p 0 (1 + i) = true
        · rw [hb, bI_t]
          by_cases hz : cs.getD (cl s p (1 + i)) 0 = w.getD (1 + i) 0
          · rw [decide_eq_true hz, Bool.and_self, bI_t]
            simp only [ee_92_0, ee_92_0N, ee_92_1, ee_92_2, ee_92_3, ee_92_6, ee_92_8, ee_92_8N, ee_92_9, ee_92_12, ee_92_13, ee_92_15, ee_92_17, ee_92_18, ee_92_19, ee_92_20, ee_92_20N, ee_92_21, ee_92_22, ee_92_23, ee_92_24, ee_92_27, ee_92_30, ee_92_30N, ee_92_31, ee_92_33, ee_92_35, ee_92_38, ee_92_41, ee_92_42, ee_92_42T, ee_92_43, ee_92_44, ee_92_46, ee_92_47, ee_92_51, ee_92_53, ee_92_56, ee_92_58, ee_92_61, ee_92_61N, ee_92_62, ee_92_65, ee_92_66, ee_92_66N, ee_92_67, ee_92_69, ee_92_71, ee_92_74, ee_92_75, ee_92_76, ee_92_76N, ee_92_77, ee_92_78, ee_92_79, ee_92_81, ee_92_84, ee_92_87, ee_92_88, ee_92_91, ee_92_92, ee_92_94, ee_92_97, ee_92_100, ee_92_102, ee_92_102T, M.F, KK, n1, e85, nI_add, r1, e72, hz, nI_1, Option.bind_some, Option.toList, List.cons_append, List.nil_append, List.append_nil, if_true, if_false, Bool.false_eq_true, eq_self, not_true_eq_false, not_false_eq_true]
          · rw [decide_eq_false hz, Bool.and_false, bI_f]
            simp only [ee_92_0, ee_92_0N, ee_92_1, ee_92_2, ee_92_3, ee_92_6, ee_92_8, ee_92_8N, ee_92_9, ee_92_12, ee_92_13, ee_92_15, ee_92_17, ee_92_18, ee_92_19, ee_92_20, ee_92_20N, ee_92_21, ee_92_22, ee_92_23, ee_92_24, ee_92_27, ee_92_30, ee_92_30N, ee_92_31, ee_92_33, ee_92_35, ee_92_38, ee_92_41, ee_92_42, ee_92_42T, ee_92_43, ee_92_44, ee_92_46, ee_92_47, ee_92_51, ee_92_53, ee_92_56, ee_92_58, ee_92_61, ee_92_61N, ee_92_62, ee_92_65, ee_92_66, ee_92_66N, ee_92_67, ee_92_69, ee_92_71, ee_92_74, ee_92_75, ee_92_76, ee_92_76N, ee_92_77, ee_92_78, ee_92_79, ee_92_81, ee_92_84, ee_92_87, ee_92_88, ee_92_91, ee_92_92, ee_92_94, ee_92_97, ee_92_100, ee_92_102, ee_92_102T, M.F, KK, n1, e85, nI_add, r1, e72, hz, nI_1, Option.bind_some, Option.toList, List.cons_append, List.nil_append, List.append_nil, if_true, if_false, Bool.false_eq_true, eq_self, not_true_eq_false, not_false_eq_true]
        · have hb' : shB s cs w p 0 (1 + i) = false := by simpa using hb
          rw [hb', Bool.false_and, bI_f]
          simp only [ee_92_0, ee_92_0N, ee_92_1, ee_92_2, ee_92_3, ee_92_6, ee_92_8, ee_92_8N, ee_92_9, ee_92_12, ee_92_13, ee_92_15, ee_92_17, ee_92_18, ee_92_19, ee_92_20, ee_92_20N, ee_92_21, ee_92_22, ee_92_23, ee_92_24, ee_92_27, ee_92_30, ee_92_30N, ee_92_31, ee_92_33, ee_92_35, ee_92_38, ee_92_41, ee_92_42, ee_92_42T, ee_92_43, ee_92_44, ee_92_46, ee_92_47, ee_92_51, ee_92_53, ee_92_56, ee_92_58, ee_92_61, ee_92_61N, ee_92_62, ee_92_65, ee_92_66, ee_92_66N, ee_92_67, ee_92_69, ee_92_71, ee_92_74, ee_92_75, ee_92_76, ee_92_76N, ee_92_77, ee_92_78, ee_92_79, ee_92_81, ee_92_84, ee_92_87, ee_92_88, ee_92_91, ee_92_92, ee_92_94, ee_92_97, ee_92_100, ee_92_102, ee_92_102T, M.F, KK, n1, nI_1, Option.bind_some, Option.toList, List.cons_append, List.nil_append, List.append_nil, if_true, if_false, Bool.false_eq_true, eq_self, not_true_eq_false, not_false_eq_true]
      have b1 : shB s cs w p 0 (1 + 0) = true := by
        rw [show 1 + 0 = 0 + 1 from rfl, shB_s, c0, decide_eq_true h1]; rfl
      rw [b1, bI_t, show 1 + (w.length - 1) = w.length by omega] at lp
      have lp' : go (d + 4) 92 49 [.ref 96, .int (nI fr), .int (nI kd), .int (nI j), .int (nI p), .int (nI w.length), .int 1, .int 1] [] h = go (d + 4) 92 49 [.ref 96, .int (nI fr), .int (nI kd), .int (nI j), .int (nI p), .int (nI w.length), .int (bI (shB s cs w p 0 w.length)), .int (nI w.length)] [] h := lp
      have nn : nI w.length ≤ nI w.length := Int32.le_refl _
      simp only [ee_92_0, ee_92_0N, ee_92_1, ee_92_2, ee_92_3, ee_92_6, ee_92_8, ee_92_8N, ee_92_9, ee_92_12, ee_92_13, ee_92_15, ee_92_17, ee_92_18, ee_92_19, ee_92_20, ee_92_20N, ee_92_21, ee_92_22, ee_92_23, ee_92_24, ee_92_27, ee_92_30, ee_92_30N, ee_92_31, ee_92_33, ee_92_35, ee_92_38, ee_92_41, ee_92_42, ee_92_42T, ee_92_43, ee_92_44, ee_92_46, ee_92_47, ee_92_51, ee_92_53, ee_92_56, ee_92_58, ee_92_61, ee_92_61N, ee_92_62, ee_92_65, ee_92_66, ee_92_66N, ee_92_67, ee_92_69, ee_92_71, ee_92_74, ee_92_75, ee_92_76, ee_92_76N, ee_92_77, ee_92_78, ee_92_79, ee_92_81, ee_92_84, ee_92_87, ee_92_88, ee_92_91, ee_92_92, ee_92_94, ee_92_97, ee_92_100, ee_92_102, ee_92_102T, M.F, KK, n8, x8, nI_add, e71, e72, r0, h1, e86, Option.bind_some, Option.toList, List.cons_append, List.nil_append, List.append_nil, if_true, if_false, Bool.false_eq_true, eq_self, not_true_eq_false, not_false_eq_true]
      rw [lp', ee_92_49]
      unfold sh
      rw [decide_eq_true h2, Bool.true_and]
      by_cases hb : shB s cs w p 0 w.length = true
      · rw [hb, bI_t]
        simp only [ee_92_0, ee_92_0N, ee_92_1, ee_92_2, ee_92_3, ee_92_6, ee_92_8, ee_92_8N, ee_92_9, ee_92_12, ee_92_13, ee_92_15, ee_92_17, ee_92_18, ee_92_19, ee_92_20, ee_92_20N, ee_92_21, ee_92_22, ee_92_23, ee_92_24, ee_92_27, ee_92_30, ee_92_30N, ee_92_31, ee_92_33, ee_92_35, ee_92_38, ee_92_41, ee_92_42, ee_92_42T, ee_92_43, ee_92_44, ee_92_46, ee_92_47, ee_92_51, ee_92_53, ee_92_56, ee_92_58, ee_92_61, ee_92_61N, ee_92_62, ee_92_65, ee_92_66, ee_92_66N, ee_92_67, ee_92_69, ee_92_71, ee_92_74, ee_92_75, ee_92_76, ee_92_76N, ee_92_77, ee_92_78, ee_92_79, ee_92_81, ee_92_84, ee_92_87, ee_92_88, ee_92_91, ee_92_92, ee_92_94, ee_92_97, ee_92_100, ee_92_102, ee_92_102T, nn, Option.bind_some, Option.toList, List.cons_append, List.nil_append, List.append_nil, if_true, if_false, Bool.false_eq_true, eq_self, not_true_eq_false, not_false_eq_true]
      · have hb' : shB s cs w p 0 w.length = false := by simpa using hb
        rw [hb', bI_f]
        simp only [ee_92_0, ee_92_0N, ee_92_1, ee_92_2, ee_92_3, ee_92_6, ee_92_8, ee_92_8N, ee_92_9, ee_92_12, ee_92_13, ee_92_15, ee_92_17, ee_92_18, ee_92_19, ee_92_20, ee_92_20N, ee_92_21, ee_92_22, ee_92_23, ee_92_24, ee_92_27, ee_92_30, ee_92_30N, ee_92_31, ee_92_33, ee_92_35, ee_92_38, ee_92_41, ee_92_42, ee_92_42T, ee_92_43, ee_92_44, ee_92_46, ee_92_47, ee_92_51, ee_92_53, ee_92_56, ee_92_58, ee_92_61, ee_92_61N, ee_92_62, ee_92_65, ee_92_66, ee_92_66N, ee_92_67, ee_92_69, ee_92_71, ee_92_74, ee_92_75, ee_92_76, ee_92_76N, ee_92_77, ee_92_78, ee_92_79, ee_92_81, ee_92_84, ee_92_87, ee_92_88, ee_92_91, ee_92_92, ee_92_94, ee_92_97, ee_92_100, ee_92_102, ee_92_102T, nn, Option.bind_some, Option.toList, List.cons_append, List.nil_append, List.append_nil, if_true, if_false, Bool.false_eq_true, eq_self, not_true_eq_false, not_false_eq_true]
    · rw [decide_eq_false h2, bI_f] at e86
      unfold sh
      rw [decide_eq_false h2, Bool.false_and, bI_f]
      simp only [ee_92_0, ee_92_0N, ee_92_1, ee_92_2, ee_92_3, ee_92_6, ee_92_8, ee_92_8N, ee_92_9, ee_92_12, ee_92_13, ee_92_15, ee_92_17, ee_92_18, ee_92_19, ee_92_20, ee_92_20N, ee_92_21, ee_92_22, ee_92_23, ee_92_24, ee_92_27, ee_92_30, ee_92_30N, ee_92_31, ee_92_33, ee_92_35, ee_92_38, ee_92_41, ee_92_42, ee_92_42T, ee_92_43, ee_92_44, ee_92_46, ee_92_47, ee_92_51, ee_92_53, ee_92_56, ee_92_58, ee_92_61, ee_92_61N, ee_92_62, ee_92_65, ee_92_66, ee_92_66N, ee_92_67, ee_92_69, ee_92_71, ee_92_74, ee_92_75, ee_92_76, ee_92_76N, ee_92_77, ee_92_78, ee_92_79, ee_92_81, ee_92_84, ee_92_87, ee_92_88, ee_92_91, ee_92_92, ee_92_94, ee_92_97, ee_92_100, ee_92_102, ee_92_102T, M.F, KK, n8, x8, nI_add, e71, e72, r0, h1, e86, Option.bind_some, Option.toList, List.cons_append, List.nil_append, List.append_nil, if_true, if_false, Bool.false_eq_true, eq_self, not_true_eq_false, not_false_eq_true]
  · rw [sh_first hs hp (by omega) h1, bI_f]
    simp only [ee_92_0, ee_92_0N, ee_92_1, ee_92_2, ee_92_3, ee_92_6, ee_92_8, ee_92_8N, ee_92_9, ee_92_12, ee_92_13, ee_92_15, ee_92_17, ee_92_18, ee_92_19, ee_92_20, ee_92_20N, ee_92_21, ee_92_22, ee_92_23, ee_92_24, ee_92_27, ee_92_30, ee_92_30N, ee_92_31, ee_92_33, ee_92_35, ee_92_38, ee_92_41, ee_92_42, ee_92_42T, ee_92_43, ee_92_44, ee_92_46, ee_92_47, ee_92_51, ee_92_53, ee_92_56, ee_92_58, ee_92_61, ee_92_61N, ee_92_62, ee_92_65, ee_92_66, ee_92_66N, ee_92_67, ee_92_69, ee_92_71, ee_92_74, ee_92_75, ee_92_76, ee_92_76N, ee_92_77, ee_92_78, ee_92_79, ee_92_81, ee_92_84, ee_92_87, ee_92_88, ee_92_91, ee_92_92, ee_92_94, ee_92_97, ee_92_100, ee_92_102, ee_92_102T, M.F, KK, n8, x8, nI_add, e71, e72, r0, h1, Option.bind_some, Option.toList, List.cons_append, List.nil_append, List.append_nil, if_true, if_false, Bool.false_eq_true, eq_self, not_true_eq_false, not_false_eq_true]
/-- timesIn -/
theorem o93 {s fr kd j : Nat} {cs w : List Int32} (hs : sideOk s) (hf : fr + 16 ≤ 80) (hsq : ∀ c, c < s * s → SQ.getD (fr + c) 0 = cs.getD c 0) (W : WordAt S kd j w) (M : ML h S I PD SQ CV FP a b n l m k t f) (e0 : S.getD 0 0 = nI s) : go (d + 5) 93 0 [.ref 96, .int (nI fr), .int (nI kd), .int (nI j), aU, aU] [] h = some (some (.int (nI (cnt (sh s cs w) (8 * s * s)))), h) := by
  have hq := (sq_lt hs).2
  have e66 := o66 (d := d + 4) M e0
  have e8 : (8 : Int32) * nI (s * s) = nI (8 * s * s) := by rw [show (8 : Int32) = nI 8 by decide, pk_mul, Nat.mul_assoc]
  have lp : go (d + 5) 93 6 [.ref 96, .int (nI fr), .int (nI kd), .int (nI j), .int (nI (cnt (sh s cs w) 0)), .int (nI 0)] [] h = go (d + 5) 93 6 [.ref 96, .int (nI fr), .int (nI kd), .int (nI j), .int (nI (cnt (sh s cs w) (8 * s * s))), .int (nI (8 * s * s))] [] h := by
    refine go_loop (fun i => [.ref 96, .int (nI fr), .int (nI kd), .int (nI j), .int (nI (cnt (sh s cs w) i)), .int (nI i)]) (fun _ => h) (8 * s * s) ?_
    intro i hi
    have n1 : ¬ nI (8 * s * s) ≤ nI i := nI_nle2 (by omega) (by omega) hi
    have e92 := o92 (d := d) hs hf hsq W M e0 hi
    rw [ee_93_6]
    by_cases hz : sh s cs w i = true
    · rw [hz, bI_t] at e92
      simp only [ee_93_0, ee_93_1, ee_93_3, ee_93_4, ee_93_8, ee_93_10, ee_93_10N, ee_93_11, ee_93_14, ee_93_15, ee_93_18, ee_93_20, ee_93_20N, ee_93_21, ee_93_22, ee_93_23, ee_93_24, ee_93_26, ee_93_29, ee_93_32, ee_93_33, ee_93_36, ee_93_37, ee_93_38, ee_93_40, ee_93_43, ee_93_46, ee_93_48, M.F, KK, e66, e8, n1, e92, cnt, hz, nI_1, Option.bind_some, Option.toList, List.cons_append, List.nil_append, List.append_nil, if_true, if_false, Bool.false_eq_true, eq_self, not_true_eq_false, not_false_eq_true]
    · have hz' : sh s cs w i = false := by simpa using hz
      rw [hz', bI_f] at e92
      simp only [ee_93_0, ee_93_1, ee_93_3, ee_93_4, ee_93_8, ee_93_10, ee_93_10N, ee_93_11, ee_93_14, ee_93_15, ee_93_18, ee_93_20, ee_93_20N, ee_93_21, ee_93_22, ee_93_23, ee_93_24, ee_93_26, ee_93_29, ee_93_32, ee_93_33, ee_93_36, ee_93_37, ee_93_38, ee_93_40, ee_93_43, ee_93_46, ee_93_48, M.F, KK, e66, e8, n1, e92, cnt, hz', nI_1, Int32.add_zero, Nat.add_zero, Option.bind_some, Option.toList, List.cons_append, List.nil_append, List.append_nil, if_true, if_false, Bool.false_eq_true, eq_self, not_true_eq_false, not_false_eq_true]
  rw [show cnt (sh s cs w) 0 = 0 from rfl, nI_0] at lp
  have nn : nI (8 * s * s) ≤ nI (8 * s * s) := Int32.le_refl _
  simp only [ee_93_0, ee_93_1, ee_93_3, ee_93_4, ee_93_8, ee_93_10, ee_93_10N, ee_93_11, ee_93_14, ee_93_15, ee_93_18, ee_93_20, ee_93_20N, ee_93_21, ee_93_22, ee_93_23, ee_93_24, ee_93_26, ee_93_29, ee_93_32, ee_93_33, ee_93_36, ee_93_37, ee_93_38, ee_93_40, ee_93_43, ee_93_46, ee_93_48, lp, Option.bind_some, Option.toList, List.cons_append, List.nil_append, List.append_nil, if_true, if_false, Bool.false_eq_true, eq_self, not_true_eq_false, not_false_eq_true]
  rw [ee_93_6]
  simp only [ee_93_0, ee_93_1, ee_93_3, ee_93_4, ee_93_8, ee_93_10, ee_93_10N, ee_93_11, ee_93_14, ee_93_15, ee_93_18, ee_93_20, ee_93_20N, ee_93_21, ee_93_22, ee_93_23, ee_93_24, ee_93_26, ee_93_29, ee_93_32, ee_93_33, ee_93_36, ee_93_37, ee_93_38, ee_93_40, ee_93_43, ee_93_46, ee_93_48, M.F, e66, e8, nn, Option.bind_some, Option.toList, List.cons_append, List.nil_append, List.append_nil, if_true, if_false, Bool.false_eq_true, eq_self, not_true_eq_false, not_false_eq_true]
/-- stands -/
theorem o94_l {s kd j : Nat} {i : Int32} {cs w : List Int32} (hs : sideOk s) (hsq : ∀ c, c < s * s → SQ.getD (0 + c) 0 = cs.getD c 0) (W : WordAt S kd j w) (M : ML h S I PD SQ CV FP a b n l m k t f) (e0 : S.getD 0 0 = nI s) : ∀ n X seen, X + n = 8 * s * s → seen + n < 2 ^ 31 → go (d + 5) 94 38 [.ref 96, .int (nI kd), .int (nI j), .int i, .int (nI seen), .int (nI X)] [] h = some (some (.int (scanV i (scan s cs w i (List.range' X n) seen))), h)
  | 0, X, seen, hX, hb => by
    have e66 := o66 (d := d + 4) M e0
    have e8 : (8 : Int32) * nI (s * s) = nI (8 * s * s) := by rw [show (8 : Int32) = nI 8 by decide, pk_mul, Nat.mul_assoc]
    have nn : nI (8 * s * s) ≤ nI X := by rw [← hX]; exact Int32.le_refl _
    rw [ee_94_38]
    by_cases hi : i = -1
    · simp only [ee_94_0, ee_94_1, ee_94_2, ee_94_3, ee_94_6, ee_94_9, ee_94_10, ee_94_11, ee_94_14, ee_94_16, ee_94_17, ee_94_17N, ee_94_18, ee_94_19, ee_94_20, ee_94_23, ee_94_26, ee_94_27, ee_94_28, ee_94_28N, ee_94_29, ee_94_32, ee_94_33, ee_94_35, ee_94_36, ee_94_40, ee_94_42, ee_94_42N, ee_94_43, ee_94_46, ee_94_47, ee_94_50, ee_94_50N, ee_94_51, ee_94_52, ee_94_53, ee_94_54, ee_94_56, ee_94_59, ee_94_62, ee_94_64, ee_94_65, ee_94_68, ee_94_70, ee_94_71, ee_94_74, ee_94_77, ee_94_80, ee_94_81, ee_94_82, ee_94_85, ee_94_87, ee_94_90, ee_94_92, M.F, e66, e8, nn, hi, List.range'_zero, scan, scanV, Option.bind_some, Option.toList, List.cons_append, List.nil_append, List.append_nil, if_true, if_false, Bool.false_eq_true, eq_self, not_true_eq_false, not_false_eq_true]
    · simp only [ee_94_0, ee_94_1, ee_94_2, ee_94_3, ee_94_6, ee_94_9, ee_94_10, ee_94_11, ee_94_14, ee_94_16, ee_94_17, ee_94_17N, ee_94_18, ee_94_19, ee_94_20, ee_94_23, ee_94_26, ee_94_27, ee_94_28, ee_94_28N, ee_94_29, ee_94_32, ee_94_33, ee_94_35, ee_94_36, ee_94_40, ee_94_42, ee_94_42N, ee_94_43, ee_94_46, ee_94_47, ee_94_50, ee_94_50N, ee_94_51, ee_94_52, ee_94_53, ee_94_54, ee_94_56, ee_94_59, ee_94_62, ee_94_64, ee_94_65, ee_94_68, ee_94_70, ee_94_71, ee_94_74, ee_94_77, ee_94_80, ee_94_81, ee_94_82, ee_94_85, ee_94_87, ee_94_90, ee_94_92, M.F, e66, e8, nn, hi, List.range'_zero, scan, scanV, Option.bind_some, Option.toList, List.cons_append, List.nil_append, List.append_nil, if_true, if_false, Bool.false_eq_true, eq_self, not_true_eq_false, not_false_eq_true]
  | n + 1, X, seen, hX, hb => by
    have hq := (sq_lt hs).2
    have e66 := o66 (d := d + 4) M e0
    have e8 : (8 : Int32) * nI (s * s) = nI (8 * s * s) := by rw [show (8 : Int32) = nI 8 by decide, pk_mul, Nat.mul_assoc]
    have n1 : ¬ nI (8 * s * s) ≤ nI X := nI_nle2 (by omega) (by omega) (by omega)
    have e92 := o92 (d := d) (fr := 0) hs (by decide) hsq W M e0 (show X < 8 * s * s by omega)
    rw [nI_0] at e92
    rw [ee_94_38, List.range'_succ, scan]
    by_cases hz : sh s cs w X = true
    · rw [hz, bI_t] at e92
      by_cases hi : nI seen = i
      · rw [if_pos hz, if_pos hi, scanV]
        simp only [ee_94_0, ee_94_1, ee_94_2, ee_94_3, ee_94_6, ee_94_9, ee_94_10, ee_94_11, ee_94_14, ee_94_16, ee_94_17, ee_94_17N, ee_94_18, ee_94_19, ee_94_20, ee_94_23, ee_94_26, ee_94_27, ee_94_28, ee_94_28N, ee_94_29, ee_94_32, ee_94_33, ee_94_35, ee_94_36, ee_94_40, ee_94_42, ee_94_42N, ee_94_43, ee_94_46, ee_94_47, ee_94_50, ee_94_50N, ee_94_51, ee_94_52, ee_94_53, ee_94_54, ee_94_56, ee_94_59, ee_94_62, ee_94_64, ee_94_65, ee_94_68, ee_94_70, ee_94_71, ee_94_74, ee_94_77, ee_94_80, ee_94_81, ee_94_82, ee_94_85, ee_94_87, ee_94_90, ee_94_92, M.F, KK, e66, e8, n1, e92, hi, Option.bind_some, Option.toList, List.cons_append, List.nil_append, List.append_nil, if_true, if_false, Bool.false_eq_true, eq_self, not_true_eq_false, not_false_eq_true]
      · have e := o94_l (i := i) hs hsq W M e0 n (X + 1) (seen + 1) (by omega) (by omega)
        rw [if_pos hz, if_neg hi]
        simp only [ee_94_0, ee_94_1, ee_94_2, ee_94_3, ee_94_6, ee_94_9, ee_94_10, ee_94_11, ee_94_14, ee_94_16, ee_94_17, ee_94_17N, ee_94_18, ee_94_19, ee_94_20, ee_94_23, ee_94_26, ee_94_27, ee_94_28, ee_94_28N, ee_94_29, ee_94_32, ee_94_33, ee_94_35, ee_94_36, ee_94_40, ee_94_42, ee_94_42N, ee_94_43, ee_94_46, ee_94_47, ee_94_50, ee_94_50N, ee_94_51, ee_94_52, ee_94_53, ee_94_54, ee_94_56, ee_94_59, ee_94_62, ee_94_64, ee_94_65, ee_94_68, ee_94_70, ee_94_71, ee_94_74, ee_94_77, ee_94_80, ee_94_81, ee_94_82, ee_94_85, ee_94_87, ee_94_90, ee_94_92, M.F, KK, e66, e8, n1, e92, hi, nI_1, e, Option.bind_some, Option.toList, List.cons_append, List.nil_append, List.append_nil, if_true, if_false, Bool.false_eq_true, eq_self, not_true_eq_false, not_false_eq_true]
    · have hz' : sh s cs w X = false := by simpa using hz
      rw [hz', bI_f] at e92
      have e := o94_l (i := i) hs hsq W M e0 n (X + 1) seen (by omega) (by omega)
      rw [if_neg hz]
      simp only [ee_94_0, ee_94_1, ee_94_2, ee_94_3, ee_94_6, ee_94_9, ee_94_10, ee_94_11, ee_94_14, ee_94_16, ee_94_17, ee_94_17N, ee_94_18, ee_94_19, ee_94_20, ee_94_23, ee_94_26, ee_94_27, ee_94_28, ee_94_28N, ee_94_29, ee_94_32, ee_94_33, ee_94_35, ee_94_36, ee_94_40, ee_94_42, ee_94_42N, ee_94_43, ee_94_46, ee_94_47, ee_94_50, ee_94_50N, ee_94_51, ee_94_52, ee_94_53, ee_94_54, ee_94_56, ee_94_59, ee_94_62, ee_94_64, ee_94_65, ee_94_68, ee_94_70, ee_94_71, ee_94_74, ee_94_77, ee_94_80, ee_94_81, ee_94_82, ee_94_85, ee_94_87, ee_94_90, ee_94_92, M.F, KK, e66, e8, n1, e92, nI_1, e, Option.bind_some, Option.toList, List.cons_append, List.nil_append, List.append_nil, if_true, if_false, Bool.false_eq_true, eq_self, not_true_eq_false, not_false_eq_true]
theorem o_stands {x y i : Int32} (G : GW g) (M : MI h g P i0 i1 a b) : ∃ h', go (d + 12) 94 0 [.ref 96, .int x, .int y, .int i, aU, aU] [] h = some (some (.int (q_stands g x y i)), h') ∧ MI h' g P i0 i1 a b ∧ Off h h' 96 104 := by
  obtain ⟨S, I, PD, SQ, CV, FP, l, m, k, t, f, M0, E, r⟩ := id M
  have hs := G.1.1
  have hq := sq_lt hs
  have e65 := o65 (d := d + 11) (h := h) (v := x) (x := 0) (y := 1)
  obtain ⟨h1, e87, M1, O1⟩ := o87 (d := d + 11) M0
  have hl := M0.2.2.2.2.2.1.2
  have hsq : ∀ c, c < g.1 * g.1 → (updR SQ 0 (fun c => S.getD (1 + c) 0) 16).getD (0 + c) 0 = g.2.1.getD c 0 := by
    intro c hc
    rw [updR_at _ _ _ _ _ (by omega), if_pos (by omega), Nat.zero_add, Nat.sub_zero, E.s.2.1 c (by omega)]
  unfold q_stands
  by_cases hi : -1 ≤ i
  · have word : ∀ (kd : Nat) (ws : List (List Int32)), kd < 2 → ws.length ≤ 3 → x = nI kd → S.getD (27 + kd) 0 = nI ws.length → (∀ j, j < ws.length → WordAt S kd j (ws.getD j [])) → ∃ h', go (d + 12) 94 17 [.ref 96, .int x, .int y, .int i, aU, aU] [] h = some (some (.int (q_sn g (fnd ws y) i)), h') ∧ MI h' g P i0 i1 a b ∧ Off h h' 96 104 := by
      intro kd ws hkd hws hx c0 c1
      subst hx
      have e70 := o70 (d := d + 10) (x := y) M0 hkd (by omega) c0
      unfold fnd
      rcases pk_ix y (n := ws.length) (by omega) with hc | hc | ⟨j, hj, rfl⟩
      · refine ⟨h, ?_, M, Off.rf⟩
        simp only [hc, true_or, if_true] at e70 ⊢
        simp only [ee_94_0, ee_94_1, ee_94_2, ee_94_3, ee_94_6, ee_94_9, ee_94_10, ee_94_11, ee_94_14, ee_94_16, ee_94_17, ee_94_17N, ee_94_18, ee_94_19, ee_94_20, ee_94_23, ee_94_26, ee_94_27, ee_94_28, ee_94_28N, ee_94_29, ee_94_32, ee_94_33, ee_94_35, ee_94_36, ee_94_40, ee_94_42, ee_94_42N, ee_94_43, ee_94_46, ee_94_47, ee_94_50, ee_94_50N, ee_94_51, ee_94_52, ee_94_53, ee_94_54, ee_94_56, ee_94_59, ee_94_62, ee_94_64, ee_94_65, ee_94_68, ee_94_70, ee_94_71, ee_94_74, ee_94_77, ee_94_80, ee_94_81, ee_94_82, ee_94_85, ee_94_87, ee_94_90, ee_94_92, M0.F, e70, q_sn, Option.bind_some, Option.toList, List.cons_append, List.nil_append, List.append_nil, if_true, if_false, Bool.false_eq_true, eq_self, not_true_eq_false, not_false_eq_true]
      · refine ⟨h, ?_, M, Off.rf⟩
        simp only [hc, or_true, if_true] at e70 ⊢
        simp only [ee_94_0, ee_94_1, ee_94_2, ee_94_3, ee_94_6, ee_94_9, ee_94_10, ee_94_11, ee_94_14, ee_94_16, ee_94_17, ee_94_17N, ee_94_18, ee_94_19, ee_94_20, ee_94_23, ee_94_26, ee_94_27, ee_94_28, ee_94_28N, ee_94_29, ee_94_32, ee_94_33, ee_94_35, ee_94_36, ee_94_40, ee_94_42, ee_94_42N, ee_94_43, ee_94_46, ee_94_47, ee_94_50, ee_94_50N, ee_94_51, ee_94_52, ee_94_53, ee_94_54, ee_94_56, ee_94_59, ee_94_62, ee_94_64, ee_94_65, ee_94_68, ee_94_70, ee_94_71, ee_94_74, ee_94_77, ee_94_80, ee_94_81, ee_94_82, ee_94_85, ee_94_87, ee_94_90, ee_94_92, M0.F, e70, q_sn, Option.bind_some, Option.toList, List.cons_append, List.nil_append, List.append_nil, if_true, if_false, Bool.false_eq_true, eq_self, not_true_eq_false, not_false_eq_true]
      · have n1 : ¬ nI j < 0 := nI_pos (by omega)
        have n2 : ¬ nI ws.length ≤ nI j := nI_nle2 (by omega) (by omega) hj
        simp only [n1, n2, or_self, if_false] at e70 ⊢
        refine ⟨h1, ?_, ⟨_, I, PD, _, _, FP, l, m, k, t, f, M1, E, r⟩, O1⟩
        rw [nI_clamp (show j < 2 ^ 31 by omega)]
        have e := o94_l (d := d + 7) (i := i) hs hsq (c1 j hj) M1 E.s.1 (8 * g.1 * g.1) 0 0 (by omega) (by omega)
        rw [nI_0] at e
        rw [show 8 * g.1 * g.1 = 8 * (g.1 * g.1) from Nat.mul_assoc 8 g.1 g.1] at e
        simp only [ee_94_0, ee_94_1, ee_94_2, ee_94_3, ee_94_6, ee_94_9, ee_94_10, ee_94_11, ee_94_14, ee_94_16, ee_94_17, ee_94_17N, ee_94_18, ee_94_19, ee_94_20, ee_94_23, ee_94_26, ee_94_27, ee_94_28, ee_94_28N, ee_94_29, ee_94_32, ee_94_33, ee_94_35, ee_94_36, ee_94_40, ee_94_42, ee_94_42N, ee_94_43, ee_94_46, ee_94_47, ee_94_50, ee_94_50N, ee_94_51, ee_94_52, ee_94_53, ee_94_54, ee_94_56, ee_94_59, ee_94_62, ee_94_64, ee_94_65, ee_94_68, ee_94_70, ee_94_71, ee_94_74, ee_94_77, ee_94_80, ee_94_81, ee_94_82, ee_94_85, ee_94_87, ee_94_90, ee_94_92, M0.F, KK, e70, e87, e, q_sn, standN, Option.bind_some, Option.toList, List.cons_append, List.nil_append, List.append_nil, if_true, if_false, Bool.false_eq_true, eq_self, not_true_eq_false, not_false_eq_true]
    rcases in01 x with ⟨hx, hy⟩ | ⟨⟨z0, z1⟩, hy⟩
    · rw [if_neg hy] at e65
      rcases hx with rfl | rfl
      · obtain ⟨h', e, r1, r2⟩ := word 0 g.2.2.1 (by decide) G.2.2.1 rfl E.s.2.2.2.1.1 (fun j hj => E.w0 G hj)
        refine ⟨h', ?_, r1, r2⟩
        simp only [eq_self, true_or, hi, and_self, if_true]
        simp only [ee_94_0, ee_94_1, ee_94_2, ee_94_3, ee_94_6, ee_94_9, ee_94_10, ee_94_11, ee_94_14, ee_94_16, ee_94_18, ee_94_19, ee_94_20, ee_94_23, ee_94_26, ee_94_27, ee_94_28, ee_94_28N, ee_94_29, ee_94_32, ee_94_33, ee_94_35, ee_94_36, ee_94_40, ee_94_42, ee_94_42N, ee_94_43, ee_94_46, ee_94_47, ee_94_50, ee_94_50N, ee_94_51, ee_94_52, ee_94_53, ee_94_54, ee_94_56, ee_94_59, ee_94_62, ee_94_64, ee_94_65, ee_94_68, ee_94_70, ee_94_71, ee_94_74, ee_94_77, ee_94_80, ee_94_81, ee_94_82, ee_94_85, ee_94_87, ee_94_90, ee_94_92, KK, e65, hi, e, Option.bind_some, Option.toList, List.cons_append, List.nil_append, List.append_nil, if_true, if_false, Bool.false_eq_true, eq_self, not_true_eq_false, not_false_eq_true]
      · obtain ⟨h', e, r1, r2⟩ := word 1 g.2.2.2.1 (by decide) G.2.2.2 rfl E.s.2.2.2.1.2 (fun j hj => E.w1 G hj)
        refine ⟨h', ?_, r1, r2⟩
        simp only [KK, eq_self, or_true, hi, and_self, if_true, if_false]
        simp only [ee_94_0, ee_94_1, ee_94_2, ee_94_3, ee_94_6, ee_94_9, ee_94_10, ee_94_11, ee_94_14, ee_94_16, ee_94_18, ee_94_19, ee_94_20, ee_94_23, ee_94_26, ee_94_27, ee_94_28, ee_94_28N, ee_94_29, ee_94_32, ee_94_33, ee_94_35, ee_94_36, ee_94_40, ee_94_42, ee_94_42N, ee_94_43, ee_94_46, ee_94_47, ee_94_50, ee_94_50N, ee_94_51, ee_94_52, ee_94_53, ee_94_54, ee_94_56, ee_94_59, ee_94_62, ee_94_64, ee_94_65, ee_94_68, ee_94_70, ee_94_71, ee_94_74, ee_94_77, ee_94_80, ee_94_81, ee_94_82, ee_94_85, ee_94_87, ee_94_90, ee_94_92, KK, e65, hi, e, Option.bind_some, Option.toList, List.cons_append, List.nil_append, List.append_nil, if_true, if_false, Bool.false_eq_true, eq_self, not_true_eq_false, not_false_eq_true]
    · rw [if_pos hy] at e65
      refine ⟨h, ?_, M, Off.rf⟩
      simp only [ee_94_0, ee_94_1, ee_94_2, ee_94_3, ee_94_6, ee_94_9, ee_94_10, ee_94_11, ee_94_14, ee_94_16, ee_94_18, ee_94_19, ee_94_20, ee_94_23, ee_94_26, ee_94_27, ee_94_28, ee_94_28N, ee_94_29, ee_94_32, ee_94_33, ee_94_35, ee_94_36, ee_94_40, ee_94_42, ee_94_42N, ee_94_43, ee_94_46, ee_94_47, ee_94_50, ee_94_50N, ee_94_51, ee_94_52, ee_94_53, ee_94_54, ee_94_56, ee_94_59, ee_94_62, ee_94_64, ee_94_65, ee_94_68, ee_94_70, ee_94_71, ee_94_74, ee_94_77, ee_94_80, ee_94_81, ee_94_82, ee_94_85, ee_94_87, ee_94_90, ee_94_92, KK, e65, z0, z1, or_self, false_and, Option.bind_some, Option.toList, List.cons_append, List.nil_append, List.append_nil, if_true, if_false, Bool.false_eq_true, eq_self, not_true_eq_false, not_false_eq_true]
  · refine ⟨h, ?_, M, Off.rf⟩
    by_cases hx : x < 0 ∨ 1 < x
    · rw [if_pos hx] at e65
      simp only [ee_94_0, ee_94_1, ee_94_2, ee_94_3, ee_94_6, ee_94_9, ee_94_10, ee_94_11, ee_94_14, ee_94_16, ee_94_18, ee_94_19, ee_94_20, ee_94_23, ee_94_26, ee_94_27, ee_94_28, ee_94_28N, ee_94_29, ee_94_32, ee_94_33, ee_94_35, ee_94_36, ee_94_40, ee_94_42, ee_94_42N, ee_94_43, ee_94_46, ee_94_47, ee_94_50, ee_94_50N, ee_94_51, ee_94_52, ee_94_53, ee_94_54, ee_94_56, ee_94_59, ee_94_62, ee_94_64, ee_94_65, ee_94_68, ee_94_70, ee_94_71, ee_94_74, ee_94_77, ee_94_80, ee_94_81, ee_94_82, ee_94_85, ee_94_87, ee_94_90, ee_94_92, KK, e65, hi, and_false, Option.bind_some, Option.toList, List.cons_append, List.nil_append, List.append_nil, if_true, if_false, Bool.false_eq_true, eq_self, not_true_eq_false, not_false_eq_true]
    · rw [if_neg hx] at e65
      simp only [ee_94_0, ee_94_1, ee_94_2, ee_94_3, ee_94_6, ee_94_9, ee_94_10, ee_94_11, ee_94_14, ee_94_16, ee_94_18, ee_94_19, ee_94_20, ee_94_23, ee_94_26, ee_94_27, ee_94_28, ee_94_28N, ee_94_29, ee_94_32, ee_94_33, ee_94_35, ee_94_36, ee_94_40, ee_94_42, ee_94_42N, ee_94_43, ee_94_46, ee_94_47, ee_94_50, ee_94_50N, ee_94_51, ee_94_52, ee_94_53, ee_94_54, ee_94_56, ee_94_59, ee_94_62, ee_94_64, ee_94_65, ee_94_68, ee_94_70, ee_94_71, ee_94_74, ee_94_77, ee_94_80, ee_94_81, ee_94_82, ee_94_85, ee_94_87, ee_94_90, ee_94_92, KK, e65, hi, and_false, Option.bind_some, Option.toList, List.cons_append, List.nil_append, List.append_nil, if_true, if_false, Bool.false_eq_true, eq_self, not_true_eq_false, not_false_eq_true]
/-- canPut -/
theorem o95_l {s j p : Nat} {cs w : List Int32} (hs : sideOk s) (hcs : ∀ c, c < 16 → S.getD (1 + c) 0 = cs.getD c 0) (W : WordAt S 0 j w) (M : ML h S I PD SQ CV FP a b n l m k t f) (e0 : S.getD 0 0 = nI s) (hp : p < 8 * s * s) (hr : w.length ≤ rN s p) : ∀ n i (l5 : Value), i + n = w.length → go (d + 4) 95 15 [.ref 96, .int (nI j), .int (nI p), .int 1, .int (nI i), l5] [] h = some (some (.int (bI (accB s cs w p i n))), h)
  | 0, i, l5, hi => by
    have e71 := W.long (d := d + 3) M
    rw [nI_0] at e71
    have nn : nI w.length ≤ nI i := by rw [← hi]; exact Int32.le_refl _
    rw [ee_95_15]
    simp only [ee_95_0, ee_95_0N, ee_95_1, ee_95_2, ee_95_2N, ee_95_3, ee_95_4, ee_95_5, ee_95_8, ee_95_11, ee_95_12, ee_95_13, ee_95_17, ee_95_17N, ee_95_18, ee_95_19, ee_95_20, ee_95_23, ee_95_26, ee_95_27, ee_95_30, ee_95_30N, ee_95_31, ee_95_34, ee_95_35, ee_95_35N, ee_95_36, ee_95_37, ee_95_39, ee_95_42, ee_95_43, ee_95_44, ee_95_46, ee_95_48, ee_95_51, ee_95_53, ee_95_53N, ee_95_54, ee_95_55, ee_95_56, ee_95_58, ee_95_61, ee_95_64, ee_95_65, ee_95_68, ee_95_69, ee_95_70, ee_95_73, ee_95_76, ee_95_77, ee_95_77T, M.F, e71, nn, accB, List.range'_zero, List.all_nil, bI_t, Option.bind_some, Option.toList, List.cons_append, List.nil_append, List.append_nil, if_true, if_false, Bool.false_eq_true, eq_self, not_true_eq_false, not_false_eq_true]
  | n + 1, i, l5, hi => by
    have hq := (sq_lt hs).1
    have hl4 := W.1.2.2.2
    have e71 := W.long (d := d + 3) M
    rw [nI_0] at e71
    have n1 : ¬ nI w.length ≤ nI i := nI_nle2 (by omega) (by omega) (by omega)
    have e85 := o85a (d := d + 1) hs M e0 hp (i := i) (by omega) (by omega)
    have hc := ((geo hs hp).2.2.2.2 i (by omega)).2
    have x1 : (1 : Int32) + nI (cl s p i) = nI (1 + cl s p i) := xI 1 _
    have r1 := M.r97 (j := 1 + cl s p i) (by omega)
    rw [hcs _ (by omega)] at r1
    have e72 := W.let (d := d + 3) (i := i) M (by omega)
    rw [nI_0] at e72
    have nx : ∀ l5, go (d + 4) 95 15 [.ref 96, .int (nI j), .int (nI p), .int 0, .int (nI (i + 1)), l5] [] h = some (some (.int 0), h) := by
      intro l5
      by_cases hz : nI w.length ≤ nI (i + 1)
      · simp only [ee_95_0, ee_95_0N, ee_95_1, ee_95_2, ee_95_2N, ee_95_3, ee_95_4, ee_95_5, ee_95_8, ee_95_11, ee_95_12, ee_95_13, ee_95_15, ee_95_17, ee_95_17N, ee_95_18, ee_95_19, ee_95_20, ee_95_23, ee_95_26, ee_95_27, ee_95_30, ee_95_30N, ee_95_31, ee_95_34, ee_95_35, ee_95_35N, ee_95_36, ee_95_37, ee_95_39, ee_95_42, ee_95_43, ee_95_44, ee_95_46, ee_95_48, ee_95_51, ee_95_53, ee_95_53N, ee_95_54, ee_95_55, ee_95_56, ee_95_58, ee_95_61, ee_95_64, ee_95_65, ee_95_68, ee_95_69, ee_95_70, ee_95_73, ee_95_76, ee_95_77, ee_95_77T, M.F, e71, hz, Option.bind_some, Option.toList, List.cons_append, List.nil_append, List.append_nil, if_true, if_false, Bool.false_eq_true, eq_self, not_true_eq_false, not_false_eq_true]
      · simp only [ee_95_0, ee_95_0N, ee_95_1, ee_95_2, ee_95_2N, ee_95_3, ee_95_4, ee_95_5, ee_95_8, ee_95_11, ee_95_12, ee_95_13, ee_95_15, ee_95_17, ee_95_17N, ee_95_18, ee_95_19, ee_95_20, ee_95_23, ee_95_26, ee_95_27, ee_95_30, ee_95_30N, ee_95_31, ee_95_34, ee_95_35, ee_95_35N, ee_95_36, ee_95_37, ee_95_39, ee_95_42, ee_95_43, ee_95_44, ee_95_46, ee_95_48, ee_95_51, ee_95_53, ee_95_53N, ee_95_54, ee_95_55, ee_95_56, ee_95_58, ee_95_61, ee_95_64, ee_95_65, ee_95_68, ee_95_69, ee_95_70, ee_95_73, ee_95_76, ee_95_77, ee_95_77T, M.F, e71, hz, Option.bind_some, Option.toList, List.cons_append, List.nil_append, List.append_nil, if_true, if_false, Bool.false_eq_true, eq_self, not_true_eq_false, not_false_eq_true]
    unfold accB
    rw [ee_95_15, List.range'_succ, List.all_cons]
    by_cases h1 : cs.getD (cl s p i) 0 = 0
    · have e := o95_l hs hcs W M e0 hp hr n (i + 1) (.int (cs.getD (cl s p i) 0)) (by omega)
      unfold accB at e
      rw [h1] at e
      rw [decide_eq_true h1, Bool.or_true, Bool.true_and]
      simp only [ee_95_0, ee_95_0N, ee_95_1, ee_95_2, ee_95_2N, ee_95_3, ee_95_4, ee_95_5, ee_95_8, ee_95_11, ee_95_12, ee_95_13, ee_95_17, ee_95_17N, ee_95_18, ee_95_19, ee_95_20, ee_95_23, ee_95_26, ee_95_27, ee_95_30, ee_95_30N, ee_95_31, ee_95_34, ee_95_35, ee_95_35N, ee_95_36, ee_95_37, ee_95_39, ee_95_42, ee_95_43, ee_95_44, ee_95_46, ee_95_48, ee_95_51, ee_95_53, ee_95_53N, ee_95_54, ee_95_55, ee_95_56, ee_95_58, ee_95_61, ee_95_64, ee_95_65, ee_95_68, ee_95_69, ee_95_70, ee_95_73, ee_95_76, ee_95_77, ee_95_77T, M.F, KK, e71, n1, e85, x1, r1, h1, nI_1, e, Option.bind_some, Option.toList, List.cons_append, List.nil_append, List.append_nil, if_true, if_false, Bool.false_eq_true, eq_self, not_true_eq_false, not_false_eq_true]
    · by_cases h2 : cs.getD (cl s p i) 0 = w.getD i 0
      · have e := o95_l hs hcs W M e0 hp hr n (i + 1) (.int (cs.getD (cl s p i) 0)) (by omega)
        unfold accB at e
        rw [h2] at e
        rw [decide_eq_true h2, Bool.true_or, Bool.true_and]
        rw [h2] at h1 r1
        simp only [ee_95_0, ee_95_0N, ee_95_1, ee_95_2, ee_95_2N, ee_95_3, ee_95_4, ee_95_5, ee_95_8, ee_95_11, ee_95_12, ee_95_13, ee_95_17, ee_95_17N, ee_95_18, ee_95_19, ee_95_20, ee_95_23, ee_95_26, ee_95_27, ee_95_30, ee_95_30N, ee_95_31, ee_95_34, ee_95_35, ee_95_35N, ee_95_36, ee_95_37, ee_95_39, ee_95_42, ee_95_43, ee_95_44, ee_95_46, ee_95_48, ee_95_51, ee_95_53, ee_95_53N, ee_95_54, ee_95_55, ee_95_56, ee_95_58, ee_95_61, ee_95_64, ee_95_65, ee_95_68, ee_95_69, ee_95_70, ee_95_73, ee_95_76, ee_95_77, ee_95_77T, M.F, KK, e71, n1, e85, x1, r1, h1, e72, nI_1, e, Option.bind_some, Option.toList, List.cons_append, List.nil_append, List.append_nil, if_true, if_false, Bool.false_eq_true, eq_self, not_true_eq_false, not_false_eq_true]
      · rw [decide_eq_false h1, decide_eq_false h2, Bool.or_self, Bool.false_and, bI_f]
        simp only [ee_95_0, ee_95_0N, ee_95_1, ee_95_2, ee_95_2N, ee_95_3, ee_95_4, ee_95_5, ee_95_8, ee_95_11, ee_95_12, ee_95_13, ee_95_17, ee_95_17N, ee_95_18, ee_95_19, ee_95_20, ee_95_23, ee_95_26, ee_95_27, ee_95_30, ee_95_30N, ee_95_31, ee_95_34, ee_95_35, ee_95_35N, ee_95_36, ee_95_37, ee_95_39, ee_95_42, ee_95_43, ee_95_44, ee_95_46, ee_95_48, ee_95_51, ee_95_53, ee_95_53N, ee_95_54, ee_95_55, ee_95_56, ee_95_58, ee_95_61, ee_95_64, ee_95_65, ee_95_68, ee_95_69, ee_95_70, ee_95_73, ee_95_76, ee_95_77, ee_95_77T, M.F, KK, e71, n1, e85, x1, r1, h1, h2, e72, nI_1, nx, Option.bind_some, Option.toList, List.cons_append, List.nil_append, List.append_nil, if_true, if_false, Bool.false_eq_true, eq_self, not_true_eq_false, not_false_eq_true]
theorem o95 {s j p : Nat} {cs w : List Int32} (hs : sideOk s) (hcs : ∀ c, c < 16 → S.getD (1 + c) 0 = cs.getD c 0) (W : WordAt S 0 j w) (M : ML h S I PD SQ CV FP a b n l m k t f) (e0 : S.getD 0 0 = nI s) (hp : p < 8 * s * s) : go (d + 4) 95 0 [.ref 96, .int (nI j), .int (nI p), aU, aU, aU] [] h = some (some (.int (bI (acc s cs w p))), h) := by
  have hl4 := W.1.2.2.2
  have e71 := W.long (d := d + 3) M
  rw [nI_0] at e71
  have e86 := o86 (d := d) (n' := w.length) hs M e0 hp W.1.2.2.1 hl4
  unfold acc
  by_cases h2 : w.length ≤ rN s p
  · have e := o95_l (d := d) hs hcs W M e0 hp h2 w.length 0 aU (by omega)
    rw [nI_0] at e
    rw [decide_eq_true h2, bI_t] at e86
    rw [decide_eq_true h2, Bool.true_and]
    simp only [ee_95_0, ee_95_0N, ee_95_1, ee_95_2, ee_95_2N, ee_95_3, ee_95_4, ee_95_5, ee_95_8, ee_95_11, ee_95_12, ee_95_13, ee_95_17, ee_95_17N, ee_95_18, ee_95_19, ee_95_20, ee_95_23, ee_95_26, ee_95_27, ee_95_30, ee_95_30N, ee_95_31, ee_95_34, ee_95_35, ee_95_35N, ee_95_36, ee_95_37, ee_95_39, ee_95_42, ee_95_43, ee_95_44, ee_95_46, ee_95_48, ee_95_51, ee_95_53, ee_95_53N, ee_95_54, ee_95_55, ee_95_56, ee_95_58, ee_95_61, ee_95_64, ee_95_65, ee_95_68, ee_95_69, ee_95_70, ee_95_73, ee_95_76, ee_95_77, ee_95_77T, M.F, KK, e71, e86, e, Option.bind_some, Option.toList, List.cons_append, List.nil_append, List.append_nil, if_true, if_false, Bool.false_eq_true, eq_self, not_true_eq_false, not_false_eq_true]
  · rw [decide_eq_false h2, bI_f] at e86
    rw [decide_eq_false h2, Bool.false_and, bI_f]
    have n1 : ¬ nI w.length ≤ 0 := nI_nle W.1.2.2.1 (by omega)
    simp only [ee_95_0, ee_95_0N, ee_95_1, ee_95_2, ee_95_2N, ee_95_3, ee_95_4, ee_95_5, ee_95_8, ee_95_11, ee_95_12, ee_95_13, ee_95_15, ee_95_17, ee_95_17N, ee_95_18, ee_95_19, ee_95_20, ee_95_23, ee_95_26, ee_95_27, ee_95_30, ee_95_30N, ee_95_31, ee_95_34, ee_95_35, ee_95_35N, ee_95_36, ee_95_37, ee_95_39, ee_95_42, ee_95_43, ee_95_44, ee_95_46, ee_95_48, ee_95_51, ee_95_53, ee_95_53N, ee_95_54, ee_95_55, ee_95_56, ee_95_58, ee_95_61, ee_95_64, ee_95_65, ee_95_68, ee_95_69, ee_95_70, ee_95_73, ee_95_76, ee_95_77, ee_95_77T, M.F, KK, e71, e86, n1, Option.bind_some, Option.toList, List.cons_append, List.nil_append, List.append_nil, if_true, if_false, Bool.false_eq_true, eq_self, not_true_eq_false, not_false_eq_true]
/-- fits -/
theorem o_fits {y x : Int32} (G : GW g) (M : MI h g P i0 i1 a b) : go (d + 12) 97 0 [.ref 96, .int y, .int x, aU, aU] [] h = some (some (.int (q_fits g y x)), h) := by
  obtain ⟨S, I, PD, SQ, CV, FP, l, m, k, t, f, M0, E, r⟩ := id M
  have hs := G.1.1
  have hq := (sq_lt hs).2
  have h3 := G.2.2.1
  have e70 := o70 (d := d + 10) (kd := 0) (x := y) M0 (by decide) (show g.2.2.1.length < 100 by omega) E.s.2.2.2.1.1
  rw [nI_0] at e70
  have e65 := o65 (d := d + 11) (h := h) (v := x) (x := 0) (y := 1)
  have e66 := o66 (d := d + 11) M0 E.s.1
  have e8 : (8 : Int32) * nI (g.1 * g.1) = nI (8 * g.1 * g.1) := by rw [show (8 : Int32) = nI 8 by decide, pk_mul, Nat.mul_assoc]
  unfold q_fits fnd
  rcases pk_ix y (n := g.2.2.1.length) (by omega) with hc | hc | ⟨j, hj, rfl⟩
  · simp only [hc, true_or, if_true] at e70 ⊢
    simp only [ee_97_0, ee_97_0N, ee_97_1, ee_97_2, ee_97_3, ee_97_6, ee_97_9, ee_97_10, ee_97_11, ee_97_12, ee_97_13, ee_97_14, ee_97_17, ee_97_20, ee_97_22, ee_97_23, ee_97_24, ee_97_25, ee_97_26, ee_97_30, ee_97_32, ee_97_32N, ee_97_33, ee_97_36, ee_97_37, ee_97_40, ee_97_41, ee_97_42, ee_97_45, ee_97_45N, ee_97_46, ee_97_48, ee_97_48N, ee_97_49, ee_97_50, ee_97_51, ee_97_54, ee_97_57, ee_97_60, ee_97_63, ee_97_63N, ee_97_64, ee_97_65, ee_97_67, ee_97_70, ee_97_73, ee_97_74, ee_97_77, ee_97_78, ee_97_79, ee_97_80, ee_97_83, ee_97_86, ee_97_87, M0.F, e70, Option.bind_some, Option.toList, List.cons_append, List.nil_append, List.append_nil, if_true, if_false, Bool.false_eq_true, eq_self, not_true_eq_false, not_false_eq_true]
  · simp only [hc, or_true, if_true] at e70 ⊢
    simp only [ee_97_0, ee_97_0N, ee_97_1, ee_97_2, ee_97_3, ee_97_6, ee_97_9, ee_97_10, ee_97_11, ee_97_12, ee_97_13, ee_97_14, ee_97_17, ee_97_20, ee_97_22, ee_97_23, ee_97_24, ee_97_25, ee_97_26, ee_97_30, ee_97_32, ee_97_32N, ee_97_33, ee_97_36, ee_97_37, ee_97_40, ee_97_41, ee_97_42, ee_97_45, ee_97_45N, ee_97_46, ee_97_48, ee_97_48N, ee_97_49, ee_97_50, ee_97_51, ee_97_54, ee_97_57, ee_97_60, ee_97_63, ee_97_63N, ee_97_64, ee_97_65, ee_97_67, ee_97_70, ee_97_73, ee_97_74, ee_97_77, ee_97_78, ee_97_79, ee_97_80, ee_97_83, ee_97_86, ee_97_87, M0.F, e70, Option.bind_some, Option.toList, List.cons_append, List.nil_append, List.append_nil, if_true, if_false, Bool.false_eq_true, eq_self, not_true_eq_false, not_false_eq_true]
  · have n1 : ¬ nI j < 0 := nI_pos (by omega)
    have n2 : ¬ nI g.2.2.1.length ≤ nI j := nI_nle2 (by omega) (by omega) hj
    simp only [n1, n2, or_self, if_false] at e70 ⊢
    rw [nI_clamp (show j < 2 ^ 31 by omega)]
    have W := E.w0 G hj
    have nn : nI (8 * g.1 * g.1) ≤ nI (8 * g.1 * g.1) := Int32.le_refl _
    generalize g.2.2.1.getD j [] = w at *
    rcases in01 x with ⟨hx, hy⟩ | ⟨⟨z0, z1⟩, hy⟩
    · rw [if_neg hy] at e65
      rcases hx with rfl | rfl
      · have e : go (d + 12) 97 28 [.ref 96, .int (nI j), .int 0, .int (nI (cnt (fun p => decide (w.length ≤ rN g.1 p)) 0)), .int (nI 0)] [] h = go (d + 12) 97 28 [.ref 96, .int (nI j), .int 0, .int (nI (cnt (fun p => decide (w.length ≤ rN g.1 p)) (8 * g.1 * g.1))), .int (nI (8 * g.1 * g.1))] [] h := by
          refine go_loop (fun i => [.ref 96, .int (nI j), .int 0, .int (nI (cnt (fun p => decide (w.length ≤ rN g.1 p)) i)), .int (nI i)]) (fun _ => h) (8 * g.1 * g.1) ?_
          intro i hi
          have n1 : ¬ nI (8 * g.1 * g.1) ≤ nI i := nI_nle2 (by omega) (by omega) hi
          have e71 := W.long (d := d + 11) M0
          rw [nI_0] at e71
          have e86 := o86 (d := d + 8) (n' := w.length) hs M0 E.s.1 hi W.1.2.2.1 W.1.2.2.2
          rw [ee_97_28]
          by_cases hz : w.length ≤ rN g.1 i
          · simp only [hz, decide_true, bI_t] at e86
            simp only [ee_97_0, ee_97_0N, ee_97_1, ee_97_2, ee_97_3, ee_97_6, ee_97_9, ee_97_10, ee_97_11, ee_97_12, ee_97_13, ee_97_14, ee_97_17, ee_97_20, ee_97_22, ee_97_23, ee_97_24, ee_97_25, ee_97_26, ee_97_30, ee_97_32, ee_97_32N, ee_97_33, ee_97_36, ee_97_37, ee_97_40, ee_97_41, ee_97_42, ee_97_45, ee_97_45N, ee_97_46, ee_97_48, ee_97_48N, ee_97_49, ee_97_50, ee_97_51, ee_97_54, ee_97_57, ee_97_60, ee_97_63, ee_97_63N, ee_97_64, ee_97_65, ee_97_67, ee_97_70, ee_97_73, ee_97_74, ee_97_77, ee_97_78, ee_97_79, ee_97_80, ee_97_83, ee_97_86, ee_97_87, M0.F, KK, e66, e8, n1, e71, e86, cnt, hz, decide_true, nI_1, Option.bind_some, Option.toList, List.cons_append, List.nil_append, List.append_nil, if_true, if_false, Bool.false_eq_true, eq_self, not_true_eq_false, not_false_eq_true]
          · simp only [hz, decide_false, bI_f] at e86
            simp only [ee_97_0, ee_97_0N, ee_97_1, ee_97_2, ee_97_3, ee_97_6, ee_97_9, ee_97_10, ee_97_11, ee_97_12, ee_97_13, ee_97_14, ee_97_17, ee_97_20, ee_97_22, ee_97_23, ee_97_24, ee_97_25, ee_97_26, ee_97_30, ee_97_32, ee_97_32N, ee_97_33, ee_97_36, ee_97_37, ee_97_40, ee_97_41, ee_97_42, ee_97_45, ee_97_45N, ee_97_46, ee_97_48, ee_97_48N, ee_97_49, ee_97_50, ee_97_51, ee_97_54, ee_97_57, ee_97_60, ee_97_63, ee_97_63N, ee_97_64, ee_97_65, ee_97_67, ee_97_70, ee_97_73, ee_97_74, ee_97_77, ee_97_78, ee_97_79, ee_97_80, ee_97_83, ee_97_86, ee_97_87, M0.F, KK, e66, e8, n1, e71, e86, cnt, hz, decide_false, nI_1, Int32.add_zero, Nat.add_zero, Option.bind_some, Option.toList, List.cons_append, List.nil_append, List.append_nil, if_true, if_false, Bool.false_eq_true, eq_self, not_true_eq_false, not_false_eq_true]
        rw [show cnt (fun p => decide (w.length ≤ rN g.1 p)) 0 = 0 from rfl, nI_0] at e
        simp only [ee_97_0, ee_97_0N, ee_97_1, ee_97_2, ee_97_3, ee_97_6, ee_97_9, ee_97_10, ee_97_11, ee_97_12, ee_97_13, ee_97_14, ee_97_17, ee_97_20, ee_97_22, ee_97_23, ee_97_24, ee_97_25, ee_97_26, ee_97_30, ee_97_32, ee_97_32N, ee_97_33, ee_97_36, ee_97_37, ee_97_40, ee_97_41, ee_97_42, ee_97_45, ee_97_45N, ee_97_46, ee_97_48, ee_97_48N, ee_97_49, ee_97_50, ee_97_51, ee_97_54, ee_97_57, ee_97_60, ee_97_63, ee_97_63N, ee_97_64, ee_97_65, ee_97_67, ee_97_70, ee_97_73, ee_97_74, ee_97_77, ee_97_78, ee_97_79, ee_97_80, ee_97_83, ee_97_86, ee_97_87, M0.F, KK, e70, e65, Option.bind_some, Option.toList, List.cons_append, List.nil_append, List.append_nil, if_true, if_false, Bool.false_eq_true, eq_self, not_true_eq_false, not_false_eq_true]
        rw [e, ee_97_28]
        simp only [ee_97_0, ee_97_0N, ee_97_1, ee_97_2, ee_97_3, ee_97_6, ee_97_9, ee_97_10, ee_97_11, ee_97_12, ee_97_13, ee_97_14, ee_97_17, ee_97_20, ee_97_22, ee_97_23, ee_97_24, ee_97_25, ee_97_26, ee_97_30, ee_97_32, ee_97_32N, ee_97_33, ee_97_36, ee_97_37, ee_97_40, ee_97_41, ee_97_42, ee_97_45, ee_97_45N, ee_97_46, ee_97_48, ee_97_48N, ee_97_49, ee_97_50, ee_97_51, ee_97_54, ee_97_57, ee_97_60, ee_97_63, ee_97_63N, ee_97_64, ee_97_65, ee_97_67, ee_97_70, ee_97_73, ee_97_74, ee_97_77, ee_97_78, ee_97_79, ee_97_80, ee_97_83, ee_97_86, ee_97_87, M0.F, KK, e66, e8, nn, Option.bind_some, Option.toList, List.cons_append, List.nil_append, List.append_nil, if_true, if_false, Bool.false_eq_true, eq_self, not_true_eq_false, not_false_eq_true]
      · have e : go (d + 12) 97 28 [.ref 96, .int (nI j), .int 1, .int (nI (cnt (acc g.1 g.2.1 w) 0)), .int (nI 0)] [] h = go (d + 12) 97 28 [.ref 96, .int (nI j), .int 1, .int (nI (cnt (acc g.1 g.2.1 w) (8 * g.1 * g.1))), .int (nI (8 * g.1 * g.1))] [] h := by
          refine go_loop (fun i => [.ref 96, .int (nI j), .int 1, .int (nI (cnt (acc g.1 g.2.1 w) i)), .int (nI i)]) (fun _ => h) (8 * g.1 * g.1) ?_
          intro i hi
          have n1 : ¬ nI (8 * g.1 * g.1) ≤ nI i := nI_nle2 (by omega) (by omega) hi
          have e95 := o95 (d := d + 7) hs E.s.2.1 W M0 E.s.1 hi
          rw [ee_97_28]
          by_cases hz : acc g.1 g.2.1 w i = true
          · simp only [hz, bI_t] at e95
            simp only [ee_97_0, ee_97_0N, ee_97_1, ee_97_2, ee_97_3, ee_97_6, ee_97_9, ee_97_10, ee_97_11, ee_97_12, ee_97_13, ee_97_14, ee_97_17, ee_97_20, ee_97_22, ee_97_23, ee_97_24, ee_97_25, ee_97_26, ee_97_30, ee_97_32, ee_97_32N, ee_97_33, ee_97_36, ee_97_37, ee_97_40, ee_97_41, ee_97_42, ee_97_45, ee_97_45N, ee_97_46, ee_97_48, ee_97_48N, ee_97_49, ee_97_50, ee_97_51, ee_97_54, ee_97_57, ee_97_60, ee_97_63, ee_97_63N, ee_97_64, ee_97_65, ee_97_67, ee_97_70, ee_97_73, ee_97_74, ee_97_77, ee_97_78, ee_97_79, ee_97_80, ee_97_83, ee_97_86, ee_97_87, M0.F, KK, e66, e8, n1, e95, cnt, hz, nI_1, Option.bind_some, Option.toList, List.cons_append, List.nil_append, List.append_nil, if_true, if_false, Bool.false_eq_true, eq_self, not_true_eq_false, not_false_eq_true]
          · have hz' : acc g.1 g.2.1 w i = false := by simpa using hz
            simp only [hz', bI_f] at e95
            simp only [ee_97_0, ee_97_0N, ee_97_1, ee_97_2, ee_97_3, ee_97_6, ee_97_9, ee_97_10, ee_97_11, ee_97_12, ee_97_13, ee_97_14, ee_97_17, ee_97_20, ee_97_22, ee_97_23, ee_97_24, ee_97_25, ee_97_26, ee_97_30, ee_97_32, ee_97_32N, ee_97_33, ee_97_36, ee_97_37, ee_97_40, ee_97_41, ee_97_42, ee_97_45, ee_97_45N, ee_97_46, ee_97_48, ee_97_48N, ee_97_49, ee_97_50, ee_97_51, ee_97_54, ee_97_57, ee_97_60, ee_97_63, ee_97_63N, ee_97_64, ee_97_65, ee_97_67, ee_97_70, ee_97_73, ee_97_74, ee_97_77, ee_97_78, ee_97_79, ee_97_80, ee_97_83, ee_97_86, ee_97_87, M0.F, KK, e66, e8, n1, e95, cnt, hz', nI_1, Int32.add_zero, Nat.add_zero, Option.bind_some, Option.toList, List.cons_append, List.nil_append, List.append_nil, if_true, if_false, Bool.false_eq_true, eq_self, not_true_eq_false, not_false_eq_true]
        rw [show cnt (acc g.1 g.2.1 w) 0 = 0 from rfl, nI_0] at e
        simp only [ee_97_0, ee_97_0N, ee_97_1, ee_97_2, ee_97_3, ee_97_6, ee_97_9, ee_97_10, ee_97_11, ee_97_12, ee_97_13, ee_97_14, ee_97_17, ee_97_20, ee_97_22, ee_97_23, ee_97_24, ee_97_25, ee_97_26, ee_97_30, ee_97_32, ee_97_32N, ee_97_33, ee_97_36, ee_97_37, ee_97_40, ee_97_41, ee_97_42, ee_97_45, ee_97_45N, ee_97_46, ee_97_48, ee_97_48N, ee_97_49, ee_97_50, ee_97_51, ee_97_54, ee_97_57, ee_97_60, ee_97_63, ee_97_63N, ee_97_64, ee_97_65, ee_97_67, ee_97_70, ee_97_73, ee_97_74, ee_97_77, ee_97_78, ee_97_79, ee_97_80, ee_97_83, ee_97_86, ee_97_87, M0.F, KK, e70, e65, Option.bind_some, Option.toList, List.cons_append, List.nil_append, List.append_nil, if_true, if_false, Bool.false_eq_true, eq_self, not_true_eq_false, not_false_eq_true]
        rw [e, ee_97_28]
        simp only [ee_97_0, ee_97_0N, ee_97_1, ee_97_2, ee_97_3, ee_97_6, ee_97_9, ee_97_10, ee_97_11, ee_97_12, ee_97_13, ee_97_14, ee_97_17, ee_97_20, ee_97_22, ee_97_23, ee_97_24, ee_97_25, ee_97_26, ee_97_30, ee_97_32, ee_97_32N, ee_97_33, ee_97_36, ee_97_37, ee_97_40, ee_97_41, ee_97_42, ee_97_45, ee_97_45N, ee_97_46, ee_97_48, ee_97_48N, ee_97_49, ee_97_50, ee_97_51, ee_97_54, ee_97_57, ee_97_60, ee_97_63, ee_97_63N, ee_97_64, ee_97_65, ee_97_67, ee_97_70, ee_97_73, ee_97_74, ee_97_77, ee_97_78, ee_97_79, ee_97_80, ee_97_83, ee_97_86, ee_97_87, M0.F, KK, e66, e8, nn, Option.bind_some, Option.toList, List.cons_append, List.nil_append, List.append_nil, if_true, if_false, Bool.false_eq_true, eq_self, not_true_eq_false, not_false_eq_true]
    · rw [if_pos hy] at e65
      simp only [ee_97_0, ee_97_0N, ee_97_1, ee_97_2, ee_97_3, ee_97_6, ee_97_9, ee_97_10, ee_97_11, ee_97_12, ee_97_13, ee_97_14, ee_97_17, ee_97_20, ee_97_22, ee_97_23, ee_97_24, ee_97_25, ee_97_26, ee_97_30, ee_97_32, ee_97_32N, ee_97_33, ee_97_36, ee_97_37, ee_97_40, ee_97_41, ee_97_42, ee_97_45, ee_97_45N, ee_97_46, ee_97_48, ee_97_48N, ee_97_49, ee_97_50, ee_97_51, ee_97_54, ee_97_57, ee_97_60, ee_97_63, ee_97_63N, ee_97_64, ee_97_65, ee_97_67, ee_97_70, ee_97_73, ee_97_74, ee_97_77, ee_97_78, ee_97_79, ee_97_80, ee_97_83, ee_97_86, ee_97_87, M0.F, KK, e70, e65, z0, z1, Option.bind_some, Option.toList, List.cons_append, List.nil_append, List.append_nil, if_true, if_false, Bool.false_eq_true, eq_self, not_true_eq_false, not_false_eq_true]
end MD4
